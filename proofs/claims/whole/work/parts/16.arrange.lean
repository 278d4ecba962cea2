section
variable {Ω : w_O} {d u v : Nat} {L : w_L} {E : w_E} {P Y : w_R}
/-! Sayings.arrange -/
theorem sa_in {pl m : Nat} (hY0 : Y 0 0 ≤ 60) (hY2 : ∀ s, s < Y 0 0 → Y 2 s < 12) (hpl : pl < 12) (hm : m < 12) : ∀ (n j : Nat) (A : List Nat) (I : w_I), j + n = Y 0 0 → YRep 27 Y I → I 25 pl = m → A.length + ((List.range' j n).filter (fun s => Y 2 s == m)).length ≤ 60 → (∀ i, i < A.length → I 32 i = A.getD i 0) →
    (∀ I', Fr 32 33 I I' → (∀ i, i < (A ++ (List.range' j n).filter (fun s => Y 2 s == m)).length → I' 32 i = (A ++ (List.range' j n).filter (fun s => Y 2 s == m)).getD i 0) → V mX5_arrange E Ω 0 0 (SH u v) I' L 64 [(0, .ref (Ω.1 + 27)), (1, .ref (Ω.1 + 15)), (2, .int (nI (A ++ (List.range' j n).filter (fun s => Y 2 s == m)).length)), (3, .int (nI pl)), (4, .int (nI (j + n)))] []) →
    V mX5_arrange E Ω 0 0 (SH u v) I L 22 [(0, .ref (Ω.1 + 27)), (1, .ref (Ω.1 + 15)), (2, .int (nI A.length)), (3, .int (nI pl)), (4, .int (nI j))] [] := by
  intro n
  induction n with
  | zero =>
    intro j A I hj hR ho hlen hA hk
    refine V_iload 22 4 dX5_arrange_22 rfl ?_
    refine V_aload_n 24 0 dX5_arrange_24 rfl ?_
    refine V_getI 25 flX5_30 dX5_arrange_25 rfl ?_
    rw [hR.1]
    refine V_cN_ge 28 64 dX5_arrange_28 (by decide) (by omega) (by omega) (fun c => ?_) (fun c => ?_)
    · have h1 := hk I Fr.rf (by simpa using hA)
      simpa using h1
    · omega
  | succ n ih =>
    intro j A I hj hR ho hlen hA hk
    have hjY : j < Y 0 0 := by omega
    have hy2 := hY2 j hjY
    obtain ⟨y1, y2, y3, y4⟩ := hR.2 j hjY
    rw [List.range'_succ, List.filter_cons] at hlen hk
    refine V_iload 22 4 dX5_arrange_22 rfl ?_
    refine V_aload_n 24 0 dX5_arrange_24 rfl ?_
    refine V_getI 25 flX5_30 dX5_arrange_25 rfl ?_
    rw [hR.1]
    refine V_cN_ge 28 64 dX5_arrange_28 (by decide) (by omega) (by omega) (fun c => ?_) (fun c => ?_)
    · omega
    refine V_aload_n 31 0 dX5_arrange_31 rfl ?_
    refine V_getR 32 flX5_15 dX5_arrange_32 rfl ?_
    refine V_iload 35 4 dX5_arrange_35 rfl ?_
    refine V_iald 37 dX5_arrange_37 rfl (by omega) (by omega) ?_
    refine V_aload_n 38 1 dX5_arrange_38 rfl ?_
    refine V_getR 39 flX5_39 dX5_arrange_39 rfl ?_
    refine V_iload_n 42 3 dX5_arrange_42 rfl ?_
    refine V_iald 43 dX5_arrange_43 rfl (by omega) (by omega) ?_
    rw [y2, ho]
    refine V_cN_ne 44 58 dX5_arrange_44 (by decide) (by omega) (by omega) (fun c1 => ?_) (fun c1 => ?_)
    · rw [if_neg (by simpa using c1)] at hlen hk
      refine V_inc 58 4 _ [(0, _), (1, _), (2, _), (3, _), (4, _)] dX5_arrange_58 rfl rfl rfl (by decide) rfl ?_
      refine V_goto 61 22 dX5_arrange_61 (by decide) ?_
      refine ih (j + 1) A I (by omega) hR ho hlen hA ?_
      rw [show j + 1 + n = j + (n + 1) by omega]
      exact hk
    · rw [if_pos (by simpa using c1)] at hlen hk
      rw [List.length_cons] at hlen
      refine V_aload_n 47 0 dX5_arrange_47 rfl ?_
      refine V_getR 48 flX5_24 dX5_arrange_48 rfl ?_
      refine V_iload_n 51 2 dX5_arrange_51 rfl ?_
      refine V_iload 52 4 dX5_arrange_52 rfl ?_
      refine V_iast 54 dX5_arrange_54 rfl (by omega) (by omega) ?_
      refine V_inc 55 2 _ [(0, _), (1, _), (2, _), (3, _), (4, _)] dX5_arrange_55 rfl rfl rfl (by decide) rfl ?_
      refine V_inc 58 4 _ [(0, _), (1, _), (2, _), (3, _), (4, _)] dX5_arrange_58 rfl rfl rfl (by decide) rfl ?_
      refine V_goto 61 22 dX5_arrange_61 (by decide) ?_
      rw [show A.length + 1 = (A ++ [j]).length by simp]
      refine ih (j + 1) (A ++ [j]) (w_put I 32 A.length j) (by omega) (hR.fr (Fr.rf.put (lo := 32) (hi := 33) (by decide) (by decide)) (by decide)) ?_ ?_ ?_ ?_
      · rw [w_put_other _ (Or.inl (by decide))]; exact ho
      · rw [List.length_append]; simp only [List.length_cons, List.length_nil]; omega
      · intro i hi
        rw [List.length_append] at hi
        simp only [List.length_cons, List.length_nil] at hi
        by_cases e : i = A.length
        · rw [e, w_put_same, getD_app_at]
        · rw [w_put_other _ (Or.inr e), getD_app_l (by omega)]
          exact hA i (by omega)
      · rw [show j + 1 + n = j + (n + 1) by omega, List.append_assoc]
        intro I' h1 h2
        exact hk I' ((Fr.rf.put (by decide) (by decide)).trans h1) h2
theorem sa_out (hP : s_POK P) (hY : s_YOK P Y) : ∀ (n p : Nat) (I : w_I), p + n = P 2 0 → PRep 15 P I → YRep 27 Y I → ARep P I → (∀ i, i < p → I 33 i = (s_lines P Y i).length) → (∀ i, i < (s_lines P Y p).length → I 32 i = (s_lines P Y p).getD i 0) →
    (∀ I', Fr 32 34 I I' → (∀ i, i < P 2 0 → I' 33 i = (s_lines P Y i).length) → (∀ i, i < (s_lines P Y (P 2 0)).length → I' 32 i = (s_lines P Y (P 2 0)).getD i 0) → V mX5_arrange E Ω 0 0 (SH u v) I' L 70 [(0, .ref (Ω.1 + 27)), (1, .ref (Ω.1 + 15)), (2, .int (nI (s_lines P Y (P 2 0)).length)), (3, .int (nI (P 2 0)))] []) →
    V mX5_arrange E Ω 0 0 (SH u v) I L 4 [(0, .ref (Ω.1 + 27)), (1, .ref (Ω.1 + 15)), (2, .int (nI (s_lines P Y p).length)), (3, .int (nI p))] [] := by
  have h12 := hP.2.2.1
  have hY0 := hY.1
  intro n
  induction n with
  | zero =>
    intro p I hp hR hRY hA h33 h32 hk
    have e : p = P 2 0 := by omega
    subst e
    refine V_iload_n 4 3 dX5_arrange_4 rfl ?_
    refine V_aload_n 5 1 dX5_arrange_5 rfl ?_
    refine V_getI 6 flX5_34 dX5_arrange_6 rfl ?_
    rw [hR.2.2.1]
    refine V_cN_ge 9 70 dX5_arrange_9 (by decide) (by omega) (by omega) (fun c => ?_) (fun c => ?_)
    · exact hk I Fr.rf h33 h32
    · omega
  | succ n ih =>
    intro p I hp hR hRY hA h33 h32 hk
    have hpl : p < P 2 0 := by omega
    have hpo : p < (s_ord P).length := by rw [s_ord_len hP]; exact hpl
    have hlen := s_lines_len (P := P) (Y := Y) p
    have hlen2 := s_lines_len (P := P) (Y := Y) (p + 1)
    have hsucc := s_lines_succ (P := P) (Y := Y) hpo
    have hom : (s_ord P)[p] < P 2 0 := (s_ord_mem hP).mp (List.getElem_mem hpo)
    have hop : I 25 p = (s_ord P)[p] := by rw [hA.1 p hpl, List.getD_eq_getElem?_getD, List.getElem?_eq_getElem hpo]; rfl
    refine V_iload_n 4 3 dX5_arrange_4 rfl ?_
    refine V_aload_n 5 1 dX5_arrange_5 rfl ?_
    refine V_getI 6 flX5_34 dX5_arrange_6 rfl ?_
    rw [hR.2.2.1]
    refine V_cN_ge 9 70 dX5_arrange_9 (by decide) (by omega) (by omega) (fun c => ?_) (fun c => ?_)
    · omega
    refine V_aload_n 12 0 dX5_arrange_12 rfl ?_
    refine V_getR 13 flX5_27 dX5_arrange_13 rfl ?_
    refine V_iload_n 16 3 dX5_arrange_16 rfl ?_
    refine V_iload_n 17 2 dX5_arrange_17 rfl ?_
    refine V_iast 18 dX5_arrange_18 rfl (by omega) (by omega) ?_
    refine V_cst 19 0 dX5_arrange_19 rfl ?_
    refine V_istore 20 [(0, _), (1, _), (2, _), (3, _), (4, _)] dX5_arrange_20 (by decide) rfl ?_
    have hf : Fr 32 34 I (w_put I 33 p (s_lines P Y p).length) := Fr.rf.put (by decide) (by decide)
    refine sa_in (m := (s_ord P)[p]) hY0 (fun s hs => by have := (hY.2 s hs).2.1; omega) (by omega) (by omega) (Y 0 0) 0 (s_lines P Y p) _ (by omega) (hRY.fr hf (by decide)) (by rw [hf 25 (by decide)]; exact hop) ?_ ?_ ?_
    · rw [← List.range_eq_range']
      rw [hsucc, List.length_append] at hlen2
      exact Nat.le_trans hlen2 hY0
    · intro i hi
      rw [w_put_other _ (Or.inl (by decide))]
      exact h32 i hi
    · rw [← List.range_eq_range', show (List.range (Y 0 0)).filter (fun s => Y 2 s == (s_ord P)[p]) = s_sm Y (s_ord P)[p] from rfl, ← hsucc]
      intro I' h1 h2
      refine V_inc 64 3 _ [(0, _), (1, _), (2, _), (3, _), (4, _)] dX5_arrange_64 rfl rfl rfl (by decide) rfl ?_
      refine V_goto 67 4 dX5_arrange_67 (by decide) ?_
      refine V_sub [(0, _), (1, _), (2, _), (3, _)] [0, 1, 2, 3] rfl ?_
      have hf2 : Fr 32 34 I I' := hf.trans (h1.wide (by decide) (by decide))
      refine ih (p + 1) I' (by omega) (hR.fr hf2 (by decide)) (hRY.fr hf2 (by decide)) (hA.fr hf2 (by decide)) ?_ h2 (fun I'' g1 g2 g3 => hk I'' (hf2.trans g1) g2 g3)
      intro i hi
      rw [h1 33 (by decide)]
      by_cases e : i = p
      · rw [e, w_put_same]
      · rw [w_put_other _ (Or.inr e)]
        exact h33 i (by omega)
theorem c_sarrange {I : w_I} (hP : s_POK P) (hY : s_YOK P Y) (hR : PRep 15 P I) (hRY : YRep 27 Y I) (hA : ARep P I) : FnV Ω d mX5_arrange [.ref (Ω.1 + 27), .ref (Ω.1 + 15)] (SH u v) I L (fun S' I' L' => S' = SH u v ∧ L = L' ∧ LRep P Y I' ∧ Fr 32 34 I I') := by
  have h12 := hP.2.2.1
  have hlen := s_lines_len (P := P) (Y := Y) (P 2 0)
  have hY0 := hY.1
  refine FnR_of okX5_arrange (Nat.le_of_ble_eq_true rfl) fun l z => ?_
  show V _ _ _ _ _ _ _ _ 0 [(0, _), (1, _)] []
  refine V_cst 0 0 dX5_arrange_0 rfl ?_
  refine V_istore_n 1 [(0, _), (1, _), (2, _)] dX5_arrange_1 (by decide) rfl ?_
  refine V_cst 2 0 dX5_arrange_2 rfl ?_
  refine V_istore_n 3 [(0, _), (1, _), (2, _), (3, _)] dX5_arrange_3 (by decide) rfl ?_
  refine sa_out hP hY (P 2 0) 0 I (by omega) hR hRY hA (fun i hi => absurd hi (Nat.not_lt_zero _)) (fun i hi => absurd hi (by simp [s_lines])) (fun I' h1 h2 h3 => ?_)
  refine V_aload_n 70 0 dX5_arrange_70 rfl ?_
  refine V_getR 71 flX5_27 dX5_arrange_71 rfl ?_
  refine V_aload_n 74 1 dX5_arrange_74 rfl ?_
  refine V_getI 75 flX5_34 dX5_arrange_75 rfl ?_
  rw [(hR.fr h1 (by decide)).2.2.1]
  refine V_iload_n 78 2 dX5_arrange_78 rfl ?_
  refine V_iast 79 dX5_arrange_79 rfl (by omega) (by omega) ?_
  refine V_ret 80 dX5_arrange_80 rfl ⟨rfl, rfl, ⟨fun i hi => ?_, fun i hi => ?_⟩, h1.put (by decide) (by decide)⟩
  · by_cases e : i = P 2 0
    · rw [e, w_put_same]
    · rw [w_put_other _ (Or.inr e)]
      exact h2 i (by omega)
  · rw [w_put_other _ (Or.inl (by decide))]
    exact h3 i hi
/-! Course.passHour -/
/-- a stretch of the lines, from place a on -/
theorem line_at {I : w_I} (hP : s_POK P) (hL : LRep P Y I) {p t : Nat} (hp : p < (s_ord P).length) (ht : t < (s_sm Y (s_ord P)[p]).length) : (s_lines P Y p).length + t < (s_lines P Y (P 2 0)).length ∧ I 32 ((s_lines P Y p).length + t) = (s_sm Y (s_ord P)[p]).getD t 0 := by
  have e : s_lines P Y (P 2 0) = (s_ord P).flatMap (s_sm Y) := by unfold s_lines; rw [List.take_of_length_le (by rw [s_ord_len hP]; exact Nat.le_refl _)]
  have h1 := fm_get (s_sm Y) (s_ord P) hp ht
  have h2 : (s_lines P Y p).length + t < (s_lines P Y (P 2 0)).length := by
    rw [e]
    apply Decidable.byContradiction
    intro hn
    rw [List.getElem?_eq_none (by unfold s_lines at hn; omega), List.getElem?_eq_getElem ht] at h1
    cases h1
  refine ⟨h2, ?_⟩
  rw [hL.2 _ h2, e, List.getD_eq_getElem?_getD, List.getD_eq_getElem?_getD]
  unfold s_lines
  rw [h1]
theorem foldl_drop_succ {α : Type} (f : α → Nat → α) (l : List Nat) {j : Nat} (hj : j < l.length) (C : α) : (l.drop j).foldl f C = (l.drop (j + 1)).foldl f (f C (l.getD j 0)) := by
  rw [List.drop_eq_getElem_cons hj, List.foldl_cons, List.getD_eq_getElem?_getD, List.getElem?_eq_getElem hj]
  rfl
theorem ph_in_34 {h p : Nat} (hE : w_fit (d + 1) E) (hP : s_POK P) (hY : s_YOK P Y) (hh : h < 12) (hp : p < (s_ord P).length) : ∀ (n j : Nat) (I : w_I), j + n = (s_sm Y (s_ord P)[p]).length → PRep 15 P I → YRep 27 Y I → ARep P I → LRep P Y I → COK (cv 34 I) →
    (∀ I', cv 34 I' = ((s_sm Y (s_ord P)[p]).drop j).foldl (s_say P Y) (cv 34 I) → Fr 34 38 I I' → V mX0_passHour E Ω 0 0 (SH u v) I' L 74 [(0, .ref (Ω.1 + 34)), (1, .ref (Ω.1 + 27)), (2, .int (nI h)), (3, .int (nI p)), (4, .int (nI ((s_lines P Y p).length + (j + n))))] []) →
    V mX0_passHour E Ω 0 0 (SH u v) I L 43 [(0, .ref (Ω.1 + 34)), (1, .ref (Ω.1 + 27)), (2, .int (nI h)), (3, .int (nI p)), (4, .int (nI ((s_lines P Y p).length + j)))] [] := by
  have h12 := hP.2.2.1
  have hY0 := hY.1
  have hpP : p < P 2 0 := by rw [← s_ord_len hP]; exact hp
  have hlen := s_lines_len (P := P) (Y := Y) p
  have hlen2 := s_lines_len (P := P) (Y := Y) (p + 1)
  have hsucc := s_lines_succ (P := P) (Y := Y) hp
  rw [hsucc, List.length_append] at hlen2
  intro n
  induction n with
  | zero =>
    intro j I hj hR hRY hA hL hC hk
    have e1 : I 33 (p + 1) = (s_lines P Y p).length + j := by rw [hL.1 (p + 1) (by omega), hsucc, List.length_append]; omega
    refine V_iload 43 4 dX0_passHour_43 rfl ?_
    refine V_aload_n 45 1 dX0_passHour_45 rfl ?_
    refine V_getR 46 flX0_68 dX0_passHour_46 rfl ?_
    refine V_iload_n 49 3 dX0_passHour_49 rfl ?_
    refine V_cst 50 1 dX0_passHour_50 rfl ?_
    refine V_add 51 dX0_passHour_51 ?_
    refine V_iald 52 dX0_passHour_52 rfl (by omega) (by omega) ?_
    rw [e1]
    refine V_cN_ge 53 74 dX0_passHour_53 (by decide) (by omega) (by omega) (fun c => ?_) (fun c => ?_)
    · exact hk I (by rw [List.drop_of_length_le (by omega)]; rfl) Fr.rf
    · omega
  | succ n ih =>
    intro j I hj hR hRY hA hL hC hk
    have hjl : j < (s_sm Y (s_ord P)[p]).length := by omega
    have e1 : I 33 (p + 1) = (s_lines P Y p).length + (s_sm Y (s_ord P)[p]).length := by rw [hL.1 (p + 1) (by omega), hsucc, List.length_append]
    obtain ⟨g1, g2⟩ := line_at hP hL hp hjl
    have hlt := s_lines_len (P := P) (Y := Y) (P 2 0)
    have hsm : (s_sm Y (s_ord P)[p]).getD j 0 < Y 0 0 := by
      rw [List.getD_eq_getElem?_getD, List.getElem?_eq_getElem hjl]
      have := List.getElem_mem hjl
      simp only [s_sm, List.mem_filter, List.mem_range] at this
      exact this.1
    refine V_iload 43 4 dX0_passHour_43 rfl ?_
    refine V_aload_n 45 1 dX0_passHour_45 rfl ?_
    refine V_getR 46 flX0_68 dX0_passHour_46 rfl ?_
    refine V_iload_n 49 3 dX0_passHour_49 rfl ?_
    refine V_cst 50 1 dX0_passHour_50 rfl ?_
    refine V_add 51 dX0_passHour_51 ?_
    refine V_iald 52 dX0_passHour_52 rfl (by omega) (by omega) ?_
    rw [e1]
    refine V_cN_ge 53 74 dX0_passHour_53 (by decide) (by omega) (by omega) (fun c => ?_) (fun c => ?_)
    · omega
    refine V_aload_n 56 0 dX0_passHour_56 rfl ?_
    refine V_aload_n 57 1 dX0_passHour_57 rfl ?_
    refine V_aload_n 58 1 dX0_passHour_58 rfl ?_
    refine V_getR 59 flX0_73 dX0_passHour_59 rfl ?_
    refine V_iload 62 4 dX0_passHour_62 rfl ?_
    refine V_iald 64 dX0_passHour_64 rfl (by omega) (by omega) ?_
    rw [g2]
    refine V_vv 65 mvX0_76 dX0_passHour_65 ⟨_, _, _, rfl, rfl, rfl⟩ (w_fit.mono (by omega) hE) (c_trySaying_34 (d := d) hP hY hR hRY hsm hC) rfl (Nat.le_of_ble_eq_true rfl) ?_
    rintro _ I1 _ ⟨rfl, rfl, h1, h2⟩
    obtain ⟨-, y2, -, y4⟩ := hY.2 _ hsm
    have hC1 : COK (cv 34 I1) := by rw [h1]; exact s_say_ok hC hP y2 y4
    refine V_inc 68 4 _ [(0, _), (1, _), (2, _), (3, _), (4, _)] dX0_passHour_68 rfl rfl rfl (by decide) rfl ?_
    refine V_goto 71 43 dX0_passHour_71 (by decide) ?_
    rw [Nat.add_assoc]
    refine ih (j + 1) I1 (by omega) (hR.fr h2 (by decide)) (hRY.fr h2 (by decide)) (hA.fr h2 (by decide)) (hL.fr h2 (by decide)) hC1 (fun I' g3 g4 => ?_)
    rw [show j + 1 + n = j + (n + 1) by omega]
    exact hk I' (by rw [g3, h1, foldl_drop_succ _ _ hjl]) (h2.trans g4)
theorem ph_out_34 {h : Nat} (hE : w_fit (d + 1) E) (hP : s_POK P) (hY : s_YOK P Y) (hh : h < 12) : ∀ (n t : Nat) (I : w_I), t + n = (s_mh P h).length → PRep 15 P I → YRep 27 Y I → ARep P I → LRep P Y I → COK (cv 34 I) →
    (∀ I', cv 34 I' = ((s_mh P h).drop t).foldl (fun C m => (s_sm Y m).foldl (s_say P Y) C) (cv 34 I) → Fr 34 38 I I' → V mX0_passHour E Ω 0 0 (SH u v) I' L 80 [(0, .ref (Ω.1 + 34)), (1, .ref (Ω.1 + 27)), (2, .int (nI h)), (3, .int (nI (s_hs P h + (t + n))))] []) →
    V mX0_passHour E Ω 0 0 (SH u v) I L 20 [(0, .ref (Ω.1 + 34)), (1, .ref (Ω.1 + 27)), (2, .int (nI h)), (3, .int (nI (s_hs P h + t)))] [] := by
  have h12 := hP.2.2.1
  have hY0 := hY.1
  have hle := s_hs_le hP (h := h + 1) (by omega)
  have hss := s_hs_succ P h
  intro n
  induction n with
  | zero =>
    intro t I ht hR hRY hA hL hC hk
    refine V_iload_n 20 3 dX0_passHour_20 rfl ?_
    refine V_aload_n 21 0 dX0_passHour_21 rfl ?_
    refine V_getR 22 flX0_21 dX0_passHour_22 rfl ?_
    refine V_getR 25 flX0_63 dX0_passHour_25 rfl ?_
    refine V_iload_n 28 2 dX0_passHour_28 rfl ?_
    refine V_cst 29 1 dX0_passHour_29 rfl ?_
    refine V_add 30 dX0_passHour_30 ?_
    refine V_iald 31 dX0_passHour_31 rfl (by omega) (by omega) ?_
    rw [hA.2 (h + 1) (by omega)]
    refine V_cN_ge 32 80 dX0_passHour_32 (by decide) (by omega) (by omega) (fun c => ?_) (fun c => ?_)
    · exact hk I (by rw [List.drop_of_length_le (by omega)]; rfl) Fr.rf
    · omega
  | succ n ih =>
    intro t I ht hR hRY hA hL hC hk
    have htl : t < (s_mh P h).length := by omega
    have hpo : s_hs P h + t < (s_ord P).length := by rw [s_ord_len hP]; omega
    have hat : (s_ord P)[s_hs P h + t] = (s_mh P h).getD t 0 := by
      have h1 := s_ord_at hh htl
      rw [List.getElem?_eq_getElem hpo, List.getElem?_eq_getElem htl] at h1
      rw [List.getD_eq_getElem?_getD, List.getElem?_eq_getElem htl]
      exact Option.some.inj h1
    have hlen := s_lines_len (P := P) (Y := Y) (s_hs P h + t)
    refine V_iload_n 20 3 dX0_passHour_20 rfl ?_
    refine V_aload_n 21 0 dX0_passHour_21 rfl ?_
    refine V_getR 22 flX0_21 dX0_passHour_22 rfl ?_
    refine V_getR 25 flX0_63 dX0_passHour_25 rfl ?_
    refine V_iload_n 28 2 dX0_passHour_28 rfl ?_
    refine V_cst 29 1 dX0_passHour_29 rfl ?_
    refine V_add 30 dX0_passHour_30 ?_
    refine V_iald 31 dX0_passHour_31 rfl (by omega) (by omega) ?_
    rw [hA.2 (h + 1) (by omega)]
    refine V_cN_ge 32 80 dX0_passHour_32 (by decide) (by omega) (by omega) (fun c => ?_) (fun c => ?_)
    · omega
    refine V_aload_n 35 1 dX0_passHour_35 rfl ?_
    refine V_getR 36 flX0_68 dX0_passHour_36 rfl ?_
    refine V_iload_n 39 3 dX0_passHour_39 rfl ?_
    refine V_iald 40 dX0_passHour_40 rfl (by omega) (by omega) ?_
    rw [hL.1 _ (by omega)]
    refine V_istore 41 [(0, _), (1, _), (2, _), (3, _), (4, _)] dX0_passHour_41 (by decide) rfl ?_
    refine ph_in_34 hE hP hY hh hpo (s_sm Y (s_ord P)[s_hs P h + t]).length 0 I (by omega) hR hRY hA hL hC (fun I1 h1 h2 => ?_)
    have hC1 : COK (cv 34 I1) := by
      rw [h1]
      have key : ∀ (l : List Nat) (C : w_R), (∀ s, s ∈ l → s < Y 0 0) → COK C → COK (l.foldl (s_say P Y) C) := by
        intro l
        induction l with
        | nil => intro C _ h; exact h
        | cons x l ih2 =>
          intro C hl h
          obtain ⟨-, y2, -, y4⟩ := hY.2 x (hl x List.mem_cons_self)
          exact ih2 _ (fun s hs => hl s (List.mem_cons_of_mem _ hs)) (s_say_ok h hP y2 y4)
      exact key _ _ (fun s hs => by simp only [List.drop_zero, s_sm, List.mem_filter, List.mem_range] at hs; exact hs.1) hC
    rw [List.drop_zero, hat] at h1
    refine V_inc 74 3 _ [(0, _), (1, _), (2, _), (3, _), (4, _)] dX0_passHour_74 rfl rfl rfl (by decide) rfl ?_
    refine V_goto 77 20 dX0_passHour_77 (by decide) ?_
    refine V_sub [(0, _), (1, _), (2, _), (3, _)] [0, 1, 2, 3] rfl ?_
    rw [Nat.add_assoc]
    refine ih (t + 1) I1 (by omega) (hR.fr h2 (by decide)) (hRY.fr h2 (by decide)) (hA.fr h2 (by decide)) (hL.fr h2 (by decide)) hC1 (fun I' g3 g4 => ?_)
    rw [show t + 1 + n = t + (n + 1) by omega]
    exact hk I' (by rw [g3, h1, foldl_drop_succ _ _ htl]) (h2.trans g4)
theorem s_make_ok_34 {C : w_R} {h : Nat} (hP : s_POK P) (hC : COK C) : ∀ (l : List Nat) (C : w_R), (∀ p, p ∈ l → p < P 6 0) → COK C → COK (l.foldl (s_make1 P h) C) := by
  have h6 := hP.1.2
  have h12 := hP.2.2.2.2.1
  intro l
  induction l with
  | nil => intro C _ h; exact h
  | cons x l ih =>
    intro C hl hC
    obtain ⟨q1, q2, -⟩ := hP.2.2.2.2.2 x (hl x List.mem_cons_self)
    have := hl x List.mem_cons_self
    exact ih _ (fun s hs => hl s (List.mem_cons_of_mem _ hs)) (s_make1_ok hC (by omega) (by omega) (by omega))
theorem c_passHour_34 {I : w_I} {h : Nat} (hP : s_POK P) (hY : s_YOK P Y) (hh : h < 12) (hR : PRep 15 P I) (hRY : YRep 27 Y I) (hA : ARep P I) (hL : LRep P Y I) (hC : COK (cv 34 I)) : FnV Ω (d + 2) mX0_passHour [.ref (Ω.1 + 34), .ref (Ω.1 + 27), .int (nI h)] (SH u v) I L (fun S' I' L' => S' = SH u v ∧ L = L' ∧ cv 34 I' = s_hour P Y (cv 34 I) h ∧ Fr 34 38 I I') := by
  have hle := s_hs_le hP (h := h) (by omega)
  have h12 := hP.2.2.1
  refine FnR_of okX0_passHour (Nat.le_of_ble_eq_true rfl) fun l z => ?_
  have hE : w_fit (d + 1) (w_Er l (d + 2) 0 0 Ω (w_pv (fun S' I' L' => S' = SH u v ∧ L = L' ∧ cv 34 I' = s_hour P Y (cv 34 I) h ∧ Fr 34 38 I I')) z) := w_fit_r
  show V _ _ _ _ _ _ _ _ 0 [(0, _), (1, _), (2, _)] []
  refine V_aload_n 0 0 dX0_passHour_0 rfl ?_
  refine V_iload_n 1 2 dX0_passHour_1 rfl ?_
  refine V_vv 2 mvX0_56 dX0_passHour_2 ⟨_, _, _, rfl, rfl, rfl⟩ (w_fit.mono (by omega) hE) (c_makePromises_34 (d := d) hP hh hR hC) rfl (Nat.le_of_ble_eq_true rfl) ?_
  rintro _ I1 _ ⟨rfl, rfl, h1, h2⟩
  refine V_aload_n 5 0 dX0_passHour_5 rfl ?_
  refine V_cst 6 0 dX0_passHour_6 rfl ?_
  refine V_putI 7 flX0_60 ft_0_7 dX0_passHour_7 rfl ?_
  refine V_aload_n 10 0 dX0_passHour_10 rfl ?_
  refine V_getR 11 flX0_21 dX0_passHour_11 rfl ?_
  refine V_getR 14 flX0_63 dX0_passHour_14 rfl ?_
  refine V_iload_n 17 2 dX0_passHour_17 rfl ?_
  refine V_iald 18 dX0_passHour_18 rfl (by omega) (by omega) ?_
  have hf : Fr 34 38 I (w_put I1 34 7 0) := h2.put (by decide) (by decide)
  have hC1 : COK (cv 34 (w_put I1 34 7 0)) := by
    rw [cvs_34_7, h1]
    refine COK.put (s_make_ok_34 hP hC _ _ (fun p hp => List.mem_range.mp hp) hC) 6 0 0 (by omega) (by omega) (by omega) (by omega) (by omega) (by omega) (by omega)
  rw [(hA.fr hf (by decide)).2 h (by omega)]
  refine V_istore_n 19 [(0, _), (1, _), (2, _), (3, _)] dX0_passHour_19 (by decide) rfl ?_
  refine ph_out_34 hE hP hY hh (s_mh P h).length 0 _ (by omega) (hR.fr hf (by decide)) (hRY.fr hf (by decide)) (hA.fr hf (by decide)) (hL.fr hf (by decide)) hC1 (fun I' g1 g2 => ?_)
  refine V_ret 80 dX0_passHour_80 rfl ⟨rfl, rfl, ?_, hf.trans g2⟩
  rw [g1, cvs_34_7, h1, List.drop_zero]
  rfl
theorem ph_in_54 {h p : Nat} (hE : w_fit (d + 1) E) (hP : s_POK P) (hY : s_YOK P Y) (hh : h < 12) (hp : p < (s_ord P).length) : ∀ (n j : Nat) (I : w_I), j + n = (s_sm Y (s_ord P)[p]).length → PRep 15 P I → YRep 27 Y I → ARep P I → LRep P Y I → COK (cv 54 I) →
    (∀ I', cv 54 I' = ((s_sm Y (s_ord P)[p]).drop j).foldl (s_say P Y) (cv 54 I) → Fr 54 58 I I' → V mX0_passHour E Ω 0 0 (SH u v) I' L 74 [(0, .ref (Ω.1 + 54)), (1, .ref (Ω.1 + 27)), (2, .int (nI h)), (3, .int (nI p)), (4, .int (nI ((s_lines P Y p).length + (j + n))))] []) →
    V mX0_passHour E Ω 0 0 (SH u v) I L 43 [(0, .ref (Ω.1 + 54)), (1, .ref (Ω.1 + 27)), (2, .int (nI h)), (3, .int (nI p)), (4, .int (nI ((s_lines P Y p).length + j)))] [] := by
  have h12 := hP.2.2.1
  have hY0 := hY.1
  have hpP : p < P 2 0 := by rw [← s_ord_len hP]; exact hp
  have hlen := s_lines_len (P := P) (Y := Y) p
  have hlen2 := s_lines_len (P := P) (Y := Y) (p + 1)
  have hsucc := s_lines_succ (P := P) (Y := Y) hp
  rw [hsucc, List.length_append] at hlen2
  intro n
  induction n with
  | zero =>
    intro j I hj hR hRY hA hL hC hk
    have e1 : I 33 (p + 1) = (s_lines P Y p).length + j := by rw [hL.1 (p + 1) (by omega), hsucc, List.length_append]; omega
    refine V_iload 43 4 dX0_passHour_43 rfl ?_
    refine V_aload_n 45 1 dX0_passHour_45 rfl ?_
    refine V_getR 46 flX0_68 dX0_passHour_46 rfl ?_
    refine V_iload_n 49 3 dX0_passHour_49 rfl ?_
    refine V_cst 50 1 dX0_passHour_50 rfl ?_
    refine V_add 51 dX0_passHour_51 ?_
    refine V_iald 52 dX0_passHour_52 rfl (by omega) (by omega) ?_
    rw [e1]
    refine V_cN_ge 53 74 dX0_passHour_53 (by decide) (by omega) (by omega) (fun c => ?_) (fun c => ?_)
    · exact hk I (by rw [List.drop_of_length_le (by omega)]; rfl) Fr.rf
    · omega
  | succ n ih =>
    intro j I hj hR hRY hA hL hC hk
    have hjl : j < (s_sm Y (s_ord P)[p]).length := by omega
    have e1 : I 33 (p + 1) = (s_lines P Y p).length + (s_sm Y (s_ord P)[p]).length := by rw [hL.1 (p + 1) (by omega), hsucc, List.length_append]
    obtain ⟨g1, g2⟩ := line_at hP hL hp hjl
    have hlt := s_lines_len (P := P) (Y := Y) (P 2 0)
    have hsm : (s_sm Y (s_ord P)[p]).getD j 0 < Y 0 0 := by
      rw [List.getD_eq_getElem?_getD, List.getElem?_eq_getElem hjl]
      have := List.getElem_mem hjl
      simp only [s_sm, List.mem_filter, List.mem_range] at this
      exact this.1
    refine V_iload 43 4 dX0_passHour_43 rfl ?_
    refine V_aload_n 45 1 dX0_passHour_45 rfl ?_
    refine V_getR 46 flX0_68 dX0_passHour_46 rfl ?_
    refine V_iload_n 49 3 dX0_passHour_49 rfl ?_
    refine V_cst 50 1 dX0_passHour_50 rfl ?_
    refine V_add 51 dX0_passHour_51 ?_
    refine V_iald 52 dX0_passHour_52 rfl (by omega) (by omega) ?_
    rw [e1]
    refine V_cN_ge 53 74 dX0_passHour_53 (by decide) (by omega) (by omega) (fun c => ?_) (fun c => ?_)
    · omega
    refine V_aload_n 56 0 dX0_passHour_56 rfl ?_
    refine V_aload_n 57 1 dX0_passHour_57 rfl ?_
    refine V_aload_n 58 1 dX0_passHour_58 rfl ?_
    refine V_getR 59 flX0_73 dX0_passHour_59 rfl ?_
    refine V_iload 62 4 dX0_passHour_62 rfl ?_
    refine V_iald 64 dX0_passHour_64 rfl (by omega) (by omega) ?_
    rw [g2]
    refine V_vv 65 mvX0_76 dX0_passHour_65 ⟨_, _, _, rfl, rfl, rfl⟩ (w_fit.mono (by omega) hE) (c_trySaying_54 (d := d) hP hY hR hRY hsm hC) rfl (Nat.le_of_ble_eq_true rfl) ?_
    rintro _ I1 _ ⟨rfl, rfl, h1, h2⟩
    obtain ⟨-, y2, -, y4⟩ := hY.2 _ hsm
    have hC1 : COK (cv 54 I1) := by rw [h1]; exact s_say_ok hC hP y2 y4
    refine V_inc 68 4 _ [(0, _), (1, _), (2, _), (3, _), (4, _)] dX0_passHour_68 rfl rfl rfl (by decide) rfl ?_
    refine V_goto 71 43 dX0_passHour_71 (by decide) ?_
    rw [Nat.add_assoc]
    refine ih (j + 1) I1 (by omega) (hR.fr h2 (by decide)) (hRY.fr h2 (by decide)) (hA.fr h2 (by decide)) (hL.fr h2 (by decide)) hC1 (fun I' g3 g4 => ?_)
    rw [show j + 1 + n = j + (n + 1) by omega]
    exact hk I' (by rw [g3, h1, foldl_drop_succ _ _ hjl]) (h2.trans g4)
theorem ph_out_54 {h : Nat} (hE : w_fit (d + 1) E) (hP : s_POK P) (hY : s_YOK P Y) (hh : h < 12) : ∀ (n t : Nat) (I : w_I), t + n = (s_mh P h).length → PRep 15 P I → YRep 27 Y I → ARep P I → LRep P Y I → COK (cv 54 I) →
    (∀ I', cv 54 I' = ((s_mh P h).drop t).foldl (fun C m => (s_sm Y m).foldl (s_say P Y) C) (cv 54 I) → Fr 54 58 I I' → V mX0_passHour E Ω 0 0 (SH u v) I' L 80 [(0, .ref (Ω.1 + 54)), (1, .ref (Ω.1 + 27)), (2, .int (nI h)), (3, .int (nI (s_hs P h + (t + n))))] []) →
    V mX0_passHour E Ω 0 0 (SH u v) I L 20 [(0, .ref (Ω.1 + 54)), (1, .ref (Ω.1 + 27)), (2, .int (nI h)), (3, .int (nI (s_hs P h + t)))] [] := by
  have h12 := hP.2.2.1
  have hY0 := hY.1
  have hle := s_hs_le hP (h := h + 1) (by omega)
  have hss := s_hs_succ P h
  intro n
  induction n with
  | zero =>
    intro t I ht hR hRY hA hL hC hk
    refine V_iload_n 20 3 dX0_passHour_20 rfl ?_
    refine V_aload_n 21 0 dX0_passHour_21 rfl ?_
    refine V_getR 22 flX0_21 dX0_passHour_22 rfl ?_
    refine V_getR 25 flX0_63 dX0_passHour_25 rfl ?_
    refine V_iload_n 28 2 dX0_passHour_28 rfl ?_
    refine V_cst 29 1 dX0_passHour_29 rfl ?_
    refine V_add 30 dX0_passHour_30 ?_
    refine V_iald 31 dX0_passHour_31 rfl (by omega) (by omega) ?_
    rw [hA.2 (h + 1) (by omega)]
    refine V_cN_ge 32 80 dX0_passHour_32 (by decide) (by omega) (by omega) (fun c => ?_) (fun c => ?_)
    · exact hk I (by rw [List.drop_of_length_le (by omega)]; rfl) Fr.rf
    · omega
  | succ n ih =>
    intro t I ht hR hRY hA hL hC hk
    have htl : t < (s_mh P h).length := by omega
    have hpo : s_hs P h + t < (s_ord P).length := by rw [s_ord_len hP]; omega
    have hat : (s_ord P)[s_hs P h + t] = (s_mh P h).getD t 0 := by
      have h1 := s_ord_at hh htl
      rw [List.getElem?_eq_getElem hpo, List.getElem?_eq_getElem htl] at h1
      rw [List.getD_eq_getElem?_getD, List.getElem?_eq_getElem htl]
      exact Option.some.inj h1
    have hlen := s_lines_len (P := P) (Y := Y) (s_hs P h + t)
    refine V_iload_n 20 3 dX0_passHour_20 rfl ?_
    refine V_aload_n 21 0 dX0_passHour_21 rfl ?_
    refine V_getR 22 flX0_21 dX0_passHour_22 rfl ?_
    refine V_getR 25 flX0_63 dX0_passHour_25 rfl ?_
    refine V_iload_n 28 2 dX0_passHour_28 rfl ?_
    refine V_cst 29 1 dX0_passHour_29 rfl ?_
    refine V_add 30 dX0_passHour_30 ?_
    refine V_iald 31 dX0_passHour_31 rfl (by omega) (by omega) ?_
    rw [hA.2 (h + 1) (by omega)]
    refine V_cN_ge 32 80 dX0_passHour_32 (by decide) (by omega) (by omega) (fun c => ?_) (fun c => ?_)
    · omega
    refine V_aload_n 35 1 dX0_passHour_35 rfl ?_
    refine V_getR 36 flX0_68 dX0_passHour_36 rfl ?_
    refine V_iload_n 39 3 dX0_passHour_39 rfl ?_
    refine V_iald 40 dX0_passHour_40 rfl (by omega) (by omega) ?_
    rw [hL.1 _ (by omega)]
    refine V_istore 41 [(0, _), (1, _), (2, _), (3, _), (4, _)] dX0_passHour_41 (by decide) rfl ?_
    refine ph_in_54 hE hP hY hh hpo (s_sm Y (s_ord P)[s_hs P h + t]).length 0 I (by omega) hR hRY hA hL hC (fun I1 h1 h2 => ?_)
    have hC1 : COK (cv 54 I1) := by
      rw [h1]
      have key : ∀ (l : List Nat) (C : w_R), (∀ s, s ∈ l → s < Y 0 0) → COK C → COK (l.foldl (s_say P Y) C) := by
        intro l
        induction l with
        | nil => intro C _ h; exact h
        | cons x l ih2 =>
          intro C hl h
          obtain ⟨-, y2, -, y4⟩ := hY.2 x (hl x List.mem_cons_self)
          exact ih2 _ (fun s hs => hl s (List.mem_cons_of_mem _ hs)) (s_say_ok h hP y2 y4)
      exact key _ _ (fun s hs => by simp only [List.drop_zero, s_sm, List.mem_filter, List.mem_range] at hs; exact hs.1) hC
    rw [List.drop_zero, hat] at h1
    refine V_inc 74 3 _ [(0, _), (1, _), (2, _), (3, _), (4, _)] dX0_passHour_74 rfl rfl rfl (by decide) rfl ?_
    refine V_goto 77 20 dX0_passHour_77 (by decide) ?_
    refine V_sub [(0, _), (1, _), (2, _), (3, _)] [0, 1, 2, 3] rfl ?_
    rw [Nat.add_assoc]
    refine ih (t + 1) I1 (by omega) (hR.fr h2 (by decide)) (hRY.fr h2 (by decide)) (hA.fr h2 (by decide)) (hL.fr h2 (by decide)) hC1 (fun I' g3 g4 => ?_)
    rw [show t + 1 + n = t + (n + 1) by omega]
    exact hk I' (by rw [g3, h1, foldl_drop_succ _ _ htl]) (h2.trans g4)
theorem s_make_ok_54 {C : w_R} {h : Nat} (hP : s_POK P) (hC : COK C) : ∀ (l : List Nat) (C : w_R), (∀ p, p ∈ l → p < P 6 0) → COK C → COK (l.foldl (s_make1 P h) C) := by
  have h6 := hP.1.2
  have h12 := hP.2.2.2.2.1
  intro l
  induction l with
  | nil => intro C _ h; exact h
  | cons x l ih =>
    intro C hl hC
    obtain ⟨q1, q2, -⟩ := hP.2.2.2.2.2 x (hl x List.mem_cons_self)
    have := hl x List.mem_cons_self
    exact ih _ (fun s hs => hl s (List.mem_cons_of_mem _ hs)) (s_make1_ok hC (by omega) (by omega) (by omega))
theorem c_passHour_54 {I : w_I} {h : Nat} (hP : s_POK P) (hY : s_YOK P Y) (hh : h < 12) (hR : PRep 15 P I) (hRY : YRep 27 Y I) (hA : ARep P I) (hL : LRep P Y I) (hC : COK (cv 54 I)) : FnV Ω (d + 2) mX0_passHour [.ref (Ω.1 + 54), .ref (Ω.1 + 27), .int (nI h)] (SH u v) I L (fun S' I' L' => S' = SH u v ∧ L = L' ∧ cv 54 I' = s_hour P Y (cv 54 I) h ∧ Fr 54 58 I I') := by
  have hle := s_hs_le hP (h := h) (by omega)
  have h12 := hP.2.2.1
  refine FnR_of okX0_passHour (Nat.le_of_ble_eq_true rfl) fun l z => ?_
  have hE : w_fit (d + 1) (w_Er l (d + 2) 0 0 Ω (w_pv (fun S' I' L' => S' = SH u v ∧ L = L' ∧ cv 54 I' = s_hour P Y (cv 54 I) h ∧ Fr 54 58 I I')) z) := w_fit_r
  show V _ _ _ _ _ _ _ _ 0 [(0, _), (1, _), (2, _)] []
  refine V_aload_n 0 0 dX0_passHour_0 rfl ?_
  refine V_iload_n 1 2 dX0_passHour_1 rfl ?_
  refine V_vv 2 mvX0_56 dX0_passHour_2 ⟨_, _, _, rfl, rfl, rfl⟩ (w_fit.mono (by omega) hE) (c_makePromises_54 (d := d) hP hh hR hC) rfl (Nat.le_of_ble_eq_true rfl) ?_
  rintro _ I1 _ ⟨rfl, rfl, h1, h2⟩
  refine V_aload_n 5 0 dX0_passHour_5 rfl ?_
  refine V_cst 6 0 dX0_passHour_6 rfl ?_
  refine V_putI 7 flX0_60 ft_0_7 dX0_passHour_7 rfl ?_
  refine V_aload_n 10 0 dX0_passHour_10 rfl ?_
  refine V_getR 11 flX0_21 dX0_passHour_11 rfl ?_
  refine V_getR 14 flX0_63 dX0_passHour_14 rfl ?_
  refine V_iload_n 17 2 dX0_passHour_17 rfl ?_
  refine V_iald 18 dX0_passHour_18 rfl (by omega) (by omega) ?_
  have hf : Fr 54 58 I (w_put I1 54 7 0) := h2.put (by decide) (by decide)
  have hC1 : COK (cv 54 (w_put I1 54 7 0)) := by
    rw [cvs_54_7, h1]
    refine COK.put (s_make_ok_54 hP hC _ _ (fun p hp => List.mem_range.mp hp) hC) 6 0 0 (by omega) (by omega) (by omega) (by omega) (by omega) (by omega) (by omega)
  rw [(hA.fr hf (by decide)).2 h (by omega)]
  refine V_istore_n 19 [(0, _), (1, _), (2, _), (3, _)] dX0_passHour_19 (by decide) rfl ?_
  refine ph_out_54 hE hP hY hh (s_mh P h).length 0 _ (by omega) (hR.fr hf (by decide)) (hRY.fr hf (by decide)) (hA.fr hf (by decide)) (hL.fr hf (by decide)) hC1 (fun I' g1 g2 => ?_)
  refine V_ret 80 dX0_passHour_80 rfl ⟨rfl, rfl, ?_, hf.trans g2⟩
  rw [g1, cvs_54_7, h1, List.drop_zero]
  rfl
end
