/-! Course, of the town's own and of the tales' -/
section
variable {Ω : w_O} {d u v : Nat} {I : w_I} {L : w_L}
/-- both of a meeting, as bits -/
theorem c_bothOf {P : w_R} {m : Nat} (hP : s_POK P) (hR : PRep 15 P I) (hm : m < P 2 0) : FnI Ω d mX3_bothOf [.ref (Ω.1 + 15), .int (nI m)] (SH u v) I L (fun r S' I' L' => r = nI (s_both P m) ∧ S' = SH u v ∧ I = I' ∧ L = L') := by
  obtain ⟨h1, h2, -⟩ := hP.2.2.2.1 m hm
  obtain ⟨r1, r2, -⟩ := hR.2.2.2.1 m hm
  have h6 := hP.1.2
  have h12 := hP.2.2.1
  refine FnR_of okX3_bothOf (Nat.le_of_ble_eq_true rfl) fun l z => ?_
  show V _ _ _ _ _ _ _ _ 0 [(0, _), (1, _)] []
  refine V_cst 0 1 dX3_bothOf_0 rfl ?_
  refine V_aload_n 1 0 dX3_bothOf_1 rfl ?_
  refine V_getR 2 flX3_15 dX3_bothOf_2 rfl ?_
  refine V_iload_n 5 1 dX3_bothOf_5 rfl ?_
  refine V_iald 6 dX3_bothOf_6 rfl (by omega) (by omega) ?_
  rw [r1]
  refine V_shl 7 dX3_bothOf_7 (by omega) ?_
  refine V_cst 8 1 dX3_bothOf_8 rfl ?_
  refine V_aload_n 9 0 dX3_bothOf_9 rfl ?_
  refine V_getR 10 flX3_18 dX3_bothOf_10 rfl ?_
  refine V_iload_n 13 1 dX3_bothOf_13 rfl ?_
  refine V_iald 14 dX3_bothOf_14 rfl (by omega) (by omega) ?_
  rw [r2]
  refine V_shl 15 dX3_bothOf_15 (by omega) ?_
  refine V_or 16 dX3_bothOf_16 ?_
  exact V_iret 17 dX3_bothOf_17 rfl ⟨by rw [Nat.one_mul, Nat.one_mul]; rfl, rfl, rfl, rfl⟩
/-- the one of a meeting who says -/
def k_sp (P : w_R) (m w : Nat) : Nat := if w = 0 then P 3 m else P 4 m
theorem c_speakerAt {P : w_R} {m w : Nat} (hP : s_POK P) (hR : PRep 15 P I) (hm : m < P 2 0) (hw : w < 2) : FnI Ω d mX3_speakerAt [.ref (Ω.1 + 15), .int (nI m), .int (nI w)] (SH u v) I L (fun r S' I' L' => r = nI (k_sp P m w) ∧ S' = SH u v ∧ I = I' ∧ L = L') := by
  obtain ⟨r1, r2, -⟩ := hR.2.2.2.1 m hm
  have h12 := hP.2.2.1
  refine FnR_of okX3_speakerAt (Nat.le_of_ble_eq_true rfl) fun l z => ?_
  show V _ _ _ _ _ _ _ _ 0 [(0, _), (1, _), (2, _)] []
  refine V_iload_n 0 2 dX3_speakerAt_0 rfl ?_
  refine V_zN_ne 1 13 dX3_speakerAt_1 (by decide) (by omega) (fun c => ?_) (fun c => ?_)
  · refine V_aload_n 13 0 dX3_speakerAt_13 rfl ?_
    refine V_getR 14 flX3_18 dX3_speakerAt_14 rfl ?_
    refine V_iload_n 17 1 dX3_speakerAt_17 rfl ?_
    refine V_iald 18 dX3_speakerAt_18 rfl (by omega) (by omega) ?_
    rw [r2]
    exact V_iret 19 dX3_speakerAt_19 rfl ⟨by unfold k_sp; rw [if_neg c], rfl, rfl, rfl⟩
  · refine V_aload_n 4 0 dX3_speakerAt_4 rfl ?_
    refine V_getR 5 flX3_15 dX3_speakerAt_5 rfl ?_
    refine V_iload_n 8 1 dX3_speakerAt_8 rfl ?_
    refine V_iald 9 dX3_speakerAt_9 rfl (by omega) (by omega) ?_
    refine V_goto 10 19 dX3_speakerAt_10 (by decide) ?_
    rw [r1]
    exact V_iret 19 dX3_speakerAt_19 rfl ⟨by unfold k_sp; rw [if_pos c], rfl, rfl, rfl⟩
theorem c_undo_34 {p : Nat} (hp : p < 12) : FnV Ω d mX0_undo [.ref (Ω.1 + 34), .int (nI p)] (SH u v) I L (fun S' I' L' => S' = SH u v ∧ L = L' ∧ cv 34 I' = s_undo (cv 34 I) p ∧ Fr 34 38 I I') := by
  refine FnR_of okX0_undo (Nat.le_of_ble_eq_true rfl) fun l z => ?_
  show V _ _ _ _ _ _ _ _ 0 [(0, _), (1, _)] []
  refine V_aload_n 0 0 dX0_undo_0 rfl ?_
  refine V_dup 1 dX0_undo_1 rfl ?_
  refine V_getI 2 flX0_41 dX0_undo_2 rfl ?_
  refine V_cst 5 1 dX0_undo_5 rfl ?_
  refine V_iload_n 6 1 dX0_undo_6 rfl ?_
  refine V_shl 7 dX0_undo_7 (by omega) ?_
  refine V_cst 8 4294967295 dX0_undo_8 rfl ?_
  refine V_xor 9 dX0_undo_9 ?_
  refine V_and 10 dX0_undo_10 ?_
  refine V_putI 11 flX0_41 ft_0_4 dX0_undo_11 rfl ?_
  refine V_aload_n 14 0 dX0_undo_14 rfl ?_
  refine V_dup 15 dX0_undo_15 rfl ?_
  refine V_getI 16 flX0_44 dX0_undo_16 rfl ?_
  refine V_cst 19 1 dX0_undo_19 rfl ?_
  refine V_iload_n 20 1 dX0_undo_20 rfl ?_
  refine V_shl 21 dX0_undo_21 (by omega) ?_
  refine V_or 22 dX0_undo_22 ?_
  refine V_putI 23 flX0_44 ft_0_5 dX0_undo_23 rfl ?_
  refine V_aload_n 26 0 dX0_undo_26 rfl ?_
  refine V_getR 27 flX0_9 dX0_undo_27 rfl ?_
  refine V_iload_n 30 1 dX0_undo_30 rfl ?_
  refine V_aload_n 31 0 dX0_undo_31 rfl ?_
  refine V_getI 32 flX0_31 dX0_undo_32 rfl ?_
  refine V_iast 35 dX0_undo_35 rfl (by omega) (by omega) ?_
  refine V_aload_n 36 0 dX0_undo_36 rfl ?_
  refine V_dup 37 dX0_undo_37 rfl ?_
  refine V_getI 38 flX0_38 dX0_undo_38 rfl ?_
  refine V_cst 41 1 dX0_undo_41 rfl ?_
  refine V_add 42 dX0_undo_42 ?_
  refine V_putI 43 flX0_38 ft_0_3 dX0_undo_43 rfl ?_
  refine V_ret 46 dX0_undo_46 rfl ⟨rfl, rfl, ?_, ?_⟩
  · simp only [Nat.one_mul]
    rw [cvs_34_3, cva_34_7 hp, cvs_34_5, cvs_34_4]
    rfl
  · exact (((Fr.rf.put (by decide) (by decide)).put (by decide) (by decide)).put (by decide) (by decide)).put (by decide) (by decide)
theorem mk_34 {E : w_E} {P : w_R} {h : Nat} (hE : w_fit d E) (hP : s_POK P) (hh : h < 12) : ∀ (n j : Nat) (I : w_I), j + n = P 6 0 → PRep 15 P I → COK (cv 34 I) →
    (∀ I', cv 34 I' = (List.range' j n).foldl (s_make1 P h) (cv 34 I) → Fr 34 38 I I' → V mX0_makePromises E Ω 0 0 (SH u v) I' L 116 [(0, .ref (Ω.1 + 34)), (1, .int (nI h)), (2, .int (nI (j + n)))] []) →
    V mX0_makePromises E Ω 0 0 (SH u v) I L 2 [(0, .ref (Ω.1 + 34)), (1, .int (nI h)), (2, .int (nI j))] [] := by
  intro n
  induction n with
  | zero =>
    intro j I hj hR hC hk
    have hp := hP.2.2.2.2.1
    refine V_iload_n 2 2 dX0_makePromises_2 rfl ?_
    refine V_aload_n 3 0 dX0_makePromises_3 rfl ?_
    refine V_getR 4 flX0_21 dX0_makePromises_4 rfl ?_
    refine V_getI 7 flX0_80 dX0_makePromises_7 rfl ?_
    rw [hR.2.2.2.2.1]
    refine V_cN_ge 10 116 dX0_makePromises_10 (by decide) (by omega) (by omega) (fun c => ?_) (fun c => ?_)
    · exact hk I rfl Fr.rf
    · omega
  | succ n ih =>
    intro j I hj hR hC hk
    have hp := hP.2.2.2.2.1
    have hjp : j < P 6 0 := by omega
    obtain ⟨q1, q2, q3, q4, q5, q6⟩ := hP.2.2.2.2.2 j hjp
    obtain ⟨r1, r2, r3, r4, r5⟩ := hR.2.2.2.2.2 j hjp
    have hp6 := hP.1.2
    have hd : I 34 1 < 1000000 := hC.1
    have hj2 : 2 ^ j < 4096 := p12 (by omega)
    have hl : P 11 j < 4096 := by omega
    have next : ∀ I1 : w_I, cv 34 I1 = s_make1 P h (cv 34 I) j → Fr 34 38 I I1 → V mX0_makePromises E Ω 0 0 (SH u v) I1 L 110 [(0, .ref (Ω.1 + 34)), (1, .int (nI h)), (2, .int (nI j))] [] := by
      intro I1 h1 h2
      refine V_inc 110 2 _ [(0, _), (1, _), (2, _)] dX0_makePromises_110 rfl rfl rfl (by decide) rfl ?_
      refine V_goto 113 2 dX0_makePromises_113 (by decide) ?_
      refine ih (j + 1) I1 (by omega) (hR.fr h2 (by decide)) (by rw [h1]; exact s_make1_ok hC (by omega) (by omega) (by omega)) (fun I' e1 e2 => ?_)
      rw [show j + 1 + n = j + (n + 1) by omega]
      exact hk I' (by rw [e1, h1]; rfl) (h2.trans e2)
    refine V_iload_n 2 2 dX0_makePromises_2 rfl ?_
    refine V_aload_n 3 0 dX0_makePromises_3 rfl ?_
    refine V_getR 4 flX0_21 dX0_makePromises_4 rfl ?_
    refine V_getI 7 flX0_80 dX0_makePromises_7 rfl ?_
    rw [hR.2.2.2.2.1]
    refine V_cN_ge 10 116 dX0_makePromises_10 (by decide) (by omega) (by omega) (fun c => ?_) (fun c => ?_)
    · omega
    refine V_aload_n 13 0 dX0_makePromises_13 rfl ?_
    refine V_getR 14 flX0_21 dX0_makePromises_14 rfl ?_
    refine V_getR 17 flX0_83 dX0_makePromises_17 rfl ?_
    refine V_iload_n 20 2 dX0_makePromises_20 rfl ?_
    refine V_iald 21 dX0_makePromises_21 rfl (by omega) (by omega) ?_
    refine V_aload_n 22 0 dX0_makePromises_22 rfl ?_
    refine V_getI 23 flX0_31 dX0_makePromises_23 rfl ?_
    rw [r3]
    refine V_cN_ne 26 110 dX0_makePromises_26 (by decide) (by omega) (by omega) (fun c1 => ?_) (fun c1 => ?_)
    · exact next I (by unfold s_make1; rw [if_neg]; rintro ⟨e1, e2⟩; exact c1 e1) Fr.rf
    refine V_aload_n 29 0 dX0_makePromises_29 rfl ?_
    refine V_getR 30 flX0_21 dX0_makePromises_30 rfl ?_
    refine V_getR 33 flX0_86 dX0_makePromises_33 rfl ?_
    refine V_iload_n 36 2 dX0_makePromises_36 rfl ?_
    refine V_iald 37 dX0_makePromises_37 rfl (by omega) (by omega) ?_
    refine V_iload_n 38 1 dX0_makePromises_38 rfl ?_
    rw [r4]
    refine V_cN_ne 39 110 dX0_makePromises_39 (by decide) (by omega) (by omega) (fun c2 => ?_) (fun c2 => ?_)
    · exact next I (by unfold s_make1; rw [if_neg]; rintro ⟨e1, e2⟩; exact c2 e2) Fr.rf
    refine V_aload_n 42 0 dX0_makePromises_42 rfl ?_
    refine V_getR 43 flX0_21 dX0_makePromises_43 rfl ?_
    refine V_getR 46 flX0_89 dX0_makePromises_46 rfl ?_
    refine V_iload_n 49 2 dX0_makePromises_49 rfl ?_
    refine V_iald 50 dX0_makePromises_50 rfl (by omega) (by omega) ?_
    refine V_aload_n 51 0 dX0_makePromises_51 rfl ?_
    refine V_getI 52 flX0_41 dX0_makePromises_52 rfl ?_
    refine V_cst 55 4294967295 dX0_makePromises_55 rfl ?_
    refine V_xor 56 dX0_makePromises_56 ?_
    refine V_and 57 dX0_makePromises_57 ?_
    rw [r5]
    refine V_zN_eq 58 69 dX0_makePromises_58 (by decide) (and_lt1 (by omega)) (fun c3 => ?_) (fun c3 => ?_)
    · refine V_aload_n 69 0 dX0_makePromises_69 rfl ?_
      refine V_dup 70 dX0_makePromises_70 rfl ?_
      refine V_getI 71 flX0_41 dX0_makePromises_71 rfl ?_
      refine V_cst 74 1 dX0_makePromises_74 rfl ?_
      refine V_iload_n 75 2 dX0_makePromises_75 rfl ?_
      refine V_shl 76 dX0_makePromises_76 (by omega) ?_
      refine V_or 77 dX0_makePromises_77 ?_
      refine V_putI 78 flX0_41 ft_0_4 dX0_makePromises_78 rfl ?_
      refine V_aload_n 81 0 dX0_makePromises_81 rfl ?_
      refine V_getR 82 flX0_18 dX0_makePromises_82 rfl ?_
      refine V_iload_n 85 2 dX0_makePromises_85 rfl ?_
      refine V_cst 86 1 dX0_makePromises_86 rfl ?_
      refine V_aload_n 87 0 dX0_makePromises_87 rfl ?_
      refine V_getR 88 flX0_21 dX0_makePromises_88 rfl ?_
      refine V_getR 91 flX0_95 dX0_makePromises_91 rfl ?_
      refine V_iload_n 94 2 dX0_makePromises_94 rfl ?_
      refine V_iald 95 dX0_makePromises_95 rfl (by omega) (by omega) ?_
      rw [w_put_other _ (Or.inl (by decide)), r1]
      refine V_shl 96 dX0_makePromises_96 (by omega) ?_
      refine V_cst 97 1 dX0_makePromises_97 rfl ?_
      refine V_aload_n 98 0 dX0_makePromises_98 rfl ?_
      refine V_getR 99 flX0_21 dX0_makePromises_99 rfl ?_
      refine V_getR 102 flX0_98 dX0_makePromises_102 rfl ?_
      refine V_iload_n 105 2 dX0_makePromises_105 rfl ?_
      refine V_iald 106 dX0_makePromises_106 rfl (by omega) (by omega) ?_
      rw [w_put_other _ (Or.inl (by decide)), r2]
      refine V_shl 107 dX0_makePromises_107 (by omega) ?_
      refine V_or 108 dX0_makePromises_108 ?_
      refine V_iast 109 dX0_makePromises_109 rfl (by omega) (by omega) ?_
      refine next _ ?_ ((Fr.rf.put (by decide) (by decide)).put (by decide) (by decide))
      simp only [Nat.one_mul]
      rw [cva_34_9 (by omega), cvs_34_4]
      unfold s_make1
      rw [if_pos ⟨c1, c2⟩, if_neg (fun e => e c3)]
      rfl
    · refine V_aload_n 61 0 dX0_makePromises_61 rfl ?_
      refine V_iload_n 62 2 dX0_makePromises_62 rfl ?_
      refine V_vv 63 mvX0_92 dX0_makePromises_63 ⟨_, _, _, rfl, rfl, rfl⟩ (w_fit.mono (by omega) hE) (c_undo_34 (d := d) (by omega)) rfl (Nat.le_of_ble_eq_true rfl) ?_
      rintro _ I1 _ ⟨rfl, rfl, h1, h2⟩
      refine V_goto 66 110 dX0_makePromises_66 (by decide) ?_
      refine next I1 ?_ h2
      rw [h1]
      unfold s_make1
      rw [if_pos ⟨c1, c2⟩, if_pos (show P 11 j &&& (cv 34 I 3 0 ^^^ mI) ≠ 0 from c3)]
theorem c_makePromises_34 {P : w_R} {h : Nat} (hP : s_POK P) (hh : h < 12) (hR : PRep 15 P I) (hC : COK (cv 34 I)) : FnV Ω (d + 1) mX0_makePromises [.ref (Ω.1 + 34), .int (nI h)] (SH u v) I L (fun S' I' L' => S' = SH u v ∧ L = L' ∧ cv 34 I' = s_make P h (cv 34 I) (P 6 0) ∧ Fr 34 38 I I') := by
  refine FnR_of okX0_makePromises (Nat.le_of_ble_eq_true rfl) fun l z => ?_
  show V _ _ _ _ _ _ _ _ 0 [(0, _), (1, _)] []
  refine V_cst 0 0 dX0_makePromises_0 rfl ?_
  refine V_istore_n 1 [(0, _), (1, _), (2, _)] dX0_makePromises_1 (by decide) rfl ?_
  refine mk_34 w_fit_r hP hh (P 6 0) 0 I (by omega) hR hC (fun I' h1 h2 => ?_)
  refine V_ret 116 dX0_makePromises_116 rfl ⟨rfl, rfl, ?_, h2⟩
  rw [h1, s_make, List.range_eq_range']
theorem c_trySaying_34 {P Y : w_R} {s : Nat} (hP : s_POK P) (hY : s_YOK P Y) (hR : PRep 15 P I) (hRY : YRep 27 Y I) (hs : s < Y 0 0) (hC : COK (cv 34 I)) : FnV Ω (d + 1) mX0_trySaying [.ref (Ω.1 + 34), .ref (Ω.1 + 27), .int (nI s)] (SH u v) I L (fun S' I' L' => S' = SH u v ∧ L = L' ∧ cv 34 I' = s_say P Y (cv 34 I) s ∧ Fr 34 38 I I') := by
  obtain ⟨y1, y2, y3, y4⟩ := hRY.2 s hs
  obtain ⟨o1, o2, o3, o4⟩ := hY.2 s hs
  have hs60 := hY.1
  have o1b : Y 1 s < 4294967296 := o1.elim (fun h => by omega) (fun h => by rw [h]; decide)
  have h6 := hP.1.2
  have hm12 := hP.2.2.1
  have hp12 := hP.2.2.2.2.1
  have hd : I 34 1 < 1000000 := hC.1
  have hst : I 34 4 < 4096 := hC.2.1
  have hsp : I 34 7 < 64 := hC.2.2.2.2.1
  have hkn : I 36 (Y 4 s) < 64 := by have := hC.2.2.2.2.2.1 (Y 4 s); simp only [cv] at this; rw [if_pos (by omega)] at this; exact this
  have hhe : I 37 (Y 4 s) < 64 := by have := hC.2.2.2.2.2.2 (Y 4 s); simp only [cv] at this; rw [if_pos (by omega)] at this; exact this
  have e8 : cv 34 I 8 (Y 4 s) = I 36 (Y 4 s) := by simp only [cv]; rw [if_pos (by omega)]
  have e9 : cv 34 I 9 (Y 4 s) = I 37 (Y 4 s) := by simp only [cv]; rw [if_pos (by omega)]
  obtain ⟨f1, f2, f3, f4⟩ := hP.2.2.2.1 _ o2
  obtain ⟨r1, r2, r3⟩ := hR.2.2.2.1 _ o2
  have hw := s_who_lt hP o2 (Y := Y)
  have hb := s_both_lt hP o2
  have hpr := hP.2.1 (s_who P Y s) (by omega)
  have hprI := hR.2.1 (s_who P Y s) (by omega)
  have no : ¬ ((Y 1 s = mI ∨ Y 1 s = cv 34 I 0 0) ∧ (cv 34 I 3 0 / 2 ^ Y 4 s) &&& 1 ≠ 0 ∧ (((cv 34 I 8 (Y 4 s) ||| cv 34 I 9 (Y 4 s)) &&& (cv 34 I 6 0 ^^^ mI)) / 2 ^ s_who P Y s) &&& 1 ≠ 0) → cv 34 I = s_say P Y (cv 34 I) s := fun h => by unfold s_say; rw [if_neg h]
  have main : ∀ E : w_E, w_fit d E → (∀ (pc : Nat) (ls : List (Nat × Value)) (I' : w_I), decode cX0_trySaying pc = .ok (.return_, 1) → cv 34 I' = s_say P Y (cv 34 I) s → Fr 34 38 I I' → V mX0_trySaying E Ω 0 0 (SH u v) I' L pc ls []) → V mX0_trySaying E Ω 0 0 (SH u v) I L 0 [(0, .ref (Ω.1 + 34)), (1, .ref (Ω.1 + 27)), (2, .int (nI s))] [] := by
    intro E hE ret
    have k63 : (Y 1 s = mI ∨ Y 1 s = cv 34 I 0 0) → V mX0_trySaying E Ω 0 0 (SH u v) I L 63 [(0, .ref (Ω.1 + 34)), (1, .ref (Ω.1 + 27)), (2, .int (nI s)), (3, .int (nI (Y 2 s))), (4, .int (nI (Y 4 s))), (5, .int (nI (s_both P (Y 2 s))))] [.int (nI (s_who P Y s))] := by
      intro hday
      refine V_istore 63 [(0, _), (1, _), (2, _), (3, _), (4, _), (5, _), (6, _)] dX0_trySaying_63 (by decide) rfl ?_
      refine V_aload_n 65 0 dX0_trySaying_65 rfl ?_
      refine V_getR 66 flX0_15 dX0_trySaying_66 rfl ?_
      refine V_iload 69 4 dX0_trySaying_69 rfl ?_
      refine V_iald 71 dX0_trySaying_71 rfl (by omega) (by omega) ?_
      refine V_aload_n 72 0 dX0_trySaying_72 rfl ?_
      refine V_getR 73 flX0_18 dX0_trySaying_73 rfl ?_
      refine V_iload 76 4 dX0_trySaying_76 rfl ?_
      refine V_iald 78 dX0_trySaying_78 rfl (by omega) (by omega) ?_
      refine V_or 79 dX0_trySaying_79 ?_
      refine V_aload_n 80 0 dX0_trySaying_80 rfl ?_
      refine V_getI 81 flX0_60 dX0_trySaying_81 rfl ?_
      refine V_cst 84 4294967295 dX0_trySaying_84 rfl ?_
      refine V_xor 85 dX0_trySaying_85 ?_
      refine V_and 86 dX0_trySaying_86 ?_
      refine V_istore 87 [(0, _), (1, _), (2, _), (3, _), (4, _), (5, _), (6, _), (7, _)] dX0_trySaying_87 (by decide) rfl ?_
      refine V_aload_n 89 0 dX0_trySaying_89 rfl ?_
      refine V_getI 90 flX0_41 dX0_trySaying_90 rfl ?_
      refine V_iload 93 4 dX0_trySaying_93 rfl ?_
      refine V_shr 95 dX0_trySaying_95 (by omega) (by omega) ?_
      refine V_cst 96 1 dX0_trySaying_96 rfl ?_
      refine V_and 97 dX0_trySaying_97 ?_
      refine V_zN_eq 98 111 dX0_trySaying_98 (by decide) (and_lt2 (by decide)) (fun c3 => ?_) (fun c3 => ?_)
      · exact ret 111 _ I dX0_trySaying_111 (no (fun h => h.2.1 c3)) Fr.rf
      refine V_iload 101 7 dX0_trySaying_101 rfl ?_
      refine V_iload 103 6 dX0_trySaying_103 rfl ?_
      refine V_shr 105 dX0_trySaying_105 (and_lt1 (Nat.lt_of_lt_of_le (or6 hkn hhe) (by decide))) (by omega) ?_
      refine V_cst 106 1 dX0_trySaying_106 rfl ?_
      refine V_and 107 dX0_trySaying_107 ?_
      refine V_zN_ne 108 112 dX0_trySaying_108 (by decide) (and_lt2 (by decide)) (fun c4 => ?_) (fun c4 => ?_)
      rotate_left
      · exact ret 111 _ I dX0_trySaying_111 (no (fun h => h.2.2 (by rw [e8, e9]; exact c4))) Fr.rf
      refine V_aload_n 112 0 dX0_trySaying_112 rfl ?_
      refine V_dup 113 dX0_trySaying_113 rfl ?_
      refine V_getI 114 flX0_60 dX0_trySaying_114 rfl ?_
      refine V_cst 117 1 dX0_trySaying_117 rfl ?_
      refine V_iload 118 6 dX0_trySaying_118 rfl ?_
      refine V_shl 120 dX0_trySaying_120 (by omega) ?_
      refine V_or 121 dX0_trySaying_121 ?_
      refine V_putI 122 flX0_60 ft_0_7 dX0_trySaying_122 rfl ?_
      refine V_aload_n 125 0 dX0_trySaying_125 rfl ?_
      refine V_dup 126 dX0_trySaying_126 rfl ?_
      refine V_getI 127 flX0_35 dX0_trySaying_127 rfl ?_
      refine V_aload_n 130 0 dX0_trySaying_130 rfl ?_
      refine V_getR 131 flX0_21 dX0_trySaying_131 rfl ?_
      refine V_getR 134 flX0_120 dX0_trySaying_134 rfl ?_
      refine V_iload 137 6 dX0_trySaying_137 rfl ?_
      refine V_iald 139 dX0_trySaying_139 rfl (by omega) (by omega) ?_
      rw [w_put_other _ (Or.inl (by decide)), hprI]
      refine V_add 140 dX0_trySaying_140 ?_
      refine V_putI 141 flX0_35 ft_0_2 dX0_trySaying_141 rfl ?_
      refine V_iload 144 5 dX0_trySaying_144 rfl ?_
      refine V_cst 146 1 dX0_trySaying_146 rfl ?_
      refine V_iload 147 6 dX0_trySaying_147 rfl ?_
      refine V_shl 149 dX0_trySaying_149 (by omega) ?_
      refine V_cst 150 4294967295 dX0_trySaying_150 rfl ?_
      refine V_xor 151 dX0_trySaying_151 ?_
      refine V_and 152 dX0_trySaying_152 ?_
      refine V_istore 153 [(0, _), (1, _), (2, _), (3, _), (4, _), (5, _), (6, _), (7, _), (8, _)] dX0_trySaying_153 (by decide) rfl ?_
      refine V_aload_n 155 0 dX0_trySaying_155 rfl ?_
      refine V_getR 156 flX0_18 dX0_trySaying_156 rfl ?_
      refine V_iload 159 4 dX0_trySaying_159 rfl ?_
      refine V_iald 161 dX0_trySaying_161 rfl (by omega) (by omega) ?_
      refine V_iload 162 8 dX0_trySaying_162 rfl ?_
      refine V_and 164 dX0_trySaying_164 ?_
      have hyes : s_say P Y (cv 34 I) s = s_said P Y (cv 34 I) s := by unfold s_say; rw [if_pos ⟨hday, c3, by rw [e8, e9]; exact c4⟩]
      have hh : ∀ A B : Nat, w_put (w_put (cv 34 I) 6 0 A) 1 0 B 9 (Y 4 s) = I 37 (Y 4 s) := fun A B => by rw [w_put_other _ (Or.inl (by decide)), w_put_other _ (Or.inl (by decide)), e9]
      have hh2 : ∀ A B D : Nat, w_put (w_put (w_put (cv 34 I) 6 0 A) 1 0 B) 5 0 D 9 (Y 4 s) = I 37 (Y 4 s) := fun A B D => by rw [w_put_other _ (Or.inl (by decide)), hh]
      simp only [Nat.one_mul]
      simp only [w_put_eq, Nat.reduceEqDiff, false_and, and_false, true_and, and_true, and_self, reduceIte]
      refine V_zN_ne 165 181 dX0_trySaying_165 (by decide) (and_lt1 (by omega)) (fun c6 => ?_) (fun c6 => ?_)
      · refine V_aload_n 181 0 dX0_trySaying_181 rfl ?_
        refine V_getR 182 flX0_18 dX0_trySaying_182 rfl ?_
        refine V_iload 185 4 dX0_trySaying_185 rfl ?_
        refine V_dup2 187 dX0_trySaying_187 rfl rfl ?_
        refine V_iald 188 dX0_trySaying_188 rfl (by omega) (by omega) ?_
        simp only [w_put_eq, Nat.reduceEqDiff, false_and, and_false, true_and, and_true, and_self, reduceIte]
        refine V_iload 189 5 dX0_trySaying_189 rfl ?_
        refine V_or 191 dX0_trySaying_191 ?_
        refine V_iast 192 dX0_trySaying_192 rfl (by omega) (by omega) ?_
        refine ret 193 _ _ dX0_trySaying_193 ?_ (((Fr.rf.put (by decide) (by decide)).put (by decide) (by decide)).put (by decide) (by decide))
        rw [hyes, cva_34_9 (by omega), cvs_34_2, cvs_34_7]
        unfold s_said
        dsimp only
        rw [hh, if_neg c6, hh]
        rfl
      · refine V_aload_n 168 0 dX0_trySaying_168 rfl ?_
        refine V_dup 169 dX0_trySaying_169 rfl ?_
        refine V_getI 170 flX0_47 dX0_trySaying_170 rfl ?_
        refine V_cst 173 1 dX0_trySaying_173 rfl ?_
        refine V_iload 174 4 dX0_trySaying_174 rfl ?_
        refine V_shl 176 dX0_trySaying_176 (by omega) ?_
        refine V_or 177 dX0_trySaying_177 ?_
        refine V_putI 178 flX0_47 ft_0_6 dX0_trySaying_178 rfl ?_
        refine V_aload_n 181 0 dX0_trySaying_181 rfl ?_
        refine V_getR 182 flX0_18 dX0_trySaying_182 rfl ?_
        refine V_iload 185 4 dX0_trySaying_185 rfl ?_
        refine V_dup2 187 dX0_trySaying_187 rfl rfl ?_
        refine V_iald 188 dX0_trySaying_188 rfl (by omega) (by omega) ?_
        simp only [w_put_eq, Nat.reduceEqDiff, false_and, and_false, true_and, and_true, and_self, reduceIte]
        refine V_iload 189 5 dX0_trySaying_189 rfl ?_
        refine V_or 191 dX0_trySaying_191 ?_
        refine V_iast 192 dX0_trySaying_192 rfl (by omega) (by omega) ?_
        refine ret 193 _ _ dX0_trySaying_193 ?_ ((((Fr.rf.put (by decide) (by decide)).put (by decide) (by decide)).put (by decide) (by decide)).put (by decide) (by decide))
        simp only [Nat.one_mul]
        rw [hyes, cva_34_9 (by omega), cvs_34_6, cvs_34_2, cvs_34_7]
        unfold s_said
        dsimp only
        rw [hh, if_pos c6, hh2]
        rfl
    have k24 : (Y 1 s = mI ∨ Y 1 s = cv 34 I 0 0) → V mX0_trySaying E Ω 0 0 (SH u v) I L 24 [(0, .ref (Ω.1 + 34)), (1, .ref (Ω.1 + 27)), (2, .int (nI s))] [] := by
      intro hday
      refine V_aload_n 24 1 dX0_trySaying_24 rfl ?_
      refine V_getR 25 flX0_103 dX0_trySaying_25 rfl ?_
      refine V_iload_n 28 2 dX0_trySaying_28 rfl ?_
      refine V_iald 29 dX0_trySaying_29 rfl (by omega) (by omega) ?_
      rw [y2]
      refine V_istore_n 30 [(0, _), (1, _), (2, _), (3, _)] dX0_trySaying_30 (by decide) rfl ?_
      refine V_aload_n 31 1 dX0_trySaying_31 rfl ?_
      refine V_getR 32 flX0_106 dX0_trySaying_32 rfl ?_
      refine V_iload_n 35 2 dX0_trySaying_35 rfl ?_
      refine V_iald 36 dX0_trySaying_36 rfl (by omega) (by omega) ?_
      rw [y4]
      refine V_istore 37 [(0, _), (1, _), (2, _), (3, _), (4, _)] dX0_trySaying_37 (by decide) rfl ?_
      refine V_aload_n 39 0 dX0_trySaying_39 rfl ?_
      refine V_getR 40 flX0_21 dX0_trySaying_40 rfl ?_
      refine V_iload_n 43 3 dX0_trySaying_43 rfl ?_
      refine V_vi 44 mvX0_109 dX0_trySaying_44 ⟨_, _, _, rfl, rfl, rfl⟩ (w_fit.mono (by omega) hE) (c_bothOf (d := d) hP hR o2) rfl (Nat.le_of_ble_eq_true rfl) ?_
      rintro _ _ _ _ ⟨rfl, rfl, rfl, rfl⟩
      refine V_istore 47 [(0, _), (1, _), (2, _), (3, _), (4, _), (5, _)] dX0_trySaying_47 (by decide) rfl ?_
      refine V_aload_n 49 0 dX0_trySaying_49 rfl ?_
      refine V_getR 50 flX0_21 dX0_trySaying_50 rfl ?_
      refine V_iload_n 53 3 dX0_trySaying_53 rfl ?_
      refine V_aload_n 54 1 dX0_trySaying_54 rfl ?_
      refine V_getR 55 flX0_113 dX0_trySaying_55 rfl ?_
      refine V_iload_n 58 2 dX0_trySaying_58 rfl ?_
      refine V_iald 59 dX0_trySaying_59 rfl (by omega) (by omega) ?_
      rw [y3]
      refine V_vi 60 mvX0_116 dX0_trySaying_60 ⟨_, _, _, rfl, rfl, rfl⟩ (w_fit.mono (by omega) hE) (c_speakerAt (d := d) hP hR o2 o3) rfl (Nat.le_of_ble_eq_true rfl) ?_
      rintro _ _ _ _ ⟨rfl, rfl, rfl, rfl⟩
      rw [show k_sp P (Y 2 s) (Y 3 s) = s_who P Y s from rfl]
      exact k63 hday
    refine V_aload_n 0 1 dX0_trySaying_0 rfl ?_
    refine V_getR 1 flX0_101 dX0_trySaying_1 rfl ?_
    refine V_iload_n 4 2 dX0_trySaying_4 rfl ?_
    refine V_iald 5 dX0_trySaying_5 rfl (by omega) (by omega) ?_
    refine V_cst 6 4294967295 dX0_trySaying_6 rfl ?_
    rw [y1]
    refine V_cN_eq 7 24 dX0_trySaying_7 (by decide) (by omega) (by omega) (fun c1 => ?_) (fun c1 => ?_)
    · exact k24 (Or.inl c1)
    refine V_aload_n 10 1 dX0_trySaying_10 rfl ?_
    refine V_getR 11 flX0_101 dX0_trySaying_11 rfl ?_
    refine V_iload_n 14 2 dX0_trySaying_14 rfl ?_
    refine V_iald 15 dX0_trySaying_15 rfl (by omega) (by omega) ?_
    refine V_aload_n 16 0 dX0_trySaying_16 rfl ?_
    refine V_getI 17 flX0_31 dX0_trySaying_17 rfl ?_
    rw [y1]
    refine V_cN_eq 20 24 dX0_trySaying_20 (by decide) (by omega) (by omega) (fun c2 => ?_) (fun c2 => ?_)
    · exact k24 (Or.inr c2)
    exact ret 23 _ I dX0_trySaying_23 (no (fun h => h.1.elim c1 c2)) Fr.rf
  exact FnR_of okX0_trySaying (Nat.le_of_ble_eq_true rfl) fun l z => main _ w_fit_r (fun pc ls I' hd h1 h2 => V_ret pc hd rfl ⟨rfl, rfl, h1, h2⟩)
theorem c_undo_54 {p : Nat} (hp : p < 12) : FnV Ω d mX0_undo [.ref (Ω.1 + 54), .int (nI p)] (SH u v) I L (fun S' I' L' => S' = SH u v ∧ L = L' ∧ cv 54 I' = s_undo (cv 54 I) p ∧ Fr 54 58 I I') := by
  refine FnR_of okX0_undo (Nat.le_of_ble_eq_true rfl) fun l z => ?_
  show V _ _ _ _ _ _ _ _ 0 [(0, _), (1, _)] []
  refine V_aload_n 0 0 dX0_undo_0 rfl ?_
  refine V_dup 1 dX0_undo_1 rfl ?_
  refine V_getI 2 flX0_41 dX0_undo_2 rfl ?_
  refine V_cst 5 1 dX0_undo_5 rfl ?_
  refine V_iload_n 6 1 dX0_undo_6 rfl ?_
  refine V_shl 7 dX0_undo_7 (by omega) ?_
  refine V_cst 8 4294967295 dX0_undo_8 rfl ?_
  refine V_xor 9 dX0_undo_9 ?_
  refine V_and 10 dX0_undo_10 ?_
  refine V_putI 11 flX0_41 ft_0_4 dX0_undo_11 rfl ?_
  refine V_aload_n 14 0 dX0_undo_14 rfl ?_
  refine V_dup 15 dX0_undo_15 rfl ?_
  refine V_getI 16 flX0_44 dX0_undo_16 rfl ?_
  refine V_cst 19 1 dX0_undo_19 rfl ?_
  refine V_iload_n 20 1 dX0_undo_20 rfl ?_
  refine V_shl 21 dX0_undo_21 (by omega) ?_
  refine V_or 22 dX0_undo_22 ?_
  refine V_putI 23 flX0_44 ft_0_5 dX0_undo_23 rfl ?_
  refine V_aload_n 26 0 dX0_undo_26 rfl ?_
  refine V_getR 27 flX0_9 dX0_undo_27 rfl ?_
  refine V_iload_n 30 1 dX0_undo_30 rfl ?_
  refine V_aload_n 31 0 dX0_undo_31 rfl ?_
  refine V_getI 32 flX0_31 dX0_undo_32 rfl ?_
  refine V_iast 35 dX0_undo_35 rfl (by omega) (by omega) ?_
  refine V_aload_n 36 0 dX0_undo_36 rfl ?_
  refine V_dup 37 dX0_undo_37 rfl ?_
  refine V_getI 38 flX0_38 dX0_undo_38 rfl ?_
  refine V_cst 41 1 dX0_undo_41 rfl ?_
  refine V_add 42 dX0_undo_42 ?_
  refine V_putI 43 flX0_38 ft_0_3 dX0_undo_43 rfl ?_
  refine V_ret 46 dX0_undo_46 rfl ⟨rfl, rfl, ?_, ?_⟩
  · simp only [Nat.one_mul]
    rw [cvs_54_3, cva_54_7 hp, cvs_54_5, cvs_54_4]
    rfl
  · exact (((Fr.rf.put (by decide) (by decide)).put (by decide) (by decide)).put (by decide) (by decide)).put (by decide) (by decide)
theorem mk_54 {E : w_E} {P : w_R} {h : Nat} (hE : w_fit d E) (hP : s_POK P) (hh : h < 12) : ∀ (n j : Nat) (I : w_I), j + n = P 6 0 → PRep 15 P I → COK (cv 54 I) →
    (∀ I', cv 54 I' = (List.range' j n).foldl (s_make1 P h) (cv 54 I) → Fr 54 58 I I' → V mX0_makePromises E Ω 0 0 (SH u v) I' L 116 [(0, .ref (Ω.1 + 54)), (1, .int (nI h)), (2, .int (nI (j + n)))] []) →
    V mX0_makePromises E Ω 0 0 (SH u v) I L 2 [(0, .ref (Ω.1 + 54)), (1, .int (nI h)), (2, .int (nI j))] [] := by
  intro n
  induction n with
  | zero =>
    intro j I hj hR hC hk
    have hp := hP.2.2.2.2.1
    refine V_iload_n 2 2 dX0_makePromises_2 rfl ?_
    refine V_aload_n 3 0 dX0_makePromises_3 rfl ?_
    refine V_getR 4 flX0_21 dX0_makePromises_4 rfl ?_
    refine V_getI 7 flX0_80 dX0_makePromises_7 rfl ?_
    rw [hR.2.2.2.2.1]
    refine V_cN_ge 10 116 dX0_makePromises_10 (by decide) (by omega) (by omega) (fun c => ?_) (fun c => ?_)
    · exact hk I rfl Fr.rf
    · omega
  | succ n ih =>
    intro j I hj hR hC hk
    have hp := hP.2.2.2.2.1
    have hjp : j < P 6 0 := by omega
    obtain ⟨q1, q2, q3, q4, q5, q6⟩ := hP.2.2.2.2.2 j hjp
    obtain ⟨r1, r2, r3, r4, r5⟩ := hR.2.2.2.2.2 j hjp
    have hp6 := hP.1.2
    have hd : I 54 1 < 1000000 := hC.1
    have hj2 : 2 ^ j < 4096 := p12 (by omega)
    have hl : P 11 j < 4096 := by omega
    have next : ∀ I1 : w_I, cv 54 I1 = s_make1 P h (cv 54 I) j → Fr 54 58 I I1 → V mX0_makePromises E Ω 0 0 (SH u v) I1 L 110 [(0, .ref (Ω.1 + 54)), (1, .int (nI h)), (2, .int (nI j))] [] := by
      intro I1 h1 h2
      refine V_inc 110 2 _ [(0, _), (1, _), (2, _)] dX0_makePromises_110 rfl rfl rfl (by decide) rfl ?_
      refine V_goto 113 2 dX0_makePromises_113 (by decide) ?_
      refine ih (j + 1) I1 (by omega) (hR.fr h2 (by decide)) (by rw [h1]; exact s_make1_ok hC (by omega) (by omega) (by omega)) (fun I' e1 e2 => ?_)
      rw [show j + 1 + n = j + (n + 1) by omega]
      exact hk I' (by rw [e1, h1]; rfl) (h2.trans e2)
    refine V_iload_n 2 2 dX0_makePromises_2 rfl ?_
    refine V_aload_n 3 0 dX0_makePromises_3 rfl ?_
    refine V_getR 4 flX0_21 dX0_makePromises_4 rfl ?_
    refine V_getI 7 flX0_80 dX0_makePromises_7 rfl ?_
    rw [hR.2.2.2.2.1]
    refine V_cN_ge 10 116 dX0_makePromises_10 (by decide) (by omega) (by omega) (fun c => ?_) (fun c => ?_)
    · omega
    refine V_aload_n 13 0 dX0_makePromises_13 rfl ?_
    refine V_getR 14 flX0_21 dX0_makePromises_14 rfl ?_
    refine V_getR 17 flX0_83 dX0_makePromises_17 rfl ?_
    refine V_iload_n 20 2 dX0_makePromises_20 rfl ?_
    refine V_iald 21 dX0_makePromises_21 rfl (by omega) (by omega) ?_
    refine V_aload_n 22 0 dX0_makePromises_22 rfl ?_
    refine V_getI 23 flX0_31 dX0_makePromises_23 rfl ?_
    rw [r3]
    refine V_cN_ne 26 110 dX0_makePromises_26 (by decide) (by omega) (by omega) (fun c1 => ?_) (fun c1 => ?_)
    · exact next I (by unfold s_make1; rw [if_neg]; rintro ⟨e1, e2⟩; exact c1 e1) Fr.rf
    refine V_aload_n 29 0 dX0_makePromises_29 rfl ?_
    refine V_getR 30 flX0_21 dX0_makePromises_30 rfl ?_
    refine V_getR 33 flX0_86 dX0_makePromises_33 rfl ?_
    refine V_iload_n 36 2 dX0_makePromises_36 rfl ?_
    refine V_iald 37 dX0_makePromises_37 rfl (by omega) (by omega) ?_
    refine V_iload_n 38 1 dX0_makePromises_38 rfl ?_
    rw [r4]
    refine V_cN_ne 39 110 dX0_makePromises_39 (by decide) (by omega) (by omega) (fun c2 => ?_) (fun c2 => ?_)
    · exact next I (by unfold s_make1; rw [if_neg]; rintro ⟨e1, e2⟩; exact c2 e2) Fr.rf
    refine V_aload_n 42 0 dX0_makePromises_42 rfl ?_
    refine V_getR 43 flX0_21 dX0_makePromises_43 rfl ?_
    refine V_getR 46 flX0_89 dX0_makePromises_46 rfl ?_
    refine V_iload_n 49 2 dX0_makePromises_49 rfl ?_
    refine V_iald 50 dX0_makePromises_50 rfl (by omega) (by omega) ?_
    refine V_aload_n 51 0 dX0_makePromises_51 rfl ?_
    refine V_getI 52 flX0_41 dX0_makePromises_52 rfl ?_
    refine V_cst 55 4294967295 dX0_makePromises_55 rfl ?_
    refine V_xor 56 dX0_makePromises_56 ?_
    refine V_and 57 dX0_makePromises_57 ?_
    rw [r5]
    refine V_zN_eq 58 69 dX0_makePromises_58 (by decide) (and_lt1 (by omega)) (fun c3 => ?_) (fun c3 => ?_)
    · refine V_aload_n 69 0 dX0_makePromises_69 rfl ?_
      refine V_dup 70 dX0_makePromises_70 rfl ?_
      refine V_getI 71 flX0_41 dX0_makePromises_71 rfl ?_
      refine V_cst 74 1 dX0_makePromises_74 rfl ?_
      refine V_iload_n 75 2 dX0_makePromises_75 rfl ?_
      refine V_shl 76 dX0_makePromises_76 (by omega) ?_
      refine V_or 77 dX0_makePromises_77 ?_
      refine V_putI 78 flX0_41 ft_0_4 dX0_makePromises_78 rfl ?_
      refine V_aload_n 81 0 dX0_makePromises_81 rfl ?_
      refine V_getR 82 flX0_18 dX0_makePromises_82 rfl ?_
      refine V_iload_n 85 2 dX0_makePromises_85 rfl ?_
      refine V_cst 86 1 dX0_makePromises_86 rfl ?_
      refine V_aload_n 87 0 dX0_makePromises_87 rfl ?_
      refine V_getR 88 flX0_21 dX0_makePromises_88 rfl ?_
      refine V_getR 91 flX0_95 dX0_makePromises_91 rfl ?_
      refine V_iload_n 94 2 dX0_makePromises_94 rfl ?_
      refine V_iald 95 dX0_makePromises_95 rfl (by omega) (by omega) ?_
      rw [w_put_other _ (Or.inl (by decide)), r1]
      refine V_shl 96 dX0_makePromises_96 (by omega) ?_
      refine V_cst 97 1 dX0_makePromises_97 rfl ?_
      refine V_aload_n 98 0 dX0_makePromises_98 rfl ?_
      refine V_getR 99 flX0_21 dX0_makePromises_99 rfl ?_
      refine V_getR 102 flX0_98 dX0_makePromises_102 rfl ?_
      refine V_iload_n 105 2 dX0_makePromises_105 rfl ?_
      refine V_iald 106 dX0_makePromises_106 rfl (by omega) (by omega) ?_
      rw [w_put_other _ (Or.inl (by decide)), r2]
      refine V_shl 107 dX0_makePromises_107 (by omega) ?_
      refine V_or 108 dX0_makePromises_108 ?_
      refine V_iast 109 dX0_makePromises_109 rfl (by omega) (by omega) ?_
      refine next _ ?_ ((Fr.rf.put (by decide) (by decide)).put (by decide) (by decide))
      simp only [Nat.one_mul]
      rw [cva_54_9 (by omega), cvs_54_4]
      unfold s_make1
      rw [if_pos ⟨c1, c2⟩, if_neg (fun e => e c3)]
      rfl
    · refine V_aload_n 61 0 dX0_makePromises_61 rfl ?_
      refine V_iload_n 62 2 dX0_makePromises_62 rfl ?_
      refine V_vv 63 mvX0_92 dX0_makePromises_63 ⟨_, _, _, rfl, rfl, rfl⟩ (w_fit.mono (by omega) hE) (c_undo_54 (d := d) (by omega)) rfl (Nat.le_of_ble_eq_true rfl) ?_
      rintro _ I1 _ ⟨rfl, rfl, h1, h2⟩
      refine V_goto 66 110 dX0_makePromises_66 (by decide) ?_
      refine next I1 ?_ h2
      rw [h1]
      unfold s_make1
      rw [if_pos ⟨c1, c2⟩, if_pos (show P 11 j &&& (cv 54 I 3 0 ^^^ mI) ≠ 0 from c3)]
theorem c_makePromises_54 {P : w_R} {h : Nat} (hP : s_POK P) (hh : h < 12) (hR : PRep 15 P I) (hC : COK (cv 54 I)) : FnV Ω (d + 1) mX0_makePromises [.ref (Ω.1 + 54), .int (nI h)] (SH u v) I L (fun S' I' L' => S' = SH u v ∧ L = L' ∧ cv 54 I' = s_make P h (cv 54 I) (P 6 0) ∧ Fr 54 58 I I') := by
  refine FnR_of okX0_makePromises (Nat.le_of_ble_eq_true rfl) fun l z => ?_
  show V _ _ _ _ _ _ _ _ 0 [(0, _), (1, _)] []
  refine V_cst 0 0 dX0_makePromises_0 rfl ?_
  refine V_istore_n 1 [(0, _), (1, _), (2, _)] dX0_makePromises_1 (by decide) rfl ?_
  refine mk_54 w_fit_r hP hh (P 6 0) 0 I (by omega) hR hC (fun I' h1 h2 => ?_)
  refine V_ret 116 dX0_makePromises_116 rfl ⟨rfl, rfl, ?_, h2⟩
  rw [h1, s_make, List.range_eq_range']
theorem c_trySaying_54 {P Y : w_R} {s : Nat} (hP : s_POK P) (hY : s_YOK P Y) (hR : PRep 15 P I) (hRY : YRep 27 Y I) (hs : s < Y 0 0) (hC : COK (cv 54 I)) : FnV Ω (d + 1) mX0_trySaying [.ref (Ω.1 + 54), .ref (Ω.1 + 27), .int (nI s)] (SH u v) I L (fun S' I' L' => S' = SH u v ∧ L = L' ∧ cv 54 I' = s_say P Y (cv 54 I) s ∧ Fr 54 58 I I') := by
  obtain ⟨y1, y2, y3, y4⟩ := hRY.2 s hs
  obtain ⟨o1, o2, o3, o4⟩ := hY.2 s hs
  have hs60 := hY.1
  have o1b : Y 1 s < 4294967296 := o1.elim (fun h => by omega) (fun h => by rw [h]; decide)
  have h6 := hP.1.2
  have hm12 := hP.2.2.1
  have hp12 := hP.2.2.2.2.1
  have hd : I 54 1 < 1000000 := hC.1
  have hst : I 54 4 < 4096 := hC.2.1
  have hsp : I 54 7 < 64 := hC.2.2.2.2.1
  have hkn : I 56 (Y 4 s) < 64 := by have := hC.2.2.2.2.2.1 (Y 4 s); simp only [cv] at this; rw [if_pos (by omega)] at this; exact this
  have hhe : I 57 (Y 4 s) < 64 := by have := hC.2.2.2.2.2.2 (Y 4 s); simp only [cv] at this; rw [if_pos (by omega)] at this; exact this
  have e8 : cv 54 I 8 (Y 4 s) = I 56 (Y 4 s) := by simp only [cv]; rw [if_pos (by omega)]
  have e9 : cv 54 I 9 (Y 4 s) = I 57 (Y 4 s) := by simp only [cv]; rw [if_pos (by omega)]
  obtain ⟨f1, f2, f3, f4⟩ := hP.2.2.2.1 _ o2
  obtain ⟨r1, r2, r3⟩ := hR.2.2.2.1 _ o2
  have hw := s_who_lt hP o2 (Y := Y)
  have hb := s_both_lt hP o2
  have hpr := hP.2.1 (s_who P Y s) (by omega)
  have hprI := hR.2.1 (s_who P Y s) (by omega)
  have no : ¬ ((Y 1 s = mI ∨ Y 1 s = cv 54 I 0 0) ∧ (cv 54 I 3 0 / 2 ^ Y 4 s) &&& 1 ≠ 0 ∧ (((cv 54 I 8 (Y 4 s) ||| cv 54 I 9 (Y 4 s)) &&& (cv 54 I 6 0 ^^^ mI)) / 2 ^ s_who P Y s) &&& 1 ≠ 0) → cv 54 I = s_say P Y (cv 54 I) s := fun h => by unfold s_say; rw [if_neg h]
  have main : ∀ E : w_E, w_fit d E → (∀ (pc : Nat) (ls : List (Nat × Value)) (I' : w_I), decode cX0_trySaying pc = .ok (.return_, 1) → cv 54 I' = s_say P Y (cv 54 I) s → Fr 54 58 I I' → V mX0_trySaying E Ω 0 0 (SH u v) I' L pc ls []) → V mX0_trySaying E Ω 0 0 (SH u v) I L 0 [(0, .ref (Ω.1 + 54)), (1, .ref (Ω.1 + 27)), (2, .int (nI s))] [] := by
    intro E hE ret
    have k63 : (Y 1 s = mI ∨ Y 1 s = cv 54 I 0 0) → V mX0_trySaying E Ω 0 0 (SH u v) I L 63 [(0, .ref (Ω.1 + 54)), (1, .ref (Ω.1 + 27)), (2, .int (nI s)), (3, .int (nI (Y 2 s))), (4, .int (nI (Y 4 s))), (5, .int (nI (s_both P (Y 2 s))))] [.int (nI (s_who P Y s))] := by
      intro hday
      refine V_istore 63 [(0, _), (1, _), (2, _), (3, _), (4, _), (5, _), (6, _)] dX0_trySaying_63 (by decide) rfl ?_
      refine V_aload_n 65 0 dX0_trySaying_65 rfl ?_
      refine V_getR 66 flX0_15 dX0_trySaying_66 rfl ?_
      refine V_iload 69 4 dX0_trySaying_69 rfl ?_
      refine V_iald 71 dX0_trySaying_71 rfl (by omega) (by omega) ?_
      refine V_aload_n 72 0 dX0_trySaying_72 rfl ?_
      refine V_getR 73 flX0_18 dX0_trySaying_73 rfl ?_
      refine V_iload 76 4 dX0_trySaying_76 rfl ?_
      refine V_iald 78 dX0_trySaying_78 rfl (by omega) (by omega) ?_
      refine V_or 79 dX0_trySaying_79 ?_
      refine V_aload_n 80 0 dX0_trySaying_80 rfl ?_
      refine V_getI 81 flX0_60 dX0_trySaying_81 rfl ?_
      refine V_cst 84 4294967295 dX0_trySaying_84 rfl ?_
      refine V_xor 85 dX0_trySaying_85 ?_
      refine V_and 86 dX0_trySaying_86 ?_
      refine V_istore 87 [(0, _), (1, _), (2, _), (3, _), (4, _), (5, _), (6, _), (7, _)] dX0_trySaying_87 (by decide) rfl ?_
      refine V_aload_n 89 0 dX0_trySaying_89 rfl ?_
      refine V_getI 90 flX0_41 dX0_trySaying_90 rfl ?_
      refine V_iload 93 4 dX0_trySaying_93 rfl ?_
      refine V_shr 95 dX0_trySaying_95 (by omega) (by omega) ?_
      refine V_cst 96 1 dX0_trySaying_96 rfl ?_
      refine V_and 97 dX0_trySaying_97 ?_
      refine V_zN_eq 98 111 dX0_trySaying_98 (by decide) (and_lt2 (by decide)) (fun c3 => ?_) (fun c3 => ?_)
      · exact ret 111 _ I dX0_trySaying_111 (no (fun h => h.2.1 c3)) Fr.rf
      refine V_iload 101 7 dX0_trySaying_101 rfl ?_
      refine V_iload 103 6 dX0_trySaying_103 rfl ?_
      refine V_shr 105 dX0_trySaying_105 (and_lt1 (Nat.lt_of_lt_of_le (or6 hkn hhe) (by decide))) (by omega) ?_
      refine V_cst 106 1 dX0_trySaying_106 rfl ?_
      refine V_and 107 dX0_trySaying_107 ?_
      refine V_zN_ne 108 112 dX0_trySaying_108 (by decide) (and_lt2 (by decide)) (fun c4 => ?_) (fun c4 => ?_)
      rotate_left
      · exact ret 111 _ I dX0_trySaying_111 (no (fun h => h.2.2 (by rw [e8, e9]; exact c4))) Fr.rf
      refine V_aload_n 112 0 dX0_trySaying_112 rfl ?_
      refine V_dup 113 dX0_trySaying_113 rfl ?_
      refine V_getI 114 flX0_60 dX0_trySaying_114 rfl ?_
      refine V_cst 117 1 dX0_trySaying_117 rfl ?_
      refine V_iload 118 6 dX0_trySaying_118 rfl ?_
      refine V_shl 120 dX0_trySaying_120 (by omega) ?_
      refine V_or 121 dX0_trySaying_121 ?_
      refine V_putI 122 flX0_60 ft_0_7 dX0_trySaying_122 rfl ?_
      refine V_aload_n 125 0 dX0_trySaying_125 rfl ?_
      refine V_dup 126 dX0_trySaying_126 rfl ?_
      refine V_getI 127 flX0_35 dX0_trySaying_127 rfl ?_
      refine V_aload_n 130 0 dX0_trySaying_130 rfl ?_
      refine V_getR 131 flX0_21 dX0_trySaying_131 rfl ?_
      refine V_getR 134 flX0_120 dX0_trySaying_134 rfl ?_
      refine V_iload 137 6 dX0_trySaying_137 rfl ?_
      refine V_iald 139 dX0_trySaying_139 rfl (by omega) (by omega) ?_
      rw [w_put_other _ (Or.inl (by decide)), hprI]
      refine V_add 140 dX0_trySaying_140 ?_
      refine V_putI 141 flX0_35 ft_0_2 dX0_trySaying_141 rfl ?_
      refine V_iload 144 5 dX0_trySaying_144 rfl ?_
      refine V_cst 146 1 dX0_trySaying_146 rfl ?_
      refine V_iload 147 6 dX0_trySaying_147 rfl ?_
      refine V_shl 149 dX0_trySaying_149 (by omega) ?_
      refine V_cst 150 4294967295 dX0_trySaying_150 rfl ?_
      refine V_xor 151 dX0_trySaying_151 ?_
      refine V_and 152 dX0_trySaying_152 ?_
      refine V_istore 153 [(0, _), (1, _), (2, _), (3, _), (4, _), (5, _), (6, _), (7, _), (8, _)] dX0_trySaying_153 (by decide) rfl ?_
      refine V_aload_n 155 0 dX0_trySaying_155 rfl ?_
      refine V_getR 156 flX0_18 dX0_trySaying_156 rfl ?_
      refine V_iload 159 4 dX0_trySaying_159 rfl ?_
      refine V_iald 161 dX0_trySaying_161 rfl (by omega) (by omega) ?_
      refine V_iload 162 8 dX0_trySaying_162 rfl ?_
      refine V_and 164 dX0_trySaying_164 ?_
      have hyes : s_say P Y (cv 54 I) s = s_said P Y (cv 54 I) s := by unfold s_say; rw [if_pos ⟨hday, c3, by rw [e8, e9]; exact c4⟩]
      have hh : ∀ A B : Nat, w_put (w_put (cv 54 I) 6 0 A) 1 0 B 9 (Y 4 s) = I 57 (Y 4 s) := fun A B => by rw [w_put_other _ (Or.inl (by decide)), w_put_other _ (Or.inl (by decide)), e9]
      have hh2 : ∀ A B D : Nat, w_put (w_put (w_put (cv 54 I) 6 0 A) 1 0 B) 5 0 D 9 (Y 4 s) = I 57 (Y 4 s) := fun A B D => by rw [w_put_other _ (Or.inl (by decide)), hh]
      simp only [Nat.one_mul]
      simp only [w_put_eq, Nat.reduceEqDiff, false_and, and_false, true_and, and_true, and_self, reduceIte]
      refine V_zN_ne 165 181 dX0_trySaying_165 (by decide) (and_lt1 (by omega)) (fun c6 => ?_) (fun c6 => ?_)
      · refine V_aload_n 181 0 dX0_trySaying_181 rfl ?_
        refine V_getR 182 flX0_18 dX0_trySaying_182 rfl ?_
        refine V_iload 185 4 dX0_trySaying_185 rfl ?_
        refine V_dup2 187 dX0_trySaying_187 rfl rfl ?_
        refine V_iald 188 dX0_trySaying_188 rfl (by omega) (by omega) ?_
        simp only [w_put_eq, Nat.reduceEqDiff, false_and, and_false, true_and, and_true, and_self, reduceIte]
        refine V_iload 189 5 dX0_trySaying_189 rfl ?_
        refine V_or 191 dX0_trySaying_191 ?_
        refine V_iast 192 dX0_trySaying_192 rfl (by omega) (by omega) ?_
        refine ret 193 _ _ dX0_trySaying_193 ?_ (((Fr.rf.put (by decide) (by decide)).put (by decide) (by decide)).put (by decide) (by decide))
        rw [hyes, cva_54_9 (by omega), cvs_54_2, cvs_54_7]
        unfold s_said
        dsimp only
        rw [hh, if_neg c6, hh]
        rfl
      · refine V_aload_n 168 0 dX0_trySaying_168 rfl ?_
        refine V_dup 169 dX0_trySaying_169 rfl ?_
        refine V_getI 170 flX0_47 dX0_trySaying_170 rfl ?_
        refine V_cst 173 1 dX0_trySaying_173 rfl ?_
        refine V_iload 174 4 dX0_trySaying_174 rfl ?_
        refine V_shl 176 dX0_trySaying_176 (by omega) ?_
        refine V_or 177 dX0_trySaying_177 ?_
        refine V_putI 178 flX0_47 ft_0_6 dX0_trySaying_178 rfl ?_
        refine V_aload_n 181 0 dX0_trySaying_181 rfl ?_
        refine V_getR 182 flX0_18 dX0_trySaying_182 rfl ?_
        refine V_iload 185 4 dX0_trySaying_185 rfl ?_
        refine V_dup2 187 dX0_trySaying_187 rfl rfl ?_
        refine V_iald 188 dX0_trySaying_188 rfl (by omega) (by omega) ?_
        simp only [w_put_eq, Nat.reduceEqDiff, false_and, and_false, true_and, and_true, and_self, reduceIte]
        refine V_iload 189 5 dX0_trySaying_189 rfl ?_
        refine V_or 191 dX0_trySaying_191 ?_
        refine V_iast 192 dX0_trySaying_192 rfl (by omega) (by omega) ?_
        refine ret 193 _ _ dX0_trySaying_193 ?_ ((((Fr.rf.put (by decide) (by decide)).put (by decide) (by decide)).put (by decide) (by decide)).put (by decide) (by decide))
        simp only [Nat.one_mul]
        rw [hyes, cva_54_9 (by omega), cvs_54_6, cvs_54_2, cvs_54_7]
        unfold s_said
        dsimp only
        rw [hh, if_pos c6, hh2]
        rfl
    have k24 : (Y 1 s = mI ∨ Y 1 s = cv 54 I 0 0) → V mX0_trySaying E Ω 0 0 (SH u v) I L 24 [(0, .ref (Ω.1 + 54)), (1, .ref (Ω.1 + 27)), (2, .int (nI s))] [] := by
      intro hday
      refine V_aload_n 24 1 dX0_trySaying_24 rfl ?_
      refine V_getR 25 flX0_103 dX0_trySaying_25 rfl ?_
      refine V_iload_n 28 2 dX0_trySaying_28 rfl ?_
      refine V_iald 29 dX0_trySaying_29 rfl (by omega) (by omega) ?_
      rw [y2]
      refine V_istore_n 30 [(0, _), (1, _), (2, _), (3, _)] dX0_trySaying_30 (by decide) rfl ?_
      refine V_aload_n 31 1 dX0_trySaying_31 rfl ?_
      refine V_getR 32 flX0_106 dX0_trySaying_32 rfl ?_
      refine V_iload_n 35 2 dX0_trySaying_35 rfl ?_
      refine V_iald 36 dX0_trySaying_36 rfl (by omega) (by omega) ?_
      rw [y4]
      refine V_istore 37 [(0, _), (1, _), (2, _), (3, _), (4, _)] dX0_trySaying_37 (by decide) rfl ?_
      refine V_aload_n 39 0 dX0_trySaying_39 rfl ?_
      refine V_getR 40 flX0_21 dX0_trySaying_40 rfl ?_
      refine V_iload_n 43 3 dX0_trySaying_43 rfl ?_
      refine V_vi 44 mvX0_109 dX0_trySaying_44 ⟨_, _, _, rfl, rfl, rfl⟩ (w_fit.mono (by omega) hE) (c_bothOf (d := d) hP hR o2) rfl (Nat.le_of_ble_eq_true rfl) ?_
      rintro _ _ _ _ ⟨rfl, rfl, rfl, rfl⟩
      refine V_istore 47 [(0, _), (1, _), (2, _), (3, _), (4, _), (5, _)] dX0_trySaying_47 (by decide) rfl ?_
      refine V_aload_n 49 0 dX0_trySaying_49 rfl ?_
      refine V_getR 50 flX0_21 dX0_trySaying_50 rfl ?_
      refine V_iload_n 53 3 dX0_trySaying_53 rfl ?_
      refine V_aload_n 54 1 dX0_trySaying_54 rfl ?_
      refine V_getR 55 flX0_113 dX0_trySaying_55 rfl ?_
      refine V_iload_n 58 2 dX0_trySaying_58 rfl ?_
      refine V_iald 59 dX0_trySaying_59 rfl (by omega) (by omega) ?_
      rw [y3]
      refine V_vi 60 mvX0_116 dX0_trySaying_60 ⟨_, _, _, rfl, rfl, rfl⟩ (w_fit.mono (by omega) hE) (c_speakerAt (d := d) hP hR o2 o3) rfl (Nat.le_of_ble_eq_true rfl) ?_
      rintro _ _ _ _ ⟨rfl, rfl, rfl, rfl⟩
      rw [show k_sp P (Y 2 s) (Y 3 s) = s_who P Y s from rfl]
      exact k63 hday
    refine V_aload_n 0 1 dX0_trySaying_0 rfl ?_
    refine V_getR 1 flX0_101 dX0_trySaying_1 rfl ?_
    refine V_iload_n 4 2 dX0_trySaying_4 rfl ?_
    refine V_iald 5 dX0_trySaying_5 rfl (by omega) (by omega) ?_
    refine V_cst 6 4294967295 dX0_trySaying_6 rfl ?_
    rw [y1]
    refine V_cN_eq 7 24 dX0_trySaying_7 (by decide) (by omega) (by omega) (fun c1 => ?_) (fun c1 => ?_)
    · exact k24 (Or.inl c1)
    refine V_aload_n 10 1 dX0_trySaying_10 rfl ?_
    refine V_getR 11 flX0_101 dX0_trySaying_11 rfl ?_
    refine V_iload_n 14 2 dX0_trySaying_14 rfl ?_
    refine V_iald 15 dX0_trySaying_15 rfl (by omega) (by omega) ?_
    refine V_aload_n 16 0 dX0_trySaying_16 rfl ?_
    refine V_getI 17 flX0_31 dX0_trySaying_17 rfl ?_
    rw [y1]
    refine V_cN_eq 20 24 dX0_trySaying_20 (by decide) (by omega) (by omega) (fun c2 => ?_) (fun c2 => ?_)
    · exact k24 (Or.inr c2)
    exact ret 23 _ I dX0_trySaying_23 (no (fun h => h.1.elim c1 c2)) Fr.rf
  exact FnR_of okX0_trySaying (Nat.le_of_ble_eq_true rfl) fun l z => main _ w_fit_r (fun pc ls I' hd h1 h2 => V_ret pc hd rfl ⟨rfl, rfl, h1, h2⟩)
end
