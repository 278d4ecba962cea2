section
variable {Ω : w_O} {d u v : Nat} {L : w_L} {E : w_E} {P Y : w_R}
theorem cv_wf (c : Nat) (I : w_I) : CWF (cv c I) := by
  refine ⟨fun k j h1 h2 => ?_, fun k j h1 h2 h3 => ?_, fun k j h1 => ?_⟩
  · rcases (show k = 0 ∨ k = 1 ∨ k = 2 ∨ k = 3 ∨ k = 4 ∨ k = 5 ∨ k = 6 by omega) with rfl | rfl | rfl | rfl | rfl | rfl | rfl <;> exact if_neg h2
  · rcases (show k = 7 ∨ k = 8 ∨ k = 9 by omega) with rfl | rfl | rfl <;> exact if_neg (by omega)
  · unfold cv
    split <;> first | rfl | (exfalso; omega)
/-- what an image keeps of a course: A's day, paid, fallen, what stands, what is undone, when, who knows; the rest is B's -/
def s_copy (A B : w_R) : w_R := fun k j => if k ≤ 4 ∨ k = 7 ∨ k = 8 then A k j else B k j
theorem s_copy_wf {A B : w_R} (hA : CWF A) (hB : CWF B) : CWF (s_copy A B) := by
  unfold s_copy
  refine ⟨fun k j h1 h2 => ?_, fun k j h1 h2 h3 => ?_, fun k j h1 => ?_⟩ <;> dsimp only <;> split
  · exact hA.1 k j h1 h2
  · exact hB.1 k j h1 h2
  · exact hA.2.1 k j h1 h2 h3
  · exact hB.2.1 k j h1 h2 h3
  · exact hA.2.2 k j h1
  · exact hB.2.2 k j h1
theorem cva_get {c k : Nat} {I : w_I} {j : Nat} (hk : k < 3) (hj : j < 12) : cv c I (7 + k) j = I (c + 1 + k) j := by
  rcases (show k = 0 ∨ k = 1 ∨ k = 2 by omega) with rfl | rfl | rfl <;> exact if_pos hj
theorem cp_at {f g : Nat → Nat} {q j : Nat} (h : j < q) : w_cp f g q j = f j := if_pos h
theorem c_copyC_34_46 {I : w_I} : FnV Ω (d + 1) mX0_copyFrom [.ref (Ω.1 + 34), .ref (Ω.1 + 46)] (SH u v) I L (fun S' I' L' => S' = SH u v ∧ L = L' ∧ cv 34 I' = s_copy (cv 46 I) (cv 34 I) ∧ Fr 34 38 I I') := by
  refine FnR_of okX0_copyFrom (Nat.le_of_ble_eq_true rfl) fun l z => ?_
  have hE : w_fit d (w_Er l (d + 1) 0 0 Ω (w_pv (fun S' I' L' => S' = SH u v ∧ L = L' ∧ cv 34 I' = s_copy (cv 46 I) (cv 34 I) ∧ Fr 34 38 I I')) z) := w_fit_r
  show V _ _ _ _ _ _ _ _ 0 [(0, _), (1, _)] []
  refine V_aload_n 0 0 dX0_copyFrom_0 rfl ?_
  refine V_aload_n 1 1 dX0_copyFrom_1 rfl ?_
  refine V_getI 2 flX0_31 dX0_copyFrom_2 rfl ?_
  refine V_putI 5 flX0_31 ft_0_1 dX0_copyFrom_5 rfl ?_
  refine V_aload_n 8 0 dX0_copyFrom_8 rfl ?_
  refine V_aload_n 9 1 dX0_copyFrom_9 rfl ?_
  refine V_getI 10 flX0_35 dX0_copyFrom_10 rfl ?_
  refine V_putI 13 flX0_35 ft_0_2 dX0_copyFrom_13 rfl ?_
  refine V_aload_n 16 0 dX0_copyFrom_16 rfl ?_
  refine V_aload_n 17 1 dX0_copyFrom_17 rfl ?_
  refine V_getI 18 flX0_38 dX0_copyFrom_18 rfl ?_
  refine V_putI 21 flX0_38 ft_0_3 dX0_copyFrom_21 rfl ?_
  refine V_aload_n 24 0 dX0_copyFrom_24 rfl ?_
  refine V_aload_n 25 1 dX0_copyFrom_25 rfl ?_
  refine V_getI 26 flX0_41 dX0_copyFrom_26 rfl ?_
  refine V_putI 29 flX0_41 ft_0_4 dX0_copyFrom_29 rfl ?_
  refine V_aload_n 32 0 dX0_copyFrom_32 rfl ?_
  refine V_aload_n 33 1 dX0_copyFrom_33 rfl ?_
  refine V_getI 34 flX0_44 dX0_copyFrom_34 rfl ?_
  refine V_putI 37 flX0_44 ft_0_5 dX0_copyFrom_37 rfl ?_
  refine V_aload_n 40 1 dX0_copyFrom_40 rfl ?_
  refine V_getR 41 flX0_9 dX0_copyFrom_41 rfl ?_
  refine V_cst 44 0 dX0_copyFrom_44 rfl ?_
  refine V_aload_n 45 0 dX0_copyFrom_45 rfl ?_
  refine V_getR 46 flX0_9 dX0_copyFrom_46 rfl ?_
  refine V_cst 49 0 dX0_copyFrom_49 rfl ?_
  refine V_bip 50 12 dX0_copyFrom_50 rfl ?_
  refine V_copyi 52 maX0_50 dX0_copyFrom_52 (w_fit.mono (by omega) hE) (Nat.le_of_ble_eq_true rfl) rfl rfl (by omega) (by omega) (by omega) ?_
  refine V_aload_n 55 1 dX0_copyFrom_55 rfl ?_
  refine V_getR 56 flX0_15 dX0_copyFrom_56 rfl ?_
  refine V_cst 59 0 dX0_copyFrom_59 rfl ?_
  refine V_aload_n 60 0 dX0_copyFrom_60 rfl ?_
  refine V_getR 61 flX0_15 dX0_copyFrom_61 rfl ?_
  refine V_cst 64 0 dX0_copyFrom_64 rfl ?_
  refine V_bip 65 12 dX0_copyFrom_65 rfl ?_
  refine V_copyi 67 maX0_50 dX0_copyFrom_67 (w_fit.mono (by omega) hE) (Nat.le_of_ble_eq_true rfl) rfl rfl (by omega) (by omega) (by omega) ?_
  refine V_ret 70 dX0_copyFrom_70 rfl ⟨rfl, rfl, ?_, ?_⟩
  · refine cv_eq (s_copy_wf (cv_wf _ _) (cv_wf _ _)) (fun k hk => ?_) (fun k j hk hj => ?_)
    · rcases (show k = 0 ∨ k = 1 ∨ k = 2 ∨ k = 3 ∨ k = 4 ∨ k = 5 ∨ k = 6 by omega) with rfl | rfl | rfl | rfl | rfl | rfl | rfl <;> rfl
    · rcases (show k = 0 ∨ k = 1 ∨ k = 2 by omega) with rfl | rfl | rfl
      · exact (cp_at hj).trans (cva_get (c := 46) (k := 0) (I := I) (by decide) hj).symm
      · exact (cp_at hj).trans (cva_get (c := 46) (k := 1) (I := I) (by decide) hj).symm
      · exact (cva_get (c := 34) (k := 2) (I := I) (by decide) hj).symm
  · exact ((((((Fr.rf.put (by decide) (by decide)).put (by decide) (by decide)).put (by decide) (by decide)).put (by decide) (by decide)).put (by decide) (by decide)).row (by decide) (by decide)).row (by decide) (by decide)
theorem c_copyC_46_34 {I : w_I} : FnV Ω (d + 1) mX0_copyFrom [.ref (Ω.1 + 46), .ref (Ω.1 + 34)] (SH u v) I L (fun S' I' L' => S' = SH u v ∧ L = L' ∧ cv 46 I' = s_copy (cv 34 I) (cv 46 I) ∧ Fr 46 50 I I') := by
  refine FnR_of okX0_copyFrom (Nat.le_of_ble_eq_true rfl) fun l z => ?_
  have hE : w_fit d (w_Er l (d + 1) 0 0 Ω (w_pv (fun S' I' L' => S' = SH u v ∧ L = L' ∧ cv 46 I' = s_copy (cv 34 I) (cv 46 I) ∧ Fr 46 50 I I')) z) := w_fit_r
  show V _ _ _ _ _ _ _ _ 0 [(0, _), (1, _)] []
  refine V_aload_n 0 0 dX0_copyFrom_0 rfl ?_
  refine V_aload_n 1 1 dX0_copyFrom_1 rfl ?_
  refine V_getI 2 flX0_31 dX0_copyFrom_2 rfl ?_
  refine V_putI 5 flX0_31 ft_0_1 dX0_copyFrom_5 rfl ?_
  refine V_aload_n 8 0 dX0_copyFrom_8 rfl ?_
  refine V_aload_n 9 1 dX0_copyFrom_9 rfl ?_
  refine V_getI 10 flX0_35 dX0_copyFrom_10 rfl ?_
  refine V_putI 13 flX0_35 ft_0_2 dX0_copyFrom_13 rfl ?_
  refine V_aload_n 16 0 dX0_copyFrom_16 rfl ?_
  refine V_aload_n 17 1 dX0_copyFrom_17 rfl ?_
  refine V_getI 18 flX0_38 dX0_copyFrom_18 rfl ?_
  refine V_putI 21 flX0_38 ft_0_3 dX0_copyFrom_21 rfl ?_
  refine V_aload_n 24 0 dX0_copyFrom_24 rfl ?_
  refine V_aload_n 25 1 dX0_copyFrom_25 rfl ?_
  refine V_getI 26 flX0_41 dX0_copyFrom_26 rfl ?_
  refine V_putI 29 flX0_41 ft_0_4 dX0_copyFrom_29 rfl ?_
  refine V_aload_n 32 0 dX0_copyFrom_32 rfl ?_
  refine V_aload_n 33 1 dX0_copyFrom_33 rfl ?_
  refine V_getI 34 flX0_44 dX0_copyFrom_34 rfl ?_
  refine V_putI 37 flX0_44 ft_0_5 dX0_copyFrom_37 rfl ?_
  refine V_aload_n 40 1 dX0_copyFrom_40 rfl ?_
  refine V_getR 41 flX0_9 dX0_copyFrom_41 rfl ?_
  refine V_cst 44 0 dX0_copyFrom_44 rfl ?_
  refine V_aload_n 45 0 dX0_copyFrom_45 rfl ?_
  refine V_getR 46 flX0_9 dX0_copyFrom_46 rfl ?_
  refine V_cst 49 0 dX0_copyFrom_49 rfl ?_
  refine V_bip 50 12 dX0_copyFrom_50 rfl ?_
  refine V_copyi 52 maX0_50 dX0_copyFrom_52 (w_fit.mono (by omega) hE) (Nat.le_of_ble_eq_true rfl) rfl rfl (by omega) (by omega) (by omega) ?_
  refine V_aload_n 55 1 dX0_copyFrom_55 rfl ?_
  refine V_getR 56 flX0_15 dX0_copyFrom_56 rfl ?_
  refine V_cst 59 0 dX0_copyFrom_59 rfl ?_
  refine V_aload_n 60 0 dX0_copyFrom_60 rfl ?_
  refine V_getR 61 flX0_15 dX0_copyFrom_61 rfl ?_
  refine V_cst 64 0 dX0_copyFrom_64 rfl ?_
  refine V_bip 65 12 dX0_copyFrom_65 rfl ?_
  refine V_copyi 67 maX0_50 dX0_copyFrom_67 (w_fit.mono (by omega) hE) (Nat.le_of_ble_eq_true rfl) rfl rfl (by omega) (by omega) (by omega) ?_
  refine V_ret 70 dX0_copyFrom_70 rfl ⟨rfl, rfl, ?_, ?_⟩
  · refine cv_eq (s_copy_wf (cv_wf _ _) (cv_wf _ _)) (fun k hk => ?_) (fun k j hk hj => ?_)
    · rcases (show k = 0 ∨ k = 1 ∨ k = 2 ∨ k = 3 ∨ k = 4 ∨ k = 5 ∨ k = 6 by omega) with rfl | rfl | rfl | rfl | rfl | rfl | rfl <;> rfl
    · rcases (show k = 0 ∨ k = 1 ∨ k = 2 by omega) with rfl | rfl | rfl
      · exact (cp_at hj).trans (cva_get (c := 34) (k := 0) (I := I) (by decide) hj).symm
      · exact (cp_at hj).trans (cva_get (c := 34) (k := 1) (I := I) (by decide) hj).symm
      · exact (cva_get (c := 46) (k := 2) (I := I) (by decide) hj).symm
  · exact ((((((Fr.rf.put (by decide) (by decide)).put (by decide) (by decide)).put (by decide) (by decide)).put (by decide) (by decide)).put (by decide) (by decide)).row (by decide) (by decide)).row (by decide) (by decide)
/-! Sayings -/
theorem c_copyY_27 {I : w_I} (hY : Y 0 0 ≤ 60) (hR : YRep 39 Y I) : FnV Ω (d + 1) mX5_copyFrom [.ref (Ω.1 + 27), .ref (Ω.1 + 39)] (SH u v) I L (fun S' I' L' => S' = SH u v ∧ L = L' ∧ YRep 27 Y I' ∧ Fr 27 32 I I') := by
  refine FnR_of okX5_copyFrom (Nat.le_of_ble_eq_true rfl) fun l z => ?_
  have hE : w_fit d (w_Er l (d + 1) 0 0 Ω (w_pv (fun S' I' L' => S' = SH u v ∧ L = L' ∧ YRep 27 Y I' ∧ Fr 27 32 I I')) z) := w_fit_r
  show V _ _ _ _ _ _ _ _ 0 [(0, _), (1, _)] []
  refine V_aload_n 0 0 dX5_copyFrom_0 rfl ?_
  refine V_aload_n 1 1 dX5_copyFrom_1 rfl ?_
  refine V_getI 2 flX5_30 dX5_copyFrom_2 rfl ?_
  refine V_putI 5 flX5_30 ft_5_0 dX5_copyFrom_5 rfl ?_
  refine V_aload_n 8 1 dX5_copyFrom_8 rfl ?_
  refine V_getR 9 flX5_9 dX5_copyFrom_9 rfl ?_
  refine V_cst 12 0 dX5_copyFrom_12 rfl ?_
  refine V_aload_n 13 0 dX5_copyFrom_13 rfl ?_
  refine V_getR 14 flX5_9 dX5_copyFrom_14 rfl ?_
  refine V_cst 17 0 dX5_copyFrom_17 rfl ?_
  refine V_bip 18 60 dX5_copyFrom_18 rfl ?_
  refine V_copyi 20 maX5_42 dX5_copyFrom_20 (w_fit.mono (by omega) hE) (Nat.le_of_ble_eq_true rfl) rfl rfl (by omega) (by omega) (by omega) ?_
  refine V_aload_n 23 1 dX5_copyFrom_23 rfl ?_
  refine V_getR 24 flX5_15 dX5_copyFrom_24 rfl ?_
  refine V_cst 27 0 dX5_copyFrom_27 rfl ?_
  refine V_aload_n 28 0 dX5_copyFrom_28 rfl ?_
  refine V_getR 29 flX5_15 dX5_copyFrom_29 rfl ?_
  refine V_cst 32 0 dX5_copyFrom_32 rfl ?_
  refine V_bip 33 60 dX5_copyFrom_33 rfl ?_
  refine V_copyi 35 maX5_42 dX5_copyFrom_35 (w_fit.mono (by omega) hE) (Nat.le_of_ble_eq_true rfl) rfl rfl (by omega) (by omega) (by omega) ?_
  refine V_aload_n 38 1 dX5_copyFrom_38 rfl ?_
  refine V_getR 39 flX5_18 dX5_copyFrom_39 rfl ?_
  refine V_cst 42 0 dX5_copyFrom_42 rfl ?_
  refine V_aload_n 43 0 dX5_copyFrom_43 rfl ?_
  refine V_getR 44 flX5_18 dX5_copyFrom_44 rfl ?_
  refine V_cst 47 0 dX5_copyFrom_47 rfl ?_
  refine V_bip 48 60 dX5_copyFrom_48 rfl ?_
  refine V_copyi 50 maX5_42 dX5_copyFrom_50 (w_fit.mono (by omega) hE) (Nat.le_of_ble_eq_true rfl) rfl rfl (by omega) (by omega) (by omega) ?_
  refine V_aload_n 53 1 dX5_copyFrom_53 rfl ?_
  refine V_getR 54 flX5_21 dX5_copyFrom_54 rfl ?_
  refine V_cst 57 0 dX5_copyFrom_57 rfl ?_
  refine V_aload_n 58 0 dX5_copyFrom_58 rfl ?_
  refine V_getR 59 flX5_21 dX5_copyFrom_59 rfl ?_
  refine V_cst 62 0 dX5_copyFrom_62 rfl ?_
  refine V_bip 63 60 dX5_copyFrom_63 rfl ?_
  refine V_copyi 65 maX5_42 dX5_copyFrom_65 (w_fit.mono (by omega) hE) (Nat.le_of_ble_eq_true rfl) rfl rfl (by omega) (by omega) (by omega) ?_
  refine V_ret 68 dX5_copyFrom_68 rfl ⟨rfl, rfl, ⟨hR.1, fun s hs => ?_⟩, ((((Fr.rf.put (by decide) (by decide)).row (by decide) (by decide)).row (by decide) (by decide)).row (by decide) (by decide)).row (by decide) (by decide)⟩
  obtain ⟨y1, y2, y3, y4⟩ := hR.2 s hs
  have hs : s < 60 := by omega
  exact ⟨(cp_at hs).trans y1, (cp_at hs).trans y2, (cp_at hs).trans y3, (cp_at hs).trans y4⟩
theorem c_copyY_39 {I : w_I} (hY : Y 0 0 ≤ 60) (hR : YRep 27 Y I) : FnV Ω (d + 1) mX5_copyFrom [.ref (Ω.1 + 39), .ref (Ω.1 + 27)] (SH u v) I L (fun S' I' L' => S' = SH u v ∧ L = L' ∧ YRep 39 Y I' ∧ Fr 39 44 I I') := by
  refine FnR_of okX5_copyFrom (Nat.le_of_ble_eq_true rfl) fun l z => ?_
  have hE : w_fit d (w_Er l (d + 1) 0 0 Ω (w_pv (fun S' I' L' => S' = SH u v ∧ L = L' ∧ YRep 39 Y I' ∧ Fr 39 44 I I')) z) := w_fit_r
  show V _ _ _ _ _ _ _ _ 0 [(0, _), (1, _)] []
  refine V_aload_n 0 0 dX5_copyFrom_0 rfl ?_
  refine V_aload_n 1 1 dX5_copyFrom_1 rfl ?_
  refine V_getI 2 flX5_30 dX5_copyFrom_2 rfl ?_
  refine V_putI 5 flX5_30 ft_5_0 dX5_copyFrom_5 rfl ?_
  refine V_aload_n 8 1 dX5_copyFrom_8 rfl ?_
  refine V_getR 9 flX5_9 dX5_copyFrom_9 rfl ?_
  refine V_cst 12 0 dX5_copyFrom_12 rfl ?_
  refine V_aload_n 13 0 dX5_copyFrom_13 rfl ?_
  refine V_getR 14 flX5_9 dX5_copyFrom_14 rfl ?_
  refine V_cst 17 0 dX5_copyFrom_17 rfl ?_
  refine V_bip 18 60 dX5_copyFrom_18 rfl ?_
  refine V_copyi 20 maX5_42 dX5_copyFrom_20 (w_fit.mono (by omega) hE) (Nat.le_of_ble_eq_true rfl) rfl rfl (by omega) (by omega) (by omega) ?_
  refine V_aload_n 23 1 dX5_copyFrom_23 rfl ?_
  refine V_getR 24 flX5_15 dX5_copyFrom_24 rfl ?_
  refine V_cst 27 0 dX5_copyFrom_27 rfl ?_
  refine V_aload_n 28 0 dX5_copyFrom_28 rfl ?_
  refine V_getR 29 flX5_15 dX5_copyFrom_29 rfl ?_
  refine V_cst 32 0 dX5_copyFrom_32 rfl ?_
  refine V_bip 33 60 dX5_copyFrom_33 rfl ?_
  refine V_copyi 35 maX5_42 dX5_copyFrom_35 (w_fit.mono (by omega) hE) (Nat.le_of_ble_eq_true rfl) rfl rfl (by omega) (by omega) (by omega) ?_
  refine V_aload_n 38 1 dX5_copyFrom_38 rfl ?_
  refine V_getR 39 flX5_18 dX5_copyFrom_39 rfl ?_
  refine V_cst 42 0 dX5_copyFrom_42 rfl ?_
  refine V_aload_n 43 0 dX5_copyFrom_43 rfl ?_
  refine V_getR 44 flX5_18 dX5_copyFrom_44 rfl ?_
  refine V_cst 47 0 dX5_copyFrom_47 rfl ?_
  refine V_bip 48 60 dX5_copyFrom_48 rfl ?_
  refine V_copyi 50 maX5_42 dX5_copyFrom_50 (w_fit.mono (by omega) hE) (Nat.le_of_ble_eq_true rfl) rfl rfl (by omega) (by omega) (by omega) ?_
  refine V_aload_n 53 1 dX5_copyFrom_53 rfl ?_
  refine V_getR 54 flX5_21 dX5_copyFrom_54 rfl ?_
  refine V_cst 57 0 dX5_copyFrom_57 rfl ?_
  refine V_aload_n 58 0 dX5_copyFrom_58 rfl ?_
  refine V_getR 59 flX5_21 dX5_copyFrom_59 rfl ?_
  refine V_cst 62 0 dX5_copyFrom_62 rfl ?_
  refine V_bip 63 60 dX5_copyFrom_63 rfl ?_
  refine V_copyi 65 maX5_42 dX5_copyFrom_65 (w_fit.mono (by omega) hE) (Nat.le_of_ble_eq_true rfl) rfl rfl (by omega) (by omega) (by omega) ?_
  refine V_ret 68 dX5_copyFrom_68 rfl ⟨rfl, rfl, ⟨hR.1, fun s hs => ?_⟩, ((((Fr.rf.put (by decide) (by decide)).row (by decide) (by decide)).row (by decide) (by decide)).row (by decide) (by decide)).row (by decide) (by decide)⟩
  obtain ⟨y1, y2, y3, y4⟩ := hR.2 s hs
  have hs : s < 60 := by omega
  exact ⟨(cp_at hs).trans y1, (cp_at hs).trans y2, (cp_at hs).trans y3, (cp_at hs).trans y4⟩

def s_addY (Y : w_R) (a m w p : Nat) : w_R := w_put (w_put (w_put (w_put (w_put Y 1 (Y 0 0) a) 2 (Y 0 0) m) 3 (Y 0 0) w) 4 (Y 0 0) p) 0 0 (Y 0 0 + 1)
theorem c_add {I : w_I} {a m w p : Nat} (hR : YRep 27 Y I) (hn : Y 0 0 < 60) : FnV Ω d mX5_add [.ref (Ω.1 + 27), .int (nI a), .int (nI m), .int (nI w), .int (nI p)] (SH u v) I L (fun S' I' L' => S' = SH u v ∧ L = L' ∧ YRep 27 (s_addY Y a m w p) I' ∧ Fr 27 32 I I') := by
  have h0 := hR.1
  refine FnR_of okX5_add (Nat.le_of_ble_eq_true rfl) fun l z => ?_
  show V _ _ _ _ _ _ _ _ 0 [(0, _), (1, _), (2, _), (3, _), (4, _)] []
  refine V_aload_n 0 0 dX5_add_0 rfl ?_
  refine V_getR 1 flX5_9 dX5_add_1 rfl ?_
  refine V_aload_n 4 0 dX5_add_4 rfl ?_
  refine V_getI 5 flX5_30 dX5_add_5 rfl ?_
  rw [h0]
  refine V_iload_n 8 1 dX5_add_8 rfl ?_
  refine V_iast 9 dX5_add_9 rfl (by omega) (by omega) ?_
  refine V_aload_n 10 0 dX5_add_10 rfl ?_
  refine V_getR 11 flX5_15 dX5_add_11 rfl ?_
  refine V_aload_n 14 0 dX5_add_14 rfl ?_
  refine V_getI 15 flX5_30 dX5_add_15 rfl ?_
  rw [w_put_other _ (Or.inl (by decide)), h0]
  refine V_iload_n 18 2 dX5_add_18 rfl ?_
  refine V_iast 19 dX5_add_19 rfl (by omega) (by omega) ?_
  refine V_aload_n 20 0 dX5_add_20 rfl ?_
  refine V_getR 21 flX5_18 dX5_add_21 rfl ?_
  refine V_aload_n 24 0 dX5_add_24 rfl ?_
  refine V_getI 25 flX5_30 dX5_add_25 rfl ?_
  simp only [w_put_eq, Nat.reduceEqDiff, false_and, and_false, true_and, and_true, and_self, reduceIte]
  rw [h0]
  refine V_iload_n 28 3 dX5_add_28 rfl ?_
  refine V_iast 29 dX5_add_29 rfl (by omega) (by omega) ?_
  refine V_aload_n 30 0 dX5_add_30 rfl ?_
  refine V_getR 31 flX5_21 dX5_add_31 rfl ?_
  refine V_aload_n 34 0 dX5_add_34 rfl ?_
  refine V_getI 35 flX5_30 dX5_add_35 rfl ?_
  simp only [w_put_eq, Nat.reduceEqDiff, false_and, and_false, true_and, and_true, and_self, reduceIte]
  rw [h0]
  refine V_iload 38 4 dX5_add_38 rfl ?_
  refine V_iast 40 dX5_add_40 rfl (by omega) (by omega) ?_
  refine V_aload_n 41 0 dX5_add_41 rfl ?_
  refine V_dup 42 dX5_add_42 rfl ?_
  refine V_getI 43 flX5_30 dX5_add_43 rfl ?_
  refine V_cst 46 1 dX5_add_46 rfl ?_
  refine V_add 47 dX5_add_47 ?_
  refine V_putI 48 flX5_30 ft_5_0 dX5_add_48 rfl ?_
  refine V_ret 51 dX5_add_51 rfl ⟨rfl, rfl, ⟨?_, fun s hs => ?_⟩, ((((Fr.rf.put (by decide) (by decide)).put (by decide) (by decide)).put (by decide) (by decide)).put (by decide) (by decide)).put (by decide) (by decide)⟩
  · show I 27 0 + 1 = Y 0 0 + 1
    rw [h0]
  · have hs : s < Y 0 0 + 1 := hs
    by_cases e : s = Y 0 0
    · subst e
      unfold s_addY
      simp [w_put_eq]
    · obtain ⟨y1, y2, y3, y4⟩ := hR.2 s (by omega)
      unfold s_addY
      simp only [w_put_eq, e, and_false, if_false, Nat.reduceEqDiff, false_and, reduceIte]
      exact ⟨y1, y2, y3, y4⟩
/-! Plan -/
def s_P0 : w_R := fun k _ => if k = 0 then 2 else if k = 1 then 1 else 0
theorem c_clear {I : w_I} : FnV Ω (d + 1) mX3_clear [.ref (Ω.1 + 3)] (SH u v) I L (fun S' I' L' => S' = SH u v ∧ L = L' ∧ PRep 3 s_P0 I' ∧ Fr 3 5 I I') := by
  refine FnR_of okX3_clear (Nat.le_of_ble_eq_true rfl) fun l z => ?_
  have hE : w_fit d (w_Er l (d + 1) 0 0 Ω (w_pv (fun S' I' L' => S' = SH u v ∧ L = L' ∧ PRep 3 s_P0 I' ∧ Fr 3 5 I I')) z) := w_fit_r
  show V _ _ _ _ _ _ _ _ 0 [(0, _)] []
  refine V_aload_n 0 0 dX3_clear_0 rfl ?_
  refine V_cst 1 2 dX3_clear_1 rfl ?_
  refine V_putI 2 flX3_45 ft_3_0 dX3_clear_2 rfl ?_
  refine V_aload_n 5 0 dX3_clear_5 rfl ?_
  refine V_getR 6 flX3_9 dX3_clear_6 rfl ?_
  refine V_cst 9 1 dX3_clear_9 rfl ?_
  refine V_sv 10 msX3_49 dX3_clear_10 (w_fit.mono (by omega) hE) (c_fill (d := d) (a := 4) (nn := 6) rfl (by decide)) rfl (Nat.le_of_ble_eq_true rfl) ?_
  rintro _ I1 _ ⟨rfl, rfl, h1⟩
  refine V_aload_n 13 0 dX3_clear_13 rfl ?_
  refine V_cst 14 0 dX3_clear_14 rfl ?_
  refine V_putI 15 flX3_55 ft_3_2 dX3_clear_15 rfl ?_
  refine V_aload_n 18 0 dX3_clear_18 rfl ?_
  refine V_cst 19 0 dX3_clear_19 rfl ?_
  refine V_putI 20 flX3_58 ft_3_6 dX3_clear_20 rfl ?_
  subst h1
  refine V_ret 23 dX3_clear_23 rfl ⟨rfl, rfl, ⟨rfl, fun j hj => ?_, rfl, fun j hj => absurd hj (Nat.not_lt_zero _), rfl, fun j hj => absurd hj (Nat.not_lt_zero _)⟩, (((Fr.rf.put (by decide) (by decide)).row (by decide) (by decide)).put (by decide) (by decide)).put (by decide) (by decide)⟩
  exact if_pos hj
theorem c_copyP {I : w_I} (hP : s_POK P) (hR : PRep 3 P I) : FnV Ω (d + 1) mX3_copyFrom [.ref (Ω.1 + 15), .ref (Ω.1 + 3)] (SH u v) I L (fun S' I' L' => S' = SH u v ∧ L = L' ∧ PRep 15 P I' ∧ Fr 15 25 I I') := by
  refine FnR_of okX3_copyFrom (Nat.le_of_ble_eq_true rfl) fun l z => ?_
  have hE : w_fit d (w_Er l (d + 1) 0 0 Ω (w_pv (fun S' I' L' => S' = SH u v ∧ L = L' ∧ PRep 15 P I' ∧ Fr 15 25 I I')) z) := w_fit_r
  obtain ⟨r0, r1, r2, r3, r4, r5⟩ := hR
  have hm := hP.2.2.1
  have hp := hP.2.2.2.2.1
  show V _ _ _ _ _ _ _ _ 0 [(0, _), (1, _)] []
  refine V_aload_n 0 0 dX3_copyFrom_0 rfl ?_
  refine V_aload_n 1 1 dX3_copyFrom_1 rfl ?_
  refine V_getI 2 flX3_45 dX3_copyFrom_2 rfl ?_
  refine V_putI 5 flX3_45 ft_3_0 dX3_copyFrom_5 rfl ?_
  refine V_aload_n 8 1 dX3_copyFrom_8 rfl ?_
  refine V_getR 9 flX3_9 dX3_copyFrom_9 rfl ?_
  refine V_cst 12 0 dX3_copyFrom_12 rfl ?_
  refine V_aload_n 13 0 dX3_copyFrom_13 rfl ?_
  refine V_getR 14 flX3_9 dX3_copyFrom_14 rfl ?_
  refine V_cst 17 0 dX3_copyFrom_17 rfl ?_
  refine V_bip 18 6 dX3_copyFrom_18 rfl ?_
  refine V_copyi 20 maX3_61 dX3_copyFrom_20 (w_fit.mono (by omega) hE) (Nat.le_of_ble_eq_true rfl) rfl rfl (by omega) (by omega) (by omega) ?_
  refine V_aload_n 23 0 dX3_copyFrom_23 rfl ?_
  refine V_aload_n 24 1 dX3_copyFrom_24 rfl ?_
  refine V_getI 25 flX3_55 dX3_copyFrom_25 rfl ?_
  refine V_putI 28 flX3_55 ft_3_2 dX3_copyFrom_28 rfl ?_
  refine V_aload_n 31 1 dX3_copyFrom_31 rfl ?_
  refine V_getR 32 flX3_15 dX3_copyFrom_32 rfl ?_
  refine V_cst 35 0 dX3_copyFrom_35 rfl ?_
  refine V_aload_n 36 0 dX3_copyFrom_36 rfl ?_
  refine V_getR 37 flX3_15 dX3_copyFrom_37 rfl ?_
  refine V_cst 40 0 dX3_copyFrom_40 rfl ?_
  refine V_bip 41 12 dX3_copyFrom_41 rfl ?_
  refine V_copyi 43 maX3_61 dX3_copyFrom_43 (w_fit.mono (by omega) hE) (Nat.le_of_ble_eq_true rfl) rfl rfl (by omega) (by omega) (by omega) ?_
  refine V_aload_n 46 1 dX3_copyFrom_46 rfl ?_
  refine V_getR 47 flX3_18 dX3_copyFrom_47 rfl ?_
  refine V_cst 50 0 dX3_copyFrom_50 rfl ?_
  refine V_aload_n 51 0 dX3_copyFrom_51 rfl ?_
  refine V_getR 52 flX3_18 dX3_copyFrom_52 rfl ?_
  refine V_cst 55 0 dX3_copyFrom_55 rfl ?_
  refine V_bip 56 12 dX3_copyFrom_56 rfl ?_
  refine V_copyi 58 maX3_61 dX3_copyFrom_58 (w_fit.mono (by omega) hE) (Nat.le_of_ble_eq_true rfl) rfl rfl (by omega) (by omega) (by omega) ?_
  refine V_aload_n 61 1 dX3_copyFrom_61 rfl ?_
  refine V_getR 62 flX3_21 dX3_copyFrom_62 rfl ?_
  refine V_cst 65 0 dX3_copyFrom_65 rfl ?_
  refine V_aload_n 66 0 dX3_copyFrom_66 rfl ?_
  refine V_getR 67 flX3_21 dX3_copyFrom_67 rfl ?_
  refine V_cst 70 0 dX3_copyFrom_70 rfl ?_
  refine V_bip 71 12 dX3_copyFrom_71 rfl ?_
  refine V_copyi 73 maX3_61 dX3_copyFrom_73 (w_fit.mono (by omega) hE) (Nat.le_of_ble_eq_true rfl) rfl rfl (by omega) (by omega) (by omega) ?_
  refine V_aload_n 76 0 dX3_copyFrom_76 rfl ?_
  refine V_aload_n 77 1 dX3_copyFrom_77 rfl ?_
  refine V_getI 78 flX3_58 dX3_copyFrom_78 rfl ?_
  refine V_putI 81 flX3_58 ft_3_6 dX3_copyFrom_81 rfl ?_
  refine V_aload_n 84 1 dX3_copyFrom_84 rfl ?_
  refine V_getR 85 flX3_24 dX3_copyFrom_85 rfl ?_
  refine V_cst 88 0 dX3_copyFrom_88 rfl ?_
  refine V_aload_n 89 0 dX3_copyFrom_89 rfl ?_
  refine V_getR 90 flX3_24 dX3_copyFrom_90 rfl ?_
  refine V_cst 93 0 dX3_copyFrom_93 rfl ?_
  refine V_bip 94 12 dX3_copyFrom_94 rfl ?_
  refine V_copyi 96 maX3_61 dX3_copyFrom_96 (w_fit.mono (by omega) hE) (Nat.le_of_ble_eq_true rfl) rfl rfl (by omega) (by omega) (by omega) ?_
  refine V_aload_n 99 1 dX3_copyFrom_99 rfl ?_
  refine V_getR 100 flX3_27 dX3_copyFrom_100 rfl ?_
  refine V_cst 103 0 dX3_copyFrom_103 rfl ?_
  refine V_aload_n 104 0 dX3_copyFrom_104 rfl ?_
  refine V_getR 105 flX3_27 dX3_copyFrom_105 rfl ?_
  refine V_cst 108 0 dX3_copyFrom_108 rfl ?_
  refine V_bip 109 12 dX3_copyFrom_109 rfl ?_
  refine V_copyi 111 maX3_61 dX3_copyFrom_111 (w_fit.mono (by omega) hE) (Nat.le_of_ble_eq_true rfl) rfl rfl (by omega) (by omega) (by omega) ?_
  refine V_aload_n 114 1 dX3_copyFrom_114 rfl ?_
  refine V_getR 115 flX3_30 dX3_copyFrom_115 rfl ?_
  refine V_cst 118 0 dX3_copyFrom_118 rfl ?_
  refine V_aload_n 119 0 dX3_copyFrom_119 rfl ?_
  refine V_getR 120 flX3_30 dX3_copyFrom_120 rfl ?_
  refine V_cst 123 0 dX3_copyFrom_123 rfl ?_
  refine V_bip 124 12 dX3_copyFrom_124 rfl ?_
  refine V_copyi 126 maX3_61 dX3_copyFrom_126 (w_fit.mono (by omega) hE) (Nat.le_of_ble_eq_true rfl) rfl rfl (by omega) (by omega) (by omega) ?_
  refine V_aload_n 129 1 dX3_copyFrom_129 rfl ?_
  refine V_getR 130 flX3_33 dX3_copyFrom_130 rfl ?_
  refine V_cst 133 0 dX3_copyFrom_133 rfl ?_
  refine V_aload_n 134 0 dX3_copyFrom_134 rfl ?_
  refine V_getR 135 flX3_33 dX3_copyFrom_135 rfl ?_
  refine V_cst 138 0 dX3_copyFrom_138 rfl ?_
  refine V_bip 139 12 dX3_copyFrom_139 rfl ?_
  refine V_copyi 141 maX3_61 dX3_copyFrom_141 (w_fit.mono (by omega) hE) (Nat.le_of_ble_eq_true rfl) rfl rfl (by omega) (by omega) (by omega) ?_
  refine V_aload_n 144 1 dX3_copyFrom_144 rfl ?_
  refine V_getR 145 flX3_36 dX3_copyFrom_145 rfl ?_
  refine V_cst 148 0 dX3_copyFrom_148 rfl ?_
  refine V_aload_n 149 0 dX3_copyFrom_149 rfl ?_
  refine V_getR 150 flX3_36 dX3_copyFrom_150 rfl ?_
  refine V_cst 153 0 dX3_copyFrom_153 rfl ?_
  refine V_bip 154 12 dX3_copyFrom_154 rfl ?_
  refine V_copyi 156 maX3_61 dX3_copyFrom_156 (w_fit.mono (by omega) hE) (Nat.le_of_ble_eq_true rfl) rfl rfl (by omega) (by omega) (by omega) ?_
  refine V_ret 159 dX3_copyFrom_159 rfl ⟨rfl, rfl, ⟨r0, fun j hj => (cp_at hj).trans (r1 j hj), r2, fun j hj => ?_, r4, fun j hj => ?_⟩, ?_⟩
  · obtain ⟨a1, a2, a3⟩ := r3 j hj
    have hj : j < 12 := by omega
    exact ⟨(cp_at hj).trans a1, (cp_at hj).trans a2, (cp_at hj).trans a3⟩
  · obtain ⟨a1, a2, a3, a4, a5⟩ := r5 j hj
    have hj : j < 12 := by omega
    exact ⟨(cp_at hj).trans a1, (cp_at hj).trans a2, (cp_at hj).trans a3, (cp_at hj).trans a4, (cp_at hj).trans a5⟩
  · exact (((((((((((Fr.rf.put (by decide) (by decide)).row (by decide) (by decide)).put (by decide) (by decide)).row (by decide) (by decide)).row (by decide) (by decide)).row (by decide) (by decide)).put (by decide) (by decide)).row (by decide) (by decide)).row (by decide) (by decide)).row (by decide) (by decide)).row (by decide) (by decide)).row (by decide) (by decide)
theorem c_everybody {I : w_I} (hP : s_POK P) (hR : PRep 15 P I) : FnI Ω d mX3_everybody [.ref (Ω.1 + 15)] (SH u v) I L (fun r S' I' L' => r = nI (2 ^ P 0 0 - 1) ∧ S' = SH u v ∧ I = I' ∧ L = L') := by
  have h6 := hP.1.2
  have h2 := Nat.two_pow_pos (P 0 0)
  refine FnR_of okX3_everybody (Nat.le_of_ble_eq_true rfl) fun l z => ?_
  show V _ _ _ _ _ _ _ _ 0 [(0, _)] []
  refine V_cst 0 1 dX3_everybody_0 rfl ?_
  refine V_aload_n 1 0 dX3_everybody_1 rfl ?_
  refine V_getI 2 flX3_45 dX3_everybody_2 rfl ?_
  rw [hR.1]
  refine V_shl 5 dX3_everybody_5 (by omega) ?_
  refine V_cst 6 1 dX3_everybody_6 rfl ?_
  refine V_sub1 7 dX3_everybody_7 (by omega) ?_
  exact V_iret 8 dX3_everybody_8 rfl ⟨by rw [Nat.one_mul], rfl, rfl, rfl⟩
def s_addM (P : w_R) (a b h : Nat) : w_R := w_put (w_put (w_put (w_put P 3 (P 2 0) a) 4 (P 2 0) b) 5 (P 2 0) h) 2 0 (P 2 0 + 1)
theorem c_addMeeting {I : w_I} {a b h : Nat} (hR : PRep 3 P I) (hn : P 2 0 < 12) : FnV Ω d mX3_addMeeting [.ref (Ω.1 + 3), .int (nI a), .int (nI b), .int (nI h)] (SH u v) I L (fun S' I' L' => S' = SH u v ∧ L = L' ∧ PRep 3 (s_addM P a b h) I' ∧ Fr 3 15 I I') := by
  obtain ⟨r0, r1, r2, r3, r4, r5⟩ := hR
  refine FnR_of okX3_addMeeting (Nat.le_of_ble_eq_true rfl) fun l z => ?_
  show V _ _ _ _ _ _ _ _ 0 [(0, _), (1, _), (2, _), (3, _)] []
  refine V_aload_n 0 0 dX3_addMeeting_0 rfl ?_
  refine V_getR 1 flX3_15 dX3_addMeeting_1 rfl ?_
  refine V_aload_n 4 0 dX3_addMeeting_4 rfl ?_
  refine V_getI 5 flX3_55 dX3_addMeeting_5 rfl ?_
  rw [r2]
  refine V_iload_n 8 1 dX3_addMeeting_8 rfl ?_
  refine V_iast 9 dX3_addMeeting_9 rfl (by omega) (by omega) ?_
  refine V_aload_n 10 0 dX3_addMeeting_10 rfl ?_
  refine V_getR 11 flX3_18 dX3_addMeeting_11 rfl ?_
  refine V_aload_n 14 0 dX3_addMeeting_14 rfl ?_
  refine V_getI 15 flX3_55 dX3_addMeeting_15 rfl ?_
  simp only [w_put_eq, Nat.reduceEqDiff, false_and, and_false, true_and, and_true, and_self, reduceIte]
  rw [r2]
  refine V_iload_n 18 2 dX3_addMeeting_18 rfl ?_
  refine V_iast 19 dX3_addMeeting_19 rfl (by omega) (by omega) ?_
  refine V_aload_n 20 0 dX3_addMeeting_20 rfl ?_
  refine V_getR 21 flX3_21 dX3_addMeeting_21 rfl ?_
  refine V_aload_n 24 0 dX3_addMeeting_24 rfl ?_
  refine V_getI 25 flX3_55 dX3_addMeeting_25 rfl ?_
  simp only [w_put_eq, Nat.reduceEqDiff, false_and, and_false, true_and, and_true, and_self, reduceIte]
  rw [r2]
  refine V_iload_n 28 3 dX3_addMeeting_28 rfl ?_
  refine V_iast 29 dX3_addMeeting_29 rfl (by omega) (by omega) ?_
  refine V_aload_n 30 0 dX3_addMeeting_30 rfl ?_
  refine V_dup 31 dX3_addMeeting_31 rfl ?_
  refine V_getI 32 flX3_55 dX3_addMeeting_32 rfl ?_
  refine V_cst 35 1 dX3_addMeeting_35 rfl ?_
  refine V_add 36 dX3_addMeeting_36 ?_
  refine V_putI 37 flX3_55 ft_3_2 dX3_addMeeting_37 rfl ?_
  refine V_ret 40 dX3_addMeeting_40 rfl ⟨rfl, rfl, ⟨r0, r1, ?_, fun j hj => ?_, r4, r5⟩, (((Fr.rf.put (by decide) (by decide)).put (by decide) (by decide)).put (by decide) (by decide)).put (by decide) (by decide)⟩
  · show I 3 2 + 1 = P 2 0 + 1
    rw [r2]
  · have hj : j < P 2 0 + 1 := hj
    by_cases e : j = P 2 0
    · subst e
      unfold s_addM
      simp [w_put_eq]
    · obtain ⟨y1, y2, y3⟩ := r3 j (by omega)
      unfold s_addM
      simp only [w_put_eq, e, and_false, if_false, Nat.reduceEqDiff, false_and, reduceIte, Nat.reduceAdd]
      exact ⟨y1, y2, y3⟩
def s_addP (P : w_R) (a b dd h ln : Nat) : w_R := w_put (w_put (w_put (w_put (w_put (w_put P 7 (P 6 0) a) 8 (P 6 0) b) 9 (P 6 0) dd) 10 (P 6 0) h) 11 (P 6 0) ln) 6 0 (P 6 0 + 1)
theorem c_addPromise {I : w_I} {a b dd h ln : Nat} (hR : PRep 3 P I) (hn : P 6 0 < 12) : FnV Ω d mX3_addPromise [.ref (Ω.1 + 3), .int (nI a), .int (nI b), .int (nI dd), .int (nI h), .int (nI ln)] (SH u v) I L (fun S' I' L' => S' = SH u v ∧ L = L' ∧ PRep 3 (s_addP P a b dd h ln) I' ∧ Fr 3 15 I I') := by
  obtain ⟨r0, r1, r2, r3, r4, r5⟩ := hR
  refine FnR_of okX3_addPromise (Nat.le_of_ble_eq_true rfl) fun l z => ?_
  show V _ _ _ _ _ _ _ _ 0 [(0, _), (1, _), (2, _), (3, _), (4, _), (5, _)] []
  refine V_aload_n 0 0 dX3_addPromise_0 rfl ?_
  refine V_getR 1 flX3_24 dX3_addPromise_1 rfl ?_
  refine V_aload_n 4 0 dX3_addPromise_4 rfl ?_
  refine V_getI 5 flX3_58 dX3_addPromise_5 rfl ?_
  rw [r4]
  refine V_iload_n 8 1 dX3_addPromise_8 rfl ?_
  refine V_iast 9 dX3_addPromise_9 rfl (by omega) (by omega) ?_
  refine V_aload_n 10 0 dX3_addPromise_10 rfl ?_
  refine V_getR 11 flX3_27 dX3_addPromise_11 rfl ?_
  refine V_aload_n 14 0 dX3_addPromise_14 rfl ?_
  refine V_getI 15 flX3_58 dX3_addPromise_15 rfl ?_
  simp only [w_put_eq, Nat.reduceEqDiff, false_and, and_false, true_and, and_true, and_self, reduceIte]
  rw [r4]
  refine V_iload_n 18 2 dX3_addPromise_18 rfl ?_
  refine V_iast 19 dX3_addPromise_19 rfl (by omega) (by omega) ?_
  refine V_aload_n 20 0 dX3_addPromise_20 rfl ?_
  refine V_getR 21 flX3_30 dX3_addPromise_21 rfl ?_
  refine V_aload_n 24 0 dX3_addPromise_24 rfl ?_
  refine V_getI 25 flX3_58 dX3_addPromise_25 rfl ?_
  simp only [w_put_eq, Nat.reduceEqDiff, false_and, and_false, true_and, and_true, and_self, reduceIte]
  rw [r4]
  refine V_iload_n 28 3 dX3_addPromise_28 rfl ?_
  refine V_iast 29 dX3_addPromise_29 rfl (by omega) (by omega) ?_
  refine V_aload_n 30 0 dX3_addPromise_30 rfl ?_
  refine V_getR 31 flX3_33 dX3_addPromise_31 rfl ?_
  refine V_aload_n 34 0 dX3_addPromise_34 rfl ?_
  refine V_getI 35 flX3_58 dX3_addPromise_35 rfl ?_
  simp only [w_put_eq, Nat.reduceEqDiff, false_and, and_false, true_and, and_true, and_self, reduceIte]
  rw [r4]
  refine V_iload 38 4 dX3_addPromise_38 rfl ?_
  refine V_iast 40 dX3_addPromise_40 rfl (by omega) (by omega) ?_
  refine V_aload_n 41 0 dX3_addPromise_41 rfl ?_
  refine V_getR 42 flX3_36 dX3_addPromise_42 rfl ?_
  refine V_aload_n 45 0 dX3_addPromise_45 rfl ?_
  refine V_getI 46 flX3_58 dX3_addPromise_46 rfl ?_
  simp only [w_put_eq, Nat.reduceEqDiff, false_and, and_false, true_and, and_true, and_self, reduceIte]
  rw [r4]
  refine V_iload 49 5 dX3_addPromise_49 rfl ?_
  refine V_iast 51 dX3_addPromise_51 rfl (by omega) (by omega) ?_
  refine V_aload_n 52 0 dX3_addPromise_52 rfl ?_
  refine V_dup 53 dX3_addPromise_53 rfl ?_
  refine V_getI 54 flX3_58 dX3_addPromise_54 rfl ?_
  refine V_cst 57 1 dX3_addPromise_57 rfl ?_
  refine V_add 58 dX3_addPromise_58 ?_
  refine V_putI 59 flX3_58 ft_3_6 dX3_addPromise_59 rfl ?_
  refine V_ret 62 dX3_addPromise_62 rfl ⟨rfl, rfl, ⟨r0, r1, r2, r3, ?_, fun j hj => ?_⟩, (((((Fr.rf.put (by decide) (by decide)).put (by decide) (by decide)).put (by decide) (by decide)).put (by decide) (by decide)).put (by decide) (by decide)).put (by decide) (by decide)⟩
  · show I 3 6 + 1 = P 6 0 + 1
    rw [r4]
  · have hj : j < P 6 0 + 1 := hj
    by_cases e : j = P 6 0
    · subst e
      unfold s_addP
      simp [w_put_eq]
    · obtain ⟨y1, y2, y3, y4, y5⟩ := r5 j (by omega)
      unfold s_addP
      simp only [w_put_eq, e, and_false, if_false, Nat.reduceEqDiff, false_and, reduceIte, Nat.reduceAdd]
      exact ⟨y1, y2, y3, y4, y5⟩
end
