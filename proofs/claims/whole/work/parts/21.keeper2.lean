/-! Keeper -/
/-- which of the two rows is which: some is cell 60, oneMore cell 61 -/
def UV (u v : Nat) : Prop := u = 60 ∧ v = 61
/-- what a saying weighs, in small numbers -/
def k_w (P : w_R) (si : Nat) (bp : Bool) (i : Nat) : Nat := if (si / 2 ^ i) &&& 1 ≠ 0 then FAS else (if bp then P 1 i else 1)
def GW (P : w_R) (w : Nat → Nat) (I : w_I) : Prop := ∀ i, i < P 0 0 → I 59 i = w i
def GF (P : w_R) (f : Nat → Nat) (I : w_I) : Prop := ∀ i, i < P 0 0 → I 60 i = f i
section
variable {Ω : w_O} {d u v : Nat} {I : w_I} {L : w_L} {E : w_E} {P : w_R} {w f : Nat → Nat}
theorem GW.fr {I' : w_I} {lo hi : Nat} (h : GW P w I) (hf : Fr lo hi I I') (hb : 60 ≤ lo ∨ hi ≤ 59) : GW P w I' := by
  unfold GW
  rw [hf 59 (by omega)]
  exact h
theorem GF.fr {I' : w_I} {lo hi : Nat} (h : GF P f I) (hf : Fr lo hi I I') (hb : 61 ≤ lo ∨ hi ≤ 60) : GF P f I' := by
  unfold GF
  rw [hf 60 (by omega)]
  exact h
theorem bit1_lt (x : Nat) : x &&& 1 < 4294967296 := and_lt2 (by decide)
/-! prepare -/
theorem kp_l {si : Nat} {bp : Bool} {b : Nat} (hE : w_fit d E) (hP : s_POK P) (hsi : si < 64) (hb : b < 2) (hbp : b ≠ 0 ↔ bp = true) : ∀ (n j : Nat) (I : w_I), j + n = P 0 0 → PRep 15 P I → (∀ i, i < j → I 59 i = k_w P si bp i) →
    (∀ I', Fr 59 60 I I' → GW P (k_w P si bp) I' → V mX2_prepare E Ω 0 0 (SH u v) I' L 59 [(0, .ref (Ω.1 + 58)), (1, .int (nI si)), (2, .int (nI b)), (3, .int (nI (P 0 0)))] []) →
    V mX2_prepare E Ω 0 0 (SH u v) I L 2 [(0, .ref (Ω.1 + 58)), (1, .int (nI si)), (2, .int (nI b)), (3, .int (nI j))] [] := by
  have h6 := hP.1.2
  intro n
  induction n with
  | zero =>
    intro j I hj hR hl hk
    have e : j = P 0 0 := by omega
    subst e
    refine V_iload_n 2 3 dX2_prepare_2 rfl ?_
    refine V_aload_n 3 0 dX2_prepare_3 rfl ?_
    refine V_getR 4 flX2_21 dX2_prepare_4 rfl ?_
    refine V_getI 7 flX2_25 dX2_prepare_7 rfl ?_
    rw [hR.1]
    refine V_cN_ge 10 59 dX2_prepare_10 (by decide) (by omega) (by omega) (fun c => ?_) (fun c => ?_)
    · exact hk I Fr.rf hl
    · omega
  | succ n ih =>
    intro j I hj hR hl hk
    have hpr := hP.2.1 j (by omega)
    have hprI := hR.2.1 j (by omega)
    have k30 : ∀ x, x = (if bp then P 1 j else 1) → V mX2_prepare E Ω 0 0 (SH u v) I L 30 [(0, .ref (Ω.1 + 58)), (1, .int (nI si)), (2, .int (nI b)), (3, .int (nI j))] [.int (nI x)] := by
      intro x hx
      have fin : ∀ y, y = k_w P si bp j → V mX2_prepare E Ω 0 0 (SH u v) I L 52 [(0, .ref (Ω.1 + 58)), (1, .int (nI si)), (2, .int (nI b)), (3, .int (nI j)), (4, .int (nI x))] [.int (nI y), .int (nI j), .ref (Ω.1 + 59)] := by
        intro y hy
        refine V_iast 52 dX2_prepare_52 rfl (by omega) (by omega) ?_
        refine V_inc 53 3 _ [(0, _), (1, _), (2, _), (3, _), (4, _)] dX2_prepare_53 rfl rfl rfl (by decide) rfl ?_
        refine V_goto 56 2 dX2_prepare_56 (by decide) ?_
        refine V_sub [(0, _), (1, _), (2, _), (3, _)] [0, 1, 2, 3] rfl ?_
        have hf : Fr 59 60 I (w_put I 59 j y) := Fr.rf.put (by decide) (by decide)
        refine ih (j + 1) _ (by omega) (hR.fr hf (by decide)) (fun i hi => ?_) (fun I' h1 h2 => hk I' (hf.trans h1) h2)
        by_cases e : i = j
        · rw [e, w_put_same, hy]
        · rw [w_put_other _ (Or.inr e)]; exact hl i (by omega)
      refine V_istore 30 [(0, _), (1, _), (2, _), (3, _), (4, _)] dX2_prepare_30 (by decide) rfl ?_
      refine V_aload_n 32 0 dX2_prepare_32 rfl ?_
      refine V_getR 33 flX2_9 dX2_prepare_33 rfl ?_
      refine V_iload_n 36 3 dX2_prepare_36 rfl ?_
      refine V_iload_n 37 1 dX2_prepare_37 rfl ?_
      refine V_iload_n 38 3 dX2_prepare_38 rfl ?_
      refine V_shr 39 dX2_prepare_39 (by omega) (by omega) ?_
      refine V_cst 40 1 dX2_prepare_40 rfl ?_
      refine V_and 41 dX2_prepare_41 ?_
      refine V_zN_eq 42 50 dX2_prepare_42 (by decide) (bit1_lt _) (fun c1 => ?_) (fun c1 => ?_)
      · refine V_iload 50 4 dX2_prepare_50 rfl ?_
        exact fin _ (by unfold k_w; rw [if_neg (fun e => e c1), ← hx])
      · refine V_ldcN 45 268435456 kcX2_34 dX2_prepare_45 rfl ?_
        refine V_goto 47 52 dX2_prepare_47 (by decide) ?_
        exact fin _ (by unfold k_w; rw [if_pos c1])
    refine V_iload_n 2 3 dX2_prepare_2 rfl ?_
    refine V_aload_n 3 0 dX2_prepare_3 rfl ?_
    refine V_getR 4 flX2_21 dX2_prepare_4 rfl ?_
    refine V_getI 7 flX2_25 dX2_prepare_7 rfl ?_
    rw [hR.1]
    refine V_cN_ge 10 59 dX2_prepare_10 (by decide) (by omega) (by omega) (fun c => ?_) (fun c => ?_)
    · omega
    refine V_iload_n 13 2 dX2_prepare_13 rfl ?_
    refine V_zN_eq 14 29 dX2_prepare_14 (by decide) (by omega) (fun c2 => ?_) (fun c2 => ?_)
    · refine V_cst 29 1 dX2_prepare_29 rfl ?_
      refine k30 1 ?_
      rw [if_neg (fun e => hbp.mpr e c2)]
    · refine V_aload_n 17 0 dX2_prepare_17 rfl ?_
      refine V_getR 18 flX2_21 dX2_prepare_18 rfl ?_
      refine V_getR 21 flX2_31 dX2_prepare_21 rfl ?_
      refine V_iload_n 24 3 dX2_prepare_24 rfl ?_
      refine V_iald 25 dX2_prepare_25 rfl (by omega) (by omega) ?_
      rw [hprI]
      refine V_goto 26 30 dX2_prepare_26 (by decide) ?_
      refine k30 _ ?_
      rw [if_pos (hbp.mp c2)]
theorem c_prepare {si : Nat} {bp : Bool} {b : Nat} (hP : s_POK P) (hR : PRep 15 P I) (hsi : si < 64) (hb : b < 2) (hbp : b ≠ 0 ↔ bp = true) : FnV Ω (d + 1) mX2_prepare [.ref (Ω.1 + 58), .int (nI si), .int (nI b)] (SH u v) I L (fun S' I' L' => S' = SH u v ∧ L = L' ∧ GW P (k_w P si bp) I' ∧ Fr 59 60 I I') := by
  refine FnR_of okX2_prepare (Nat.le_of_ble_eq_true rfl) fun l z => ?_
  show V _ _ _ _ _ _ _ _ 0 [(0, _), (1, _), (2, _)] []
  refine V_cst 0 0 dX2_prepare_0 rfl ?_
  refine V_istore_n 1 [(0, _), (1, _), (2, _), (3, _)] dX2_prepare_1 (by decide) rfl ?_
  refine kp_l (d := d) w_fit_r hP hsi hb hbp (P 0 0) 0 I (by omega) hR (fun i hi => absurd hi (Nat.not_lt_zero _)) (fun I' h1 h2 => ?_)
  exact V_ret 59 dX2_prepare_59 rfl ⟨rfl, rfl, h2, h1⟩
/-! sumBehind -/
theorem c_sumBehind {m : Nat} (hu : UV u v) (hP : s_POK P) (hR : PRep 15 P I) (hm : m < P 2 0) (hF : GF P f I) (hfb : ∀ i, f i ≤ FAS) : FnI Ω (d + 1) mX2_sumBehind [.ref (Ω.1 + 58), .int (nI m)] (SH u v) I L (fun r S' I' L' => r = nI (g_bh P f m) ∧ S' = SH u v ∧ I = I' ∧ L = L') := by
  obtain ⟨rfl, rfl⟩ := hu
  obtain ⟨f1, f2, f3, f4⟩ := hP.2.2.2.1 m hm
  obtain ⟨r1, r2, r3⟩ := hR.2.2.2.1 m hm
  have h6 := hP.1.2
  have h12 := hP.2.2.1
  have b1 := hfb (P 3 m)
  have b2 := hfb (P 4 m)
  have hS : FAS = 268435456 := rfl
  refine FnR_of okX2_sumBehind (Nat.le_of_ble_eq_true rfl) fun l z => ?_
  have hE : w_fit d (w_Er l (d + 1) 0 0 Ω (w_pi (fun r S' I' L' => r = nI (g_bh P f m) ∧ S' = SH 60 61 ∧ I = I' ∧ L = L')) z) := w_fit_r
  show V _ _ _ _ _ _ _ _ 0 [(0, _), (1, _)] []
  refine V_aload_n 0 0 dX2_sumBehind_0 rfl ?_
  refine V_getR 1 flX2_15 dX2_sumBehind_1 rfl ?_
  refine V_aload_n 4 0 dX2_sumBehind_4 rfl ?_
  refine V_getR 5 flX2_21 dX2_sumBehind_5 rfl ?_
  refine V_getR 8 flX2_79 dX2_sumBehind_8 rfl ?_
  refine V_iload_n 11 1 dX2_sumBehind_11 rfl ?_
  refine V_iald 12 dX2_sumBehind_12 rfl (by omega) (by omega) ?_
  rw [r1]
  refine V_iald 13 dX2_sumBehind_13 rfl (by omega) (by omega) ?_
  rw [hF _ f1]
  refine V_aload_n 14 0 dX2_sumBehind_14 rfl ?_
  refine V_getR 15 flX2_15 dX2_sumBehind_15 rfl ?_
  refine V_aload_n 18 0 dX2_sumBehind_18 rfl ?_
  refine V_getR 19 flX2_21 dX2_sumBehind_19 rfl ?_
  refine V_getR 22 flX2_82 dX2_sumBehind_22 rfl ?_
  refine V_iload_n 25 1 dX2_sumBehind_25 rfl ?_
  refine V_iald 26 dX2_sumBehind_26 rfl (by omega) (by omega) ?_
  rw [r2]
  refine V_iald 27 dX2_sumBehind_27 rfl (by omega) (by omega) ?_
  rw [hF _ f2]
  refine V_mini 28 (by omega) (by omega) mnX2_68 dX2_sumBehind_28 (w_fit.mono (by omega) hE) (Nat.le_of_ble_eq_true rfl) ?_
  exact V_iret 31 dX2_sumBehind_31 rfl ⟨rfl, rfl, rfl, rfl⟩
/-! addDay -/
theorem ad_l (hE : w_fit (d + 1) E) (hP : s_POK P) (hfb : ∀ i, f i ≤ FAS) (hwb : ∀ i, w i ≤ FAS) : ∀ (n m : Nat) (I : w_I), m + n = P 2 0 → PRep 15 P I → GW P w I → GF P f I → (∀ i, i < P 0 0 → I 61 i = g_in P FAS w f m i) →
    (∀ I', Fr 61 62 I I' → (∀ i, i < P 0 0 → I' 61 i = g_in P FAS w f (P 2 0) i) → V mX2_addDay E Ω 0 0 (SH 60 61) I' L 84 [(0, .ref (Ω.1 + 58)), (1, .int (nI (P 2 0)))] []) →
    V mX2_addDay E Ω 0 0 (SH 60 61) I L 11 [(0, .ref (Ω.1 + 58)), (1, .int (nI m))] [] := by
  have h6 := hP.1.2
  have h12 := hP.2.2.1
  have hS : FAS = 268435456 := rfl
  intro n
  induction n with
  | zero =>
    intro m I hj hR hW hF hl hk
    have e : m = P 2 0 := by omega
    subst e
    refine V_iload_n 11 1 dX2_addDay_11 rfl ?_
    refine V_aload_n 12 0 dX2_addDay_12 rfl ?_
    refine V_getR 13 flX2_21 dX2_addDay_13 rfl ?_
    refine V_getI 16 flX2_39 dX2_addDay_16 rfl ?_
    rw [hR.2.2.1]
    refine V_cN_ge 19 84 dX2_addDay_19 (by decide) (by omega) (by omega) (fun c => ?_) (fun c => ?_)
    · exact hk I Fr.rf hl
    · omega
  | succ n ih =>
    intro m I hj hR hW hF hl hk
    have hm : m < P 2 0 := by omega
    obtain ⟨f1, f2, f3, f4⟩ := hP.2.2.2.1 m hm
    have b1 := g_in_le (P := P) (F := FAS) (W := w) (f := f) m (P 3 m)
    have b2 := g_in_le (P := P) (F := FAS) (W := w) (f := f) m (P 4 m)
    have b3 := hwb (P 3 m)
    have b4 := hwb (P 4 m)
    have b5 : g_bh P f m ≤ FAS := Nat.le_trans (g_bh_l m (Or.inl rfl)) (hfb _)
    refine V_iload_n 11 1 dX2_addDay_11 rfl ?_
    refine V_aload_n 12 0 dX2_addDay_12 rfl ?_
    refine V_getR 13 flX2_21 dX2_addDay_13 rfl ?_
    refine V_getI 16 flX2_39 dX2_addDay_16 rfl ?_
    rw [hR.2.2.1]
    refine V_cN_ge 19 84 dX2_addDay_19 (by decide) (by omega) (by omega) (fun c => ?_) (fun c => ?_)
    · omega
    refine V_aload_n 22 0 dX2_addDay_22 rfl ?_
    refine V_iload_n 23 1 dX2_addDay_23 rfl ?_
    refine V_vi 24 mvX2_45 dX2_addDay_24 ⟨_, _, _, rfl, rfl, rfl⟩ (w_fit.mono (by omega) hE) (c_sumBehind (d := d) (f := f) ⟨rfl, rfl⟩ hP hR hm hF hfb) rfl (Nat.le_of_ble_eq_true rfl) ?_
    rintro _ _ _ _ ⟨rfl, rfl, rfl, rfl⟩
    generalize hbh : g_bh P f m = bh at b5 ⊢
    refine V_istore_n 27 [(0, _), (1, _), (2, _)] dX2_addDay_27 (by decide) rfl ?_
    refine V_cst 28 0 dX2_addDay_28 rfl ?_
    refine V_istore_n 29 [(0, _), (1, _), (2, _), (3, _)] dX2_addDay_29 (by decide) rfl ?_
    refine V_iload_n 30 3 dX2_addDay_30 rfl ?_
    refine V_cst 31 1 dX2_addDay_31 rfl ?_
    refine V_cN_gt 32 78 dX2_addDay_32 (by decide) (by omega) (by omega) (fun c0 => ?_) (fun c0 => ?_)
    · omega
    refine V_aload_n 35 0 dX2_addDay_35 rfl ?_
    refine V_getR 36 flX2_21 dX2_addDay_36 rfl ?_
    refine V_iload_n 39 1 dX2_addDay_39 rfl ?_
    refine V_iload_n 40 3 dX2_addDay_40 rfl ?_
    refine V_vi 41 mvX2_49 dX2_addDay_41 ⟨_, _, _, rfl, rfl, rfl⟩ (w_fit.mono (by omega) hE) (c_speakerAt (d := d) hP hR hm (by decide)) rfl (Nat.le_of_ble_eq_true rfl) ?_
    rintro _ _ _ _ ⟨rfl, rfl, rfl, rfl⟩
    rw [show k_sp P m 0 = P 3 m from rfl]
    refine V_istore 44 [(0, _), (1, _), (2, _), (3, _), (4, _)] dX2_addDay_44 (by decide) rfl ?_
    refine V_aload_n 46 0 dX2_addDay_46 rfl ?_
    refine V_getR 47 flX2_18 dX2_addDay_47 rfl ?_
    refine V_iload 50 4 dX2_addDay_50 rfl ?_
    refine V_aload_n 52 0 dX2_addDay_52 rfl ?_
    refine V_getR 53 flX2_18 dX2_addDay_53 rfl ?_
    refine V_iload 56 4 dX2_addDay_56 rfl ?_
    refine V_iald 58 dX2_addDay_58 rfl (by omega) (by omega) ?_
    rw [hl _ f1]
    refine V_aload_n 59 0 dX2_addDay_59 rfl ?_
    refine V_getR 60 flX2_9 dX2_addDay_60 rfl ?_
    refine V_iload 63 4 dX2_addDay_63 rfl ?_
    refine V_iald 65 dX2_addDay_65 rfl (by omega) (by omega) ?_
    rw [hW _ f1]
    refine V_iload_n 66 2 dX2_addDay_66 rfl ?_
    refine V_add 67 dX2_addDay_67 ?_
    refine V_mini 68 (by omega) (by omega) mnX2_68 dX2_addDay_68 (w_fit.mono (by omega) hE) (Nat.le_of_ble_eq_true rfl) ?_
    refine V_iast 71 dX2_addDay_71 rfl (by omega) (by omega) ?_
    refine V_inc 72 3 _ [(0, _), (1, _), (2, _), (3, _), (4, _)] dX2_addDay_72 rfl rfl rfl (by decide) rfl ?_
    refine V_goto 75 30 dX2_addDay_75 (by decide) ?_
    refine V_sub [(0, _), (1, _), (2, _), (3, _)] [0, 1, 2, 3] rfl ?_
    refine V_iload_n 30 3 dX2_addDay_30 rfl ?_
    refine V_cst 31 1 dX2_addDay_31 rfl ?_
    have hf1 : Fr 61 62 I (w_put I 61 (P 3 m) (min (g_in P FAS w f m (P 3 m)) (w (P 3 m) + bh))) := Fr.rf.put (by decide) (by decide)
    have hR1 := hR.fr hf1 (by decide)
    refine V_cN_gt 32 78 dX2_addDay_32 (by decide) (by omega) (by omega) (fun c1 => ?_) (fun c1 => ?_)
    · omega
    refine V_aload_n 35 0 dX2_addDay_35 rfl ?_
    refine V_getR 36 flX2_21 dX2_addDay_36 rfl ?_
    refine V_iload_n 39 1 dX2_addDay_39 rfl ?_
    refine V_iload_n 40 3 dX2_addDay_40 rfl ?_
    refine V_vi 41 mvX2_49 dX2_addDay_41 ⟨_, _, _, rfl, rfl, rfl⟩ (w_fit.mono (by omega) hE) (c_speakerAt (d := d) hP hR1 hm (by decide)) rfl (Nat.le_of_ble_eq_true rfl) ?_
    rintro _ _ _ _ ⟨rfl, rfl, rfl, rfl⟩
    rw [show k_sp P m (0 + 1) = P 4 m from rfl]
    refine V_istore 44 [(0, _), (1, _), (2, _), (3, _), (4, _)] dX2_addDay_44 (by decide) rfl ?_
    refine V_aload_n 46 0 dX2_addDay_46 rfl ?_
    refine V_getR 47 flX2_18 dX2_addDay_47 rfl ?_
    refine V_iload 50 4 dX2_addDay_50 rfl ?_
    refine V_aload_n 52 0 dX2_addDay_52 rfl ?_
    refine V_getR 53 flX2_18 dX2_addDay_53 rfl ?_
    refine V_iload 56 4 dX2_addDay_56 rfl ?_
    refine V_iald 58 dX2_addDay_58 rfl (by omega) (by omega) ?_
    rw [w_put_other _ (Or.inr (by omega)), hl _ f2]
    refine V_aload_n 59 0 dX2_addDay_59 rfl ?_
    refine V_getR 60 flX2_9 dX2_addDay_60 rfl ?_
    refine V_iload 63 4 dX2_addDay_63 rfl ?_
    refine V_iald 65 dX2_addDay_65 rfl (by omega) (by omega) ?_
    rw [w_put_other _ (Or.inl (by decide)), hW _ f2]
    refine V_iload_n 66 2 dX2_addDay_66 rfl ?_
    refine V_add 67 dX2_addDay_67 ?_
    refine V_mini 68 (by omega) (by omega) mnX2_68 dX2_addDay_68 (w_fit.mono (by omega) hE) (Nat.le_of_ble_eq_true rfl) ?_
    refine V_iast 71 dX2_addDay_71 rfl (by omega) (by omega) ?_
    refine V_inc 72 3 _ [(0, _), (1, _), (2, _), (3, _), (4, _)] dX2_addDay_72 rfl rfl rfl (by decide) rfl ?_
    refine V_goto 75 30 dX2_addDay_75 (by decide) ?_
    refine V_sub [(0, _), (1, _), (2, _), (3, _)] [0, 1, 2, 3] rfl ?_
    refine V_iload_n 30 3 dX2_addDay_30 rfl ?_
    refine V_cst 31 1 dX2_addDay_31 rfl ?_
    refine V_cN_gt 32 78 dX2_addDay_32 (by decide) (by omega) (by omega) (fun c2 => ?_) (fun c2 => ?_)
    rotate_left
    · omega
    refine V_inc 78 1 _ [(0, _), (1, _), (2, _), (3, _)] dX2_addDay_78 rfl rfl rfl (by decide) rfl ?_
    refine V_goto 81 11 dX2_addDay_81 (by decide) ?_
    refine V_sub [(0, _), (1, _)] [0, 1] rfl ?_
    have hf2 : Fr 61 62 I (w_put (w_put I 61 (P 3 m) (min (g_in P FAS w f m (P 3 m)) (w (P 3 m) + bh))) 61 (P 4 m) (min (g_in P FAS w f m (P 4 m)) (w (P 4 m) + bh))) := hf1.put (by decide) (by decide)
    refine ih (m + 1) _ (by omega) (hR.fr hf2 (by decide)) (hW.fr hf2 (by decide)) (hF.fr hf2 (by decide)) (fun i hi => ?_) (fun I' g1 g2 => hk I' (hf2.trans g1) g2)
    show _ = (if i = P 3 m ∨ i = P 4 m then min (g_in P FAS w f m i) (w i + g_bh P f m) else g_in P FAS w f m i)
    rw [hbh]
    by_cases e2 : i = P 4 m
    · rw [if_pos (Or.inr e2), e2, w_put_same]
    · rw [w_put_other _ (Or.inr e2)]
      by_cases e1 : i = P 3 m
      · rw [if_pos (Or.inl e1), e1, w_put_same]
      · rw [w_put_other _ (Or.inr e1), if_neg (fun q => q.elim e1 e2)]
        exact hl i hi
theorem c_addDay (hu : UV u v) (hP : s_POK P) (hR : PRep 15 P I) (hW : GW P w I) (hF : GF P f I) (hfb : ∀ i, f i ≤ FAS) (hwb : ∀ i, w i ≤ FAS) : FnV Ω (d + 2) mX2_addDay [.ref (Ω.1 + 58)] (SH u v) I L (fun S' I' L' => S' = SH u v ∧ L = L' ∧ GF P (g_in P FAS w f (P 2 0)) I' ∧ Fr 60 62 I I') := by
  obtain ⟨rfl, rfl⟩ := hu
  have h6 := hP.1.2
  refine FnR_of okX2_addDay (Nat.le_of_ble_eq_true rfl) fun l z => ?_
  have hE : w_fit (d + 1) (w_Er l (d + 2) 0 0 Ω (w_pv (fun S' I' L' => S' = SH 60 61 ∧ L = L' ∧ GF P (g_in P FAS w f (P 2 0)) I' ∧ Fr 60 62 I I')) z) := w_fit_r
  show V _ _ _ _ _ _ _ _ 0 [(0, _)] []
  refine V_aload_n 0 0 dX2_addDay_0 rfl ?_
  refine V_getR 1 flX2_18 dX2_addDay_1 rfl ?_
  refine V_ldcN 4 268435456 kcX2_34 dX2_addDay_4 rfl ?_
  refine V_sv 6 msX2_59 dX2_addDay_6 (w_fit.mono (by omega) hE) (c_fill (d := d) (a := 61) (nn := 6) rfl (by decide)) rfl (Nat.le_of_ble_eq_true rfl) ?_
  rintro _ _ _ ⟨rfl, rfl, rfl⟩
  refine V_cst 9 0 dX2_addDay_9 rfl ?_
  refine V_istore_n 10 [(0, _), (1, _)] dX2_addDay_10 (by decide) rfl ?_
  have hf : Fr 61 62 I (w_row I 61 (w_fill 268435456 (I 61) 6)) := Fr.rf.row (by decide) (by decide)
  refine ad_l (d := d) (f := f) (w := w) hE hP hfb hwb (P 2 0) 0 _ (by omega) (hR.fr hf (by decide)) (hW.fr hf (by decide)) (hF.fr hf (by decide)) (fun i hi => ?_) (fun I' g1 g2 => ?_)
  · rw [w_row_at]
    unfold w_fill
    rw [if_pos (by omega)]
    rfl
  · refine V_aload_n 84 0 dX2_addDay_84 rfl ?_
    refine V_getR 85 flX2_18 dX2_addDay_85 rfl ?_
    refine V_cst 88 0 dX2_addDay_88 rfl ?_
    refine V_aload_n 89 0 dX2_addDay_89 rfl ?_
    refine V_getR 90 flX2_15 dX2_addDay_90 rfl ?_
    refine V_cst 93 0 dX2_addDay_93 rfl ?_
    refine V_bip 94 6 dX2_addDay_94 rfl ?_
    refine V_copyi 96 maX2_73 dX2_addDay_96 (w_fit.mono (by omega) hE) (Nat.le_of_ble_eq_true rfl) rfl rfl (by omega) (by omega) (by omega) ?_
    refine V_ret 99 dX2_addDay_99 rfl ⟨rfl, rfl, fun i hi => ?_, ((hf.trans g1).wide (by decide) (by decide)).row (by decide) (by decide)⟩
    rw [w_row_at]
    unfold w_cp
    rw [if_pos (by omega)]
    exact g2 i hi
/-! sumDays -/
theorem sd_l {days : Nat} (hE : w_fit (d + 2) E) (hP : s_POK P) (hwb : ∀ i, w i ≤ FAS) (hdays : days < 2000) : ∀ (n j : Nat) (I : w_I), j + n = days → PRep 15 P I → GW P w I → GF P (g_some P FAS w j) I →
    (∀ I', Fr 60 62 I I' → GF P (g_some P FAS w days) I' → V mX2_sumDays E Ω 0 0 (SH 60 61) I' L 25 [(0, .ref (Ω.1 + 58)), (1, .int (nI days)), (2, .int (nI days))] []) →
    V mX2_sumDays E Ω 0 0 (SH 60 61) I L 10 [(0, .ref (Ω.1 + 58)), (1, .int (nI days)), (2, .int (nI j))] [] := by
  intro n
  induction n with
  | zero =>
    intro j I hj hR hW hF hk
    have e : j = days := by omega
    subst e
    refine V_iload_n 10 2 dX2_sumDays_10 rfl ?_
    refine V_iload_n 11 1 dX2_sumDays_11 rfl ?_
    refine V_cN_ge 12 25 dX2_sumDays_12 (by decide) (by omega) (by omega) (fun c => ?_) (fun c => ?_)
    · exact hk I Fr.rf hF
    · omega
  | succ n ih =>
    intro j I hj hR hW hF hk
    refine V_iload_n 10 2 dX2_sumDays_10 rfl ?_
    refine V_iload_n 11 1 dX2_sumDays_11 rfl ?_
    refine V_cN_ge 12 25 dX2_sumDays_12 (by decide) (by omega) (by omega) (fun c => ?_) (fun c => ?_)
    · omega
    refine V_aload_n 15 0 dX2_sumDays_15 rfl ?_
    refine V_vv 16 mvX2_65 dX2_sumDays_16 ⟨_, _, _, rfl, rfl, rfl⟩ (w_fit.mono (by omega) hE) (c_addDay (d := d) (f := g_some P FAS w j) (w := w) ⟨rfl, rfl⟩ hP hR hW hF (fun i => g_some_le j i) hwb) rfl (Nat.le_of_ble_eq_true rfl) ?_
    rintro _ I1 _ ⟨rfl, rfl, h1, h2⟩
    refine V_inc 19 2 _ [(0, _), (1, _), (2, _)] dX2_sumDays_19 rfl rfl rfl (by decide) rfl ?_
    refine V_goto 22 10 dX2_sumDays_22 (by decide) ?_
    exact ih (j + 1) I1 (by omega) (hR.fr h2 (by decide)) (hW.fr h2 (by decide)) h1 (fun I' g1 g2 => hk I' (h2.trans g1) g2)
theorem c_sumDays {days : Nat} (hu : UV u v) (hP : s_POK P) (hR : PRep 15 P I) (hW : GW P w I) (hwb : ∀ i, w i ≤ FAS) (hdays : days < 2000) : FnV Ω (d + 3) mX2_sumDays [.ref (Ω.1 + 58), .int (nI days)] (SH u v) I L (fun S' I' L' => S' = SH u v ∧ L = L' ∧ GF P (g_some P FAS w days) I' ∧ Fr 60 62 I I') := by
  obtain ⟨rfl, rfl⟩ := hu
  have h6 := hP.1.2
  refine FnR_of okX2_sumDays (Nat.le_of_ble_eq_true rfl) fun l z => ?_
  have hE : w_fit (d + 2) (w_Er l (d + 3) 0 0 Ω (w_pv (fun S' I' L' => S' = SH 60 61 ∧ L = L' ∧ GF P (g_some P FAS w days) I' ∧ Fr 60 62 I I')) z) := w_fit_r
  show V _ _ _ _ _ _ _ _ 0 [(0, _), (1, _)] []
  refine V_aload_n 0 0 dX2_sumDays_0 rfl ?_
  refine V_getR 1 flX2_15 dX2_sumDays_1 rfl ?_
  refine V_cst 4 0 dX2_sumDays_4 rfl ?_
  refine V_sv 5 msX2_59 dX2_sumDays_5 (w_fit.mono (by omega) hE) (c_fill (d := d) (a := 60) (nn := 6) rfl (by decide)) rfl (Nat.le_of_ble_eq_true rfl) ?_
  rintro _ _ _ ⟨rfl, rfl, rfl⟩
  refine V_cst 8 0 dX2_sumDays_8 rfl ?_
  refine V_istore_n 9 [(0, _), (1, _), (2, _)] dX2_sumDays_9 (by decide) rfl ?_
  have hf : Fr 60 62 I (w_row I 60 (w_fill 0 (I 60) 6)) := Fr.rf.row (by decide) (by decide)
  refine sd_l (d := d) (w := w) hE hP hwb hdays days 0 _ (by omega) (hR.fr hf (by decide)) (hW.fr hf (by decide)) (fun i hi => ?_) (fun I' g1 g2 => ?_)
  · rw [w_row_at]
    unfold w_fill
    rw [if_pos (by omega)]
    rfl
  · exact V_ret 25 dX2_sumDays_25 rfl ⟨rfl, rfl, g2, hf.trans g1⟩
end
