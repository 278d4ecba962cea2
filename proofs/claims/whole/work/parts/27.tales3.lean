section
variable {Ω : w_O} {d u v : Nat} {L : w_L} {E : w_E} {P Y C0 : w_R}
/-! findWhoHeard, refresh -/
theorem t_H_succ (dd h : Nat) : t_H P Y C0 dd (h + 1) = s_hour P Y (t_H P Y C0 dd h) h := by
  unfold t_H
  rw [List.range_succ, List.foldl_append]
  rfl
theorem t_h_eq {dd h : Nat} (hh : h < 12) (p : Nat) : t_h P Y C0 (dd * 12 + h) p = t_H P Y C0 dd (h + 1) 9 p := by
  unfold t_h
  rw [show (dd * 12 + h) / 12 = dd by omega, show (dd * 12 + h) % 12 = h by omega]
/-- only tales' cells but maySince have changed -/
def FrH (I I' : w_I) : Prop := ∀ i, i < 51 ∨ i = 52 ∨ 58 ≤ i → I' i = I i
theorem FrH.rf {I : w_I} : FrH I I := fun _ _ => rfl
theorem FrH.trans {I I' I'' : w_I} (h : FrH I I') (h' : FrH I' I'') : FrH I I'' := fun i hi => (h' i hi).trans (h i hi)
theorem FrH.wide {I I' : w_I} (h : FrH I I') : Fr 51 58 I I' := fun i hi => h i (by omega)
theorem HRp.c57 {t p : Nat} {I I' : w_I} (h : HRp P Y C0 t p I) (h1 : I' 53 = I 53) (h2 : I' 51 = I 51) : HRp P Y C0 t p I' := h.same (by rw [h1]) (fun w _ => by rw [h2])
theorem wh_in {a dd : Nat} (hE : w_fit (d + 2) E) (hP : s_POK P) (hY : s_YOK P Y) (h0 : CI P C0) (hd : C0 0 0 = 0) (hdd : dd < 100) : ∀ (n h : Nat) (I : w_I), h + n = 12 → PRep 15 P I → YRep 27 Y I → ARep P I → LRep P Y I → cv 54 I = t_H P Y C0 dd h → (∀ q, q < P 6 0 → HRp P Y C0 (dd * 12 + h) q I) →
    (∀ I', cv 54 I' = t_H P Y C0 dd 12 → (∀ q, q < P 6 0 → HRp P Y C0 (dd * 12 + 12) q I') → FrH I I' → V mX6_findWhoHeard E Ω 0 0 (SH u v) I' L 91 [(0, .ref (Ω.1 + 50)), (1, .ref (Ω.1 + 27)), (2, .int (nI a)), (3, .int (nI dd)), (4, .int (nI 12))] []) →
    V mX6_findWhoHeard E Ω 0 0 (SH u v) I L 57 [(0, .ref (Ω.1 + 50)), (1, .ref (Ω.1 + 27)), (2, .int (nI a)), (3, .int (nI dd)), (4, .int (nI h))] [] := by
  have hci := t_D_CI hP hY h0 hd dd (by omega)
  intro n
  induction n with
  | zero =>
    intro h I hh hR hRY hA hL hC hH hk
    have e : h = 12 := by omega
    subst e
    refine V_iload 57 4 dX6_findWhoHeard_57 rfl ?_
    refine V_bip 59 12 dX6_findWhoHeard_59 rfl ?_
    refine V_cN_ge 61 91 dX6_findWhoHeard_61 (by decide) (by omega) (by omega) (fun c => ?_) (fun c => ?_)
    · exact hk I hC hH FrH.rf
    · omega
  | succ n ih =>
    intro h I hh hR hRY hA hL hC hH hk
    refine V_iload 57 4 dX6_findWhoHeard_57 rfl ?_
    refine V_bip 59 12 dX6_findWhoHeard_59 rfl ?_
    refine V_cN_ge 61 91 dX6_findWhoHeard_61 (by decide) (by omega) (by omega) (fun c => ?_) (fun c => ?_)
    · omega
    refine V_aload_n 64 0 dX6_findWhoHeard_64 rfl ?_
    refine V_getR 65 flX6_30 dX6_findWhoHeard_65 rfl ?_
    refine V_aload_n 68 1 dX6_findWhoHeard_68 rfl ?_
    refine V_iload 69 4 dX6_findWhoHeard_69 rfl ?_
    have hok : COK (cv 54 I) := by rw [hC]; exact s_hours_ok hP hY hci.1 h (by omega)
    refine V_vv 71 mvX6_107 dX6_findWhoHeard_71 ⟨_, _, _, rfl, rfl, rfl⟩ (w_fit.mono (by omega) hE) (c_passHour_54 (d := d) (h := h) hP hY (by omega) hR hRY hA hL hok) rfl (Nat.le_of_ble_eq_true rfl) ?_
    rintro _ I1 _ ⟨rfl, rfl, g1, g2⟩
    rw [hC, ← t_H_succ] at g1
    refine V_aload_n 74 0 dX6_findWhoHeard_74 rfl ?_
    refine V_iload_n 75 3 dX6_findWhoHeard_75 rfl ?_
    refine V_bip 76 12 dX6_findWhoHeard_76 rfl ?_
    refine V_mul 78 dX6_findWhoHeard_78 ?_
    refine V_iload 79 4 dX6_findWhoHeard_79 rfl ?_
    refine V_add 81 dX6_findWhoHeard_81 ?_
    refine V_vv 82 mvX6_111 dX6_findWhoHeard_82 ⟨_, _, _, rfl, rfl, rfl⟩ (w_fit.mono (by omega) hE) (c_markNewlyHeard (d := d) (Y := Y) (C0 := C0) (t := dd * 12 + h) hP (by omega) (fun p => t_h_lt hP hY h0 hd (by omega) p) (hR.fr g2 (by decide)) (fun p hp => by rw [t_h_eq (by omega), ← g1]; show I1 57 p = if p < 12 then I1 57 p else 0; rw [if_pos (by have := hP.2.2.2.2.1; omega)]) (fun q hq => (hH q hq).c57 (g2 53 (by decide)) (g2 51 (by decide)))) rfl (Nat.le_of_ble_eq_true rfl) ?_
    rintro _ I2 _ ⟨rfl, rfl, k1, k2, k3⟩
    have hf : FrH I I2 := fun i hi => by
      rcases hi with hi | hi | hi
      · rw [k2 i (by omega), g2 i (by omega)]
      · rw [hi, k3, g2 52 (by decide)]
      · rw [k2 i (by omega), g2 i (by omega)]
    have hc2 : cv 54 I2 = cv 54 I1 := by
      unfold cv
      rw [k2 54 (by decide), k2 (54 + 1) (by decide), k2 (54 + 2) (by decide), k2 (54 + 3) (by decide)]
    refine V_inc 85 4 _ [(0, _), (1, _), (2, _), (3, _), (4, _)] dX6_findWhoHeard_85 rfl rfl rfl (by decide) rfl ?_
    refine V_goto 88 57 dX6_findWhoHeard_88 (by decide) ?_
    refine ih (h + 1) I2 (by omega) (hR.fr hf.wide (by decide)) (hRY.fr hf.wide (by decide)) (hA.fr hf.wide (by decide)) (hL.fr hf.wide (by decide)) (hc2.trans g1) k1 (fun I' m1 m2 m3 => hk I' m1 m2 (hf.trans m3))
theorem wh_out (hE : w_fit (d + 2) E) (hP : s_POK P) (hY : s_YOK P Y) (h0 : CI P C0) (hd : C0 0 0 = 0) : ∀ (n dd : Nat) (I : w_I), dd + n = 100 → PRep 15 P I → YRep 27 Y I → ARep P I → LRep P Y I → cv 54 I = t_D P Y C0 dd → (∀ q, q < P 6 0 → HRp P Y C0 (dd * 12) q I) →
    (∀ I' x, (∀ q, q < P 6 0 → HRp P Y C0 1200 q I') → I' 54 7 < 64 → FrH I I' → V mX6_findWhoHeard E Ω 0 0 (SH u v) I' L 104 [(0, .ref (Ω.1 + 50)), (1, .ref (Ω.1 + 27)), (2, .int (nI (2 ^ P 6 0 - 1))), (3, .int (nI x))] []) →
    V mX6_findWhoHeard E Ω 0 0 (SH u v) I L 37 [(0, .ref (Ω.1 + 50)), (1, .ref (Ω.1 + 27)), (2, .int (nI (2 ^ P 6 0 - 1))), (3, .int (nI dd))] [] := by
  have h12 := hP.2.2.2.2.1
  have hp12 : 2 ^ P 6 0 ≤ 4096 := Nat.pow_le_pow_right (n := 2) (j := 12) (by decide) h12
  have hpos := Nat.two_pow_pos (P 6 0)
  intro n
  induction n with
  | zero =>
    intro dd I hh hR hRY hA hL hC hH hk
    have e : dd = 100 := by omega
    subst e
    have hci := t_D_CI hP hY h0 hd 100 (by omega)
    refine V_iload_n 37 3 dX6_findWhoHeard_37 rfl ?_
    refine V_bip 38 100 dX6_findWhoHeard_38 rfl ?_
    refine V_cN_ge 40 104 dX6_findWhoHeard_40 (by decide) (by omega) (by omega) (fun c => ?_) (fun c => ?_)
    · refine hk I _ hH ?_ FrH.rf
      have := hci.1.2.2.2.2.1
      rw [← hC] at this
      exact this
    · omega
  | succ n ih =>
    intro dd I hh hR hRY hA hL hC hH hk
    have hci := t_D_CI hP hY h0 hd dd (by omega)
    have hun : I 54 5 = t_D P Y C0 dd 4 0 := by rw [← hC]; rfl
    have hun2 := hci.1.2.2.1
    refine V_iload_n 37 3 dX6_findWhoHeard_37 rfl ?_
    refine V_bip 38 100 dX6_findWhoHeard_38 rfl ?_
    refine V_cN_ge 40 104 dX6_findWhoHeard_40 (by decide) (by omega) (by omega) (fun c => ?_) (fun c => ?_)
    · omega
    refine V_aload_n 43 0 dX6_findWhoHeard_43 rfl ?_
    refine V_getR 44 flX6_30 dX6_findWhoHeard_44 rfl ?_
    refine V_getI 47 flX6_104 dX6_findWhoHeard_47 rfl ?_
    refine V_iload_n 50 2 dX6_findWhoHeard_50 rfl ?_
    rw [hun]
    refine V_cN_eq 51 104 dX6_findWhoHeard_51 (by decide) (by omega) (by omega) (fun c1 => ?_) (fun c1 => ?_)
    · refine hk I _ (fun q hq => ?_) ?_ FrH.rf
      · have hu : (t_D P Y C0 dd 4 0).testBit q = true := by rw [c1, Nat.testBit_two_pow_sub_one]; simpa using hq
        have h1 := hH q hq
        refine ⟨h1.1, fun w hw => ?_⟩
        have h2 := t_F_stop (w := w) hP hY h0 hd hu (1200 - 12 * dd) (by omega)
        rw [show 12 * dd + (1200 - 12 * dd) = 1200 by omega, show 12 * dd = dd * 12 by omega] at h2
        rw [h2]
        exact h1.2 w hw
      · have := hci.1.2.2.2.2.1
        rw [← hC] at this
        exact this
    · refine V_cst 54 0 dX6_findWhoHeard_54 rfl ?_
      refine V_istore 55 [(0, _), (1, _), (2, _), (3, _), (4, _)] dX6_findWhoHeard_55 (by decide) rfl ?_
      refine wh_in hE hP hY h0 hd (by omega) 12 0 I (by omega) hR hRY hA hL hC hH (fun I' g1 g2 g3 => ?_)
      refine V_aload_n 91 0 dX6_findWhoHeard_91 rfl ?_
      refine V_getR 92 flX6_30 dX6_findWhoHeard_92 rfl ?_
      have hok : COK (cv 54 I') := by rw [g1]; exact s_hours_ok hP hY hci.1 12 (by omega)
      refine V_vv 95 mvX6_114 dX6_findWhoHeard_95 ⟨_, _, _, rfl, rfl, rfl⟩ (w_fit.mono (by omega) hE) (c_passDusk_54 (d := d) hP (hR.fr g3.wide (by decide)) hok) rfl (Nat.le_of_ble_eq_true rfl) ?_
      rintro _ I2 _ ⟨rfl, rfl, k1, k2⟩
      have hf : FrH I I2 := g3.trans (fun i hi => k2 i (by omega))
      refine V_inc 98 3 _ [(0, _), (1, _), (2, _), (3, _), (4, _)] dX6_findWhoHeard_98 rfl rfl rfl (by decide) rfl ?_
      refine V_goto 101 37 dX6_findWhoHeard_101 (by decide) ?_
      refine V_sub [(0, _), (1, _), (2, _), (3, _)] [0, 1, 2, 3] rfl ?_
      refine ih (dd + 1) I2 (by omega) (hR.fr hf.wide (by decide)) (hRY.fr hf.wide (by decide)) (hA.fr hf.wide (by decide)) (hL.fr hf.wide (by decide)) ?_ (fun q hq => ?_) (fun I' x m1 m2 m3 => hk I' x m1 m2 (hf.trans m3))
      · rw [k1, g1]; rfl
      · rw [show (dd + 1) * 12 = dd * 12 + 12 by omega]
        exact (g2 q hq).c57 (k2 53 (by decide)) (k2 51 (by decide))
/-- a town of its own begins so -/
abbrev t_0 (x : Nat) : w_R := w_put s_new 6 0 x
theorem t_0_day (x : Nat) : t_0 x 0 0 = 0 := by
  show w_put s_new 6 0 x 0 0 = 0
  rw [w_put_other _ (Or.inl (by decide))]; rfl
theorem c_findWhoHeard {I : w_I} (hP : s_POK P) (hY : s_YOK P Y) (hR : PRep 15 P I) (hRY : YRep 27 Y I) (hA : ARep P I) (hx : I 54 7 < 64) (h51 : ∀ j, j < 72 → I 51 j = 1200) : FnV Ω (d + 3) mX6_findWhoHeard [.ref (Ω.1 + 50), .ref (Ω.1 + 27)] (SH u v) I L (fun S' I' L' => S' = SH u v ∧ L = L' ∧ (∀ q, q < P 6 0 → HRp P Y (t_0 (I 54 7)) 1200 q I') ∧ I' 54 7 < 64 ∧ ∀ i, i < 32 ∨ 34 ≤ i → i < 51 ∨ i = 52 ∨ 58 ≤ i → I' i = I i) := by
  have h12 := hP.2.2.2.2.1
  refine FnR_of okX6_findWhoHeard (Nat.le_of_ble_eq_true rfl) fun l z => ?_
  have hE : w_fit (d + 2) (w_Er l (d + 3) 0 0 Ω (w_pv (fun S' I' L' => S' = SH u v ∧ L = L' ∧ (∀ q, q < P 6 0 → HRp P Y (t_0 (I 54 7)) 1200 q I') ∧ I' 54 7 < 64 ∧ ∀ i, i < 32 ∨ 34 ≤ i → i < 51 ∨ i = 52 ∨ 58 ≤ i → I' i = I i)) z) := w_fit_r
  show V _ _ _ _ _ _ _ _ 0 [(0, _), (1, _)] []
  refine V_aload_n 0 0 dX6_findWhoHeard_0 rfl ?_
  refine V_getR 1 flX6_30 dX6_findWhoHeard_1 rfl ?_
  refine V_vv 4 mvX6_96 dX6_findWhoHeard_4 ⟨_, _, _, rfl, rfl, rfl⟩ (w_fit.mono (by omega) hE) (c_begin_54 (d := d)) rfl (Nat.le_of_ble_eq_true rfl) ?_
  rintro _ I1 _ ⟨rfl, rfl, g1, g2⟩
  refine V_aload_n 7 1 dX6_findWhoHeard_7 rfl ?_
  refine V_aload_n 8 0 dX6_findWhoHeard_8 rfl ?_
  refine V_getR 9 flX6_21 dX6_findWhoHeard_9 rfl ?_
  refine V_vv 12 mvX6_99 dX6_findWhoHeard_12 ⟨_, _, _, rfl, rfl, rfl⟩ (w_fit.mono (by omega) hE) (c_sarrange (d := d) hP hY (hR.fr g2 (by decide)) (hRY.fr g2 (by decide)) (hA.fr g2 (by decide))) rfl (Nat.le_of_ble_eq_true rfl) ?_
  rintro _ I2 _ ⟨rfl, rfl, k1, k2⟩
  refine V_aload_n 15 0 dX6_findWhoHeard_15 rfl ?_
  refine V_getR 16 flX6_18 dX6_findWhoHeard_16 rfl ?_
  refine V_cst 19 0 dX6_findWhoHeard_19 rfl ?_
  refine V_sv 20 msX6_38 dX6_findWhoHeard_20 (w_fit.mono (by omega) hE) (c_fill (d := d) (a := 53) (nn := 12) rfl (by decide)) rfl (Nat.le_of_ble_eq_true rfl) ?_
  rintro _ I3 _ ⟨rfl, rfl, m1⟩
  have hf : Fr 32 58 I I3 := by
    rw [m1]
    exact ((g2.wide (by decide) (by decide)).trans (k2.wide (by decide) (by decide))).row (by decide) (by decide)
  have f23 : ∀ i, i ≠ 53 → I3 i = I2 i := fun i hi => by rw [m1, w_row_ne _ _ hi]
  refine V_cst 23 1 dX6_findWhoHeard_23 rfl ?_
  refine V_aload_n 24 0 dX6_findWhoHeard_24 rfl ?_
  refine V_getR 25 flX6_21 dX6_findWhoHeard_25 rfl ?_
  refine V_getI 28 flX6_44 dX6_findWhoHeard_28 rfl ?_
  rw [(hR.fr hf (by decide)).2.2.2.2.1]
  have hpos := Nat.two_pow_pos (P 6 0)
  refine V_shl 31 dX6_findWhoHeard_31 (by omega) ?_
  refine V_cst 32 1 dX6_findWhoHeard_32 rfl ?_
  refine V_sub1 33 dX6_findWhoHeard_33 (by omega) ?_
  refine V_istore_n 34 [(0, _), (1, _), (2, _)] dX6_findWhoHeard_34 (by decide) rfl ?_
  refine V_cst 35 0 dX6_findWhoHeard_35 rfl ?_
  refine V_istore_n 36 [(0, _), (1, _), (2, _), (3, _)] dX6_findWhoHeard_36 (by decide) rfl ?_
  rw [Nat.one_mul]
  have hc3 : cv 54 I3 = t_0 (I 54 7) := by
    refine Eq.trans ?_ g1
    unfold cv
    rw [f23 54 (by decide), f23 (54 + 1) (by decide), f23 (54 + 2) (by decide), f23 (54 + 3) (by decide), k2 54 (by decide), k2 (54 + 1) (by decide), k2 (54 + 2) (by decide), k2 (54 + 3) (by decide)]
  have hL3 : LRep P Y I3 := by
    unfold LRep
    rw [f23 32 (by decide), f23 33 (by decide)]
    exact k1
  refine wh_out (C0 := t_0 (I 54 7)) hE hP hY (CI.new _ hx) (t_0_day _) 100 0 I3 (by omega) (hR.fr hf (by decide)) (hRY.fr hf (by decide)) (hA.fr hf (by decide)) hL3 hc3 (fun q hq => ?_) (fun I' x n1 n2 n3 => ?_)
  · have e53 : I3 53 q = 0 := by rw [m1, w_row_at]; exact if_pos (by omega)
    refine ⟨by rw [e53]; decide, fun w hw => ⟨?_, ?_⟩⟩
    · rw [f23 51 (by decide), k2 51 (by decide), g2 51 (by decide), h51 _ (by omega)]
      rfl
    · rw [e53, Nat.zero_testBit]
      rfl
  · refine V_ret 104 dX6_findWhoHeard_104 rfl ⟨rfl, rfl, n1, n2, fun i h1 h2 => ?_⟩
    rw [n3 i h2, f23 i (by omega), k2 i (by omega), g2 i (by omega)]
/-- who may have heard is known -/
def MRep (P : w_R) (I : w_I) : Prop := ∀ p, p < P 6 0 → ∀ w, w < 6 → I 52 (p * 6 + w) = y_F P p (y_N P p) w
/-- who has heard is known -/
def HRep (P Y : w_R) (I : w_I) : Prop := ∃ x, x < 64 ∧ ∀ q, q < P 6 0 → HRp P Y (t_0 x) 1200 q I
theorem rf_l (hE : w_fit (d + 1) E) (hP : s_POK P) : ∀ (n j : Nat) (I : w_I), j + n = P 6 0 → PRep 15 P I → ARep P I → (∀ p, p < j → ∀ w, w < 6 → I 52 (p * 6 + w) = y_F P p (y_N P p) w) → (∀ p, j ≤ p → p < 12 → ∀ w, w < 6 → I 52 (p * 6 + w) = 1200) →
    (∀ I', MRep P I' → Fr 52 53 I I' → V mX6_refresh E Ω 0 0 (SH u v) I' L 41 [(0, .ref (Ω.1 + 50)), (1, .ref (Ω.1 + 27)), (2, .int (nI (P 6 0)))] []) →
    V mX6_refresh E Ω 0 0 (SH u v) I L 19 [(0, .ref (Ω.1 + 50)), (1, .ref (Ω.1 + 27)), (2, .int (nI j))] [] := by
  have h12 := hP.2.2.2.2.1
  intro n
  induction n with
  | zero =>
    intro j I hj hR hA h1 h2 hk
    have e : j = P 6 0 := by omega
    subst e
    refine V_iload_n 19 2 dX6_refresh_19 rfl ?_
    refine V_aload_n 20 0 dX6_refresh_20 rfl ?_
    refine V_getR 21 flX6_21 dX6_refresh_21 rfl ?_
    refine V_getI 24 flX6_44 dX6_refresh_24 rfl ?_
    rw [hR.2.2.2.2.1]
    refine V_cN_ge 27 41 dX6_refresh_27 (by decide) (by omega) (by omega) (fun c => ?_) (fun c => ?_)
    · exact hk I h1 Fr.rf
    · omega
  | succ n ih =>
    intro j I hj hR hA h1 h2 hk
    refine V_iload_n 19 2 dX6_refresh_19 rfl ?_
    refine V_aload_n 20 0 dX6_refresh_20 rfl ?_
    refine V_getR 21 flX6_21 dX6_refresh_21 rfl ?_
    refine V_getI 24 flX6_44 dX6_refresh_24 rfl ?_
    rw [hR.2.2.2.2.1]
    refine V_cN_ge 27 41 dX6_refresh_27 (by decide) (by omega) (by omega) (fun c => ?_) (fun c => ?_)
    · omega
    refine V_aload_n 30 0 dX6_refresh_30 rfl ?_
    refine V_iload_n 31 2 dX6_refresh_31 rfl ?_
    refine V_vv 32 mvX6_50 dX6_refresh_32 ⟨_, _, _, rfl, rfl, rfl⟩ (w_fit.mono (by omega) hE) (c_findWhoMay (d := d) (p := j) hP hR hA (by omega) (h2 j (Nat.le_refl _) (by omega))) rfl (Nat.le_of_ble_eq_true rfl) ?_
    rintro _ I1 _ ⟨rfl, rfl, g1, g2, g3⟩
    refine V_inc 35 2 _ [(0, _), (1, _), (2, _)] dX6_refresh_35 rfl rfl rfl (by decide) rfl ?_
    refine V_goto 38 19 dX6_refresh_38 (by decide) ?_
    refine ih (j + 1) I1 (by omega) (hR.fr g3 (by decide)) (hA.fr g3 (by decide)) (fun p hp w hw => ?_) (fun p hp hp2 w hw => ?_) (fun I' k1 k2 => hk I' k1 (g3.trans k2))
    · by_cases e : p = j
      · subst e; exact g1 w hw
      · rw [g2 p w e hw]; exact h1 p (by omega) w hw
    · rw [g2 p w (by omega) hw]; exact h2 p (by omega) hp2 w hw
/-- what tales know -/
def TInv (P Y : w_R) (I : w_I) : Prop := I 54 7 < 64 ∧ (I 50 2 = 0 ∨ (I 50 2 = 1 ∧ MRep P I)) ∧ (I 50 1 = 0 ∨ (I 50 1 = 1 ∧ HRep P Y I))
theorem c_refresh {I : w_I} (hP : s_POK P) (hY : s_YOK P Y) (hR : PRep 15 P I) (hRY : YRep 27 Y I) (hA : ARep P I) (hT : TInv P Y I) : FnV Ω (d + 4) mX6_refresh [.ref (Ω.1 + 50), .ref (Ω.1 + 27)] (SH u v) I L (fun S' I' L' => S' = SH u v ∧ L = L' ∧ I' 54 7 < 64 ∧ I' 50 2 = 1 ∧ I' 50 1 = 1 ∧ MRep P I' ∧ HRep P Y I' ∧ ∀ i, i < 32 ∨ 34 ≤ i → i < 50 ∨ 58 ≤ i → I' i = I i) := by
  obtain ⟨hx, hM, hH⟩ := hT
  refine FnR_of okX6_refresh (Nat.le_of_ble_eq_true rfl) fun l z => ?_
  have hE : w_fit (d + 3) (w_Er l (d + 4) 0 0 Ω (w_pv (fun S' I' L' => S' = SH u v ∧ L = L' ∧ I' 54 7 < 64 ∧ I' 50 2 = 1 ∧ I' 50 1 = 1 ∧ MRep P I' ∧ HRep P Y I' ∧ ∀ i, i < 32 ∨ 34 ≤ i → i < 50 ∨ 58 ≤ i → I' i = I i)) z) := w_fit_r
  have k46 : ∀ I1, I1 50 2 = 1 → MRep P I1 → I1 50 1 = I 50 1 → (I1 50 1 = 0 ∨ (I1 50 1 = 1 ∧ HRep P Y I1)) → (∀ i, i ≠ 50 → i ≠ 52 → I1 i = I i) → V mX6_refresh (w_Er l (d + 4) 0 0 Ω (w_pv (fun S' I' L' => S' = SH u v ∧ L = L' ∧ I' 54 7 < 64 ∧ I' 50 2 = 1 ∧ I' 50 1 = 1 ∧ MRep P I' ∧ HRep P Y I' ∧ ∀ i, i < 32 ∨ 34 ≤ i → i < 50 ∨ 58 ≤ i → I' i = I i)) z) Ω 0 0 (SH u v) I1 L 46 [(0, .ref (Ω.1 + 50)), (1, .ref (Ω.1 + 27))] [] := by
    intro I1 a1 a2 a3 a4 a5
    have hf1 : Fr 50 53 I I1 := fun i hi => a5 i (by omega) (by omega)
    refine V_aload_n 46 0 dX6_refresh_46 rfl ?_
    refine V_getI 47 flX6_54 dX6_refresh_47 rfl ?_
    have hb : I1 50 1 < 2 ^ 31 := by rcases a4 with h | ⟨h, -⟩ <;> omega
    refine V_zN_ne 50 73 dX6_refresh_50 (by decide) (by omega) (fun c => ?_) (fun c => ?_)
    · have a6 : I1 50 1 = 1 ∧ HRep P Y I1 := by
        rcases a4 with h | h
        · exact absurd h c
        · exact h
      exact V_ret 73 dX6_refresh_73 rfl ⟨rfl, rfl, by rw [a5 54 (by decide) (by decide)]; exact hx, a1, a6.1, a2, a6.2, fun i h1 h2 => a5 i (by omega) (by omega)⟩
    · refine V_aload_n 53 0 dX6_refresh_53 rfl ?_
      refine V_getR 54 flX6_9 dX6_refresh_54 rfl ?_
      refine V_sip 57 1200 dX6_refresh_57 rfl ?_
      refine V_sv 60 msX6_38 dX6_refresh_60 (w_fit.mono (by omega) hE) (c_fill (d := d) (a := 51) (nn := 72) rfl (by decide)) rfl (Nat.le_of_ble_eq_true rfl) ?_
      rintro _ I2 _ ⟨rfl, rfl, m1⟩
      have f2 : ∀ i, i ≠ 51 → I2 i = I1 i := fun i hi => by rw [m1, w_row_ne _ _ hi]
      have hf2 : Fr 50 53 I I2 := fun i hi => by rw [f2 i (by omega), hf1 i hi]
      refine V_aload_n 63 0 dX6_refresh_63 rfl ?_
      refine V_aload_n 64 1 dX6_refresh_64 rfl ?_
      refine V_vv 65 mvX6_57 dX6_refresh_65 ⟨_, _, _, rfl, rfl, rfl⟩ (w_fit.mono (by omega) hE) (c_findWhoHeard (d := d) hP hY (hR.fr hf2 (by decide)) (hRY.fr hf2 (by decide)) (hA.fr hf2 (by decide)) (by rw [hf2 54 (by decide)]; exact hx) (fun j hj => by rw [m1, w_row_at]; exact if_pos hj)) rfl (Nat.le_of_ble_eq_true rfl) ?_
      rintro _ I3 _ ⟨rfl, rfl, n1, n2, n3⟩
      refine V_aload_n 68 0 dX6_refresh_68 rfl ?_
      refine V_cst 69 1 dX6_refresh_69 rfl ?_
      refine V_putZ 70 flX6_54 ft_6_1 dX6_refresh_70 rfl (by first | exact Or.inl rfl | exact Or.inr rfl | assumption) ?_
      refine V_ret 73 dX6_refresh_73 rfl ⟨rfl, rfl, ?_, ?_, w_put_same _ _ _ _, ?_, ⟨I2 54 7, by rw [hf2 54 (by decide)]; exact hx, fun q hq => ?_⟩, fun i h1 h2 => ?_⟩
      · rw [w_put_other _ (Or.inl (by decide))]; exact n2
      · rw [w_put_other _ (Or.inr (by decide)), n3 50 (by decide) (by decide), f2 50 (by decide)]; exact a1
      · intro p hp w hw
        rw [w_put_other _ (Or.inl (by decide)), n3 52 (by decide) (by decide), f2 52 (by decide)]
        exact a2 p hp w hw
      · exact (n1 q hq).c57 (w_put_ne _ _ (by decide)) (w_put_ne _ _ (by decide))
      · rw [w_put_ne _ _ (by omega), n3 i h1 (by omega), f2 i (by omega), a5 i (by omega) (by omega)]
  show V _ _ _ _ _ _ _ _ 0 [(0, _), (1, _)] []
  refine V_aload_n 0 0 dX6_refresh_0 rfl ?_
  refine V_getI 1 flX6_34 dX6_refresh_1 rfl ?_
  have hb : I 50 2 < 2 ^ 31 := by rcases hM with h | ⟨h, -⟩ <;> omega
  refine V_zN_ne 4 46 dX6_refresh_4 (by decide) (by omega) (fun c => ?_) (fun c => ?_)
  · have a6 : I 50 2 = 1 ∧ MRep P I := by
      rcases hM with h | h
      · exact absurd h c
      · exact h
    exact k46 I a6.1 a6.2 rfl hH (fun _ _ _ => rfl)
  · refine V_aload_n 7 0 dX6_refresh_7 rfl ?_
    refine V_getR 8 flX6_15 dX6_refresh_8 rfl ?_
    refine V_sip 11 1200 dX6_refresh_11 rfl ?_
    refine V_sv 14 msX6_38 dX6_refresh_14 (w_fit.mono (by omega) hE) (c_fill (d := d) (a := 52) (nn := 72) rfl (by decide)) rfl (Nat.le_of_ble_eq_true rfl) ?_
    rintro _ I2 _ ⟨rfl, rfl, m1⟩
    have f2 : Fr 52 53 I I2 := by rw [m1]; exact Fr.rf.row (by decide) (by decide)
    refine V_cst 17 0 dX6_refresh_17 rfl ?_
    refine V_istore_n 18 [(0, _), (1, _), (2, _)] dX6_refresh_18 (by decide) rfl ?_
    refine rf_l (d := d) (w_fit.mono (by omega) hE) hP (P 6 0) 0 I2 (by omega) (hR.fr f2 (by decide)) (hA.fr f2 (by decide)) (fun p hp => absurd hp (Nat.not_lt_zero _)) (fun p _ hp w hw => by rw [m1, w_row_at]; exact if_pos (by omega)) (fun I3 k1 k2 => ?_)
    have f3 := f2.trans k2
    refine V_aload_n 41 0 dX6_refresh_41 rfl ?_
    refine V_cst 42 1 dX6_refresh_42 rfl ?_
    refine V_putZ 43 flX6_34 ft_6_2 dX6_refresh_43 rfl (by first | exact Or.inl rfl | exact Or.inr rfl | assumption) ?_
    refine V_sub [(0, _), (1, _)] [0, 1] rfl ?_
    refine k46 _ (w_put_same _ _ _ _) ?_ ?_ ?_ (fun i h1 h2 => by rw [w_put_ne _ _ h1, f3 i (by omega)])
    · intro p hp w hw
      rw [w_put_other _ (Or.inl (by decide))]
      exact k1 p hp w hw
    · rw [w_put_other _ (Or.inr (by decide)), f3 50 (by decide)]
    · rw [w_put_other _ (Or.inr (by decide)), f3 50 (by decide)]
      rcases hH with h | ⟨h, x, hx, h2⟩
      · exact Or.inl h
      · refine Or.inr ⟨h, x, hx, fun q hq => (h2 q hq).c57 ?_ ?_⟩
        · rw [w_put_ne _ _ (by decide), f3 53 (by decide)]
        · rw [w_put_ne _ _ (by decide), f3 51 (by decide)]
end
