section
variable {P Y : w_R}
/-! who spoke in an hour of the past does not matter -/
theorem put_put (C : w_R) (k j x y : Nat) : w_put (w_put C k j x) k j y = w_put C k j y := by
  funext a b
  rw [w_put_eq, w_put_eq, w_put_eq]
  split <;> rfl
theorem put_comm (C : w_R) {k j x k' j' y : Nat} (h : k ≠ k') : w_put (w_put C k j x) k' j' y = w_put (w_put C k' j' y) k j x := by
  funext a b
  simp only [w_put_eq]
  by_cases h1 : a = k' ∧ b = j'
  · rw [if_pos h1, if_neg (fun q => h (q.1.symm.trans h1.1)), if_pos h1]
  · rw [if_neg h1]
    by_cases h2 : a = k ∧ b = j
    · rw [if_pos h2, if_pos h2]
    · rw [if_neg h2, if_neg h2, if_neg h1]
theorem undo_sp (C : w_R) (x p : Nat) : s_undo (w_put C 6 0 x) p = w_put (s_undo C p) 6 0 x := by
  unfold s_undo
  simp only [w_put_eq, Nat.reduceEqDiff, false_and, if_false, reduceIte, and_self, true_and, and_true]
  rw [put_comm C (show 6 ≠ 3 by decide), put_comm _ (show 6 ≠ 4 by decide), put_comm _ (show 6 ≠ 7 by decide), put_comm _ (show 6 ≠ 2 by decide)]
theorem make1_sp (C : w_R) (x h p : Nat) : s_make1 P h (w_put C 6 0 x) p = w_put (s_make1 P h C p) 6 0 x := by
  unfold s_make1
  rw [w_put_other C (Or.inl (show 0 ≠ 6 by decide)), w_put_other C (Or.inl (show 3 ≠ 6 by decide))]
  split
  · split
    · exact undo_sp C x p
    · rw [put_comm C (show 6 ≠ 3 by decide), put_comm _ (show 6 ≠ 9 by decide)]
  · rfl
theorem make_sp (C : w_R) (x h : Nat) : ∀ n, s_make P h (w_put C 6 0 x) n = w_put (s_make P h C n) 6 0 x := by
  intro n
  unfold s_make
  induction n with
  | zero => rfl
  | succ n ih =>
    rw [List.range_succ, List.foldl_append, List.foldl_append, ih]
    exact make1_sp _ x h n
theorem hour_sp (C : w_R) (x h : Nat) : s_hour P Y (w_put C 6 0 x) h = s_hour P Y C h := by
  unfold s_hour
  rw [make_sp, put_put]
theorem hours_sp (C : w_R) (x : Nat) : ∀ n, (List.range (n + 1)).foldl (s_hour P Y) (w_put C 6 0 x) = (List.range (n + 1)).foldl (s_hour P Y) C := by
  intro n
  induction n with
  | zero => exact hour_sp C x 0
  | succ n ih => rw [List.range_succ, List.foldl_append, List.foldl_append, ih]
theorem day_sp (C : w_R) (x : Nat) : s_day P Y (w_put C 6 0 x) = s_day P Y C := by
  unfold s_day
  rw [hours_sp C x 11]
theorem t_D_front (C : w_R) : ∀ n, t_D P Y (s_day P Y C) n = t_D P Y C (n + 1) := by
  intro n
  induction n with
  | zero => rfl
  | succ n ih => show s_day P Y (t_D P Y (s_day P Y C) n) = _; rw [ih]; rfl
theorem t_D_sp (C : w_R) (x n : Nat) : w_put (t_D P Y (w_put C 6 0 x) n) 6 0 0 = w_put (t_D P Y C n) 6 0 0 := by
  cases n with
  | zero => exact put_put C 6 0 x 0
  | succ n => rw [← t_D_front, day_sp, t_D_front]
theorem CI.sp {C : w_R} {x : Nat} (h : CI P C) (hx : x < 64) : CI P (w_put C 6 0 x) := by
  obtain ⟨h1, h2, h3, h4⟩ := h
  refine ⟨COK.put h1 6 0 x (by omega) (by omega) (by omega) (by omega) (fun _ _ => hx) (by omega) (by omega), ?_, ?_, fun p => ?_⟩
  · rw [w_put_other _ (Or.inl (by decide))]; exact h2.spoke x
  · rw [w_put_other _ (Or.inl (by decide))]; exact h3
  · rw [w_put_other _ (Or.inl (by decide))]; exact h4 p
theorem t_D_CI2 {C0 : w_R} (hP : s_POK P) (hY : s_YOK P Y) (h0 : CI P C0) : ∀ n, C0 0 0 + n < 1000000 → CI P (t_D P Y C0 n) := by
  intro n
  induction n with
  | zero => intro _; exact h0
  | succ n ih => intro hn; exact (ih (by omega)).day hP hY (by rw [t_D_day]; omega)
/-! how many have fallen -/
theorem undo_2 (C : w_R) (p : Nat) : s_undo C p 2 0 = C 2 0 + 1 := by unfold s_undo; simp [w_put_eq]
theorem fallen_hours (C : w_R) : C 2 0 ≤ (List.range 12).foldl (s_hour P Y) C 2 0 := by
  refine day_ind (J := fun D => C 2 0 ≤ D 2 0) (Nat.le_refl _) (fun D h p _ _ e => ?_) (fun D e => ?_) (fun D s _ e => ?_) 12 (Nat.le_refl _)
  · unfold s_make1
    split
    · split
      · rw [undo_2]; omega
      · rw [w_put_other _ (Or.inl (by decide)), w_put_other _ (Or.inl (by decide))]; exact e
    · exact e
  · rw [w_put_other _ (Or.inl (by decide))]; exact e
  · rw [s_say_at D s 2 0 (by decide) (by decide) (by decide) (by decide)]; exact e
theorem fallen_day (C : w_R) : C 2 0 ≤ s_day P Y C 2 0 := by
  have e4 : s_day P Y C 2 0 = (List.range (P 6 0)).foldl (s_dusk1 P) ((List.range 12).foldl (s_hour P Y) C) 2 0 := by unfold s_day s_dusk; simp [w_put_eq]
  rw [e4]
  refine foldl_ind (J := fun (D : w_R) => C 2 0 ≤ D 2 0) _ _ (fallen_hours C) (fun D p _ e => ?_)
  unfold s_dusk1
  (try dsimp only)
  rw [w_put_other _ (Or.inl (by decide)), w_put_other _ (Or.inl (by decide))]
  split
  · rw [undo_2]; omega
  · exact e
theorem fallen_D (C : w_R) : ∀ n, C 2 0 ≤ t_D P Y C n 2 0 := by
  intro n
  induction n with
  | zero => exact Nat.le_refl _
  | succ n ih => exact Nat.le_trans ih (fallen_day _)
end
section
variable {Ω : w_O} {d u v : Nat} {L : w_L} {E : w_E} {P Y : w_R} {I : w_I} {σ : w_Z} {R : w_R}
/-! days -/
theorem dy_in {a b g : Nat} {D : w_R} (hE : w_fit (d + 2) E) (hP : s_POK P) (hY : s_YOK P Y) (hD : COK D) : ∀ (n h : Nat) (I : w_I), h + n = 12 → PRep 15 P I → YRep 27 Y I → ARep P I → LRep P Y I → cv 34 I = (List.range h).foldl (s_hour P Y) D →
    (∀ I', cv 34 I' = (List.range 12).foldl (s_hour P Y) D → Fr 34 38 I I' → V mX7_days E Ω 0 0 (SH u v) I' L 75 [(0, .ref (Ω.1 + 0)), (1, .int (nI a)), (2, .int (nI b)), (3, .int (nI g)), (4, .int (nI 12))] []) →
    V mX7_days E Ω 0 0 (SH u v) I L 49 [(0, .ref (Ω.1 + 0)), (1, .int (nI a)), (2, .int (nI b)), (3, .int (nI g)), (4, .int (nI h))] [] := by
  intro n
  induction n with
  | zero =>
    intro h I hh hR hRY hA hL hC hk
    have e : h = 12 := by omega
    subst e
    refine V_iload 49 4 dX7_days_49 rfl ?_
    refine V_bip 51 12 dX7_days_51 rfl ?_
    refine V_cN_ge 53 75 dX7_days_53 (by decide) (by omega) (by omega) (fun c => ?_) (fun c => ?_)
    · exact hk I hC Fr.rf
    · omega
  | succ n ih =>
    intro h I hh hR hRY hA hL hC hk
    refine V_iload 49 4 dX7_days_49 rfl ?_
    refine V_bip 51 12 dX7_days_51 rfl ?_
    refine V_cN_ge 53 75 dX7_days_53 (by decide) (by omega) (by omega) (fun c => ?_) (fun c => ?_)
    · omega
    refine V_aload_n 56 0 dX7_days_56 rfl ?_
    refine V_getR 57 flX7_45 dX7_days_57 rfl ?_
    refine V_aload_n 60 0 dX7_days_60 rfl ?_
    refine V_getR 61 flX7_36 dX7_days_61 rfl ?_
    refine V_iload 64 4 dX7_days_64 rfl ?_
    refine V_vv 66 mvX7_205 dX7_days_66 ⟨_, _, _, rfl, rfl, rfl⟩ (w_fit.mono (by omega) hE) (c_passHour_34 (d := d) (h := h) hP hY (by omega) hR hRY hA hL (by rw [hC]; exact s_hours_ok hP hY hD h (by omega))) rfl (Nat.le_of_ble_eq_true rfl) ?_
    rintro _ I1 _ ⟨rfl, rfl, g1, g2⟩
    have g1 : cv 34 I1 = (List.range (h + 1)).foldl (s_hour P Y) D := by rw [g1, hC, List.range_succ, List.foldl_append]; rfl
    refine V_inc 69 4 _ [(0, _), (1, _), (2, _), (3, _), (4, _)] dX7_days_69 rfl rfl rfl (by decide) rfl ?_
    refine V_goto 72 49 dX7_days_72 (by decide) ?_
    exact ih (h + 1) I1 (by omega) (hR.fr g2 (by decide)) (hRY.fr g2 (by decide)) (hA.fr g2 (by decide)) (hL.fr g2 (by decide)) g1 (fun I' m1 m2 => hk I' m1 (g2.trans m2))
theorem dy_out {a b : Nat} {D : w_R} (ha : a ≤ 100) (hE : w_fit (d + 2) E) (hP : s_POK P) (hY : s_YOK P Y) (hD : CI P D) (hd : D 0 0 + 100 < 1000000) : ∀ (n g : Nat) (I : w_I), g + n = a → PRep 15 P I → YRep 27 Y I → ARep P I → LRep P Y I → cv 34 I = t_D P Y D g →
    (∀ I' x, cv 34 I' = t_D P Y D a → Fr 34 38 I I' → V mX7_days E Ω 0 0 (SH u v) I' L 88 [(0, .ref (Ω.1 + 0)), (1, .int (nI a)), (2, .int (nI b)), (3, .int (nI x))] []) →
    V mX7_days E Ω 0 0 (SH u v) I L 41 [(0, .ref (Ω.1 + 0)), (1, .int (nI a)), (2, .int (nI b)), (3, .int (nI g))] [] := by
  intro n
  induction n with
  | zero =>
    intro g I hh hR hRY hA hL hC hk
    have e : g = a := by omega
    subst e
    refine V_iload_n 41 3 dX7_days_41 rfl ?_
    refine V_iload_n 42 1 dX7_days_42 rfl ?_
    refine V_cN_ge 43 88 dX7_days_43 (by decide) (by omega) (by omega) (fun c => ?_) (fun c => ?_)
    · exact hk I _ hC Fr.rf
    · omega
  | succ n ih =>
    intro g I hh hR hRY hA hL hC hk
    have hci := t_D_CI2 hP hY hD g (by omega)
    refine V_iload_n 41 3 dX7_days_41 rfl ?_
    refine V_iload_n 42 1 dX7_days_42 rfl ?_
    refine V_cN_ge 43 88 dX7_days_43 (by decide) (by omega) (by omega) (fun c => ?_) (fun c => ?_)
    · omega
    refine V_cst 46 0 dX7_days_46 rfl ?_
    refine V_istore 47 [(0, _), (1, _), (2, _), (3, _), (4, _)] dX7_days_47 (by decide) rfl ?_
    refine dy_in hE hP hY hci.1 12 0 I (by omega) hR hRY hA hL hC (fun I1 g1 g2 => ?_)
    refine V_aload_n 75 0 dX7_days_75 rfl ?_
    refine V_getR 76 flX7_45 dX7_days_76 rfl ?_
    refine V_vv 79 mvX7_209 dX7_days_79 ⟨_, _, _, rfl, rfl, rfl⟩ (w_fit.mono (by omega) hE) (c_passDusk_34 (d := d) hP (hR.fr g2 (by decide)) (by rw [g1]; exact s_hours_ok hP hY hci.1 12 (by omega))) rfl (Nat.le_of_ble_eq_true rfl) ?_
    rintro _ I2 _ ⟨rfl, rfl, k1, k2⟩
    have f2 := g2.trans k2
    refine V_inc 82 3 _ [(0, _), (1, _), (2, _), (3, _), (4, _)] dX7_days_82 rfl rfl rfl (by decide) rfl ?_
    refine V_goto 85 41 dX7_days_85 (by decide) ?_
    refine V_sub [(0, _), (1, _), (2, _), (3, _)] [0, 1, 2, 3] rfl ?_
    exact ih (g + 1) I2 (by omega) (hR.fr f2 (by decide)) (hRY.fr f2 (by decide)) (hA.fr f2 (by decide)) (hL.fr f2 (by decide)) (by rw [k1, g1]; rfl) (fun I' x m1 m2 => hk I' x m1 (f2.trans m2))
def z_days (σ : w_Z) (a : Nat) : w_Z := z_put σ 2 (w_put (t_D (σ 0) (σ 1) (σ 2) a) 6 0 0)
/-- a change in the course alone -/
theorem CInv.c {C' : w_R} {I' : w_I} (h : CInv u v σ I) (hf : ∀ i, i < 32 ∨ 38 ≤ i → I' i = I i) (hC : CC (σ 0) C' I') : CInv u v (z_put σ 2 C') I' := by
  obtain ⟨g1, g2, g3, g4, g5, g6, g7, g8, g9⟩ := h
  have fr : Fr 32 38 I I' := fun i hi => hf i hi
  exact ⟨g1, g2.fr fr (by decide), g3.fr fr (by decide), hC, g5.fr fr (by decide), g6.fr fr (by decide), g7.fr fr (by decide) (by decide), g8.fr fr (by decide), g9.fr fr (by decide)⟩
theorem c_days {a : Nat} (hI : CInv u v σ I) (ha : a ≤ 100) (hd : σ 2 0 0 + 100 < 1000000) : FnI Ω (d + 3) mX7_days [.ref (Ω.1 + 0), .int (nI a)] (SH u v) I L (fun r S' I' L' => r = nI (t_D (σ 0) (σ 1) (σ 2) a 2 0 - σ 2 2 0) ∧ S' = SH u v ∧ L = L' ∧ CInv u v (z_days σ a) I' ∧ Fr 0 63 I I') := by
  have hI0 := hI
  obtain ⟨-, ⟨p1, p2, p3, -⟩, ⟨y1, y2⟩, hC, -⟩ := hI
  refine FnR_of okX7_days (Nat.le_of_ble_eq_true rfl) fun l z => ?_
  have hE : w_fit (d + 2) (w_Er l (d + 3) 0 0 Ω (w_pi (fun r S' I' L' => r = nI (t_D (σ 0) (σ 1) (σ 2) a 2 0 - σ 2 2 0) ∧ S' = SH u v ∧ L = L' ∧ CInv u v (z_days σ a) I' ∧ Fr 0 63 I I')) z) := w_fit_r
  have ecv : cv 34 I = w_put (σ 2) 6 0 (I 34 7) := by
    rw [← hC.2.2.1, put_put]
    funext k j
    rw [w_put_eq]
    split
    · rename_i q; rw [q.1, q.2]; rfl
    · rfl
  show V _ _ _ _ _ _ _ _ 0 [(0, _), (1, _)] []
  refine V_iload_n 0 1 dX7_days_0 rfl ?_
  refine V_zN_lt 1 10 dX7_days_1 (by decide) (by omega) (fun c => ?_) (fun c => ?_)
  · omega
  refine V_iload_n 4 1 dX7_days_4 rfl ?_
  refine V_bip 5 100 dX7_days_5 rfl ?_
  refine V_cN_le 7 20 dX7_days_7 (by decide) (by omega) (by omega) (fun c1 => ?_) (fun c1 => ?_)
  rotate_left
  · omega
  refine V_aload_n 20 0 dX7_days_20 rfl ?_
  refine V_getR 21 flX7_45 dX7_days_21 rfl ?_
  refine V_getI 24 flX7_200 dX7_days_24 rfl ?_
  refine V_istore_n 27 [(0, _), (1, _), (2, _)] dX7_days_27 (by decide) rfl ?_
  refine V_aload_n 28 0 dX7_days_28 rfl ?_
  refine V_getR 29 flX7_36 dX7_days_29 rfl ?_
  refine V_aload_n 32 0 dX7_days_32 rfl ?_
  refine V_getR 33 flX7_29 dX7_days_33 rfl ?_
  rw [show I 34 3 = σ 2 2 0 from hC.at 2 0 (by decide)]
  refine V_vv 36 mvX7_203 dX7_days_36 ⟨_, _, _, rfl, rfl, rfl⟩ (w_fit.mono (by omega) hE) (c_sarrange (d := d) p1 y1 p2 y2 p3) rfl (Nat.le_of_ble_eq_true rfl) ?_
  rintro _ I1 _ ⟨rfl, rfl, k1, k2⟩
  have e1 : cv 34 I1 = t_D (σ 0) (σ 1) (w_put (σ 2) 6 0 (I 34 7)) 0 := by rw [cv_fr k2 (by decide), ecv]; rfl
  have hci := hC.1.sp hC.2.2.2
  refine V_cst 39 0 dX7_days_39 rfl ?_
  refine V_istore_n 40 [(0, _), (1, _), (2, _), (3, _)] dX7_days_40 (by decide) rfl ?_
  refine dy_out (D := w_put (σ 2) 6 0 (I 34 7)) ha hE p1 y1 hci (by rw [w_put_other _ (Or.inl (by decide))]; exact hd) a 0 I1 (by omega) (p2.fr k2 (by decide)) (y2.fr k2 (by decide)) (p3.fr k2 (by decide)) k1 e1 (fun I2 x m1 m2 => ?_)
  have hfin := t_D_CI2 p1 y1 hci a (by rw [w_put_other _ (Or.inl (by decide))]; omega)
  have hsp := t_D_sp (P := σ 0) (Y := σ 1) (σ 2) (I 34 7) a
  have e2 : I2 34 3 = t_D (σ 0) (σ 1) (σ 2) a 2 0 := by
    have h1 : cv 34 I2 2 0 = t_D (σ 0) (σ 1) (w_put (σ 2) 6 0 (I 34 7)) a 2 0 := by rw [m1]
    have h2 := congrFun (congrFun hsp 2) 0
    rw [w_put_other _ (Or.inl (by decide)), w_put_other _ (Or.inl (by decide))] at h2
    exact h1.trans h2
  have hle := fallen_D (P := σ 0) (Y := σ 1) (σ 2) a
  refine V_aload_n 88 0 dX7_days_88 rfl ?_
  refine V_getR 89 flX7_45 dX7_days_89 rfl ?_
  refine V_getI 92 flX7_200 dX7_days_92 rfl ?_
  refine V_iload_n 95 2 dX7_days_95 rfl ?_
  rw [e2]
  refine V_sub1 96 dX7_days_96 (by omega) ?_
  refine V_iret 97 dX7_days_97 rfl ⟨rfl, rfl, rfl, hI0.c (fun i hi => by rw [m2 i (by omega), k2 i (by omega)]) ⟨?_, w_put_same _ _ _ _, ?_, ?_⟩, fun i hi => by rw [m2 i (by omega), k2 i (by omega)]⟩
  · rw [← hsp]; exact hfin.sp (by decide)
  · rw [m1, hsp]
  · have := hfin.1.2.2.2.2.1
    rw [← m1] at this
    exact this
theorem t_days {a : Nat} (h32 : a < 4294967296) (ha : ¬ a ≤ 100) : FnT Ω d mX7_days [.ref (Ω.1 + 0), .int (nI a)] (SH u v) I L "java/lang/IllegalArgumentException" := by
  refine FnT_of okX7_days (Nat.le_of_ble_eq_true rfl) fun l z => ?_
  show V _ _ _ _ _ _ _ _ 0 [(0, _), (1, _)] []
  refine V_iload_n 0 1 dX7_days_0 rfl ?_
  refine V_zN_lt 1 10 dX7_days_1 (by decide) (by omega) (fun c => ?_) (fun c => ?_)
  · exact V_throwI 10 2 (tx := "not so many days go by at once") rfl clX7_81 ini_I (by decide) dX7_days_10 dX7_days_13 (Or.inl ⟨rfl, dX7_days_14⟩) dX7_days_16 dX7_days_19
  refine V_iload_n 4 1 dX7_days_4 rfl ?_
  refine V_bip 5 100 dX7_days_5 rfl ?_
  refine V_cN_le 7 20 dX7_days_7 (by decide) (by omega) (by omega) (fun c1 => ?_) (fun c1 => ?_)
  · omega
  · exact V_throwI 10 2 (tx := "not so many days go by at once") rfl clX7_81 ini_I (by decide) dX7_days_10 dX7_days_13 (Or.inl ⟨rfl, dX7_days_14⟩) dX7_days_16 dX7_days_19
/-! town -/
theorem t_town {a : Nat} (h32 : a < 4294967296) (hI : CInv u v σ I) (ha : ¬ a ≤ σ 3 0 0) : FnT Ω d mX7_town [.ref (Ω.1 + 0), .int (nI a)] (SH u v) I L "java/lang/IllegalArgumentException" := by
  obtain ⟨-, -, -, -, hT, -⟩ := hI
  have h7 := hT.2.1
  refine FnT_of okX7_town (Nat.le_of_ble_eq_true rfl) fun l z => ?_
  show V _ _ _ _ _ _ _ _ 0 [(0, _), (1, _)] []
  refine V_iload_n 0 1 dX7_town_0 rfl ?_
  refine V_zN_lt 1 12 dX7_town_1 (by decide) (by omega) (fun c => ?_) (fun c => ?_)
  · exact V_throwI 12 2 (tx := "the tape has not so many bytes") rfl clX7_81 ini_I (by decide) dX7_town_12 dX7_town_15 (Or.inl ⟨rfl, dX7_town_16⟩) dX7_town_18 dX7_town_21
  refine V_iload_n 4 1 dX7_town_4 rfl ?_
  refine V_aload_n 5 0 dX7_town_5 rfl ?_
  refine V_getI 6 flX7_74 dX7_town_6 rfl ?_
  rw [hT.1]
  refine V_cN_le 9 22 dX7_town_9 (by decide) (by omega) (by omega) (fun c1 => ?_) (fun c1 => ?_)
  · omega
  · exact V_throwI 12 2 (tx := "the tape has not so many bytes") rfl clX7_81 ini_I (by decide) dX7_town_12 dX7_town_15 (Or.inl ⟨rfl, dX7_town_16⟩) dX7_town_18 dX7_town_21
def z_bad (σ : w_Z) (p : Nat) : w_Z := z_put σ 3 (w_put (w_put (w_put (σ 3) 0 0 0) 2 0 p) 3 0 (σ 3 3 0 + 1))
def z_town (σ : w_Z) (P' : w_R) : w_Z := z_put (z_put (z_put (z_put σ 0 P') 1 (w_put (σ 1) 0 0 0)) 2 s_new) 3 (w_put (w_put (w_put (w_put (σ 3) 0 0 0) 2 0 mI) 8 0 0) 5 0 0)
theorem c_town {a : Nat} (hI : CInv u v σ I) (ha : a ≤ σ 3 0 0) : FnI Ω (d + 9) mX7_town [.ref (Ω.1 + 0), .int (nI a)] (SH u v) I L (fun r S' I' L' => S' = SH u v ∧ L = L' ∧ ((∃ f p, x_text (σ 3 1) a = .error (f, p) ∧ r = nI f ∧ CInv u v (z_bad σ p) I') ∨ ∃ P' e', x_text (σ 3 1) a = .ok (P', e') ∧ s_POK P' ∧ r = nI 0 ∧ CInv u v (z_town σ P') I') ∧ Fr 0 63 I I') := by
  have hI0 := hI
  obtain ⟨g1, g2, g3, g4, g5, g6, g7, g8, g9⟩ := hI
  have h7 := g5.2.1
  refine FnR_of okX7_town (Nat.le_of_ble_eq_true rfl) fun l z => ?_
  have hE : w_fit (d + 8) (w_Er l (d + 9) 0 0 Ω (w_pi (fun r S' I' L' => S' = SH u v ∧ L = L' ∧ ((∃ f p, x_text (σ 3 1) a = .error (f, p) ∧ r = nI f ∧ CInv u v (z_bad σ p) I') ∨ ∃ P' e', x_text (σ 3 1) a = .ok (P', e') ∧ s_POK P' ∧ r = nI 0 ∧ CInv u v (z_town σ P') I') ∧ Fr 0 63 I I')) z) := w_fit_r
  show V _ _ _ _ _ _ _ _ 0 [(0, _), (1, _)] []
  refine V_iload_n 0 1 dX7_town_0 rfl ?_
  refine V_zN_lt 1 12 dX7_town_1 (by decide) (by omega) (fun c => ?_) (fun c => ?_)
  · omega
  refine V_iload_n 4 1 dX7_town_4 rfl ?_
  refine V_aload_n 5 0 dX7_town_5 rfl ?_
  refine V_getI 6 flX7_74 dX7_town_6 rfl ?_
  rw [g5.1]
  refine V_cN_le 9 22 dX7_town_9 (by decide) (by omega) (by omega) (fun c1 => ?_) (fun c1 => ?_)
  rotate_left
  · omega
  refine V_aload_n 22 0 dX7_town_22 rfl ?_
  refine V_cst 23 0 dX7_town_23 rfl ?_
  refine V_putI 24 flX7_74 ft_7_1 dX7_town_24 rfl ?_
  refine V_aload_n 27 0 dX7_town_27 rfl ?_
  refine V_getR 28 flX7_18 dX7_town_28 rfl ?_
  refine V_iload_n 31 1 dX7_town_31 rfl ?_
  have hT1 : TX (σ 3 1) a (w_put I 0 1 0) := ⟨by omega, fun j hj => ⟨g5.2.2.1 j, by rw [w_put_other _ (Or.inl (by decide))]; exact g5.2.2.2 j (by omega)⟩⟩
  refine V_vi 32 mvX7_88 dX7_town_32 ⟨_, _, _, rfl, rfl, rfl⟩ (w_fit.mono (by omega) hE) (c_read (d := d) (T := σ 3 1) (n := a) hT1 g5.2.2.1) rfl (Nat.le_of_ble_eq_true rfl) ?_
  rintro r _ I1 _ ⟨rfl, rfl, k1, k2⟩
  have f1 : ∀ i, i ≠ 0 → i < 2 ∨ 15 ≤ i → I1 i = I i := fun i h0 hi => by rw [k2 i hi, w_put_ne _ _ h0]
  have f0 : I1 0 = w_put I 0 1 0 0 := k2 0 (by decide)
  rcases k1 with ⟨f, p, m1, m2, m3, rfl, m4⟩ | ⟨P', e', m1, m2, rfl, m3⟩
  · refine V_istore_n 35 [(0, _), (1, _), (2, _)] dX7_town_35 (by decide) rfl ?_
    refine V_iload_n 36 2 dX7_town_36 rfl ?_
    refine V_zN_eq 37 63 dX7_town_37 (by decide) (by omega) (fun c2 => ?_) (fun c2 => ?_)
    · omega
    refine V_aload_n 40 0 dX7_town_40 rfl ?_
    refine V_aload_n 41 0 dX7_town_41 rfl ?_
    refine V_getR 42 flX7_18 dX7_town_42 rfl ?_
    refine V_getI 45 flX7_92 dX7_town_45 rfl ?_
    refine V_putI 48 flX7_22 ft_7_3 dX7_town_48 rfl ?_
    refine V_aload_n 51 0 dX7_town_51 rfl ?_
    refine V_dup 52 dX7_town_52 rfl ?_
    rw [m4]
    refine V_getI 53 flX7_93 dX7_town_53 rfl ?_
    refine V_cst 56 1 dX7_town_56 rfl ?_
    refine V_add 57 dX7_town_57 ?_
    refine V_putI 58 flX7_93 ft_7_7 dX7_town_58 rfl ?_
    refine V_iload_n 61 2 dX7_town_61 rfl ?_
    rw [w_put_other _ (Or.inr (by decide)), f0, w_put_other _ (Or.inr (by decide)), g6.2.1]
    have e0 : ∀ j, j ≠ 1 → j ≠ 3 → j ≠ 7 → w_put (w_put I1 0 3 p) 0 7 (σ 3 3 0 + 1) 0 j = I 0 j := fun j a1 a2 a3 => by rw [w_put_other _ (Or.inr a3), w_put_other _ (Or.inr a2), f0, w_put_other _ (Or.inr a1)]
    have ef : ∀ i, i ≠ 0 → i < 2 ∨ 15 ≤ i → w_put (w_put I1 0 3 p) 0 7 (σ 3 3 0 + 1) i = I i := fun i h0 hi => by rw [w_put_ne _ _ h0, w_put_ne _ _ h0, f1 i h0 hi]
    have fr : Fr 2 15 (fun i => if i < 2 then w_put (w_put I1 0 3 p) 0 7 (σ 3 3 0 + 1) i else I i) (w_put (w_put I1 0 3 p) 0 7 (σ 3 3 0 + 1)) := by
      intro i hi
      show _ = if i < 2 then _ else _
      by_cases q : i < 2
      · rw [if_pos q]
      · rw [if_neg q]; exact ef i (by omega) (by omega)
    have fr0 : Fr 0 2 I (fun i => if i < 2 then w_put (w_put I1 0 3 p) 0 7 (σ 3 3 0 + 1) i else I i) := fun i hi => if_neg (by omega)
    refine V_iret 62 dX7_town_62 rfl ⟨rfl, rfl, Or.inl ⟨f, p, m1, rfl, g1, (g2.fr fr0 (by decide)).fr fr (by decide), (g3.fr fr0 (by decide)).fr fr (by decide), (g4.fr fr0 (by decide)).fr fr (by decide), ?_, ?_, ?_, ?_, (g9.fr fr0 (by decide)).fr fr (by decide)⟩, fun i hi => ef i (by omega) (by omega)⟩
    · refine ⟨?_, ?_, fun j => ?_, fun j hj => ?_⟩
      · rw [w_put_other _ (Or.inr (by decide)), w_put_other _ (Or.inr (by decide)), f0, w_put_same]; rfl
      · show 0 ≤ 700; decide
      · exact g5.2.2.1 j
      · exact absurd hj (Nat.not_lt_zero _)
    · refine ⟨?_, ?_, ?_⟩
      · rw [w_put_other _ (Or.inr (by decide)), w_put_same]; rfl
      · rw [w_put_same]; rfl
      · rw [e0 8 (by decide) (by decide) (by decide)]; exact g6.2.2
    · unfold CR
      rw [e0 13 (by decide) (by decide) (by decide), ef 62 (by decide) (by decide)]
      exact g7
    · exact (g8.fr fr0 (by decide)).fr fr (by decide)
  · refine V_istore_n 35 [(0, _), (1, _), (2, _)] dX7_town_35 (by decide) rfl ?_
    refine V_iload_n 36 2 dX7_town_36 rfl ?_
    refine V_zN_eq 37 63 dX7_town_37 (by decide) (by omega) (fun c2 => ?_) (fun c2 => ?_)
    rotate_left
    · exact absurd rfl c2
    refine V_aload_n 63 0 dX7_town_63 rfl ?_
    refine V_cst 64 4294967295 dX7_town_64 rfl ?_
    refine V_putI 65 flX7_22 ft_7_3 dX7_town_65 rfl ?_
    refine V_aload_n 68 0 dX7_town_68 rfl ?_
    refine V_getR 69 flX7_29 dX7_town_69 rfl ?_
    refine V_aload_n 72 0 dX7_town_72 rfl ?_
    refine V_getR 73 flX7_18 dX7_town_73 rfl ?_
    refine V_getR 76 flX7_96 dX7_town_76 rfl ?_
    have hR1 : PRep 3 P' (w_put I1 0 3 4294967295) := m3.fr (lo := 0) (hi := 1) (Fr.rf.put (by decide) (by decide)) (by decide)
    refine V_vv 79 mvX7_97 dX7_town_79 ⟨_, _, _, rfl, rfl, rfl⟩ (w_fit.mono (by omega) hE) (c_copyP (d := d) m2 hR1) rfl (Nat.le_of_ble_eq_true rfl) ?_
    rintro _ I2 _ ⟨rfl, rfl, n1, n2⟩
    refine V_aload_n 82 0 dX7_town_82 rfl ?_
    refine V_getR 83 flX7_29 dX7_town_83 rfl ?_
    refine V_vv 86 mvX7_100 dX7_town_86 ⟨_, _, _, rfl, rfl, rfl⟩ (w_fit.mono (by omega) hE) (c_parrange (d := d) m2 n1) rfl (Nat.le_of_ble_eq_true rfl) ?_
    rintro _ I3 _ ⟨rfl, rfl, o1, o2, o3, o4⟩
    refine V_aload_n 89 0 dX7_town_89 rfl ?_
    refine V_getR 90 flX7_36 dX7_town_90 rfl ?_
    refine V_cst 93 0 dX7_town_93 rfl ?_
    refine V_putI 94 flX7_103 ft_5_0 dX7_town_94 rfl ?_
    refine V_aload_n 97 0 dX7_town_97 rfl ?_
    refine V_getR 98 flX7_45 dX7_town_98 rfl ?_
    have hx : w_put I3 27 0 0 34 7 = I 34 7 := by
      rw [w_put_other _ (Or.inl (by decide)), o4.1 34 (by decide) (by decide) (by decide), n2 34 (by decide), w_put_ne _ _ (by decide), f1 34 (by decide) (by decide)]
    refine V_vv 101 mvX7_106 dX7_town_101 ⟨_, _, _, rfl, rfl, rfl⟩ (w_fit.mono (by omega) hE) (c_begin_34 (d := d)) rfl (Nat.le_of_ble_eq_true rfl) ?_
    rintro _ I4 _ ⟨rfl, rfl, q1, q2⟩
    refine V_aload_n 104 0 dX7_town_104 rfl ?_
    refine V_cst 105 0 dX7_town_105 rfl ?_
    refine V_putZ 106 flX7_109 ft_7_13 dX7_town_106 rfl (by first | exact Or.inl rfl | exact Or.inr rfl | assumption) ?_
    refine V_aload_n 109 0 dX7_town_109 rfl ?_
    refine V_getR 110 flX7_52 dX7_town_110 rfl ?_
    refine V_cst 113 0 dX7_town_113 rfl ?_
    refine V_putZ 114 flX7_113 ft_1_0 dX7_town_114 rfl (by first | exact Or.inl rfl | exact Or.inr rfl | assumption) ?_
    refine V_aload_n 117 0 dX7_town_117 rfl ?_
    refine V_getR 118 flX7_59 dX7_town_118 rfl ?_
    refine V_cst 121 0 dX7_town_121 rfl ?_
    refine V_putZ 122 flX7_116 ft_6_2 dX7_town_122 rfl (by first | exact Or.inl rfl | exact Or.inr rfl | assumption) ?_
    refine V_aload_n 125 0 dX7_town_125 rfl ?_
    refine V_getR 126 flX7_59 dX7_town_126 rfl ?_
    refine V_cst 129 0 dX7_town_129 rfl ?_
    refine V_putZ 130 flX7_119 ft_6_1 dX7_town_130 rfl (by first | exact Or.inl rfl | exact Or.inr rfl | assumption) ?_
    refine V_cst 133 0 dX7_town_133 rfl ?_
    rw [hx] at q1
    have e15 : ∀ i, 15 ≤ i → i < 27 → w_put (w_put (w_put (w_put I4 0 13 0) 38 0 0) 50 2 0) 50 1 0 i = I3 i := fun i a1 a2 => by
      rw [w_put_ne _ _ (by omega), w_put_ne _ _ (by omega), w_put_ne _ _ (by omega), w_put_ne _ _ (by omega), q2 i (by omega), w_put_ne _ _ (by omega)]
    have ehi : ∀ i, 27 ≤ i → i ≠ 27 → i < 34 ∨ 38 ≤ i → i ≠ 38 → i ≠ 50 → w_put (w_put (w_put (w_put I4 0 13 0) 38 0 0) 50 2 0) 50 1 0 i = I i := fun i a1 a2 a3 a4 a5 => by
      rw [w_put_ne _ _ a5, w_put_ne _ _ a5, w_put_ne _ _ a4, w_put_ne _ _ (by omega), q2 i (by omega), w_put_ne _ _ a2, o4.1 i (by omega) (by omega) (by omega), n2 i (by omega), w_put_ne _ _ (by omega), f1 i (by omega) (by omega)]
    have ec : ∀ i, 34 ≤ i → i < 38 → w_put (w_put (w_put (w_put I4 0 13 0) 38 0 0) 50 2 0) 50 1 0 i = I4 i := fun i a1 a2 => by
      rw [w_put_ne _ _ (by omega), w_put_ne _ _ (by omega), w_put_ne _ _ (by omega), w_put_ne _ _ (by omega)]
    have e00 : ∀ j, j ≠ 13 → w_put (w_put (w_put (w_put I4 0 13 0) 38 0 0) 50 2 0) 50 1 0 0 j = w_put I1 0 3 4294967295 0 j := fun j hj => by
      rw [w_put_other _ (Or.inl (by decide)), w_put_other _ (Or.inl (by decide)), w_put_other _ (Or.inl (by decide)), w_put_other _ (Or.inr hj), q2 0 (by decide), w_put_ne _ _ (by decide), o4.1 0 (by decide) (by decide) (by decide), n2 0 (by decide)]
    have ecv : cv 34 (w_put (w_put (w_put (w_put I4 0 13 0) 38 0 0) 50 2 0) 50 1 0) = w_put s_new 6 0 (I 34 7) := by
      rw [← q1]
      unfold cv
      rw [ec 34 (by decide) (by decide), ec (34 + 1) (by decide) (by decide), ec (34 + 2) (by decide) (by decide), ec (34 + 3) (by decide) (by decide)]
    have hsn : w_put s_new 6 0 0 = s_new := by
      funext k j
      rw [w_put_eq]
      split
      · rename_i q; rw [q.1, q.2]; rfl
      · rfl
    refine V_iret 134 dX7_town_134 rfl ⟨rfl, rfl, Or.inr ⟨P', e', m1, m2, rfl, g1, ⟨m2, ?_, ?_, ?_⟩, ⟨⟨?_, fun s hs => absurd hs (Nat.not_lt_zero _)⟩, ?_, fun s hs => absurd hs (Nat.not_lt_zero _)⟩, ⟨?_, rfl, ?_, ?_⟩, ⟨?_, ?_, fun j => g5.2.2.1 j, fun j hj => absurd hj (Nat.not_lt_zero _)⟩, ⟨?_, ?_, ?_⟩, ⟨?_, Or.inl rfl⟩, ⟨?_, Or.inl rfl, ?_, ?_, fun j hj => ?_⟩, ⟨?_, Or.inl ?_, Or.inl (w_put_same _ _ _ _)⟩⟩, fun i hi => ?_⟩
    · show PRep 15 P' _
      unfold PRep at o1 ⊢
      rw [e15 15 (by decide) (by decide), e15 (15 + 1) (by decide) (by decide), e15 (15 + 2) (by decide) (by decide), e15 (15 + 3) (by decide) (by decide), e15 (15 + 4) (by decide) (by decide), e15 (15 + 5) (by decide) (by decide), e15 (15 + 6) (by decide) (by decide), e15 (15 + 7) (by decide) (by decide), e15 (15 + 8) (by decide) (by decide), e15 (15 + 9) (by decide) (by decide)]
      exact o1
    · show ARep P' _
      unfold ARep at o2 ⊢
      rw [e15 25 (by decide) (by decide), e15 26 (by decide) (by decide)]
      exact o2
    · rw [e15 15 (by decide) (by decide)]; exact o3
    · show 0 ≤ 60; decide
    · show w_put (w_put (w_put (w_put I4 0 13 0) 38 0 0) 50 2 0) 50 1 0 27 0 = 0
      rw [w_put_ne _ _ (by decide), w_put_ne _ _ (by decide), w_put_ne _ _ (by decide), w_put_ne _ _ (by decide), q2 27 (by decide), w_put_same]
    · show CI P' s_new
      rw [← hsn]
      exact CI.new 0 (by decide)
    · rw [ecv, put_put]; exact hsn
    · rw [ec 34 (by decide) (by decide)]
      have : cv 34 I4 6 0 = w_put s_new 6 0 (I 34 7) 6 0 := by rw [q1]
      rw [w_put_same] at this
      have e2 : I4 34 7 = I 34 7 := this
      rw [e2]; exact g4.2.2.2
    · rw [e00 1 (by decide), w_put_other _ (Or.inr (by decide)), f0, w_put_same]; rfl
    · show 0 ≤ 700; decide
    · rw [e00 3 (by decide), w_put_same]; rfl
    · rw [e00 7 (by decide), w_put_other _ (Or.inr (by decide)), f0, w_put_other _ (Or.inr (by decide))]; exact g6.2.1
    · rw [e00 8 (by decide), w_put_other _ (Or.inr (by decide)), f0, w_put_other _ (Or.inr (by decide))]; exact g6.2.2
    · rw [w_put_ne _ _ (by decide), w_put_ne _ _ (by decide), w_put_ne _ _ (by decide), w_put_same]; rfl
    · rw [w_put_ne _ _ (by decide), w_put_ne _ _ (by decide), w_put_same]; rfl
    · rw [ehi 46 (by decide) (by decide) (by decide) (by decide) (by decide)]; exact g8.2.2.1
    · rw [ehi 46 (by decide) (by decide) (by decide) (by decide) (by decide)]; exact g8.2.2.2.1
    · rw [ehi 49 (by decide) (by decide) (by decide) (by decide) (by decide)]; exact g8.2.2.2.2 j hj
    · rw [ehi 54 (by decide) (by decide) (by decide) (by decide) (by decide)]; exact g9.1
    · rw [w_put_other _ (Or.inr (by decide)), w_put_same]
    · exact ehi i (by omega) (by omega) (by omega) (by omega) (by omega)
end
