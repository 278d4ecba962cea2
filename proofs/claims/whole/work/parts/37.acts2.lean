theorem PT.misc {R : w_R} {I : w_I} {k j x q y : Nat} (h : PT R I) (hk : 2 ≤ k) (hq : q ≠ 1) : PT (w_put R k j x) (w_put I 0 q y) := by
  obtain ⟨h1, h2, h3, h4⟩ := h
  refine ⟨?_, ?_, fun i => ?_, fun i hi => ?_⟩
  · rw [w_put_other _ (Or.inr (Ne.symm hq)), w_put_other _ (Or.inl (by omega))]; exact h1
  · rw [w_put_other _ (Or.inl (by omega))]; exact h2
  · rw [w_put_other _ (Or.inl (by omega))]; exact h3 i
  · rw [w_put_other _ (Or.inl (by omega))] at hi
    rw [w_put_other I (Or.inl (by decide)), w_put_other R (Or.inl (by omega))]; exact h4 i hi
theorem PT.put {R : w_R} {I : w_I} {k j x : Nat} (h : PT R I) (hk : 2 ≤ k) : PT (w_put R k j x) I := by
  obtain ⟨h1, h2, h3, h4⟩ := h
  refine ⟨?_, ?_, fun i => ?_, fun i hi => ?_⟩
  · rw [w_put_other _ (Or.inl (by omega))]; exact h1
  · rw [w_put_other _ (Or.inl (by omega))]; exact h2
  · rw [w_put_other _ (Or.inl (by omega))]; exact h3 i
  · rw [w_put_other _ (Or.inl (by omega))] at hi
    rw [w_put_other R (Or.inl (by omega))]; exact h4 i hi
theorem PT.of {R : w_R} {I I' : w_I} (h : PT R I) (h0 : I' 0 1 = I 0 1) (h1 : I' 1 = I 1) : PT R I' := by
  unfold PT; rw [h0, h1]; exact h
section
variable {Ω : w_O} {d u v : Nat} {L : w_L} {E : w_E} {P : w_R} {I : w_I} {σ : w_Z} {R : w_R}
/-! say -/
def q_says (σ : w_Z) (dd w : Nat) : Prop := σ 1 0 0 < 60 ∧ (dd = mI ∨ dd < 100) ∧ w < 2
theorem YOK_add {P Y : w_R} {dd m w p : Nat} (h : s_YOK P Y) (hn : Y 0 0 < 60) (hd : dd = mI ∨ dd < 100) (hw : w < 2) (hm : m < P 2 0) (hp : p < P 6 0) : s_YOK P (s_addY Y dd m w p) := by
  unfold s_addY
  refine ⟨by rw [w_put_same]; omega, fun s hs => ?_⟩
  rw [w_put_same] at hs
  by_cases e : s = Y 0 0
  · subst e
    simp [w_put_eq]
    exact ⟨hd.symm, hm, hw, hp⟩
  · simpa [w_put_eq, e] using h.2 s (by omega)
theorem sy_gen {dd m w p : Nat} (hd : dd < 4294967296) (hw : w < 4294967296) (hI : CInv u v σ I)
    (k0 : ¬ q_says σ dd w → ∀ x y, V mX7_say E Ω 0 0 (SH u v) I L 71 [(0, .ref (Ω.1 + 0)), (1, .int (nI dd)), (2, .int (nI m)), (3, .int (nI w)), (4, .int (nI p)), (5, .int (nI x)), (6, .int (nI y))] [])
    (k1 : q_says σ dd w → ∀ x y, V mX7_say E Ω 0 0 (SH u v) I L 83 [(0, .ref (Ω.1 + 0)), (1, .int (nI dd)), (2, .int (nI m)), (3, .int (nI w)), (4, .int (nI p)), (5, .int (nI x)), (6, .int (nI y))] []) :
    V mX7_say E Ω 0 0 (SH u v) I L 11 [(0, .ref (Ω.1 + 0)), (1, .int (nI dd)), (2, .int (nI m)), (3, .int (nI w)), (4, .int (nI p))] [] := by
  have hmI : mI = 4294967295 := rfl
  obtain ⟨-, -, ⟨y1, y2⟩, -⟩ := hI
  have h60 := y1.1
  have k47 : ∀ x y, x < 2 → y < 2 → (x ≠ 0 ↔ (dd = mI ∨ dd < 100)) → (y ≠ 0 ↔ w < 2) → V mX7_say E Ω 0 0 (SH u v) I L 47 [(0, .ref (Ω.1 + 0)), (1, .int (nI dd)), (2, .int (nI m)), (3, .int (nI w)), (4, .int (nI p)), (5, .int (nI x))] [.int (nI y)] := by
    intro x y hx hy ex ey
    refine V_istore 47 [(0, _), (1, _), (2, _), (3, _), (4, _), (5, _), (6, _)] dX7_say_47 (by decide) rfl ?_
    refine V_aload_n 49 0 dX7_say_49 rfl ?_
    refine V_getR 50 flX7_36 dX7_say_50 rfl ?_
    refine V_getI 53 flX7_103 dX7_say_53 rfl ?_
    refine V_bip 56 60 dX7_say_56 rfl ?_
    rw [y2.1]
    refine V_cN_ge 58 71 dX7_say_58 (by decide) (by omega) (by omega) (fun c => ?_) (fun c => ?_)
    · exact k0 (fun h => by have := h.1; omega) x y
    refine V_iload 61 5 dX7_say_61 rfl ?_
    refine V_zN_eq 63 71 dX7_say_63 (by decide) (by omega) (fun c1 => ?_) (fun c1 => ?_)
    · exact k0 (fun h => (ex.mpr h.2.1) c1) x y
    refine V_iload 66 6 dX7_say_66 rfl ?_
    refine V_zN_ne 68 83 dX7_say_68 (by decide) (by omega) (fun c2 => ?_) (fun c2 => ?_)
    · exact k1 ⟨c, ex.mp c1, ey.mp c2⟩ x y
    · exact k0 (fun h => (ey.mpr h.2.2) c2) x y
  have k31 : ∀ x, x < 2 → (x ≠ 0 ↔ (dd = mI ∨ dd < 100)) → V mX7_say E Ω 0 0 (SH u v) I L 31 [(0, .ref (Ω.1 + 0)), (1, .int (nI dd)), (2, .int (nI m)), (3, .int (nI w)), (4, .int (nI p))] [.int (nI x)] := by
    intro x hx ex
    refine V_istore 31 [(0, _), (1, _), (2, _), (3, _), (4, _), (5, _)] dX7_say_31 (by decide) rfl ?_
    refine V_iload_n 33 3 dX7_say_33 rfl ?_
    refine V_zN_eq 34 42 dX7_say_34 (by decide) (by omega) (fun c => ?_) (fun c => ?_)
    · refine V_cst 42 1 dX7_say_42 rfl ?_
      refine V_goto 43 47 dX7_say_43 (by decide) ?_
      exact k47 x 1 hx (by decide) ex ⟨fun _ => by omega, fun _ => by decide⟩
    refine V_iload_n 37 3 dX7_say_37 rfl ?_
    refine V_cst 38 1 dX7_say_38 rfl ?_
    refine V_cN_ne 39 46 dX7_say_39 (by decide) (by omega) (by omega) (fun c1 => ?_) (fun c1 => ?_)
    · refine V_cst 46 0 dX7_say_46 rfl ?_
      exact k47 x 0 hx (by decide) ex ⟨fun h => absurd rfl h, fun h => by omega⟩
    · refine V_cst 42 1 dX7_say_42 rfl ?_
      refine V_goto 43 47 dX7_say_43 (by decide) ?_
      exact k47 x 1 hx (by decide) ex ⟨fun _ => by omega, fun _ => by decide⟩
  refine V_iload_n 11 1 dX7_say_11 rfl ?_
  refine V_cst 12 4294967295 dX7_say_12 rfl ?_
  refine V_cN_eq 13 26 dX7_say_13 (by decide) (by omega) (by omega) (fun c => ?_) (fun c => ?_)
  · refine V_cst 26 1 dX7_say_26 rfl ?_
    refine V_goto 27 31 dX7_say_27 (by decide) ?_
    exact k31 1 (by decide) ⟨fun _ => Or.inl c, fun _ => by decide⟩
  refine V_iload_n 16 1 dX7_say_16 rfl ?_
  refine V_zN_lt 17 30 dX7_say_17 (by decide) (by omega) (fun c1 => ?_) (fun c1 => ?_)
  · refine V_cst 30 0 dX7_say_30 rfl ?_
    exact k31 0 (by decide) ⟨fun h => absurd rfl h, fun h => by omega⟩
  refine V_iload_n 20 1 dX7_say_20 rfl ?_
  refine V_bip 21 100 dX7_say_21 rfl ?_
  refine V_cN_ge 23 30 dX7_say_23 (by decide) (by omega) (by omega) (fun c2 => ?_) (fun c2 => ?_)
  · refine V_cst 30 0 dX7_say_30 rfl ?_
    exact k31 0 (by decide) ⟨fun h => absurd rfl h, fun h => by omega⟩
  · refine V_cst 26 1 dX7_say_26 rfl ?_
    refine V_goto 27 31 dX7_say_27 (by decide) ?_
    exact k31 1 (by decide) ⟨fun _ => Or.inr c2, fun _ => by decide⟩
theorem c_say0 {dd m w p : Nat} (hd : dd < 4294967296) (hw : w < 4294967296) (hI : CInv u v σ I) (hm : m < σ 0 2 0) (hp : p < σ 0 6 0) (h : ¬ q_says σ dd w) : FnI Ω (d + 1) mX7_say [.ref (Ω.1 + 0), .int (nI dd), .int (nI m), .int (nI w), .int (nI p)] (SH u v) I L (fun r S' I' L' => r = nI mI ∧ S' = SH u v ∧ L = L' ∧ CInv u v (z_put σ 3 (w_put (σ 3) 4 0 (σ 3 4 0 + 1))) I' ∧ Fr 0 63 I I') := by
  have hI0 := hI
  obtain ⟨-, ⟨p1, p2, -, -⟩, -, -, hT, hM, hR, -⟩ := hI
  refine FnR_of okX7_say (Nat.le_of_ble_eq_true rfl) fun l z => ?_
  have hE : w_fit d (w_Er l (d + 1) 0 0 Ω (w_pi (fun r S' I' L' => r = nI mI ∧ S' = SH u v ∧ L = L' ∧ CInv u v (z_put σ 3 (w_put (σ 3) 4 0 (σ 3 4 0 + 1))) I' ∧ Fr 0 63 I I')) z) := w_fit_r
  show V _ _ _ _ _ _ _ _ 0 [(0, _), (1, _), (2, _), (3, _), (4, _)] []
  refine V_aload_n 0 0 dX7_say_0 rfl ?_
  refine V_iload_n 1 2 dX7_say_1 rfl ?_
  refine V_vv 2 mvX7_151 dX7_say_2 ⟨_, _, _, rfl, rfl, rfl⟩ (w_fit.mono (by omega) hE) (c_requireMeeting (d := d) p2 p1 hm) rfl (Nat.le_of_ble_eq_true rfl) ?_
  rintro _ _ _ ⟨rfl, rfl, rfl⟩
  refine V_aload_n 5 0 dX7_say_5 rfl ?_
  refine V_iload 6 4 dX7_say_6 rfl ?_
  refine V_vv 8 mvX7_165 dX7_say_8 ⟨_, _, _, rfl, rfl, rfl⟩ (w_fit.mono (by omega) hE) (c_requirePromise (d := d) p2 p1 hp) rfl (Nat.le_of_ble_eq_true rfl) ?_
  rintro _ _ _ ⟨rfl, rfl, rfl⟩
  refine sy_gen hd hw hI0 (fun _ x y => ?_) (fun h' => absurd h' h)
  refine V_aload_n 71 0 dX7_say_71 rfl ?_
  refine V_dup 72 dX7_say_72 rfl ?_
  refine V_getI 73 flX7_137 dX7_say_73 rfl ?_
  refine V_cst 76 1 dX7_say_76 rfl ?_
  refine V_add 77 dX7_say_77 ?_
  refine V_putI 78 flX7_137 ft_7_8 dX7_say_78 rfl ?_
  refine V_cst 81 4294967295 dX7_say_81 rfl ?_
  refine V_iret 82 dX7_say_82 rfl ⟨rfl, rfl, rfl, hI0.m3 (fun i hi => w_put_ne _ _ (by omega)) (PT.misc hT (by decide) (by decide)) ⟨?_, ?_, ?_⟩ ⟨?_, ?_, fun j => ?_⟩ ⟨?_, ?_, ?_⟩, fun i hi => w_put_ne _ _ (by omega)⟩
  · rw [w_put_other _ (Or.inr (by decide)), w_put_other _ (Or.inl (by decide))]; exact hM.1
  · rw [w_put_other _ (Or.inr (by decide)), w_put_other _ (Or.inl (by decide))]; exact hM.2.1
  · rw [w_put_same, w_put_same, hM.2.2]
  · rw [w_put_other _ (Or.inr (by decide)), w_put_other _ (Or.inl (by decide))]; exact hR.1
  all_goals exact w_put_other _ (Or.inl (by decide))
theorem c_say1 {dd m w p : Nat} (hd : dd < 4294967296) (hw : w < 4294967296) (hI : CInv u v σ I) (hm : m < σ 0 2 0) (hp : p < σ 0 6 0) (h : q_says σ dd w) : FnI Ω (d + 1) mX7_say [.ref (Ω.1 + 0), .int (nI dd), .int (nI m), .int (nI w), .int (nI p)] (SH u v) I L (fun r S' I' L' => r = nI (σ 1 0 0 + 1) ∧ S' = SH u v ∧ L = L' ∧ CInv u v (z_put σ 1 (s_addY (σ 1) dd m w p)) I' ∧ Fr 0 63 I I') := by
  have hI0 := hI
  obtain ⟨-, ⟨p1, p2, -, -⟩, ⟨y1, y2⟩, -⟩ := hI
  refine FnR_of okX7_say (Nat.le_of_ble_eq_true rfl) fun l z => ?_
  have hE : w_fit d (w_Er l (d + 1) 0 0 Ω (w_pi (fun r S' I' L' => r = nI (σ 1 0 0 + 1) ∧ S' = SH u v ∧ L = L' ∧ CInv u v (z_put σ 1 (s_addY (σ 1) dd m w p)) I' ∧ Fr 0 63 I I')) z) := w_fit_r
  show V _ _ _ _ _ _ _ _ 0 [(0, _), (1, _), (2, _), (3, _), (4, _)] []
  refine V_aload_n 0 0 dX7_say_0 rfl ?_
  refine V_iload_n 1 2 dX7_say_1 rfl ?_
  refine V_vv 2 mvX7_151 dX7_say_2 ⟨_, _, _, rfl, rfl, rfl⟩ (w_fit.mono (by omega) hE) (c_requireMeeting (d := d) p2 p1 hm) rfl (Nat.le_of_ble_eq_true rfl) ?_
  rintro _ _ _ ⟨rfl, rfl, rfl⟩
  refine V_aload_n 5 0 dX7_say_5 rfl ?_
  refine V_iload 6 4 dX7_say_6 rfl ?_
  refine V_vv 8 mvX7_165 dX7_say_8 ⟨_, _, _, rfl, rfl, rfl⟩ (w_fit.mono (by omega) hE) (c_requirePromise (d := d) p2 p1 hp) rfl (Nat.le_of_ble_eq_true rfl) ?_
  rintro _ _ _ ⟨rfl, rfl, rfl⟩
  refine sy_gen hd hw hI0 (fun h' => absurd h h') (fun _ x y => ?_)
  refine V_aload_n 83 0 dX7_say_83 rfl ?_
  refine V_getR 84 flX7_36 dX7_say_84 rfl ?_
  refine V_iload_n 87 1 dX7_say_87 rfl ?_
  refine V_iload_n 88 2 dX7_say_88 rfl ?_
  refine V_iload_n 89 3 dX7_say_89 rfl ?_
  refine V_iload 90 4 dX7_say_90 rfl ?_
  refine V_vv 92 mvX7_194 dX7_say_92 ⟨_, _, _, rfl, rfl, rfl⟩ (w_fit.mono (by omega) hE) (c_add (d := d) (a := dd) (m := m) (w := w) (p := p) y2 h.1) rfl (Nat.le_of_ble_eq_true rfl) ?_
  rintro _ I1 _ ⟨rfl, rfl, g1, g2⟩
  refine V_aload_n 95 0 dX7_say_95 rfl ?_
  refine V_getR 96 flX7_59 dX7_say_96 rfl ?_
  refine V_cst 99 0 dX7_say_99 rfl ?_
  refine V_putZ 100 flX7_119 ft_6_1 dX7_say_100 rfl (by first | exact Or.inl rfl | exact Or.inr rfl | assumption) ?_
  refine V_aload_n 103 0 dX7_say_103 rfl ?_
  refine V_getR 104 flX7_36 dX7_say_104 rfl ?_
  refine V_getI 107 flX7_103 dX7_say_107 rfl ?_
  rw [w_put_other _ (Or.inl (by decide)), show I1 27 0 = _ from g1.1]
  have hY := YOK_add y1 h.1 h.2.1 h.2.2 hm hp
  have hf : Fr 27 51 I (w_put I1 50 1 0) := (g2.wide (by decide) (by decide)).put (by decide) (by decide)
  refine V_iret 110 dX7_say_110 rfl ⟨?_, rfl, rfl, hI0.y hY (g1.fr (lo := 50) (hi := 51) (fun i hi => w_put_ne _ _ (by omega)) (by decide)) (fun i h1 h2 => ?_) (w_put_same _ _ _ _) ?_, hf.wide (by decide) (by decide)⟩
  · unfold s_addY; rw [w_put_same]
  · rw [w_put_ne _ _ h2, g2 i (by omega)]
  · rw [w_put_other _ (Or.inr (by decide)), g2 50 (by decide)]
theorem t_say {dd m w p : Nat} (hm32 : m < 4294967296) (hp32 : p < 4294967296) (hI : CInv u v σ I) (h : ¬ (m < σ 0 2 0 ∧ p < σ 0 6 0)) : FnT Ω (d + 1) mX7_say [.ref (Ω.1 + 0), .int (nI dd), .int (nI m), .int (nI w), .int (nI p)] (SH u v) I L "java/util/NoSuchElementException" := by
  obtain ⟨-, ⟨p1, p2, -, -⟩, -⟩ := hI
  refine FnT_of okX7_say (Nat.le_of_ble_eq_true rfl) fun l z => ?_
  have hE : w_fit d (w_Et l (d + 1) Ω (SH u v) I L "java/util/NoSuchElementException" z) := w_fit_t
  show V _ _ _ _ _ _ _ _ 0 [(0, _), (1, _), (2, _), (3, _), (4, _)] []
  refine V_aload_n 0 0 dX7_say_0 rfl ?_
  refine V_iload_n 1 2 dX7_say_1 rfl ?_
  by_cases hm : m < σ 0 2 0
  · refine V_vv 2 mvX7_151 dX7_say_2 ⟨_, _, _, rfl, rfl, rfl⟩ (w_fit.mono (by omega) hE) (c_requireMeeting (d := d) p2 p1 hm) rfl (Nat.le_of_ble_eq_true rfl) ?_
    rintro _ _ _ ⟨rfl, rfl, rfl⟩
    refine V_aload_n 5 0 dX7_say_5 rfl ?_
    refine V_iload 6 4 dX7_say_6 rfl ?_
    exact V_thrown 8 mvX7_165 dX7_say_8 ⟨_, _, _, rfl, rfl, rfl⟩ (t_requirePromise (d := d) hp32 p2 p1 (fun e => h ⟨hm, e⟩)) rfl (Nat.le_of_ble_eq_true rfl)
  · exact V_thrown 2 mvX7_151 dX7_say_2 ⟨_, _, _, rfl, rfl, rfl⟩ (t_requireMeeting (d := d) hm32 p2 p1 hm) rfl (Nat.le_of_ble_eq_true rfl)
/-! image, restore -/
def z_img (σ : w_Z) : w_Z := z_put (z_put (z_put σ 4 (σ 1)) 5 (σ 2)) 3 (w_put (w_put (w_put (σ 3) 5 0 1) 6 0 (σ 3 3 0)) 7 0 (σ 3 4 0))
theorem cv_46_0 (hI : CA σ I) (k j : Nat) (hk : k = 5 ∨ k = 6 ∨ k = 9) : cv 46 I k j = 0 := by
  obtain ⟨-, -, h5, h6, h9⟩ := hI
  rcases hk with rfl | rfl | rfl
  · show (if j = 0 then I 46 6 else 0) = 0; rw [h5]; split <;> rfl
  · show (if j = 0 then I 46 7 else 0) = 0; rw [h6]; split <;> rfl
  · show (if j < 12 then I 49 j else 0) = 0
    split
    · exact h9 j (by assumption)
    · rfl
theorem cv_z (c : Nat) (I : w_I) (k j : Nat) : (k = 5 → j ≠ 0 → cv c I k j = 0) ∧ (k = 6 → j ≠ 0 → cv c I k j = 0) := by
  constructor
  · rintro rfl h; show (if j = 0 then I c 6 else 0) = 0; rw [if_neg h]
  · rintro rfl h; show (if j = 0 then I c 7 else 0) = 0; rw [if_neg h]
theorem c_image (hI : CInv u v σ I) : FnV Ω (d + 2) mX7_image [.ref (Ω.1 + 0)] (SH u v) I L (fun S' I' L' => S' = SH u v ∧ L = L' ∧ CInv u v (z_img σ) I' ∧ Fr 0 63 I I') := by
  obtain ⟨h1, h2, h3, h4, h5, h6, h7, h8, h9⟩ := hI
  refine FnR_of okX7_image (Nat.le_of_ble_eq_true rfl) fun l z => ?_
  have hE : w_fit (d + 1) (w_Er l (d + 2) 0 0 Ω (w_pv (fun S' I' L' => S' = SH u v ∧ L = L' ∧ CInv u v (z_img σ) I' ∧ Fr 0 63 I I')) z) := w_fit_r
  show V _ _ _ _ _ _ _ _ 0 [(0, _)] []
  refine V_aload_n 0 0 dX7_image_0 rfl ?_
  refine V_getR 1 flX7_52 dX7_image_1 rfl ?_
  refine V_cst 4 1 dX7_image_4 rfl ?_
  refine V_putZ 5 flX7_113 ft_1_0 dX7_image_5 rfl (by first | exact Or.inl rfl | exact Or.inr rfl | assumption) ?_
  refine V_aload_n 8 0 dX7_image_8 rfl ?_
  refine V_getR 9 flX7_52 dX7_image_9 rfl ?_
  refine V_getR 12 flX7_255 dX7_image_12 rfl ?_
  refine V_aload_n 15 0 dX7_image_15 rfl ?_
  refine V_getR 16 flX7_45 dX7_image_16 rfl ?_
  refine V_vv 19 mvX7_256 dX7_image_19 ⟨_, _, _, rfl, rfl, rfl⟩ (w_fit.mono (by omega) hE) (c_copyC_46_34 (d := d)) rfl (Nat.le_of_ble_eq_true rfl) ?_
  rintro _ I2 _ ⟨rfl, rfl, g1, g2⟩
  refine V_aload_n 22 0 dX7_image_22 rfl ?_
  refine V_getR 23 flX7_52 dX7_image_23 rfl ?_
  refine V_getR 26 flX7_259 dX7_image_26 rfl ?_
  refine V_aload_n 29 0 dX7_image_29 rfl ?_
  refine V_getR 30 flX7_36 dX7_image_30 rfl ?_
  have f2 : Fr 38 50 I I2 := (Fr.rf.put (by decide) (by decide)).trans (g2.wide (by decide) (by decide))
  refine V_vv 33 mvX7_260 dX7_image_33 ⟨_, _, _, rfl, rfl, rfl⟩ (w_fit.mono (by omega) hE) (c_copyY_39 (d := d) (Y := σ 1) h3.1.1 (h3.2.fr f2 (by decide))) rfl (Nat.le_of_ble_eq_true rfl) ?_
  rintro _ I3 _ ⟨rfl, rfl, k1, k2⟩
  have f3 : Fr 38 50 I I3 := f2.trans (k2.wide (by decide) (by decide))
  refine V_aload_n 36 0 dX7_image_36 rfl ?_
  refine V_getR 37 flX7_52 dX7_image_37 rfl ?_
  refine V_aload_n 40 0 dX7_image_40 rfl ?_
  refine V_getI 41 flX7_93 dX7_image_41 rfl ?_
  refine V_putI 44 flX7_262 ft_1_3 dX7_image_44 rfl ?_
  refine V_aload_n 47 0 dX7_image_47 rfl ?_
  refine V_getR 48 flX7_52 dX7_image_48 rfl ?_
  refine V_aload_n 51 0 dX7_image_51 rfl ?_
  refine V_getI 52 flX7_137 dX7_image_52 rfl ?_
  refine V_putI 55 flX7_263 ft_1_4 dX7_image_55 rfl ?_
  rw [show I3 0 7 = σ 3 3 0 by rw [f3 0 (by decide)]; exact h6.2.1, w_put_other I3 (Or.inl (by decide)), show I3 0 8 = σ 3 4 0 by rw [f3 0 (by decide)]; exact h6.2.2]
  have f5 : Fr 38 50 I (w_put (w_put I3 38 3 (σ 3 3 0)) 38 4 (σ 3 4 0)) := (f3.put (by decide) (by decide)).put (by decide) (by decide)
  have e38 : ∀ i, i ≠ 38 → w_put (w_put I3 38 3 (σ 3 3 0)) 38 4 (σ 3 4 0) i = I3 i := fun i hi => by rw [w_put_ne _ _ hi, w_put_ne _ _ hi]
  have e38b : I3 38 = w_put I 38 0 1 38 := by rw [k2 38 (by decide), g2 38 (by decide)]
  refine V_ret 58 dX7_image_58 rfl ⟨rfl, rfl, ⟨h1, h2.fr f5 (by decide), h3.fr f5 (by decide), h4.fr f5 (by decide), ?_, ?_, ?_, ?_, h9.fr f5 (by decide)⟩, f5.wide (by decide) (by decide)⟩
  · show PT _ _
    exact (PT.of (R := σ 3) h5 (by rw [f5 0 (by decide)]) (f5 1 (by decide))).put (by decide) |>.put (by decide) |>.put (by decide)
  · show CM (z_img σ) _
    unfold CM
    rw [f5 0 (by decide)]
    simpa [z_img, z_put, w_put_eq, CM] using h6
  · unfold CR
    rw [f5 0 (by decide), f5 62 (by decide)]
    simpa [z_img, z_put, w_put_eq, CR] using h7
  · have ecv : cv 46 (w_put (w_put I3 38 3 (σ 3 3 0)) 38 4 (σ 3 4 0)) = σ 2 := by
      have e1 : cv 46 (w_put (w_put I3 38 3 (σ 3 3 0)) 38 4 (σ 3 4 0)) = cv 46 I2 := by
        unfold cv
        rw [e38 46 (by decide), e38 (46 + 1) (by decide), e38 (46 + 2) (by decide), e38 (46 + 3) (by decide), k2 46 (by decide), k2 (46 + 1) (by decide), k2 (46 + 2) (by decide), k2 (46 + 3) (by decide)]
      have e34 : cv 34 (w_put I 38 0 1) = cv 34 I := cv_fr (lo := 38) (hi := 39) (Fr.rf.put (by decide) (by decide)) (by decide)
      have e46 : cv 46 (w_put I 38 0 1) = cv 46 I := cv_fr (lo := 38) (hi := 39) (Fr.rf.put (by decide) (by decide)) (by decide)
      rw [e1, g1, e34, e46]
      funext k j
      unfold s_copy
      split
      · exact h4.at k j (by omega)
      · rename_i c
        by_cases hk : k = 5 ∨ k = 6 ∨ k = 9
        · rw [cv_46_0 h8 k j hk]
          rcases hk with rfl | rfl | rfl
          · by_cases hj : j = 0
            · rw [hj]; exact h4.1.2.2.1.symm
            · rw [← h4.at 5 j (by decide)]; exact ((cv_z 34 I 5 j).1 rfl hj).symm
          · by_cases hj : j = 0
            · rw [hj]; exact h4.2.1.symm
            · rw [← h4.2.2.1, w_put_other _ (Or.inr hj)]; exact ((cv_z 34 I 6 j).2 rfl hj).symm
          · exact (h4.1.2.2.2 j).symm
        · have h10 : 10 ≤ k := by omega
          have z1 : ∀ c, cv c I k j = 0 := by
            intro c
            unfold cv
            split <;> first | rfl | (exfalso; omega)
          rw [z1, ← h4.at k j (by omega), z1]
    refine ⟨?_, Or.inr ⟨?_, h3.1, k1.fr (lo := 38) (hi := 39) (fun i hi => e38 i (by omega)) (by decide), h4.1, h4.2.1, ecv, ?_, ?_⟩, ?_, ?_, fun j hj => ?_⟩
    · rw [w_put_other _ (Or.inr (by decide)), w_put_other _ (Or.inr (by decide)), e38b]
      simp [z_img, z_put, w_put_eq]
    · simp [z_img, z_put, w_put_eq]
    · simp [z_img, z_put, w_put_eq]
    · simp [z_img, z_put, w_put_eq]
    · have := congrFun (congrFun ecv 5) 0
      exact this.trans h4.1.2.2.1
    · have := congrFun (congrFun ecv 6) 0
      exact this.trans h4.2.1
    · have := congrFun (congrFun ecv 9) j
      have e : cv 46 (w_put (w_put I3 38 3 (σ 3 3 0)) 38 4 (σ 3 4 0)) 9 j = w_put (w_put I3 38 3 (σ 3 3 0)) 38 4 (σ 3 4 0) 49 j := if_pos hj
      rw [← e, this]
      exact h4.1.2.2.2 j
theorem c_restore0 (hI : CInv u v σ I) (h : σ 3 5 0 = 0) : FnI Ω d mX7_restore [.ref (Ω.1 + 0)] (SH u v) I L (fun r S' I' L' => r = nI 0 ∧ S' = SH u v ∧ I = I' ∧ L = L') := by
  obtain ⟨-, -, -, -, -, -, -, h8, -⟩ := hI
  refine FnR_of okX7_restore (Nat.le_of_ble_eq_true rfl) fun l z => ?_
  show V _ _ _ _ _ _ _ _ 0 [(0, _)] []
  refine V_aload_n 0 0 dX7_restore_0 rfl ?_
  refine V_getR 1 flX7_52 dX7_restore_1 rfl ?_
  refine V_getI 4 flX7_113 dX7_restore_4 rfl ?_
  rw [h8.1, h]
  refine V_zN_ne 7 12 dX7_restore_7 (by decide) (by omega) (fun c => ?_) (fun c => ?_)
  · exact absurd rfl c
  refine V_cst 10 0 dX7_restore_10 rfl ?_
  exact V_zret 11 dX7_restore_11 rfl rfl ⟨rfl, rfl, rfl, rfl⟩
def z_res (σ : w_Z) : w_Z := z_put (z_put (z_put σ 1 (σ 4)) 2 (σ 5)) 3 (w_put (w_put (σ 3) 3 0 (σ 3 6 0)) 4 0 (σ 3 7 0))
theorem c_restore1 (hI : CInv u v σ I) (h : σ 3 5 0 ≠ 0) : FnI Ω (d + 2) mX7_restore [.ref (Ω.1 + 0)] (SH u v) I L (fun r S' I' L' => r = nI 1 ∧ S' = SH u v ∧ L = L' ∧ CInv u v (z_res σ) I' ∧ Fr 0 63 I I') := by
  obtain ⟨h1, h2, h3, h4, h5, h6, h7, h8, h9⟩ := hI
  have h80 := h8
  obtain ⟨a1, a2, a3, a4, a5⟩ := h8
  have a2 : σ 3 5 0 = 1 ∧ s_YOK (σ 0) (σ 4) ∧ YRep 39 (σ 4) I ∧ CI (σ 0) (σ 5) ∧ σ 5 6 0 = 0 ∧ cv 46 I = σ 5 ∧ I 38 3 = σ 3 6 0 ∧ I 38 4 = σ 3 7 0 := by
    rcases a2 with e | e
    · exact absurd e h
    · exact e
  obtain ⟨b1, b2, b3, b4, b5, b6, b7, b8⟩ := a2
  refine FnR_of okX7_restore (Nat.le_of_ble_eq_true rfl) fun l z => ?_
  have hE : w_fit (d + 1) (w_Er l (d + 2) 0 0 Ω (w_pi (fun r S' I' L' => r = nI 1 ∧ S' = SH u v ∧ L = L' ∧ CInv u v (z_res σ) I' ∧ Fr 0 63 I I')) z) := w_fit_r
  show V _ _ _ _ _ _ _ _ 0 [(0, _)] []
  refine V_aload_n 0 0 dX7_restore_0 rfl ?_
  refine V_getR 1 flX7_52 dX7_restore_1 rfl ?_
  refine V_getI 4 flX7_113 dX7_restore_4 rfl ?_
  rw [a1, b1]
  refine V_zN_ne 7 12 dX7_restore_7 (by decide) (by omega) (fun c => ?_) (fun c => ?_)
  rotate_left
  · exact absurd c (by decide)
  refine V_aload_n 12 0 dX7_restore_12 rfl ?_
  refine V_getR 13 flX7_45 dX7_restore_13 rfl ?_
  refine V_aload_n 16 0 dX7_restore_16 rfl ?_
  refine V_getR 17 flX7_52 dX7_restore_17 rfl ?_
  refine V_getR 20 flX7_255 dX7_restore_20 rfl ?_
  refine V_vv 23 mvX7_256 dX7_restore_23 ⟨_, _, _, rfl, rfl, rfl⟩ (w_fit.mono (by omega) hE) (c_copyC_34_46 (d := d)) rfl (Nat.le_of_ble_eq_true rfl) ?_
  rintro _ I1 _ ⟨rfl, rfl, g1, g2⟩
  refine V_aload_n 26 0 dX7_restore_26 rfl ?_
  refine V_getR 27 flX7_36 dX7_restore_27 rfl ?_
  refine V_aload_n 30 0 dX7_restore_30 rfl ?_
  refine V_getR 31 flX7_52 dX7_restore_31 rfl ?_
  refine V_getR 34 flX7_259 dX7_restore_34 rfl ?_
  refine V_vv 37 mvX7_260 dX7_restore_37 ⟨_, _, _, rfl, rfl, rfl⟩ (w_fit.mono (by omega) hE) (c_copyY_27 (d := d) (Y := σ 4) b2.1 (b3.fr g2 (by decide))) rfl (Nat.le_of_ble_eq_true rfl) ?_
  rintro _ I2 _ ⟨rfl, rfl, k1, k2⟩
  have f2 : Fr 27 38 I I2 := (g2.wide (by decide) (by decide)).trans (k2.wide (by decide) (by decide))
  refine V_aload_n 40 0 dX7_restore_40 rfl ?_
  refine V_aload_n 41 0 dX7_restore_41 rfl ?_
  refine V_getR 42 flX7_52 dX7_restore_42 rfl ?_
  refine V_getI 45 flX7_262 dX7_restore_45 rfl ?_
  refine V_putI 48 flX7_93 ft_7_7 dX7_restore_48 rfl ?_
  refine V_aload_n 51 0 dX7_restore_51 rfl ?_
  refine V_aload_n 52 0 dX7_restore_52 rfl ?_
  refine V_getR 53 flX7_52 dX7_restore_53 rfl ?_
  refine V_getI 56 flX7_263 dX7_restore_56 rfl ?_
  refine V_putI 59 flX7_137 ft_7_8 dX7_restore_59 rfl ?_
  refine V_aload_n 62 0 dX7_restore_62 rfl ?_
  refine V_getR 63 flX7_59 dX7_restore_63 rfl ?_
  refine V_cst 66 0 dX7_restore_66 rfl ?_
  refine V_putZ 67 flX7_119 ft_6_1 dX7_restore_67 rfl (by first | exact Or.inl rfl | exact Or.inr rfl | assumption) ?_
  refine V_cst 70 1 dX7_restore_70 rfl ?_
  rw [show I2 38 3 = σ 3 6 0 by rw [f2 38 (by decide)]; exact b7, w_put_other I2 (Or.inl (by decide)), show I2 38 4 = σ 3 7 0 by rw [f2 38 (by decide)]; exact b8]
  have ef : ∀ i, i ≠ 0 → i ≠ 50 → w_put (w_put (w_put I2 0 7 (σ 3 6 0)) 0 8 (σ 3 7 0)) 50 1 0 i = I2 i := fun i q1 q2 => by rw [w_put_ne _ _ q2, w_put_ne _ _ q1, w_put_ne _ _ q1]
  have efI : ∀ i, i ≠ 0 → i ≠ 50 → i < 27 ∨ 38 ≤ i → w_put (w_put (w_put I2 0 7 (σ 3 6 0)) 0 8 (σ 3 7 0)) 50 1 0 i = I i := fun i q1 q2 q3 => by rw [ef i q1 q2, f2 i q3]
  have e0 : ∀ j, j ≠ 7 → j ≠ 8 → w_put (w_put (w_put I2 0 7 (σ 3 6 0)) 0 8 (σ 3 7 0)) 50 1 0 0 j = I 0 j := fun j q1 q2 => by rw [w_put_other _ (Or.inl (by decide)), w_put_other _ (Or.inr q2), w_put_other _ (Or.inr q1), f2 0 (by decide)]
  have ecv : w_put (cv 34 (w_put (w_put (w_put I2 0 7 (σ 3 6 0)) 0 8 (σ 3 7 0)) 50 1 0)) 6 0 0 = σ 5 := by
    have e1 : cv 34 (w_put (w_put (w_put I2 0 7 (σ 3 6 0)) 0 8 (σ 3 7 0)) 50 1 0) = cv 34 I1 := by
      unfold cv
      rw [ef 34 (by decide) (by decide), ef (34 + 1) (by decide) (by decide), ef (34 + 2) (by decide) (by decide), ef (34 + 3) (by decide) (by decide), k2 34 (by decide), k2 (34 + 1) (by decide), k2 (34 + 2) (by decide), k2 (34 + 3) (by decide)]
    rw [e1, g1, b6]
    funext k j
    rw [w_put_eq]
    split
    · rename_i q; rw [q.1, q.2]; exact b5.symm
    · rename_i q
      unfold s_copy
      split
      · rfl
      · rename_i c
        by_cases hk : k = 5 ∨ k = 6 ∨ k = 9
        · rw [← b6, cv_46_0 h80 k j hk]
          rcases hk with rfl | rfl | rfl
          · by_cases hj : j = 0
            · rw [hj, h4.at 5 0 (by decide)]; exact h4.1.2.2.1
            · exact (cv_z 34 I 5 j).1 rfl hj
          · by_cases hj : j = 0
            · exact absurd ⟨rfl, hj⟩ q
            · exact (cv_z 34 I 6 j).2 rfl hj
          · rw [h4.at 9 j (by decide)]; exact h4.1.2.2.2 j
        · have h10 : 10 ≤ k := by omega
          have z1 : ∀ c, cv c I k j = 0 := by
            intro c
            unfold cv
            split <;> first | rfl | (exfalso; omega)
          rw [z1, ← b6, z1]
  have hf : Fr 0 63 I (w_put (w_put (w_put I2 0 7 (σ 3 6 0)) 0 8 (σ 3 7 0)) 50 1 0) := (((f2.wide (by decide) (by decide)).put (by decide) (by decide)).put (by decide) (by decide)).put (by decide) (by decide)
  refine V_zret 71 dX7_restore_71 rfl rfl ⟨rfl, rfl, rfl, ⟨h1, ?_, ⟨b2, ?_⟩, ⟨b4, b5, ecv, ?_⟩, ?_, ?_, ?_, ?_, ?_⟩, hf⟩
  · obtain ⟨q1, q2, q3, q4⟩ := h2
    have fr : Fr 0 15 (w_put (w_put (w_put I2 0 7 (σ 3 6 0)) 0 8 (σ 3 7 0)) 50 1 0) (fun i => if i < 15 then I2 i else w_put (w_put (w_put I2 0 7 (σ 3 6 0)) 0 8 (σ 3 7 0)) 50 1 0 i) := fun i hi => if_neg (by omega)
    refine ⟨q1, ?_, ?_, ?_⟩
    · unfold PRep at q2 ⊢
      rw [efI 15 (by decide) (by decide) (by decide), efI (15 + 1) (by decide) (by decide) (by decide), efI (15 + 2) (by decide) (by decide) (by decide), efI (15 + 3) (by decide) (by decide) (by decide), efI (15 + 4) (by decide) (by decide) (by decide), efI (15 + 5) (by decide) (by decide) (by decide), efI (15 + 6) (by decide) (by decide) (by decide), efI (15 + 7) (by decide) (by decide) (by decide), efI (15 + 8) (by decide) (by decide) (by decide), efI (15 + 9) (by decide) (by decide) (by decide)]
      exact q2
    · unfold ARep at q3 ⊢
      rw [efI 25 (by decide) (by decide) (by decide), efI 26 (by decide) (by decide) (by decide)]
      exact q3
    · rw [efI 15 (by decide) (by decide) (by decide)]; exact q4
  · show YRep 27 (σ 4) _
    unfold YRep at k1 ⊢
    rw [ef 27 (by decide) (by decide), ef (27 + 1) (by decide) (by decide), ef (27 + 2) (by decide) (by decide), ef (27 + 3) (by decide) (by decide), ef (27 + 4) (by decide) (by decide)]
    exact k1
  · rw [ef 34 (by decide) (by decide), k2 34 (by decide)]
    have : cv 34 I1 6 0 = cv 34 I 6 0 := by rw [g1]; rfl
    have e2 : I1 34 7 = I 34 7 := this
    rw [e2]; exact h4.2.2.2
  · show PT (w_put (w_put (σ 3) 3 0 (σ 3 6 0)) 4 0 (σ 3 7 0)) _
    exact (PT.of (R := σ 3) h5 (e0 1 (by decide) (by decide)) (efI 1 (by decide) (by decide) (by decide))).put (by decide) |>.put (by decide)
  · refine ⟨?_, ?_, ?_⟩
    · rw [e0 3 (by decide) (by decide)]; simpa [z_res, z_put, w_put_eq] using h6.1
    · simp [z_res, z_put, w_put_eq]
    · simp [z_res, z_put, w_put_eq]
  · unfold CR
    rw [e0 13 (by decide) (by decide), efI 62 (by decide) (by decide) (by decide)]
    simpa [z_res, z_put, w_put_eq, CR] using h7
  · unfold CA
    rw [efI 38 (by decide) (by decide) (by decide), efI 46 (by decide) (by decide) (by decide), efI 49 (by decide) (by decide) (by decide)]
    refine ⟨by simpa [z_res, z_put, w_put_eq] using a1, Or.inr ⟨by simpa [z_res, z_put, w_put_eq] using b1, b2, ?_, b4, b5, ?_, by simpa [z_res, z_put, w_put_eq] using b7, by simpa [z_res, z_put, w_put_eq] using b8⟩, a3, a4, a5⟩
    · show YRep 39 (σ 4) _
      unfold YRep at b3 ⊢
      rw [efI 39 (by decide) (by decide) (by decide), efI (39 + 1) (by decide) (by decide) (by decide), efI (39 + 2) (by decide) (by decide) (by decide), efI (39 + 3) (by decide) (by decide) (by decide), efI (39 + 4) (by decide) (by decide) (by decide)]
      exact b3
    · show cv 46 _ = σ 5
      refine Eq.trans ?_ b6
      unfold cv
      rw [efI 46 (by decide) (by decide) (by decide), efI (46 + 1) (by decide) (by decide) (by decide), efI (46 + 2) (by decide) (by decide) (by decide), efI (46 + 3) (by decide) (by decide) (by decide)]
  · obtain ⟨t1, t2, t3⟩ := h9
    refine ⟨by rw [efI 54 (by decide) (by decide) (by decide)]; exact t1, ?_, Or.inl (w_put_same _ _ _ _)⟩
    have e50 : w_put (w_put (w_put I2 0 7 (σ 3 6 0)) 0 8 (σ 3 7 0)) 50 1 0 50 2 = I 50 2 := by rw [w_put_other _ (Or.inr (by decide)), w_put_ne _ _ (by decide), w_put_ne _ _ (by decide), f2 50 (by decide)]
    rw [e50]
    rcases t2 with e | ⟨e, m⟩
    · exact Or.inl e
    · exact Or.inr ⟨e, fun p hp w hw => by rw [efI 52 (by decide) (by decide) (by decide)]; exact m p hp w hw⟩
end
