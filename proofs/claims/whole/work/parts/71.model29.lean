theorem s_new_CI {P : w_R} : CI P s_new := by
  have h := CI.new (P := P) 0 (by decide)
  have e : w_put s_new 6 0 0 = s_new := by
    funext k j
    rw [w_put_eq]
    split
    · rename_i c
      rw [c.1]
      unfold s_new
      rw [if_neg (fun w => absurd w.1 (by decide))]
    · rfl
  rw [e] at h
  exact h
section
variable {Ω : w_O} {d u v : Nat} {L : w_L} {E : w_E} {P Y : w_R} {σ : w_Z}
theorem it_h {w p dd hr x : Nat} (hE : w_fit (d + 2) E) (hP : s_POK P) (hY : s_YOK P Y) (hw : w < 6) (hp : p < P 6 0) (hhr : hr < 12) (hdd : dd < 100) (hx : x ≤ dd) : ∀ (n h : Nat) (I : w_I), h + n = 12 → MP P I → MY Y I → MD 1 P (t_H P Y s_new x h) I → (x = dd → h ≤ hr + 1) → (∀ s, s < x * 12 + h → (t_h P Y s_new s p).testBit w = false) →
    (∀ I' h', FrD 1 I I' → (∃ s, s ≤ dd * 12 + hr ∧ (t_h P Y s_new s p).testBit w = true) → V mX8_isTrue E Ω 0 0 (SH u v) I' L 67 [(0, .ref (Ω.1 + 63)), (1, .int (nI w)), (2, .int (nI p)), (3, .int (nI dd)), (4, .int (nI hr)), (5, .int (nI x)), (6, .int (nI h'))] []) →
    (∀ I' h', FrD 1 I I' → MD 1 P (t_H P Y s_new x h') I' → h' ≤ 12 → (x < dd → h' = 12) → (x = dd → h' = hr + 1) → (∀ s, s < x * 12 + h' → (t_h P Y s_new s p).testBit w = false) → V mX8_isTrue E Ω 0 0 (SH u v) I' L 75 [(0, .ref (Ω.1 + 63)), (1, .int (nI w)), (2, .int (nI p)), (3, .int (nI dd)), (4, .int (nI hr)), (5, .int (nI x)), (6, .int (nI h'))] []) →
    V mX8_isTrue E Ω 0 0 (SH u v) I L 22 [(0, .ref (Ω.1 + 63)), (1, .int (nI w)), (2, .int (nI p)), (3, .int (nI dd)), (4, .int (nI hr)), (5, .int (nI x)), (6, .int (nI h))] [] := by
  have h12 := hP.2.2.2.2.1
  have hCI := t_D_CI hP hY (s_new_CI (P := P)) rfl x (by omega)
  have hday : t_D P Y s_new x 0 0 = x := by rw [t_D_day]; show 0 + x = x; omega
  intro n
  induction n with
  | zero =>
    intro h I hh hMP hMY hM hd hno k1 k2
    have e : h = 12 := by omega
    subst e
    refine V_iload 22 6 dX8_isTrue_22 rfl ?_
    refine V_bip 24 12 dX8_isTrue_24 rfl ?_
    refine V_cN_ge 26 75 dX8_isTrue_26 (by decide) (by omega) (by omega) (fun c => ?_) (fun c => ?_)
    · exact k2 I 12 FrD.rf hM (by omega) (fun _ => rfl) (fun e => by have := hd e; omega) hno
    · omega
  | succ n ih =>
    intro h I hh hMP hMY hM hd hno k1 k2
    have k42 : (x = dd → h ≤ hr) → V mX8_isTrue E Ω 0 0 (SH u v) I L 42 [(0, .ref (Ω.1 + 63)), (1, .int (nI w)), (2, .int (nI p)), (3, .int (nI dd)), (4, .int (nI hr)), (5, .int (nI x)), (6, .int (nI h))] [] := by
      intro hcond
      refine V_aload_n 42 0 dX8_isTrue_42 rfl ?_
      refine V_cst 43 1 dX8_isTrue_43 rfl ?_
      refine V_iload 44 6 dX8_isTrue_44 rfl ?_
      refine V_vi 46 mvX8_279 dX8_isTrue_46 ⟨_, _, _, rfl, rfl, rfl⟩ (w_fit.mono (by omega) hE) (m_hour (d := d) (t := 1) (x := h) (C := t_H P Y s_new x h) (by decide) hP hY (by omega) (HI.hours hP hY hCI.2.1 hCI.1 rfl h (by omega)) (s_hours_ok hP hY hCI.1 h (by omega)) (s_hours_day _ h (by omega)) hMP hMY hM) rfl (Nat.le_of_ble_eq_true rfl) ?_
      rintro _ _ I1 _ ⟨rfl, rfl, rfl, g1, g2⟩
      rw [← t_H_succ] at g1
      have hth : t_h P Y s_new (x * 12 + h) p = t_H P Y s_new x (h + 1) 9 p := t_h_eq (by omega) p
      have h64 : t_h P Y s_new (x * 12 + h) p < 64 := t_h_lt hP hY s_new_CI rfl (by omega) p
      have e88 : I1 85 (12 + p) = t_h P Y s_new (x * 12 + h) p := by rw [hth]; exact (g1.2.2 p hp).2.2.2.1
      refine V_pop 49 dX8_isTrue_49 rfl ?_
      refine V_aload_n 50 0 dX8_isTrue_50 rfl ?_
      refine V_getR 51 flX8_77 dX8_isTrue_51 rfl ?_
      refine V_bip 54 12 dX8_isTrue_54 rfl ?_
      refine V_iload_n 56 2 dX8_isTrue_56 rfl ?_
      refine V_add 57 dX8_isTrue_57 ?_
      refine V_iald 58 dX8_isTrue_58 rfl (by omega) (by omega) ?_
      rw [e88]
      refine V_iload_n 59 1 dX8_isTrue_59 rfl ?_
      refine V_shr 60 dX8_isTrue_60 (by omega) (by omega) ?_
      refine V_cst 61 1 dX8_isTrue_61 rfl ?_
      refine V_and 62 dX8_isTrue_62 ?_
      refine V_cst 63 1 dX8_isTrue_63 rfl ?_
      rw [bit01]
      cases hb : (t_h P Y s_new (x * 12 + h) p).testBit w
      · rw [if_neg (by decide)]
        refine V_cN_ne 64 69 dX8_isTrue_64 (by decide) (by omega) (by omega) (fun c => ?_) (fun c => ?_)
        rotate_left
        · exact absurd c (by decide)
        refine V_inc 69 6 _ [(0, _), (1, _), (2, _), (3, _), (4, _), (5, _), (6, _)] dX8_isTrue_69 rfl rfl rfl (by decide) rfl ?_
        refine V_goto 72 22 dX8_isTrue_72 (by decide) ?_
        refine ih (h + 1) I1 (by omega) (g2.mp hMP) (g2.my hMY) g1 (fun e => by have := hcond e; omega) (fun s hs => ?_) (fun I' h' a b => k1 I' h' (g2.trans a) b) (fun I' h' a b => k2 I' h' (g2.trans a) b)
        by_cases e : s = x * 12 + h
        · rw [e]; exact hb
        · exact hno s (by omega)
      · rw [if_pos rfl]
        refine V_cN_ne 64 69 dX8_isTrue_64 (by decide) (by omega) (by omega) (fun c => ?_) (fun c => ?_)
        · exact absurd rfl c
        refine k1 I1 h g2 ⟨x * 12 + h, ?_, hb⟩
        by_cases e : x = dd
        · have := hcond e; omega
        · omega
    refine V_iload 22 6 dX8_isTrue_22 rfl ?_
    refine V_bip 24 12 dX8_isTrue_24 rfl ?_
    refine V_cN_ge 26 75 dX8_isTrue_26 (by decide) (by omega) (by omega) (fun c => ?_) (fun c => ?_)
    · omega
    refine V_iload 29 5 dX8_isTrue_29 rfl ?_
    refine V_iload_n 31 3 dX8_isTrue_31 rfl ?_
    refine V_cN_lt 32 42 dX8_isTrue_32 (by decide) (by omega) (by omega) (fun c1 => ?_) (fun c1 => ?_)
    · exact k42 (fun e => by omega)
    refine V_iload 35 6 dX8_isTrue_35 rfl ?_
    refine V_iload 37 4 dX8_isTrue_37 rfl ?_
    refine V_cN_gt 39 75 dX8_isTrue_39 (by decide) (by omega) (by omega) (fun c2 => ?_) (fun c2 => ?_)
    · exact k2 I h FrD.rf hM (by omega) (fun e => by omega) (fun e => by have := hd e; omega) hno
    · exact k42 (fun _ => by omega)
theorem m_isTrue {I : w_I} {w p dd hr : Nat} (hP : s_POK P) (hY : s_YOK P Y) (hMP : MP P I) (hMY : MY Y I) (hw : w < 6) (hp : p < P 6 0) (hhr : hr < 12) (hdd : dd < 100) : FnI Ω (d + 3) mX8_isTrue [.ref (Ω.1 + 63), .int (nI w), .int (nI p), .int (nI dd), .int (nI hr)] (SH u v) I L (fun r S' I' L' => r = nI (if t_F P Y s_new 1200 p w ≤ dd * 12 + hr then 1 else 0) ∧ S' = SH u v ∧ L = L' ∧ FrD 1 I I') := by
  have h12 := hP.2.2.2.2.1
  have hF := t_F_iff (P := P) (Y := Y) (p := p) (C0 := s_new) (m := dd * 12 + hr) (w := w) (by omega) 1200 (Nat.le_refl _)
  refine FnR_of1 okX8_isTrue (Nat.le_of_ble_eq_true rfl) fun l z hE => ?_
  show V _ _ _ _ _ _ _ _ 0 [(0, _), (1, _), (2, _), (3, _), (4, _)] []
  refine V_aload_n 0 0 dX8_isTrue_0 rfl ?_
  refine V_cst 1 1 dX8_isTrue_1 rfl ?_
  refine V_vv 2 mvX8_124 dX8_isTrue_2 ⟨_, _, _, rfl, rfl, rfl⟩ (w_fit.mono (by omega) hE) (m_begin (d := d) (t := 1) (by decide)) rfl (Nat.le_of_ble_eq_true rfl) ?_
  rintro _ I1 _ ⟨rfl, rfl, b1, b2, b3, b4⟩
  have hC1 : MC 1 P s_new I1 := s_new_MC h12 b1 b2 b3
  have out : ∀ (n x : Nat) (J : w_I), x + n = dd + 1 → MC 1 P (t_D P Y s_new x) J ∨ x = dd + 1 → FrD 1 I J → (∀ s, s < x * 12 → s ≤ dd * 12 + hr → (t_h P Y s_new s p).testBit w = false) → V mX8_isTrue (w_Er l (d + 3) 0 0 Ω (w_pi (fun r S' I' L' => r = nI (if t_F P Y s_new 1200 p w ≤ dd * 12 + hr then 1 else 0) ∧ S' = SH u v ∧ L = L' ∧ FrD 1 I I')) z) Ω 0 0 (SH u v) J L 8 [(0, .ref (Ω.1 + 63)), (1, .int (nI w)), (2, .int (nI p)), (3, .int (nI dd)), (4, .int (nI hr)), (5, .int (nI x))] [] := by
    intro n
    induction n with
    | zero =>
      intro x J hx hC hFr hno
      have e : x = dd + 1 := by omega
      subst e
      refine V_iload 8 5 dX8_isTrue_8 rfl ?_
      refine V_iload_n 10 3 dX8_isTrue_10 rfl ?_
      refine V_cN_gt 11 87 dX8_isTrue_11 (by decide) (by omega) (by omega) (fun c => ?_) (fun c => ?_)
      · refine V_cst 87 0 dX8_isTrue_87 rfl ?_
        refine V_zret 88 dX8_isTrue_88 rfl rfl ⟨?_, rfl, rfl, hFr⟩
        rw [if_neg]
        intro q
        obtain ⟨s, a, b, e⟩ := hF.mp q
        rw [hno s (by omega) b] at e
        exact absurd e (by decide)
      · omega
    | succ n ih =>
      intro x J hx hC hFr hno
      have hC : MC 1 P (t_D P Y s_new x) J := by
        rcases hC with q | q
        · exact q
        · omega
      have hCI := t_D_CI hP hY (s_new_CI (P := P)) rfl x (by omega)
      refine V_iload 8 5 dX8_isTrue_8 rfl ?_
      refine V_iload_n 10 3 dX8_isTrue_10 rfl ?_
      refine V_cN_gt 11 87 dX8_isTrue_11 (by decide) (by omega) (by omega) (fun c => ?_) (fun c => ?_)
      · omega
      refine V_aload_n 14 0 dX8_isTrue_14 rfl ?_
      refine V_cst 15 1 dX8_isTrue_15 rfl ?_
      refine V_vv 16 mvX8_276 dX8_isTrue_16 ⟨_, _, _, rfl, rfl, rfl⟩ (w_fit.mono (by omega) hE) (m_beginDay (d := d) (t := 1) (C := t_D P Y s_new x) (by decide) hP hCI.2.2.1 hCI.2.2.2 hC) rfl (Nat.le_of_ble_eq_true rfl) ?_
      rintro _ J1 _ ⟨rfl, rfl, g1, g2⟩
      have hF1 := hFr.trans g2
      refine V_cst 19 0 dX8_isTrue_19 rfl ?_
      refine V_istore 20 [(0, _), (1, _), (2, _), (3, _), (4, _), (5, _), (6, _)] dX8_isTrue_20 (by decide) rfl ?_
      refine it_h (d := d) hE hP hY hw hp hhr hdd (by omega) 12 0 J1 (by omega) (hF1.mp hMP) (hF1.my hMY) g1 (fun _ => Nat.zero_le _) (fun s hs => hno s (by omega) (by omega)) (fun I' h' a b => ?_) (fun I' h' a b e1 e2 e3 e4 => ?_)
      · refine V_cst 67 1 dX8_isTrue_67 rfl ?_
        refine V_zret 68 dX8_isTrue_68 rfl rfl ⟨?_, rfl, rfl, hF1.trans a⟩
        obtain ⟨s, q1, q2⟩ := b
        rw [if_pos (hF.mpr ⟨s, by omega, q1, q2⟩)]
      · have hF2 := hF1.trans a
        refine V_aload_n 75 0 dX8_isTrue_75 rfl ?_
        refine V_cst 76 1 dX8_isTrue_76 rfl ?_
        refine V_vi 77 mvX8_282 dX8_isTrue_77 ⟨_, _, _, rfl, rfl, rfl⟩ (w_fit.mono (by omega) hE) (m_dusk (d := d) (t := 1) (C := t_H P Y s_new x h') (by decide) hP (s_hours_ok hP hY hCI.1 h' e1) (HI.hours hP hY hCI.2.1 hCI.1 rfl h' e1).hd (hF2.mp hMP) b) rfl (Nat.le_of_ble_eq_true rfl) ?_
        rintro _ _ J3 _ ⟨rfl, rfl, rfl, g3, g4, -⟩
        refine V_pop 80 dX8_isTrue_80 rfl ?_
        refine V_inc 81 5 _ [(0, _), (1, _), (2, _), (3, _), (4, _), (5, _), (6, _)] dX8_isTrue_81 rfl rfl rfl (by decide) rfl ?_
        refine V_sub [(0, _), (1, _), (2, _), (3, _), (4, _), (5, _)] [0, 1, 2, 3, 4, 5] rfl ?_
        refine V_goto 84 8 dX8_isTrue_84 (by decide) ?_
        refine V_sub [(0, _), (1, _), (2, _), (3, _), (4, _), (5, _)] [0, 1, 2, 3, 4, 5] rfl ?_
        refine ih (x + 1) J3 (by omega) ?_ (hF2.trans g4) (fun s hs hs2 => e4 s ?_)
        · by_cases q : x = dd
          · right; omega
          · left
            have := e2 (by omega)
            subst this
            exact g3
        · by_cases q : x = dd
          · have := e3 q; omega
          · have := e2 (by omega); omega
  refine V_cst 5 0 dX8_isTrue_5 rfl ?_
  refine V_istore 6 [(0, _), (1, _), (2, _), (3, _), (4, _), (5, _)] dX8_isTrue_6 (by decide) rfl ?_
  exact out (dd + 1) 0 I1 (by omega) (Or.inl hC1) b4 (fun s hs => absurd hs (by omega))
theorem m_isTale {I : w_I} {w p dd hr : Nat} (hw : w < 4294967296) (hp : p < 4294967296) (hd : dd < 4294967296) (hh : hr < 4294967296) (hP : s_POK P) (hMP : MP P I) : FnI Ω (d + 2) mX8_isTale [.ref (Ω.1 + 63), .int (nI w), .int (nI p), .int (nI dd), .int (nI hr)] (SH u v) I L (fun r S' I' L' => r = nI (if w < P 0 0 ∧ p < P 6 0 ∧ dd < 100 ∧ hr < 12 then 1 else 0) ∧ S' = SH u v ∧ I = I' ∧ L = L') := by
  have in100 : ∀ a b, a < 4294967296 → b < 1000 → ((sgn 0 ≤ sgn a ∧ sgn a ≤ sgn b) ↔ a < b + 1) := fun a b ha hb => by
    rw [sgn_s (x := 0) (by omega), sgn_s (x := b) (by omega)]
    unfold sgn
    split <;> omega
  refine FnR_of1 okX8_isTale (Nat.le_of_ble_eq_true rfl) fun l z hE => ?_
  show V _ _ _ _ _ _ _ _ 0 [(0, _), (1, _), (2, _), (3, _), (4, _)] []
  have no : ¬ (w < P 0 0 ∧ p < P 6 0 ∧ dd < 100 ∧ hr < 12) → V mX8_isTale (w_Er l (d + 2) 0 0 Ω (w_pi (fun r S' I' L' => r = nI (if w < P 0 0 ∧ p < P 6 0 ∧ dd < 100 ∧ hr < 12 then 1 else 0) ∧ S' = SH u v ∧ I = I' ∧ L = L')) z) Ω 0 0 (SH u v) I L 41 [(0, .ref (Ω.1 + 63)), (1, .int (nI w)), (2, .int (nI p)), (3, .int (nI dd)), (4, .int (nI hr))] [] := by
    intro h
    rw [if_neg h]
    refine V_cst 41 0 dX8_isTale_41 rfl ?_
    exact V_zret 42 dX8_isTale_42 rfl rfl ⟨rfl, rfl, rfl, rfl⟩
  refine V_aload_n 0 0 dX8_isTale_0 rfl ?_
  refine V_iload_n 1 1 dX8_isTale_1 rfl ?_
  refine V_vi 2 mvX8_252 dX8_isTale_2 ⟨_, _, _, rfl, rfl, rfl⟩ (w_fit.mono (by omega) hE) (m_isPerson (d := d) hw hP hMP) rfl (Nat.le_of_ble_eq_true rfl) ?_
  rintro _ _ _ _ ⟨rfl, rfl, rfl, rfl⟩
  by_cases h1 : w < P 0 0
  rotate_left
  · rw [if_neg h1]
    refine V_zN_eq 5 41 dX8_isTale_5 (by decide) (by omega) (fun c => ?_) (fun c => ?_)
    · exact no (fun q => h1 q.1)
    · exact absurd rfl c
  rw [if_pos h1]
  refine V_zN_eq 5 41 dX8_isTale_5 (by decide) (by omega) (fun c => ?_) (fun c => ?_)
  · exact absurd c (by decide)
  refine V_aload_n 8 0 dX8_isTale_8 rfl ?_
  refine V_iload_n 9 2 dX8_isTale_9 rfl ?_
  refine V_vi 10 mvX8_258 dX8_isTale_10 ⟨_, _, _, rfl, rfl, rfl⟩ (w_fit.mono (by omega) hE) (m_isPromise (d := d) hp hP hMP) rfl (Nat.le_of_ble_eq_true rfl) ?_
  rintro _ _ _ _ ⟨rfl, rfl, rfl, rfl⟩
  by_cases h2 : p < P 6 0
  rotate_left
  · rw [if_neg h2]
    refine V_zN_eq 13 41 dX8_isTale_13 (by decide) (by omega) (fun c => ?_) (fun c => ?_)
    · exact no (fun q => h2 q.2.1)
    · exact absurd rfl c
  rw [if_pos h2]
  refine V_zN_eq 13 41 dX8_isTale_13 (by decide) (by omega) (fun c => ?_) (fun c => ?_)
  · exact absurd c (by decide)
  refine V_iload_n 16 3 dX8_isTale_16 rfl ?_
  refine V_cst 17 0 dX8_isTale_17 rfl ?_
  refine V_bip 18 99 dX8_isTale_18 rfl ?_
  refine V_si 20 msX8_131 dX8_isTale_20 (w_fit.mono (by omega) hE) (m_isIn (d := d) (a := dd) (lo := 0) (hi := 99) hd (by decide) (by decide)) rfl (Nat.le_of_ble_eq_true rfl) ?_
  rintro _ _ _ _ ⟨rfl, rfl, rfl, rfl⟩
  simp only [in100 dd 99 hd (by decide)]
  by_cases h3 : dd < 99 + 1
  rotate_left
  · rw [if_neg h3]
    refine V_zN_eq 23 41 dX8_isTale_23 (by decide) (by omega) (fun c => ?_) (fun c => ?_)
    · exact no (fun q => h3 q.2.2.1)
    · exact absurd rfl c
  rw [if_pos h3]
  refine V_zN_eq 23 41 dX8_isTale_23 (by decide) (by omega) (fun c => ?_) (fun c => ?_)
  · exact absurd c (by decide)
  refine V_iload 26 4 dX8_isTale_26 rfl ?_
  refine V_cst 28 0 dX8_isTale_28 rfl ?_
  refine V_bip 29 11 dX8_isTale_29 rfl ?_
  refine V_si 31 msX8_131 dX8_isTale_31 (w_fit.mono (by omega) hE) (m_isIn (d := d) (a := hr) (lo := 0) (hi := 11) hh (by decide) (by decide)) rfl (Nat.le_of_ble_eq_true rfl) ?_
  rintro _ _ _ _ ⟨rfl, rfl, rfl, rfl⟩
  simp only [in100 hr 11 hh (by decide)]
  by_cases h4 : hr < 11 + 1
  rotate_left
  · rw [if_neg h4]
    refine V_zN_eq 34 41 dX8_isTale_34 (by decide) (by omega) (fun c => ?_) (fun c => ?_)
    · exact no (fun q => h4 q.2.2.2)
    · exact absurd rfl c
  rw [if_pos h4]
  refine V_zN_eq 34 41 dX8_isTale_34 (by decide) (by omega) (fun c => ?_) (fun c => ?_)
  · exact absurd c (by decide)
  refine V_cst 37 1 dX8_isTale_37 rfl ?_
  refine V_goto 38 42 dX8_isTale_38 (by decide) ?_
  exact V_zret 42 dX8_isTale_42 rfl rfl ⟨by rw [if_pos ⟨h1, h2, h3, h4⟩], rfl, rfl, rfl⟩
theorem m_tale {I : w_I} {w p dd hr : Nat} (hw : w < 4294967296) (hp : p < 4294967296) (hd : dd < 4294967296) (hh : hr < 4294967296) (hO : SOK σ) (hM : MInv σ I) : FnI Ω (d + 4) mX8_tale [.ref (Ω.1 + 63), .int (nI w), .int (nI p), .int (nI dd), .int (nI hr)] (SH u v) I L (MO u v L I σ (if w < σ 0 0 0 ∧ p < σ 0 6 0 ∧ dd < 100 ∧ hr < 12 then 0 else 1) (q_tale σ w p (dd * 12 + hr))) := by
  have hM1 : MInv σ (w_put I 63 0 0) := hM.code
  have h6 := hO.1.1.2
  have hJ : FrM I (w_put I 63 0 0) := FrM.rf.put (by decide) (by decide)
  have c0 : w_put I 63 0 0 63 0 = 0 := w_put_same _ _ _ _
  refine FnR_of1 okX8_tale (Nat.le_of_ble_eq_true rfl) fun l z hE => ?_
  show V _ _ _ _ _ _ _ _ 0 [(0, _), (1, _), (2, _), (3, _), (4, _)] []
  refine V_aload_n 0 0 dX8_tale_0 rfl ?_
  refine V_cst 1 0 dX8_tale_1 rfl ?_
  refine V_putI 2 flX8_128 ft_8_0 dX8_tale_2 rfl ?_
  refine V_aload_n 5 0 dX8_tale_5 rfl ?_
  refine V_iload_n 6 1 dX8_tale_6 rfl ?_
  refine V_iload_n 7 2 dX8_tale_7 rfl ?_
  refine V_iload_n 8 3 dX8_tale_8 rfl ?_
  refine V_iload 9 4 dX8_tale_9 rfl ?_
  generalize w_put I 63 0 0 = J at hM1 hJ c0 ⊢
  refine V_vi 11 mvX8_359 dX8_tale_11 ⟨_, _, _, rfl, rfl, rfl⟩ (w_fit.mono (by omega) hE) (m_isTale (d := d) hw hp hd hh hO.1 hM1.1) rfl (Nat.le_of_ble_eq_true rfl) ?_
  rintro _ _ _ _ ⟨rfl, rfl, rfl, rfl⟩
  by_cases h : w < σ 0 0 0 ∧ p < σ 0 6 0 ∧ dd < 100 ∧ hr < 12
  rotate_left
  · rw [if_neg h, if_neg h]
    refine V_zN_ne 14 23 dX8_tale_14 (by decide) (by omega) (fun c => ?_) (fun c => ?_)
    · exact absurd rfl c
    refine V_aload_n 17 0 dX8_tale_17 rfl ?_
    refine V_cst 18 1 dX8_tale_18 rfl ?_
    refine V_vi 19 mvX8_232 dX8_tale_19 ⟨_, _, _, rfl, rfl, rfl⟩ (w_fit.mono (by omega) hE) (m_fail (d := d) (x := 1)) rfl (Nat.le_of_ble_eq_true rfl) ?_
    rintro _ _ _ _ ⟨rfl, rfl, rfl, rfl⟩
    exact V_iret 22 dX8_tale_22 rfl ⟨rfl, rfl, w_put_same _ _ _ _, fun e => absurd e (by decide), hM1.code, hJ.put (by decide) (by decide)⟩
  rw [if_pos h, if_pos h]
  obtain ⟨g1, g2, g3, g4⟩ := h
  have hB := y_F_B hO.1 g2 (m := dd * 12 + hr) (w := w) (by omega)
  have hlt : y_B (σ 0) p (dd * 12 + hr + 1) < 64 := Nat.lt_of_lt_of_le (y_B_lt hO.1 g2 _) (Nat.pow_le_pow_right (by decide) h6)
  refine V_zN_ne 14 23 dX8_tale_14 (by decide) (by omega) (fun c => ?_) (fun c => ?_)
  rotate_left
  · exact absurd c (by decide)
  refine V_aload_n 23 0 dX8_tale_23 rfl ?_
  refine V_iload_n 24 2 dX8_tale_24 rfl ?_
  refine V_iload_n 25 3 dX8_tale_25 rfl ?_
  refine V_iload 26 4 dX8_tale_26 rfl ?_
  refine V_vi 28 mvX8_363 dX8_tale_28 ⟨_, _, _, rfl, rfl, rfl⟩ (w_fit.mono (by omega) hE) (m_mayOf (d := d) hO.1 g2 hM1.1 g4 g3) rfl (Nat.le_of_ble_eq_true rfl) ?_
  rintro _ _ _ _ ⟨rfl, rfl, rfl, rfl⟩
  refine V_iload_n 31 1 dX8_tale_31 rfl ?_
  refine V_shr 32 dX8_tale_32 (by omega) (by omega) ?_
  refine V_cst 33 1 dX8_tale_33 rfl ?_
  refine V_and 34 dX8_tale_34 ?_
  rw [bit01]
  cases hb : (y_B (σ 0) p (dd * 12 + hr + 1)).testBit w
  · rw [if_neg (by decide)]
    refine V_zN_ne 35 40 dX8_tale_35 (by decide) (by omega) (fun c1 => ?_) (fun c1 => ?_)
    · exact absurd rfl c1
    refine V_cst 38 0 dX8_tale_38 rfl ?_
    refine V_iret 39 dX8_tale_39 rfl ⟨rfl, rfl, c0, fun _ => ?_, hM1, hJ⟩
    have hF := t_F_iff (P := σ 0) (Y := σ 1) (p := p) (C0 := s_new) (m := dd * 12 + hr) (w := w) (by omega) 1200 (Nat.le_refl _)
    unfold q_tale
    rw [if_neg, if_neg (fun q => by rw [hB.mp q] at hb; exact absurd hb (by decide))]
    intro q
    obtain ⟨s, a, b, e⟩ := hF.mp q
    rw [heard_may g2 rfl rfl rfl b e] at hb
    exact absurd hb (by decide)
  · rw [if_pos rfl]
    refine V_zN_ne 35 40 dX8_tale_35 (by decide) (by omega) (fun c1 => ?_) (fun c1 => ?_)
    rotate_left
    · exact absurd c1 (by decide)
    refine V_aload_n 40 0 dX8_tale_40 rfl ?_
    refine V_iload_n 41 1 dX8_tale_41 rfl ?_
    refine V_iload_n 42 2 dX8_tale_42 rfl ?_
    refine V_iload_n 43 3 dX8_tale_43 rfl ?_
    refine V_iload 44 4 dX8_tale_44 rfl ?_
    refine V_vi 46 mvX8_366 dX8_tale_46 ⟨_, _, _, rfl, rfl, rfl⟩ (w_fit.mono (by omega) hE) (m_isTrue (d := d) (Y := σ 1) hO.1 hO.2.1 hM1.1 hM1.2.1 (by omega) g2 g4 g3) rfl (Nat.le_of_ble_eq_true rfl) ?_
    rintro _ _ J1 _ ⟨rfl, rfl, rfl, k1⟩
    have hM2 := hM1.t1 hO.1 k1
    have hJ2 := hJ.trans0 k1.fr (by rw [k1.1 63 (by decide)])
    have c2 : J1 63 0 = 0 := by rw [k1.1 63 (by decide)]; exact c0
    by_cases ht : t_F (σ 0) (σ 1) s_new 1200 p w ≤ dd * 12 + hr
    · rw [if_pos ht]
      refine V_zN_eq 49 56 dX8_tale_49 (by decide) (by omega) (fun c3 => ?_) (fun c3 => ?_)
      · exact absurd c3 (by decide)
      refine V_cst 52 2 dX8_tale_52 rfl ?_
      refine V_goto 53 57 dX8_tale_53 (by decide) ?_
      exact V_iret 57 dX8_tale_57 rfl ⟨rfl, rfl, c2, fun _ => by unfold q_tale; rw [if_pos ht], hM2, hJ2⟩
    · rw [if_neg ht]
      refine V_zN_eq 49 56 dX8_tale_49 (by decide) (by omega) (fun c3 => ?_) (fun c3 => ?_)
      rotate_left
      · exact absurd rfl c3
      refine V_cst 56 1 dX8_tale_56 rfl ?_
      exact V_iret 57 dX8_tale_57 rfl ⟨rfl, rfl, c2, fun _ => by unfold q_tale; rw [if_neg ht, if_pos (hB.mpr hb)], hM2, hJ2⟩
end
