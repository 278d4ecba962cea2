section
variable {Ω : w_O} {d u v : Nat} {L : w_L} {E : w_E} {P Y : w_R} {I : w_I} {σ : w_Z} {R : w_R}
/-! keep -/
/-- what a saying weighs, in the class's small numbers -/
def q_w (P : w_R) (si what : Nat) : Nat → Nat := fun i => if i < 6 then k_w P si (what == 0) i else 0
theorem q_w_le (hP : s_POK P) {si what : Nat} : ∀ i, q_w P si what i ≤ FAS := by
  intro i
  have hF : FAS = 268435456 := rfl
  unfold q_w
  split
  · rename_i hi
    have := hP.2.1 i hi
    unfold k_w
    split
    · exact Nat.le_refl _
    · split <;> omega
  · exact Nat.zero_le _
theorem q_sc (hP : s_POK P) {si what : Nat} : ∀ i, i < P 0 0 → Sc 1 (q_w P si what i) (q_W P si what i) := by
  intro i hi
  have h6 := hP.1.2
  have := hP.2.1 i (by omega)
  have hi6 : i < 6 := by omega
  have e1 : q_w P si what i = k_w P si (what == 0) i := by unfold q_w; rw [if_pos hi6]
  have e2 : q_W P si what i = k_W P si (what == 0) i := by unfold q_W; rw [if_pos hi6]
  rw [e1, e2]
  unfold k_w k_W
  by_cases hb : (si / 2 ^ i) &&& 1 ≠ 0
  · rw [if_pos hb, if_pos hb]
    exact Or.inl ⟨rfl, rfl⟩
  · rw [if_neg hb, if_neg hb]
    exact Or.inr ⟨by split <;> omega, rfl⟩
theorem q_mod {si what : Nat} : ∀ i, q_W P si what i % 1048576 = 0 := by
  intro i
  unfold q_W k_W
  split
  · split
    · decide
    · exact Nat.mul_mod_left _ _
  · rfl
theorem t_keepN {a b c e : Nat} (ha32 : a < 4294967296) (he32 : e < 4294967296) (hI : CInv u v σ I) (ha : ¬ (a < σ 0 6 0 ∧ q_st (σ 2) a = 1 ∧ e < 2)) : FnT Ω (d + 2) mX7_keep [.ref (Ω.1 + 0), .int (nI a), .int (nI b), .int (nI c), .int (nI e)] (SH u v) I L "java/util/NoSuchElementException" := by
  refine FnT_of okX7_keep (Nat.le_of_ble_eq_true rfl) fun l z => ?_
  have hE : w_fit (d + 1) (w_Et l (d + 2) Ω (SH u v) I L "java/util/NoSuchElementException" z) := w_fit_t
  show V _ _ _ _ _ _ _ _ 0 [(0, _), (1, _), (2, _), (3, _), (4, _)] []
  refine V_aload_n 0 0 dX7_keep_0 rfl ?_
  refine V_iload_n 1 1 dX7_keep_1 rfl ?_
  by_cases h : a < σ 0 6 0 ∧ q_st (σ 2) a = 1
  · refine V_vv 2 mvX7_212 dX7_keep_2 ⟨_, _, _, rfl, rfl, rfl⟩ (w_fit.mono (by omega) hE) (c_requireStanding (d := d) hI h.1 h.2) rfl (Nat.le_of_ble_eq_true rfl) ?_
    rintro _ _ _ ⟨rfl, rfl, rfl⟩
    refine V_iload 5 4 dX7_keep_5 rfl ?_
    refine V_zN_eq 7 26 dX7_keep_7 (by decide) (by omega) (fun c0 => ?_) (fun c0 => ?_)
    · exact absurd ⟨h.1, h.2, by omega⟩ ha
    refine V_iload 10 4 dX7_keep_10 rfl ?_
    refine V_cst 12 1 dX7_keep_12 rfl ?_
    refine V_cN_eq 13 26 dX7_keep_13 (by decide) (by omega) (by omega) (fun c1 => ?_) (fun c1 => ?_)
    · exact absurd ⟨h.1, h.2, by omega⟩ ha
    · exact V_throwN 16 2 (tx := "no such sum") rfl clX7_140 ini_N (by decide) dX7_keep_16 dX7_keep_19 (Or.inl ⟨rfl, dX7_keep_20⟩) dX7_keep_22 dX7_keep_25
  · exact V_thrown 2 mvX7_212 dX7_keep_2 ⟨_, _, _, rfl, rfl, rfl⟩ (t_requireStanding (d := d) ha32 hI h) rfl (Nat.le_of_ble_eq_true rfl)
/-- the way to the days and the silent ones -/
theorem kp_26 {a b c e : Nat} (hE : w_fit (d + 1) E) (hI : CInv u v σ I) (ha : a < σ 0 6 0) (hs : q_st (σ 2) a = 1) (he : e < 2) (hk : V mX7_keep E Ω 0 0 (SH u v) I L 26 [(0, .ref (Ω.1 + 0)), (1, .int (nI a)), (2, .int (nI b)), (3, .int (nI c)), (4, .int (nI e))] []) :
    V mX7_keep E Ω 0 0 (SH u v) I L 0 [(0, .ref (Ω.1 + 0)), (1, .int (nI a)), (2, .int (nI b)), (3, .int (nI c)), (4, .int (nI e))] [] := by
  refine V_aload_n 0 0 dX7_keep_0 rfl ?_
  refine V_iload_n 1 1 dX7_keep_1 rfl ?_
  refine V_vv 2 mvX7_212 dX7_keep_2 ⟨_, _, _, rfl, rfl, rfl⟩ (w_fit.mono (by omega) hE) (c_requireStanding (d := d) hI ha hs) rfl (Nat.le_of_ble_eq_true rfl) ?_
  rintro _ _ _ ⟨rfl, rfl, rfl⟩
  refine V_iload 5 4 dX7_keep_5 rfl ?_
  refine V_zN_eq 7 26 dX7_keep_7 (by decide) (by omega) (fun c0 => ?_) (fun c0 => ?_)
  · exact hk
  refine V_iload 10 4 dX7_keep_10 rfl ?_
  refine V_cst 12 1 dX7_keep_12 rfl ?_
  refine V_cN_eq 13 26 dX7_keep_13 (by decide) (by omega) (by omega) (fun c1 => ?_) (fun c1 => ?_)
  · exact hk
  · omega
theorem t_keepI {a b c e : Nat} (hb32 : b < 4294967296) (hc32 : c < 4294967296) (hI : CInv u v σ I) (ha : a < σ 0 6 0) (hs : q_st (σ 2) a = 1) (he : e < 2) (hn : ¬ ((1 ≤ b ∧ b ≤ 400) ∧ c < 2 ^ σ 0 0 0)) : FnT Ω (d + 2) mX7_keep [.ref (Ω.1 + 0), .int (nI a), .int (nI b), .int (nI c), .int (nI e)] (SH u v) I L "java/lang/IllegalArgumentException" := by
  refine FnT_of okX7_keep (Nat.le_of_ble_eq_true rfl) fun l z => ?_
  have hE : w_fit (d + 1) (w_Et l (d + 2) Ω (SH u v) I L "java/lang/IllegalArgumentException" z) := w_fit_t
  show V _ _ _ _ _ _ _ _ 0 [(0, _), (1, _), (2, _), (3, _), (4, _)] []
  refine kp_26 hE hI ha hs he ?_
  refine V_aload_n 26 0 dX7_keep_26 rfl ?_
  refine V_iload_n 27 2 dX7_keep_27 rfl ?_
  refine V_sip 28 400 dX7_keep_28 rfl ?_
  by_cases h : 1 ≤ b ∧ b ≤ 400
  · refine V_vv 31 mvX7_217 dX7_keep_31 ⟨_, _, _, rfl, rfl, rfl⟩ (w_fit.mono (by omega) hE) (c_requireDays (d := d) h.1 h.2 (by decide)) rfl (Nat.le_of_ble_eq_true rfl) ?_
    rintro _ _ _ ⟨rfl, rfl, rfl⟩
    refine V_aload_n 34 0 dX7_keep_34 rfl ?_
    refine V_iload_n 35 3 dX7_keep_35 rfl ?_
    exact V_thrown 36 mvX7_221 dX7_keep_36 ⟨_, _, _, rfl, rfl, rfl⟩ (t_requireSilent (d := d) hc32 hI.2.1.2.1 hI.2.1.1 (fun q => hn ⟨h, q⟩)) rfl (Nat.le_of_ble_eq_true rfl)
  · exact V_thrown 31 mvX7_217 dX7_keep_31 ⟨_, _, _, rfl, rfl, rfl⟩ (t_requireDays (d := d + 1) hb32 h (by decide)) rfl (Nat.le_of_ble_eq_true rfl)
theorem c_keep {a b c e : Nat} (hI : CInv u v σ I) (ha : a < σ 0 6 0) (hs : q_st (σ 2) a = 1) (he : e < 2) (h1 : 1 ≤ b) (h2 : b ≤ 400) (hc : c < 2 ^ σ 0 0 0) : FnI Ω (d + 5) mX7_keep [.ref (Ω.1 + 0), .int (nI a), .int (nI b), .int (nI c), .int (nI e)] (SH u v) I L (fun r S' I' L' => ∃ u' v', S' = SH u' v' ∧ ((FAR ≤ q_best σ a b c e ∧ r = nI mI ∧ CInv u' v' σ I') ∨ (q_best σ a b c e < FAR ∧ r = nI (q_best σ a b c e / 1048576) ∧ CInv u' v' (z_kept σ (q_best σ a b c e)) I')) ∧ Fr 0 63 I I') := by
  have hI0 := hI
  obtain ⟨g1, ⟨p1, p2, p3, p4⟩, g3, hC, g5, g6, g7, g8, g9⟩ := hI
  have h6 := p1.1.2
  have h12 := p1.2.2.2.2.1
  have hm12 := p1.2.2.1
  have h64 : 2 ^ σ 0 0 0 ≤ 64 := Nat.pow_le_pow_right (n := 2) (j := 6) (by decide) h6
  have e8 : I 36 a = σ 2 8 a := by rw [← hC.at 8 a (by decide)]; show I 36 a = if a < 12 then I 36 a else 0; rw [if_pos (by omega)]
  have hK : σ 2 8 a < 64 := hC.1.1.2.2.2.2.2.1 a
  have hF : FAR = 1125899906842624 := rfl
  refine FnR_of okX7_keep (Nat.le_of_ble_eq_true rfl) fun l z => ?_
  have hE : w_fit (d + 4) (w_Er l (d + 5) 0 0 Ω (w_pi (fun r S' I' L' => ∃ u' v', S' = SH u' v' ∧ ((FAR ≤ q_best σ a b c e ∧ r = nI mI ∧ CInv u' v' σ I') ∨ (q_best σ a b c e < FAR ∧ r = nI (q_best σ a b c e / 1048576) ∧ CInv u' v' (z_kept σ (q_best σ a b c e)) I')) ∧ Fr 0 63 I I')) z) := w_fit_r
  show V _ _ _ _ _ _ _ _ 0 [(0, _), (1, _), (2, _), (3, _), (4, _)] []
  refine kp_26 (d := d) (w_fit.mono (by omega) hE) hI0 ha hs he ?_
  refine V_aload_n 26 0 dX7_keep_26 rfl ?_
  refine V_iload_n 27 2 dX7_keep_27 rfl ?_
  refine V_sip 28 400 dX7_keep_28 rfl ?_
  refine V_vv 31 mvX7_217 dX7_keep_31 ⟨_, _, _, rfl, rfl, rfl⟩ (w_fit.mono (by omega) hE) (c_requireDays (d := d) h1 h2 (by decide)) rfl (Nat.le_of_ble_eq_true rfl) ?_
  rintro _ _ _ ⟨rfl, rfl, rfl⟩
  refine V_aload_n 34 0 dX7_keep_34 rfl ?_
  refine V_iload_n 35 3 dX7_keep_35 rfl ?_
  refine V_vv 36 mvX7_221 dX7_keep_36 ⟨_, _, _, rfl, rfl, rfl⟩ (w_fit.mono (by omega) hE) (c_requireSilent (d := d) p2 p1 hc) rfl (Nat.le_of_ble_eq_true rfl) ?_
  rintro _ _ _ ⟨rfl, rfl, rfl⟩
  have k54 : ∀ y, y < 2 → (y ≠ 0 ↔ (e == 0) = true) → V mX7_keep (w_Er l (d + 5) 0 0 Ω (w_pi (fun r S' I' L' => ∃ u' v', S' = SH u' v' ∧ ((FAR ≤ q_best σ a b c e ∧ r = nI mI ∧ CInv u' v' σ I') ∨ (q_best σ a b c e < FAR ∧ r = nI (q_best σ a b c e / 1048576) ∧ CInv u' v' (z_kept σ (q_best σ a b c e)) I')) ∧ Fr 0 63 I I')) z) Ω 0 0 (SH u v) I L 54 [(0, .ref (Ω.1 + 0)), (1, .int (nI a)), (2, .int (nI b)), (3, .int (nI c)), (4, .int (nI e))] [.int (nI y), .int (nI c), .ref (Ω.1 + 58)] := by
    intro y hy ey
    refine V_vv 54 mvX7_224 dX7_keep_54 ⟨_, _, _, rfl, rfl, rfl⟩ (w_fit.mono (by omega) hE) (c_prepare (d := d) (si := c) (bp := (e == 0)) (b := y) p1 p2 (by omega) hy ey) rfl (Nat.le_of_ble_eq_true rfl) ?_
    rintro _ I0 _ ⟨rfl, rfl, k1, k2⟩
    refine V_aload_n 57 0 dX7_keep_57 rfl ?_
    refine V_getR 58 flX7_66 dX7_keep_58 rfl ?_
    refine V_aload_n 61 0 dX7_keep_61 rfl ?_
    refine V_getR 62 flX7_45 dX7_keep_62 rfl ?_
    refine V_getR 65 flX7_189 dX7_keep_65 rfl ?_
    refine V_iload_n 68 1 dX7_keep_68 rfl ?_
    refine V_iald 69 dX7_keep_69 rfl (by omega) (by omega) ?_
    refine V_iload_n 70 2 dX7_keep_70 rfl ?_
    rw [k2 36 (by decide), e8]
    refine V_vi 71 mvX7_228 dX7_keep_71 ⟨_, _, _, rfl, rfl, rfl⟩ (w_fit.mono (by omega) hE) (c_leastSum (d := d) (P := σ 0) (w := q_w (σ 0) c e) (W := q_W (σ 0) c e) (K := σ 2 8 a) (days := b) g1 p1 (p2.fr k2 (by decide)) (p3.fr k2 (by decide)) h1 h2 hK (fun i hi => by rw [k1 i hi]; unfold q_w; rw [if_pos (by omega)]) (q_w_le p1) (q_sc p1) q_mod) rfl (Nat.le_of_ble_eq_true rfl) ?_
    rintro r _ I1 _ ⟨rfl, rfl, m2, m3, m4⟩
    have f1 : Fr 58 62 I I1 := (k2.wide (by decide) (by decide)).trans m4
    rw [show k_best (σ 0) (q_W (σ 0) c e) (σ 2 8 a) (b - 1) = q_best σ a b c e from rfl] at m2 m3
    by_cases hb : q_best σ a b c e < FAR
    · rw [if_pos hb] at m2
      have hlt : q_best σ a b c e / 1048576 < 2147483648 := by omega
      rw [m2]
      refine V_istore 74 [(0, _), (1, _), (2, _), (3, _), (4, _), (5, _)] dX7_keep_74 (by decide) rfl ?_
      refine V_iload 76 5 dX7_keep_76 rfl ?_
      refine V_cst 78 4294967295 dX7_keep_78 rfl ?_
      refine V_cN_ne 79 84 dX7_keep_79 (by decide) (by omega) (by omega) (fun c1 => ?_) (fun c1 => ?_)
      · refine V_aload_n 84 0 dX7_keep_84 rfl ?_
        refine V_getR 85 flX7_66 dX7_keep_85 rfl ?_
        refine V_aload_n 88 0 dX7_keep_88 rfl ?_
        refine V_getR 89 flX7_70 dX7_keep_89 rfl ?_
        refine V_vv 92 mvX7_232 dX7_keep_92 ⟨_, _, _, rfl, rfl, rfl⟩ (w_fit.mono (by omega) hE) (c_writeRow (d := d) (P := σ 0) (B := q_best σ a b c e) p1 (p2.fr f1 (by decide)) (p3.fr f1 (by decide)) (m3 hb)) rfl (Nat.le_of_ble_eq_true rfl) ?_
        rintro _ I2 _ ⟨rfl, rfl, n1, n2⟩
        have f2 : Fr 58 63 I I2 := (f1.wide (by decide) (by decide)).trans (n2.wide (by decide) (by decide))
        refine V_aload_n 95 0 dX7_keep_95 rfl ?_
        refine V_cst 96 1 dX7_keep_96 rfl ?_
        refine V_putZ 97 flX7_109 ft_7_13 dX7_keep_97 rfl (by first | exact Or.inl rfl | exact Or.inr rfl | assumption) ?_
        refine V_iload 100 5 dX7_keep_100 rfl ?_
        have f0 : Fr 0 1 I2 (w_put I2 0 13 1) := Fr.rf.put (by decide) (by decide)
        have e0 : ∀ j, j ≠ 13 → w_put I2 0 13 1 0 j = I 0 j := fun j hj => by rw [w_put_other _ (Or.inr hj), f2 0 (by decide)]
        refine V_iret 102 dX7_keep_102 rfl ⟨u, v, rfl, Or.inr ⟨hb, rfl, g1, (CP.fr (I := I) ⟨p1, p2, p3, p4⟩ f2 (by decide)).fr f0 (by decide), (g3.fr f2 (by decide)).fr f0 (by decide), (hC.fr f2 (by decide)).fr f0 (by decide), ?_, ⟨?_, ?_, ?_⟩, ⟨?_, Or.inr ⟨rfl, fun j hj => ?_⟩⟩, (g8.fr f2 (by decide)).fr f0 (by decide), (g9.fr f2 (by decide)).fr f0 (by decide)⟩, fun i hi => by rw [w_put_ne _ _ (by omega), f2 i (by omega)]⟩
        · exact PT.of (R := σ 3) g5 (e0 1 (by decide)) (by rw [w_put_ne _ _ (by decide), f2 1 (by decide)])
        · rw [e0 3 (by decide)]; exact g6.1
        · rw [e0 7 (by decide)]; exact g6.2.1
        · rw [e0 8 (by decide)]; exact g6.2.2
        · rw [w_put_same]; rfl
        · obtain ⟨q1, q2⟩ := ord_idx p1 (show j < σ 0 2 0 from hj)
          have := n1 _ q1
          rw [q2] at this
          rw [w_put_ne _ _ (by decide), this]
          rfl
      · omega
    · rw [if_neg hb] at m2
      rw [m2]
      have hmI : mI = 4294967295 := rfl
      refine V_istore 74 [(0, _), (1, _), (2, _), (3, _), (4, _), (5, _)] dX7_keep_74 (by decide) rfl ?_
      refine V_iload 76 5 dX7_keep_76 rfl ?_
      refine V_cst 78 4294967295 dX7_keep_78 rfl ?_
      refine V_cN_ne 79 84 dX7_keep_79 (by decide) (by omega) (by omega) (fun c1 => ?_) (fun c1 => ?_)
      · exact absurd rfl c1
      · refine V_cst 82 4294967295 dX7_keep_82 rfl ?_
        exact V_iret 83 dX7_keep_83 rfl ⟨u, v, rfl, Or.inl ⟨by omega, rfl, g1, CP.fr (I := I) ⟨p1, p2, p3, p4⟩ f1 (by decide), g3.fr f1 (by decide), hC.fr f1 (by decide), g5.fr f1 (by decide), g6.fr f1 (by decide), g7.fr f1 (by decide) (by decide), g8.fr f1 (by decide), g9.fr f1 (by decide)⟩, f1.wide (by decide) (by decide)⟩
  refine V_aload_n 39 0 dX7_keep_39 rfl ?_
  refine V_getR 40 flX7_66 dX7_keep_40 rfl ?_
  refine V_iload_n 43 3 dX7_keep_43 rfl ?_
  refine V_iload 44 4 dX7_keep_44 rfl ?_
  refine V_zN_ne 46 53 dX7_keep_46 (by decide) (by omega) (fun c0 => ?_) (fun c0 => ?_)
  · refine V_cst 53 0 dX7_keep_53 rfl ?_
    exact k54 0 (by decide) ⟨fun h => absurd rfl h, fun h => absurd (beq_iff_eq.mp h) c0⟩
  · refine V_cst 49 1 dX7_keep_49 rfl ?_
    refine V_goto 50 54 dX7_keep_50 (by decide) ?_
    exact k54 1 (by decide) ⟨fun _ => beq_iff_eq.mpr c0, fun _ => by decide⟩
end
