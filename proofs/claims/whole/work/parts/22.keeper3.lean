section
variable {Ω : w_O} {d u v : Nat} {I : w_I} {L : w_L} {E : w_E} {P : w_R} {w W : Nat → Nat}
theorem V_dec {M : w_M} {k n : Nat} {S : List w_SC} {L : w_L} {ls : List (Nat × Value)} {st : List Value} (pc j : Nat) (ls' : List (Nat × Value)) {i x : Nat} {q : Int} (dd : decode M.2.2.1 pc = .ok (.iinc i q, 3)) (hk : ls[j]? = some (i, .int (nI x))) (hq : q = -1) (hi : i < M.2.2.2.1) (hs : w_st ls i (.int (nI (x + 4294967295))) = ls') (h : V M E Ω k n S I L (pc + 3) ls' st) : V M E Ω k n S I L pc ls st := V_iinc pc j (nI (x + 4294967295)) ls' dd hk (by rw [hq, ← nI_add]; rfl) hi hs h
theorem dec_e (j : Nat) : nI (j + 1 + 4294967295) = nI j := n_mod (by omega)
theorem ord_inj {a b : Nat} (hP : s_POK P) (ha : a < P 2 0) (hb : b < P 2 0) (h : (s_ord P).getD a 0 = (s_ord P).getD b 0) : a = b := by
  have h1 : a < (s_ord P).length := by rw [s_ord_len hP]; exact ha
  have h2 : b < (s_ord P).length := by rw [s_ord_len hP]; exact hb
  rw [List.getD_eq_getElem?_getD, List.getD_eq_getElem?_getD, List.getElem?_eq_getElem h1, List.getElem?_eq_getElem h2] at h
  have h : (s_ord P)[a] = (s_ord P)[b] := h
  have hn := List.pairwise_iff_getElem.mp (s_ord_nodup P)
  rcases Nat.lt_trichotomy a b with e | e | e
  · exact absurd h (hn a b h1 h2 e)
  · exact e
  · exact absurd h.symm (hn b a h2 h1 e)
theorem k_sp_lt {m q : Nat} (hP : s_POK P) (hm : m < P 2 0) : k_sp P m q < P 0 0 := by
  obtain ⟨f1, f2, -⟩ := hP.2.2.2.1 m hm
  unfold k_sp
  split <;> assumption
/-! leastSum -/
/-- one of a meeting -/
theorem kw_l {K n days j q : Nat} (hE : w_fit (d + 3) E) (hP : s_POK P) (hj : j < P 2 0) (hq : q < 2) (hK : K < 64) (hn : n ≤ 399) (hwb : ∀ i, w i ≤ FAS) (hsc : ∀ i, i < P 0 0 → Sc 1 (w i) (W i)) {G g0 : Nat} (hg0 : g0 ≤ (q + 1) * w_dn j) (I : w_I) (ls : Nat) (hR : PRep 15 P I) (hA : ARep P I) (hW : GW P w I) (hB : BI P G g0 ls (I 58 4) (I 58 5)) (hls : ls ≤ FAS)
    (hk : ∀ I' ls', Fr 58 59 I I' → ls' ≤ FAS → BI P (min G (g_e P W K n j q)) ((q + 1) * w_dn j) ls' (I' 58 4) (I' 58 5) → V mX2_leastSum E Ω 0 0 (SH 60 61) I' L 45 [(0, .ref (Ω.1 + 58)), (1, .int (nI K)), (2, .int (nI days)), (3, .int (nI ls')), (4, .int (nI j)), (5, .int (nI (g_bh P (g_some P FAS w n) ((s_ord P).getD j 0)))), (6, .int (nI (q + 1)))] []) :
    V mX2_leastSum E Ω 0 0 (SH 60 61) I L 45 [(0, .ref (Ω.1 + 58)), (1, .int (nI K)), (2, .int (nI days)), (3, .int (nI ls)), (4, .int (nI j)), (5, .int (nI (g_bh P (g_some P FAS w n) ((s_ord P).getD j 0)))), (6, .int (nI q))] [] := by
  have h6 := hP.1.2
  have h12 := hP.2.2.1
  have hS : FAS = 268435456 := rfl
  have hm := s_ord_getD_lt hP hj
  have hsp := k_sp_lt (q := q) hP hm
  obtain ⟨f1, f2, -⟩ := hP.2.2.2.1 _ hm
  have b1 := hwb (k_sp P ((s_ord P).getD j 0) q)
  have b2 : g_bh P (g_some P FAS w n) ((s_ord P).getD j 0) ≤ FAS := Nat.le_trans (g_bh_l _ (Or.inl rfl)) (g_some_le _ _)
  have hsum : (FAS ≤ w (k_sp P ((s_ord P).getD j 0) q) + g_bh P (g_some P FAS w n) ((s_ord P).getD j 0) ∧ FAR ≤ W (k_sp P ((s_ord P).getD j 0) q) + g_bh P (g_some P FAR W n) ((s_ord P).getD j 0)) ∨ (w (k_sp P ((s_ord P).getD j 0) q) + g_bh P (g_some P FAS w n) ((s_ord P).getD j 0) ≤ 40000 ∧ W (k_sp P ((s_ord P).getD j 0) q) + g_bh P (g_some P FAR W n) ((s_ord P).getD j 0) = (w (k_sp P ((s_ord P).getD j 0) q) + g_bh P (g_some P FAS w n) ((s_ord P).getD j 0)) * 1048576) := by
    have hh := sc_some hP hsc n (by omega)
    rcases Sc.sum (hsc _ hsp) (Sc.bh (m := (s_ord P).getD j 0) (by omega) (hh _ f1) (hh _ f2)) with h | ⟨h1, h2⟩
    · exact Or.inl h
    · exact Or.inr ⟨by omega, h2⟩
  have step : ∀ I1 ls1 a s, Fr 58 59 I I1 → ls1 ≤ FAS → BI P (min G (g_e P W K n j q)) ((q + 1) * w_dn j) ls1 (I1 58 4) (I1 58 5) → V mX2_leastSum E Ω 0 0 (SH 60 61) I1 L 116 [(0, .ref (Ω.1 + 58)), (1, .int (nI K)), (2, .int (nI days)), (3, .int (nI ls1)), (4, .int (nI j)), (5, .int (nI (g_bh P (g_some P FAS w n) ((s_ord P).getD j 0)))), (6, .int (nI q)), (7, .int (nI a)), (8, .int (nI s))] [] := by
    intro I1 ls1 a s g1 g2 g3
    refine V_inc 116 6 _ [(0, _), (1, _), (2, _), (3, _), (4, _), (5, _), (6, _), (7, _), (8, _)] dX2_leastSum_116 rfl rfl rfl (by decide) rfl ?_
    refine V_goto 119 45 dX2_leastSum_119 (by decide) ?_
    refine V_sub [(0, _), (1, _), (2, _), (3, _), (4, _), (5, _), (6, _)] [0, 1, 2, 3, 4, 5, 6] rfl ?_
    exact hk I1 ls1 g1 g2 g3
  refine V_iload 45 6 dX2_leastSum_45 rfl ?_
  refine V_cst 47 1 dX2_leastSum_47 rfl ?_
  refine V_cN_gt 48 122 dX2_leastSum_48 (by decide) (by omega) (by omega) (fun c => ?_) (fun c => ?_)
  · omega
  refine V_aload_n 51 0 dX2_leastSum_51 rfl ?_
  refine V_getR 52 flX2_21 dX2_leastSum_52 rfl ?_
  refine V_aload_n 55 0 dX2_leastSum_55 rfl ?_
  refine V_getR 56 flX2_21 dX2_leastSum_56 rfl ?_
  refine V_getR 59 flX2_42 dX2_leastSum_59 rfl ?_
  refine V_iload 62 4 dX2_leastSum_62 rfl ?_
  refine V_iald 64 dX2_leastSum_64 rfl (by omega) (by omega) ?_
  rw [hA.1 j hj]
  refine V_iload 65 6 dX2_leastSum_65 rfl ?_
  refine V_vi 67 mvX2_49 dX2_leastSum_67 ⟨_, _, _, rfl, rfl, rfl⟩ (w_fit.mono (by omega) hE) (c_speakerAt (d := d) hP hR hm hq) rfl (Nat.le_of_ble_eq_true rfl) ?_
  rintro _ _ _ _ ⟨rfl, rfl, rfl, rfl⟩
  refine V_istore 70 [(0, _), (1, _), (2, _), (3, _), (4, _), (5, _), (6, _), (7, _)] dX2_leastSum_70 (by decide) rfl ?_
  refine V_aload_n 72 0 dX2_leastSum_72 rfl ?_
  refine V_getR 73 flX2_9 dX2_leastSum_73 rfl ?_
  refine V_iload 76 7 dX2_leastSum_76 rfl ?_
  refine V_iald 78 dX2_leastSum_78 rfl (by omega) (by omega) ?_
  rw [hW _ hsp]
  refine V_iload 79 5 dX2_leastSum_79 rfl ?_
  refine V_add 81 dX2_leastSum_81 ?_
  refine V_istore 82 [(0, _), (1, _), (2, _), (3, _), (4, _), (5, _), (6, _), (7, _), (8, _)] dX2_leastSum_82 (by decide) rfl ?_
  refine V_iload_n 84 1 dX2_leastSum_84 rfl ?_
  refine V_iload 85 7 dX2_leastSum_85 rfl ?_
  refine V_shr 87 dX2_leastSum_87 (by omega) (by omega) ?_
  refine V_cst 88 1 dX2_leastSum_88 rfl ?_
  refine V_and 89 dX2_leastSum_89 ?_
  refine V_zN_eq 90 116 dX2_leastSum_90 (by decide) (bit1_lt _) (fun c1 => ?_) (fun c1 => ?_)
  · refine step I ls _ _ Fr.rf hls ?_
    have e : g_e P W K n j q = FAR := by unfold g_e; rw [if_neg (fun h => h c1)]
    rw [e, Nat.min_eq_left (hB.far h12)]
    exact hB.mono hg0
  have e : g_e P W K n j q = W (k_sp P ((s_ord P).getD j 0) q) + g_bh P (g_some P FAR W n) ((s_ord P).getD j 0) + (q + 1) * w_dn j := by unfold g_e; rw [if_pos c1]
  refine V_iload 93 8 dX2_leastSum_93 rfl ?_
  refine V_iload_n 95 3 dX2_leastSum_95 rfl ?_
  refine V_cN_ge 96 116 dX2_leastSum_96 (by decide) (by omega) (by omega) (fun c2 => ?_) (fun c2 => ?_)
  · refine step I ls _ _ Fr.rf hls ?_
    rw [e]
    exact hB.no hg0 hsum (by omega)
  · refine V_iload 99 8 dX2_leastSum_99 rfl ?_
    refine V_istore_n 101 [(0, _), (1, _), (2, _), (3, _), (4, _), (5, _), (6, _), (7, _), (8, _)] dX2_leastSum_101 (by decide) rfl ?_
    refine V_aload_n 102 0 dX2_leastSum_102 rfl ?_
    refine V_iload 103 4 dX2_leastSum_103 rfl ?_
    refine V_putI 105 flX2_53 ft_2_4 dX2_leastSum_105 rfl ?_
    refine V_aload_n 108 0 dX2_leastSum_108 rfl ?_
    refine V_iload 109 6 dX2_leastSum_109 rfl ?_
    refine V_cst 111 1 dX2_leastSum_111 rfl ?_
    refine V_add 112 dX2_leastSum_112 ?_
    refine V_putI 113 flX2_56 ft_2_5 dX2_leastSum_113 rfl ?_
    refine step _ _ _ _ ((Fr.rf.put (by decide) (by decide)).put (by decide) (by decide)) (by omega) ?_
    rw [w_put_other _ (Or.inr (by decide)), w_put_same, w_put_same, e]
    exact hB.yes hj (by omega) hq hg0 hsum c2
theorem kv_l {K n days : Nat} (hE : w_fit (d + 3) E) (hP : s_POK P) (hK : K < 64) (hn : n ≤ 399) (hwb : ∀ i, w i ≤ FAS) (hsc : ∀ i, i < P 0 0 → Sc 1 (w i) (W i)) : ∀ (j : Nat) (I : w_I) (ls : Nat), j ≤ P 2 0 → PRep 15 P I → ARep P I → GW P w I → GF P (g_some P FAS w n) I → ls ≤ FAS → BI P (g_t P W K n (P 2 0 - j) j) (2 * w_dn j) ls (I 58 4) (I 58 5) →
    (∀ I' ls' x q, Fr 58 59 I I' → ls' ≤ FAS → BI P (g_t P W K n (P 2 0) 0) q ls' (I' 58 4) (I' 58 5) → V mX2_leastSum E Ω 0 0 (SH 60 61) I' L 128 [(0, .ref (Ω.1 + 58)), (1, .int (nI K)), (2, .int (nI days)), (3, .int (nI ls')), (4, .int (nI x))] []) →
    V mX2_leastSum E Ω 0 0 (SH 60 61) I L 21 [(0, .ref (Ω.1 + 58)), (1, .int (nI K)), (2, .int (nI days)), (3, .int (nI ls)), (4, .int (nI (j + 4294967295)))] [] := by
  have h6 := hP.1.2
  have h12 := hP.2.2.1
  intro j
  induction j with
  | zero =>
    intro I ls hj hR hA hW hF hls hB hk
    refine V_iload 21 4 dX2_leastSum_21 rfl ?_
    refine V_zN_lt 23 128 dX2_leastSum_23 (by decide) (by omega) (fun c => ?_) (fun c => ?_)
    · exact hk I ls _ _ Fr.rf hls hB
    · omega
  | succ j ih =>
    intro I ls hj hR hA hW hF hls hB hk
    have hjl : j < P 2 0 := by omega
    have hm := s_ord_getD_lt hP hjl
    rw [dec_e]
    refine V_iload 21 4 dX2_leastSum_21 rfl ?_
    refine V_zN_lt 23 128 dX2_leastSum_23 (by decide) (by omega) (fun c => ?_) (fun c => ?_)
    · omega
    refine V_aload_n 26 0 dX2_leastSum_26 rfl ?_
    refine V_aload_n 27 0 dX2_leastSum_27 rfl ?_
    refine V_getR 28 flX2_21 dX2_leastSum_28 rfl ?_
    refine V_getR 31 flX2_42 dX2_leastSum_31 rfl ?_
    refine V_iload 34 4 dX2_leastSum_34 rfl ?_
    refine V_iald 36 dX2_leastSum_36 rfl (by omega) (by omega) ?_
    rw [hA.1 j hjl]
    refine V_vi 37 mvX2_45 dX2_leastSum_37 ⟨_, _, _, rfl, rfl, rfl⟩ (w_fit.mono (by omega) hE) (c_sumBehind (d := d) (f := g_some P FAS w n) ⟨rfl, rfl⟩ hP hR hm hF (fun i => g_some_le n i)) rfl (Nat.le_of_ble_eq_true rfl) ?_
    rintro _ _ _ _ ⟨rfl, rfl, rfl, rfl⟩
    refine V_istore 40 [(0, _), (1, _), (2, _), (3, _), (4, _), (5, _)] dX2_leastSum_40 (by decide) rfl ?_
    refine V_cst 42 0 dX2_leastSum_42 rfl ?_
    refine V_istore 43 [(0, _), (1, _), (2, _), (3, _), (4, _), (5, _), (6, _)] dX2_leastSum_43 (by decide) rfl ?_
    refine kw_l (d := d) (w := w) (W := W) (n := n) (q := 0) hE hP hjl (by decide) hK hn hwb hsc (by rw [Nat.zero_add, Nat.one_mul]; exact w_dn_dec j (by omega)) I ls hR hA hW hB hls (fun I1 ls1 a1 a2 a3 => ?_)
    have hf1 : Fr 58 60 I I1 := a1.wide (by decide) (by decide)
    refine kw_l (d := d) (w := w) (W := W) (n := n) (q := 0 + 1) hE hP hjl (by decide) hK hn hwb hsc (by omega) I1 ls1 (hR.fr a1 (by decide)) (hA.fr a1 (by decide)) (hW.fr a1 (by decide)) a3 a2 (fun I2 ls2 b1 b2 b3 => ?_)
    refine V_iload 45 6 dX2_leastSum_45 rfl ?_
    refine V_cst 47 1 dX2_leastSum_47 rfl ?_
    refine V_cN_gt 48 122 dX2_leastSum_48 (by decide) (by omega) (by omega) (fun c3 => ?_) (fun c3 => ?_)
    rotate_left
    · omega
    refine V_dec 122 4 [(0, _), (1, _), (2, _), (3, _), (4, _), (5, _), (6, _)] dX2_leastSum_122 rfl rfl (by decide) rfl ?_
    refine V_goto 125 21 dX2_leastSum_125 (by decide) ?_
    refine V_sub [(0, _), (1, _), (2, _), (3, _), (4, _)] [0, 1, 2, 3, 4] rfl ?_
    have hf : Fr 58 59 I I2 := a1.trans b1
    refine ih I2 ls2 (by omega) (hR.fr hf (by decide)) (hA.fr hf (by decide)) (hW.fr hf (by decide)) (hF.fr hf (by decide)) b2 ?_ (fun I' ls' x q g1 g2 g3 => hk I' ls' x q (hf.trans g1) g2 g3)
    rw [show P 2 0 - j = (P 2 0 - (j + 1)) + 1 by omega]
    exact b3
theorem c_leastSum {K days : Nat} (hu : UV u v) (hP : s_POK P) (hR : PRep 15 P I) (hA : ARep P I) (hd1 : 1 ≤ days) (hd2 : days ≤ 400) (hK : K < 64) (hW : GW P w I) (hwb : ∀ i, w i ≤ FAS) (hsc : ∀ i, i < P 0 0 → Sc 1 (w i) (W i)) (hWm : ∀ i, W i % 1048576 = 0) : FnI Ω (d + 4) mX2_leastSum [.ref (Ω.1 + 58), .int (nI K), .int (nI days)] (SH u v) I L (fun r S' I' L' => S' = SH u v ∧ L = L' ∧ r = nI (if k_best P W K (days - 1) < FAR then k_best P W K (days - 1) / 1048576 else mI) ∧ (k_best P W K (days - 1) < FAR → I' 58 4 < P 2 0 ∧ (I' 58 5 = 1 ∨ I' 58 5 = 2) ∧ k_best P W K (days - 1) % 1048576 = I' 58 5 * w_dn (I' 58 4)) ∧ Fr 58 62 I I') := by
  obtain ⟨rfl, rfl⟩ := hu
  have h12 := hP.2.2.1
  have hS : FAS = 268435456 := rfl
  refine FnR_of okX2_leastSum (Nat.le_of_ble_eq_true rfl) fun l z => ?_
  have hE : w_fit (d + 3) (w_Er l (d + 4) 0 0 Ω (w_pi (fun r S' I' L' => S' = SH 60 61 ∧ L = L' ∧ r = nI (if k_best P W K (days - 1) < FAR then k_best P W K (days - 1) / 1048576 else mI) ∧ (k_best P W K (days - 1) < FAR → I' 58 4 < P 2 0 ∧ (I' 58 5 = 1 ∨ I' 58 5 = 2) ∧ k_best P W K (days - 1) % 1048576 = I' 58 5 * w_dn (I' 58 4)) ∧ Fr 58 62 I I')) z) := w_fit_r
  show V _ _ _ _ _ _ _ _ 0 [(0, _), (1, _), (2, _)] []
  refine V_aload_n 0 0 dX2_leastSum_0 rfl ?_
  refine V_iload_n 1 2 dX2_leastSum_1 rfl ?_
  refine V_cst 2 1 dX2_leastSum_2 rfl ?_
  refine V_sub1 3 dX2_leastSum_3 (by omega) ?_
  refine V_vv 4 mvX2_35 dX2_leastSum_4 ⟨_, _, _, rfl, rfl, rfl⟩ (w_fit.mono (by omega) hE) (c_sumDays (d := d) (w := w) ⟨rfl, rfl⟩ hP hR hW hwb (by omega)) rfl (Nat.le_of_ble_eq_true rfl) ?_
  rintro _ I1 _ ⟨rfl, rfl, h1, h2⟩
  have hR1 := hR.fr h2 (by decide)
  refine V_ldcN 7 268435456 kcX2_34 dX2_leastSum_7 rfl ?_
  refine V_istore_n 9 [(0, _), (1, _), (2, _), (3, _)] dX2_leastSum_9 (by decide) rfl ?_
  refine V_aload_n 10 0 dX2_leastSum_10 rfl ?_
  refine V_getR 11 flX2_21 dX2_leastSum_11 rfl ?_
  refine V_getI 14 flX2_39 dX2_leastSum_14 rfl ?_
  rw [hR1.2.2.1]
  refine V_cst 17 1 dX2_leastSum_17 rfl ?_
  refine V_subM 18 dX2_leastSum_18 (by omega) ?_
  rw [show P 2 0 + 4294967296 - 1 = P 2 0 + 4294967295 by omega]
  refine V_istore 19 [(0, _), (1, _), (2, _), (3, _), (4, _)] dX2_leastSum_19 (by decide) rfl ?_
  refine kv_l (d := d) (w := w) (W := W) (n := days - 1) hE hP hK (by omega) hwb hsc (P 2 0) I1 268435456 (Nat.le_refl _) hR1 (hA.fr h2 (by decide)) (hW.fr h2 (by decide)) h1 (Nat.le_refl _) ?_ (fun I2 ls x q g1 g2 g3 => ?_)
  · rw [Nat.sub_self]
    exact Or.inl ⟨rfl, rfl⟩
  have hf : Fr 58 62 I I2 := (h2.wide (by decide) (by decide)).trans (g1.wide (by decide) (by decide))
  obtain ⟨o1, o2⟩ := g3.out h12
  rw [← g_best hP hWm] at o1 o2
  refine V_iload_n 128 3 dX2_leastSum_128 rfl ?_
  refine V_ldcN 129 268435456 kcX2_34 dX2_leastSum_129 rfl ?_
  refine V_cN_ge 131 138 dX2_leastSum_131 (by decide) (by omega) (by omega) (fun c => ?_) (fun c => ?_)
  · refine V_cst 138 4294967295 dX2_leastSum_138 rfl ?_
    refine V_iret 139 dX2_leastSum_139 rfl ⟨rfl, rfl, ?_, o2, hf⟩
    rw [← o1, if_neg (by omega)]
  · refine V_iload_n 134 3 dX2_leastSum_134 rfl ?_
    refine V_goto 135 139 dX2_leastSum_135 (by decide) ?_
    refine V_iret 139 dX2_leastSum_139 rfl ⟨rfl, rfl, ?_, o2, hf⟩
    rw [← o1, if_pos (by omega)]
/-! writeRow -/
theorem wr_l {pl dg : Nat} (hP : s_POK P) (hpl : pl < P 2 0) : ∀ (n j : Nat) (I : w_I), j + n = P 2 0 → PRep 15 P I → ARep P I → I 58 4 = pl → I 58 5 = dg → (∀ p, p < j → I 62 ((s_ord P).getD p 0) = if p = pl then dg else 0) →
    (∀ I', Fr 62 63 I I' → (∀ p, p < P 2 0 → I' 62 ((s_ord P).getD p 0) = if p = pl then dg else 0) → V mX2_writeRow E Ω 0 0 (SH u v) I' L 46 [(0, .ref (Ω.1 + 58)), (1, .ref (Ω.1 + 62)), (2, .int (nI (P 2 0)))] []) →
    V mX2_writeRow E Ω 0 0 (SH u v) I L 2 [(0, .ref (Ω.1 + 58)), (1, .ref (Ω.1 + 62)), (2, .int (nI j))] [] := by
  have h12 := hP.2.2.1
  intro n
  induction n with
  | zero =>
    intro j I hj hR hA h4 h5 hl hk
    have e : j = P 2 0 := by omega
    subst e
    refine V_iload_n 2 2 dX2_writeRow_2 rfl ?_
    refine V_aload_n 3 0 dX2_writeRow_3 rfl ?_
    refine V_getR 4 flX2_21 dX2_writeRow_4 rfl ?_
    refine V_getI 7 flX2_39 dX2_writeRow_7 rfl ?_
    rw [hR.2.2.1]
    refine V_cN_ge 10 46 dX2_writeRow_10 (by decide) (by omega) (by omega) (fun c => ?_) (fun c => ?_)
    · exact hk I Fr.rf hl
    · omega
  | succ n ih =>
    intro j I hj hR hA h4 h5 hl hk
    have hjl : j < P 2 0 := by omega
    have ho := s_ord_getD_lt hP hjl
    have fin : ∀ y, y = (if j = pl then dg else 0) → V mX2_writeRow E Ω 0 0 (SH u v) I L 39 [(0, .ref (Ω.1 + 58)), (1, .ref (Ω.1 + 62)), (2, .int (nI j))] [.int (nI y), .int (nI ((s_ord P).getD j 0)), .ref (Ω.1 + 62)] := by
      intro y hy
      refine V_iast 39 dX2_writeRow_39 rfl (by omega) (by omega) ?_
      refine V_inc 40 2 _ [(0, _), (1, _), (2, _)] dX2_writeRow_40 rfl rfl rfl (by decide) rfl ?_
      refine V_goto 43 2 dX2_writeRow_43 (by decide) ?_
      have hf : Fr 62 63 I (w_put I 62 ((s_ord P).getD j 0) y) := Fr.rf.put (by decide) (by decide)
      refine ih (j + 1) _ (by omega) (hR.fr hf (by decide)) (hA.fr hf (by decide)) (by rw [hf 58 (by decide)]; exact h4) (by rw [hf 58 (by decide)]; exact h5) (fun p hp => ?_) (fun I' g1 g2 => hk I' (hf.trans g1) g2)
      by_cases e : p = j
      · rw [e, w_put_same, hy]
      · rw [w_put_other _ (Or.inr (fun h => e (ord_inj hP (by omega) hjl h)))]
        exact hl p (by omega)
    refine V_iload_n 2 2 dX2_writeRow_2 rfl ?_
    refine V_aload_n 3 0 dX2_writeRow_3 rfl ?_
    refine V_getR 4 flX2_21 dX2_writeRow_4 rfl ?_
    refine V_getI 7 flX2_39 dX2_writeRow_7 rfl ?_
    rw [hR.2.2.1]
    refine V_cN_ge 10 46 dX2_writeRow_10 (by decide) (by omega) (by omega) (fun c => ?_) (fun c => ?_)
    · omega
    refine V_aload_n 13 1 dX2_writeRow_13 rfl ?_
    refine V_aload_n 14 0 dX2_writeRow_14 rfl ?_
    refine V_getR 15 flX2_21 dX2_writeRow_15 rfl ?_
    refine V_getR 18 flX2_42 dX2_writeRow_18 rfl ?_
    refine V_iload_n 21 2 dX2_writeRow_21 rfl ?_
    refine V_iald 22 dX2_writeRow_22 rfl (by omega) (by omega) ?_
    rw [hA.1 j hjl]
    refine V_iload_n 23 2 dX2_writeRow_23 rfl ?_
    refine V_aload_n 24 0 dX2_writeRow_24 rfl ?_
    refine V_getI 25 flX2_53 dX2_writeRow_25 rfl ?_
    rw [h4]
    refine V_cN_ne 28 38 dX2_writeRow_28 (by decide) (by omega) (by omega) (fun c1 => ?_) (fun c1 => ?_)
    · refine V_cst 38 0 dX2_writeRow_38 rfl ?_
      exact fin 0 (by rw [if_neg c1])
    · refine V_aload_n 31 0 dX2_writeRow_31 rfl ?_
      refine V_getI 32 flX2_56 dX2_writeRow_32 rfl ?_
      rw [h5]
      refine V_goto 35 39 dX2_writeRow_35 (by decide) ?_
      exact fin dg (by rw [if_pos c1])
theorem c_writeRow {B : Nat} (hP : s_POK P) (hR : PRep 15 P I) (hA : ARep P I) (hB : I 58 4 < P 2 0 ∧ (I 58 5 = 1 ∨ I 58 5 = 2) ∧ B % 1048576 = I 58 5 * w_dn (I 58 4)) : FnV Ω (d + 1) mX2_writeRow [.ref (Ω.1 + 58), .ref (Ω.1 + 62)] (SH u v) I L (fun S' I' L' => S' = SH u v ∧ L = L' ∧ (∀ p, p < P 2 0 → I' 62 ((s_ord P).getD p 0) = B % 1048576 / 3 ^ (11 - p) % 3) ∧ Fr 62 63 I I') := by
  obtain ⟨hb1, hb2, hb3⟩ := hB
  have h12 := hP.2.2.1
  refine FnR_of okX2_writeRow (Nat.le_of_ble_eq_true rfl) fun l z => ?_
  show V _ _ _ _ _ _ _ _ 0 [(0, _), (1, _)] []
  refine V_cst 0 0 dX2_writeRow_0 rfl ?_
  refine V_istore_n 1 [(0, _), (1, _), (2, _)] dX2_writeRow_1 (by decide) rfl ?_
  refine wr_l (pl := I 58 4) (dg := I 58 5) hP hb1 (P 2 0) 0 I (by omega) hR hA rfl rfl (fun p hp => absurd hp (Nat.not_lt_zero _)) (fun I' g1 g2 => ?_)
  refine V_ret 46 dX2_writeRow_46 rfl ⟨rfl, rfl, fun p hp => ?_, g1⟩
  rw [g2 p hp, hb3, row_digit p (I 58 4) (I 58 5) (by omega) (by omega) (by omega)]
end
