section
variable {Ω : w_O} {d u v : Nat} {L : w_L} {E : w_E} {P Y : w_R}
/-! Plan.arrange -/
def s_metL (P : w_R) (A : List Nat) : Nat := A.foldl (fun a m => a ||| s_both P m) 0
def s_met (P : w_R) : Nat := s_metL P (s_ord P)
/-- only the order, the hours' starts and who meets have changed -/
def FrA (I I' : w_I) : Prop := (∀ i, i ≠ 15 → i ≠ 25 → i ≠ 26 → I' i = I i) ∧ ∀ j, j ≠ 14 → I' 15 j = I 15 j
theorem FrA.rf {I : w_I} : FrA I I := ⟨fun _ _ _ _ => rfl, fun _ _ => rfl⟩
theorem FrA.trans {I I' I'' : w_I} (h : FrA I I') (h' : FrA I' I'') : FrA I I'' := ⟨fun i a b c => (h'.1 i a b c).trans (h.1 i a b c), fun j hj => (h'.2 j hj).trans (h.2 j hj)⟩
theorem FrA.o {I I' : w_I} {a j x : Nat} (h : FrA I I') (ha : a = 25 ∨ a = 26) : FrA I (w_put I' a j x) := ⟨fun i h1 h2 h3 => (w_put_ne I' i (by omega)).trans (h.1 i h1 h2 h3), fun j hj => by rw [w_put_other _ (Or.inl (by omega))]; exact h.2 j hj⟩
theorem FrA.m {I I' : w_I} {x : Nat} (h : FrA I I') : FrA I (w_put I' 15 14 x) := ⟨fun i h1 h2 h3 => (w_put_ne I' i (by omega)).trans (h.1 i h1 h2 h3), fun j hj => by rw [w_put_other _ (Or.inr hj)]; exact h.2 j hj⟩
theorem PRep.frA {I I' : w_I} (h : PRep 15 P I) (hf : FrA I I') : PRep 15 P I' := by
  unfold PRep
  rw [hf.2 0 (by decide), hf.2 2 (by decide), hf.2 6 (by decide), hf.1 (15 + 1) (by decide) (by decide) (by decide), hf.1 (15 + 2) (by decide) (by decide) (by decide), hf.1 (15 + 3) (by decide) (by decide) (by decide), hf.1 (15 + 4) (by decide) (by decide) (by decide), hf.1 (15 + 5) (by decide) (by decide) (by decide), hf.1 (15 + 6) (by decide) (by decide) (by decide), hf.1 (15 + 7) (by decide) (by decide) (by decide), hf.1 (15 + 8) (by decide) (by decide) (by decide), hf.1 (15 + 9) (by decide) (by decide) (by decide)]
  exact h
theorem s_metL_app {A : List Nat} {m : Nat} : s_metL P (A ++ [m]) = s_metL P A ||| s_both P m := by unfold s_metL; rw [List.foldl_append]; rfl
theorem pa_in {h : Nat} (hE : w_fit d E) (hP : s_POK P) (hh : h < 12) : ∀ (n j : Nat) (A : List Nat) (I : w_I), j + n = P 2 0 → PRep 15 P I → A.length + ((List.range' j n).filter (fun m => P 5 m == h)).length ≤ 12 → (∀ i, i < A.length → I 25 i = A.getD i 0) → I 15 14 = s_metL P A →
    (∀ I', FrA I I' → I' 26 = I 26 → (∀ i, i < (A ++ (List.range' j n).filter (fun m => P 5 m == h)).length → I' 25 i = (A ++ (List.range' j n).filter (fun m => P 5 m == h)).getD i 0) → I' 15 14 = s_metL P (A ++ (List.range' j n).filter (fun m => P 5 m == h)) → V mX3_arrange E Ω 0 0 (SH u v) I' L 72 [(0, .ref (Ω.1 + 15)), (1, .int (nI (A ++ (List.range' j n).filter (fun m => P 5 m == h)).length)), (2, .int (nI h)), (3, .int (nI (j + n)))] []) →
    V mX3_arrange E Ω 0 0 (SH u v) I L 24 [(0, .ref (Ω.1 + 15)), (1, .int (nI A.length)), (2, .int (nI h)), (3, .int (nI j))] [] := by
  have h12 := hP.2.2.1
  intro n
  induction n with
  | zero =>
    intro j A I hj hR hlen hA hm hk
    refine V_iload_n 24 3 dX3_arrange_24 rfl ?_
    refine V_aload_n 25 0 dX3_arrange_25 rfl ?_
    refine V_getI 26 flX3_55 dX3_arrange_26 rfl ?_
    rw [hR.2.2.1]
    refine V_cN_ge 29 72 dX3_arrange_29 (by decide) (by omega) (by omega) (fun c => ?_) (fun c => ?_)
    · have h1 := hk I FrA.rf rfl (by simpa using hA) (by simpa using hm)
      simpa using h1
    · omega
  | succ n ih =>
    intro j A I hj hR hlen hA hm hk
    have hjP : j < P 2 0 := by omega
    obtain ⟨q1, q2, q3, q4⟩ := hP.2.2.2.1 j hjP
    obtain ⟨r1, r2, r3⟩ := hR.2.2.2.1 j hjP
    rw [List.range'_succ, List.filter_cons] at hlen hk
    refine V_iload_n 24 3 dX3_arrange_24 rfl ?_
    refine V_aload_n 25 0 dX3_arrange_25 rfl ?_
    refine V_getI 26 flX3_55 dX3_arrange_26 rfl ?_
    rw [hR.2.2.1]
    refine V_cN_ge 29 72 dX3_arrange_29 (by decide) (by omega) (by omega) (fun c => ?_) (fun c => ?_)
    · omega
    refine V_aload_n 32 0 dX3_arrange_32 rfl ?_
    refine V_getR 33 flX3_21 dX3_arrange_33 rfl ?_
    refine V_iload_n 36 3 dX3_arrange_36 rfl ?_
    refine V_iald 37 dX3_arrange_37 rfl (by omega) (by omega) ?_
    rw [r3]
    refine V_iload_n 38 2 dX3_arrange_38 rfl ?_
    refine V_cN_ne 39 66 dX3_arrange_39 (by decide) (by omega) (by omega) (fun c1 => ?_) (fun c1 => ?_)
    · rw [if_neg (by simpa using c1)] at hlen hk
      refine V_inc 66 3 _ [(0, _), (1, _), (2, _), (3, _)] dX3_arrange_66 rfl rfl rfl (by decide) rfl ?_
      refine V_goto 69 24 dX3_arrange_69 (by decide) ?_
      refine ih (j + 1) A I (by omega) hR hlen hA hm ?_
      rw [show j + 1 + n = j + (n + 1) by omega]
      exact hk
    · rw [if_pos (by simpa using c1)] at hlen hk
      rw [List.length_cons] at hlen
      refine V_aload_n 42 0 dX3_arrange_42 rfl ?_
      refine V_getR 43 flX3_39 dX3_arrange_43 rfl ?_
      refine V_iload_n 46 1 dX3_arrange_46 rfl ?_
      refine V_iload_n 47 3 dX3_arrange_47 rfl ?_
      refine V_iast 48 dX3_arrange_48 rfl (by omega) (by omega) ?_
      refine V_inc 49 1 _ [(0, _), (1, _), (2, _), (3, _)] dX3_arrange_49 rfl rfl rfl (by decide) rfl ?_
      refine V_aload_n 52 0 dX3_arrange_52 rfl ?_
      refine V_dup 53 dX3_arrange_53 rfl ?_
      refine V_getI 54 flX3_67 dX3_arrange_54 rfl ?_
      refine V_aload_n 57 0 dX3_arrange_57 rfl ?_
      refine V_iload_n 58 3 dX3_arrange_58 rfl ?_
      have hf1 : FrA I (w_put I 25 A.length j) := FrA.rf.o (Or.inl rfl)
      refine V_vi 59 mvX3_70 dX3_arrange_59 ⟨_, _, _, rfl, rfl, rfl⟩ (w_fit.mono (by omega) hE) (c_bothOf (d := d) hP (hR.frA hf1) hjP) rfl (Nat.le_of_ble_eq_true rfl) ?_
      rintro _ _ _ _ ⟨rfl, rfl, rfl, rfl⟩
      refine V_or 62 dX3_arrange_62 ?_
      refine V_putI 63 flX3_67 ft_3_14 dX3_arrange_63 rfl ?_
      refine V_inc 66 3 _ [(0, _), (1, _), (2, _), (3, _)] dX3_arrange_66 rfl rfl rfl (by decide) rfl ?_
      refine V_goto 69 24 dX3_arrange_69 (by decide) ?_
      rw [w_put_other I (Or.inl (by decide)), hm, ← s_metL_app, show A.length + 1 = (A ++ [j]).length by simp]
      have hf2 : FrA I (w_put (w_put I 25 A.length j) 15 14 (s_metL P (A ++ [j]))) := hf1.m
      refine ih (j + 1) (A ++ [j]) _ (by omega) (hR.frA hf2) ?_ ?_ (w_put_same _ _ _ _) ?_
      · rw [List.length_append]; simp only [List.length_cons, List.length_nil]; omega
      · intro i hi
        rw [List.length_append] at hi
        simp only [List.length_cons, List.length_nil] at hi
        rw [w_put_other _ (Or.inl (by decide))]
        by_cases e : i = A.length
        · rw [e, w_put_same, getD_app_at]
        · rw [w_put_other _ (Or.inr e), getD_app_l (by omega)]
          exact hA i (by omega)
      · rw [show j + 1 + n = j + (n + 1) by omega, List.append_assoc]
        intro I' g1 g2 g3 g4
        exact hk I' (hf2.trans g1) (by rw [g2, w_put_ne _ _ (by decide), w_put_ne _ _ (by decide)]) g3 g4
theorem pa_out (hE : w_fit d E) (hP : s_POK P) : ∀ (n h : Nat) (I : w_I), h + n = 12 → PRep 15 P I → (∀ i, i < h → I 26 i = s_hs P i) → (∀ i, i < s_hs P h → I 25 i = ((List.range h).flatMap (s_mh P)).getD i 0) → I 15 14 = s_metL P ((List.range h).flatMap (s_mh P)) →
    (∀ I', FrA I I' → (∀ i, i < 12 → I' 26 i = s_hs P i) → (∀ i, i < s_hs P 12 → I' 25 i = (s_ord P).getD i 0) → I' 15 14 = s_met P → V mX3_arrange E Ω 0 0 (SH u v) I' L 78 [(0, .ref (Ω.1 + 15)), (1, .int (nI (s_hs P 12))), (2, .int (nI 12))] []) →
    V mX3_arrange E Ω 0 0 (SH u v) I L 9 [(0, .ref (Ω.1 + 15)), (1, .int (nI (s_hs P h))), (2, .int (nI h))] [] := by
  intro n
  induction n with
  | zero =>
    intro h I hh hR h26 h25 hm hk
    have e : h = 12 := by omega
    subst e
    refine V_iload_n 9 2 dX3_arrange_9 rfl ?_
    refine V_bip 10 12 dX3_arrange_10 rfl ?_
    refine V_cN_ge 12 78 dX3_arrange_12 (by decide) (by omega) (by omega) (fun c => ?_) (fun c => ?_)
    · exact hk I FrA.rf h26 h25 hm
    · omega
  | succ n ih =>
    intro h I hh hR h26 h25 hm hk
    have hle := s_hs_le hP (h := h) (by omega)
    have hle1 := s_hs_le hP (h := h + 1) (by omega)
    have hss := s_hs_succ P h
    have h12 := hP.2.2.1
    have esucc : (List.range (h + 1)).flatMap (s_mh P) = (List.range h).flatMap (s_mh P) ++ s_mh P h := by rw [List.range_succ, List.flatMap_append]; simp
    refine V_iload_n 9 2 dX3_arrange_9 rfl ?_
    refine V_bip 10 12 dX3_arrange_10 rfl ?_
    refine V_cN_ge 12 78 dX3_arrange_12 (by decide) (by omega) (by omega) (fun c => ?_) (fun c => ?_)
    · omega
    refine V_aload_n 15 0 dX3_arrange_15 rfl ?_
    refine V_getR 16 flX3_42 dX3_arrange_16 rfl ?_
    refine V_iload_n 19 2 dX3_arrange_19 rfl ?_
    refine V_iload_n 20 1 dX3_arrange_20 rfl ?_
    refine V_iast 21 dX3_arrange_21 rfl (by omega) (by omega) ?_
    refine V_cst 22 0 dX3_arrange_22 rfl ?_
    refine V_istore_n 23 [(0, _), (1, _), (2, _), (3, _)] dX3_arrange_23 (by decide) rfl ?_
    have hf : FrA I (w_put I 26 h (s_hs P h)) := FrA.rf.o (Or.inr rfl)
    refine pa_in (h := h) hE hP (by omega) (P 2 0) 0 ((List.range h).flatMap (s_mh P)) _ (by omega) (hR.frA hf) ?_ ?_ ?_ ?_
    · rw [← List.range_eq_range']
      show s_hs P h + (s_mh P h).length ≤ 12
      omega
    · intro i hi
      rw [w_put_other _ (Or.inl (by decide))]
      exact h25 i hi
    · rw [w_put_other _ (Or.inl (by decide))]; exact hm
    · rw [← List.range_eq_range', show (List.range (P 2 0)).filter (fun m => P 5 m == h) = s_mh P h from rfl, ← esucc]
      intro I' g1 g2 g3 g4
      refine V_inc 72 2 _ [(0, _), (1, _), (2, _), (3, _)] dX3_arrange_72 rfl rfl rfl (by decide) rfl ?_
      refine V_goto 75 9 dX3_arrange_75 (by decide) ?_
      refine V_sub [(0, _), (1, _), (2, _)] [0, 1, 2] rfl ?_
      refine ih (h + 1) I' (by omega) (hR.frA (hf.trans g1)) ?_ g3 g4 (fun I'' k1 k2 k3 k4 => hk I'' ((hf.trans g1).trans k1) k2 k3 k4)
      intro i hi
      rw [g2]
      by_cases e : i = h
      · rw [e, w_put_same]
      · rw [w_put_other _ (Or.inr e)]
        exact h26 i (by omega)
theorem c_parrange {I : w_I} (hP : s_POK P) (hR : PRep 15 P I) : FnV Ω (d + 1) mX3_arrange [.ref (Ω.1 + 15)] (SH u v) I L (fun S' I' L' => S' = SH u v ∧ L = L' ∧ PRep 15 P I' ∧ ARep P I' ∧ I' 15 14 = s_met P ∧ FrA I I') := by
  have h12 := hP.2.2.1
  have hle := s_hs_12 hP
  refine FnR_of okX3_arrange (Nat.le_of_ble_eq_true rfl) fun l z => ?_
  show V _ _ _ _ _ _ _ _ 0 [(0, _)] []
  refine V_cst 0 0 dX3_arrange_0 rfl ?_
  refine V_istore_n 1 [(0, _), (1, _)] dX3_arrange_1 (by decide) rfl ?_
  refine V_aload_n 2 0 dX3_arrange_2 rfl ?_
  refine V_cst 3 0 dX3_arrange_3 rfl ?_
  refine V_putI 4 flX3_67 ft_3_14 dX3_arrange_4 rfl ?_
  refine V_cst 7 0 dX3_arrange_7 rfl ?_
  refine V_istore_n 8 [(0, _), (1, _), (2, _)] dX3_arrange_8 (by decide) rfl ?_
  refine pa_out (d := d) w_fit_r hP 12 0 _ (by omega) (hR.frA FrA.rf.m) (fun i hi => absurd hi (Nat.not_lt_zero _)) (fun i hi => absurd hi (by simp [s_hs])) (w_put_same _ _ _ _) (fun I' h1 h2 h3 h4 => ?_)
  refine V_aload_n 78 0 dX3_arrange_78 rfl ?_
  refine V_getR 79 flX3_42 dX3_arrange_79 rfl ?_
  refine V_bip 82 12 dX3_arrange_82 rfl ?_
  refine V_iload_n 84 1 dX3_arrange_84 rfl ?_
  refine V_iast 85 dX3_arrange_85 rfl (by omega) (by omega) ?_
  have hf : FrA I (w_put I' 26 12 (s_hs P 12)) := (FrA.rf.m.trans h1).o (Or.inr rfl)
  refine V_ret 86 dX3_arrange_86 rfl ⟨rfl, rfl, hR.frA hf, ⟨fun i hi => ?_, fun i hi => ?_⟩, ?_, hf⟩
  · rw [w_put_other _ (Or.inl (by decide))]
    exact h3 i (by omega)
  · by_cases e : i = 12
    · rw [e, w_put_same]
    · rw [w_put_other _ (Or.inr e)]
      exact h2 i (by omega)
  · rw [w_put_other _ (Or.inl (by decide))]; exact h4
end
