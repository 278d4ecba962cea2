section
variable {M : w_M} {E : w_E} {Ω : w_O} {k n : Nat} {S : List w_SC} {I : w_I} {L : w_L} {ls : List (Nat × Value)} {st : List Value}
theorem V_ldcwN (pc v : Nat) {index : Nat} {q : Int32} (hw : Cond.constant M.1 index q ∈ w_tb) (d : decode M.2.2.1 pc = .ok (.ldc_w index, 3)) (hv : q = nI v) (h : V M E Ω k n S I L (pc + 3) ls (.int (nI v) :: st)) : V M E Ω k n S I L pc ls st := by
  subst hv
  intro p e s m args below meth c H lr locs C hm hn hc hR hS hl
  exact lv_ldcw C.1 C.2.1 C.2.2.2.1 (C.2.2.2.2 _ hw) d (h p e s m args below meth c H lr locs C hm hn hc hR hS hl)
end
/-! the model's fares: what they stand on -/
def FrK (I I' : w_I) : Prop := (∀ i, i ≠ 63 → i < 87 ∨ i = 91 ∨ 97 < i → I' i = I i) ∧ ∀ j, j < 42 ∨ (44 < j ∧ j < 50) ∨ 52 < j → I' 63 j = I 63 j
theorem FrK.rf {I : w_I} : FrK I I := ⟨fun _ _ _ => rfl, fun _ _ => rfl⟩
theorem FrK.trans {I I' I'' : w_I} (h : FrK I I') (h' : FrK I' I'') : FrK I I'' := ⟨fun i a b => (h'.1 i a b).trans (h.1 i a b), fun j hj => (h'.2 j hj).trans (h.2 j hj)⟩
theorem FrK.put {I I' : w_I} {i j x : Nat} (h : FrK I I') (hi : (87 ≤ i ∧ i ≤ 97 ∧ i ≠ 91) ∨ (i = 63 ∧ ((42 ≤ j ∧ j ≤ 44) ∨ (50 ≤ j ∧ j ≤ 52)))) : FrK I (w_put I' i j x) := ⟨fun q a b => (w_put_ne I' q (by omega)).trans (h.1 q a b), fun q hq => by rw [w_put_other _ (by omega)]; exact h.2 q hq⟩
def KF (P : w_R) (si ks : Nat) (I : w_I) : Prop := MP P I ∧ I 63 43 = si ∧ I 63 44 = ks ∧ ∀ j, j < P 2 0 → I 87 j = r_m P j
def r_p (P : w_R) (ks : Nat) (x : Nat) : Nat := if ks = 1 then 1 else P 1 x
theorem r_p_le {P : w_R} {ks : Nat} (hP : s_POK P) : ∀ x, x < P 0 0 → r_p P ks x ≤ 99 := by
  have := hP.1.2
  intro x hx
  unfold r_p
  split
  · decide
  · exact hP.2.1 x (by omega)
theorem MInv.k {σ : w_Z} {I I' : w_I} (h : MInv σ I) (hf : FrK I I') (hs : MS I') : MInv σ I' := by
  obtain ⟨h1, h2, h3, h4, h5, h6, h7, h8⟩ := h
  exact ⟨h1.of (fun i a b => hf.1 i (by omega) (by omega)), h2.of (hf.2 _ (by decide)) (fun i a b => hf.1 i (by omega) (by omega)), h3.of (fun i a b => hf.1 i (by omega) (by omega)), h4.of (hf.2 _ (by decide)) (hf.1 _ (by decide) (by decide)), h5.of (hf.2 _ (by decide)) (hf.1 _ (by decide) (by decide)), h6.of (hf.2 _ (by decide)) (hf.1 _ (by decide) (by decide)), h7.of (hf.2 _ (by decide)) (hf.2 _ (by decide)) (fun i hi => hf.1 i (by omega) (by omega)), hs⟩
theorem FrK.mp {P : w_R} {I I' : w_I} (h : FrK I I') (hM : MP P I) : MP P I' := hM.of (fun i a b => h.1 i (by omega) (by omega))
section
variable {Ω : w_O} {d u v : Nat} {L : w_L} {E : w_E} {P : w_R}
/-- the meetings of A stand in order -/
def OA (A : List Nat) (I : w_I) : Prop := ∀ i, i < A.length → I 87 i = A.getD i 0
theorem OA.push {A : List Nat} {I : w_I} {m : Nat} (h : OA A I) : OA (A ++ [m]) (w_put I 87 A.length m) := by
  intro i hi
  rw [List.length_append, List.length_singleton] at hi
  by_cases e : i = A.length
  · subst e
    rw [w_put_same, List.getD_eq_getElem?_getD, List.getElem?_append_right (Nat.le_refl _), Nat.sub_self]
    rfl
  · rw [w_put_other _ (Or.inr e), h i (by omega), List.getD_eq_getElem?_getD, List.getD_eq_getElem?_getD, List.getElem?_append_left (by omega)]
theorem to_in {hh : Nat} {B : List Nat} (hP : s_POK P) (hhh : hh < 12) : ∀ (n j : Nat) (A : List Nat) (I : w_I), j + n = P 2 0 → MP P I → A ++ ((List.range' j n).filter (fun m => P 5 m == hh) ++ B) = s_ord P → OA A I →
    (∀ I' x, OA (A ++ (List.range' j n).filter (fun m => P 5 m == hh)) I' → (∀ i, i ≠ 87 → I' i = I i) → V mX8_tellOrder E Ω 0 0 (SH u v) I' L 51 [(0, .ref (Ω.1 + 63)), (1, .int (nI (A ++ (List.range' j n).filter (fun m => P 5 m == hh)).length)), (2, .int (nI hh)), (3, .int (nI x))] []) →
    V mX8_tellOrder E Ω 0 0 (SH u v) I L 12 [(0, .ref (Ω.1 + 63)), (1, .int (nI A.length)), (2, .int (nI hh)), (3, .int (nI j))] [] := by
  have h12 := hP.2.2.1
  have hl := s_ord_len hP
  intro n
  induction n with
  | zero =>
    intro j A I hj hMP hA hO hk
    refine V_iload_n 12 3 dX8_tellOrder_12 rfl ?_
    refine V_aload_n 13 0 dX8_tellOrder_13 rfl ?_
    refine V_getR 14 flX8_7 dX8_tellOrder_14 rfl ?_
    refine V_cst 17 1 dX8_tellOrder_17 rfl ?_
    refine V_iald 18 dX8_tellOrder_18 rfl (by omega) (by omega) ?_
    rw [hMP.2.1]
    refine V_cN_ge 19 51 dX8_tellOrder_19 (by decide) (by omega) (by omega) (fun c => ?_) (fun c => ?_)
    · have := hk I j (by simpa using hO) (fun _ _ => rfl)
      simpa using this
    · omega
  | succ n ih =>
    intro j A I hj hMP hA hO hk
    obtain ⟨m3, m4, m5⟩ := hMP.2.2.2.2.1 j (by omega)
    obtain ⟨q1, q2, q3, q4⟩ := hP.2.2.2.1 j (by omega)
    rw [List.range'_succ] at hA hk
    refine V_iload_n 12 3 dX8_tellOrder_12 rfl ?_
    refine V_aload_n 13 0 dX8_tellOrder_13 rfl ?_
    refine V_getR 14 flX8_7 dX8_tellOrder_14 rfl ?_
    refine V_cst 17 1 dX8_tellOrder_17 rfl ?_
    refine V_iald 18 dX8_tellOrder_18 rfl (by omega) (by omega) ?_
    rw [hMP.2.1]
    refine V_cN_ge 19 51 dX8_tellOrder_19 (by decide) (by omega) (by omega) (fun c => ?_) (fun c => ?_)
    · omega
    refine V_aload_n 22 0 dX8_tellOrder_22 rfl ?_
    refine V_getR 23 flX8_22 dX8_tellOrder_23 rfl ?_
    refine V_iload_n 26 3 dX8_tellOrder_26 rfl ?_
    refine V_iald 27 dX8_tellOrder_27 rfl (by omega) (by omega) ?_
    rw [m5]
    refine V_iload_n 28 2 dX8_tellOrder_28 rfl ?_
    refine V_cN_eq 29 35 dX8_tellOrder_29 (by decide) (by omega) (by omega) (fun c1 => ?_) (fun c1 => ?_)
    · rw [List.filter_cons_of_pos (by rw [beq_iff_eq]; exact c1)] at hA hk
      have hlen : A.length < 12 := by
        have := congrArg List.length hA
        rw [List.length_append, List.length_append, List.length_cons, hl] at this
        omega
      have e1 : (A ++ [j]).length = A.length + 1 := by rw [List.length_append]; rfl
      refine V_aload_n 35 0 dX8_tellOrder_35 rfl ?_
      refine V_getR 36 flX8_84 dX8_tellOrder_36 rfl ?_
      refine V_iload_n 39 1 dX8_tellOrder_39 rfl ?_
      refine V_iload_n 40 3 dX8_tellOrder_40 rfl ?_
      refine V_iast 41 dX8_tellOrder_41 rfl (by omega) (by omega) ?_
      refine V_inc 42 1 _ [(0, _), (1, _), (2, _), (3, _)] dX8_tellOrder_42 rfl rfl rfl (by decide) rfl ?_
      refine V_inc 45 3 _ [(0, _), (1, _), (2, _), (3, _)] dX8_tellOrder_45 rfl rfl rfl (by decide) rfl ?_
      refine V_goto 48 12 dX8_tellOrder_48 (by decide) ?_
      rw [← e1]
      refine ih (j + 1) (A ++ [j]) _ (by omega) (hMP.of (fun i a b => w_put_ne _ _ (by omega))) (by rw [← hA]; simp) hO.push (fun I' x k1 k2 => ?_)
      have := hk I' x (by simpa using k1) (fun i hi => by rw [k2 i hi, w_put_ne _ _ hi])
      simpa using this
    · rw [List.filter_cons_of_neg (by rw [beq_iff_eq]; exact c1)] at hA hk
      refine V_goto 32 45 dX8_tellOrder_32 (by decide) ?_
      refine V_inc 45 3 _ [(0, _), (1, _), (2, _), (3, _)] dX8_tellOrder_45 rfl rfl rfl (by decide) rfl ?_
      refine V_goto 48 12 dX8_tellOrder_48 (by decide) ?_
      exact ih (j + 1) A I (by omega) hMP hA hO hk
theorem m_tellOrder {I : w_I} (hP : s_POK P) (hMP : MP P I) : FnV Ω d mX8_tellOrder [.ref (Ω.1 + 63)] (SH u v) I L (fun S' I' L' => S' = SH u v ∧ L = L' ∧ (∀ j, j < P 2 0 → I' 87 j = r_m P j) ∧ ∀ i, i ≠ 87 → I' i = I i) := by
  have hl := s_ord_len hP
  refine FnR_of okX8_tellOrder (Nat.le_of_ble_eq_true rfl) fun l z => ?_
  show V _ _ _ _ _ _ _ _ 0 [(0, _)] []
  have out : ∀ (n h : Nat) (A : List Nat) (J : w_I), h + n = 12 → A ++ (List.range' h n).flatMap (s_mh P) = s_ord P → OA A J → (∀ i, i ≠ 87 → J i = I i) → V mX8_tellOrder (w_Er l d 0 0 Ω (w_pv (fun S' I' L' => S' = SH u v ∧ L = L' ∧ (∀ j, j < P 2 0 → I' 87 j = r_m P j) ∧ ∀ i, i ≠ 87 → I' i = I i)) z) Ω 0 0 (SH u v) J L 4 [(0, .ref (Ω.1 + 63)), (1, .int (nI A.length)), (2, .int (nI h))] [] := by
    intro n
    induction n with
    | zero =>
      intro h A J hh hA hO hf
      refine V_iload_n 4 2 dX8_tellOrder_4 rfl ?_
      refine V_bip 5 12 dX8_tellOrder_5 rfl ?_
      refine V_cN_ge 7 57 dX8_tellOrder_7 (by decide) (by omega) (by omega) (fun c => ?_) (fun c => ?_)
      · have e : A = s_ord P := by rw [← hA]; simp
        subst e
        exact V_ret 57 dX8_tellOrder_57 rfl ⟨rfl, rfl, fun j hj => hO j (by rw [hl]; exact hj), hf⟩
      · omega
    | succ n ih =>
      intro h A J hh hA hO hf
      rw [List.range'_succ, List.flatMap_cons] at hA
      refine V_iload_n 4 2 dX8_tellOrder_4 rfl ?_
      refine V_bip 5 12 dX8_tellOrder_5 rfl ?_
      refine V_cN_ge 7 57 dX8_tellOrder_7 (by decide) (by omega) (by omega) (fun c => ?_) (fun c => ?_)
      · omega
      refine V_cst 10 0 dX8_tellOrder_10 rfl ?_
      refine V_istore_n 11 [(0, _), (1, _), (2, _), (3, _)] dX8_tellOrder_11 (by decide) rfl ?_
      have em : s_mh P h = (List.range' 0 (P 2 0)).filter (fun m => P 5 m == h) := by unfold s_mh; rw [List.range_eq_range']
      rw [em] at hA
      refine to_in hP (by omega) (P 2 0) 0 A J (by omega) (hMP.of (fun i a b => hf i (by omega))) hA hO (fun J' x k1 k2 => ?_)
      refine V_inc 51 2 _ [(0, _), (1, _), (2, _), (3, _)] dX8_tellOrder_51 rfl rfl rfl (by decide) rfl ?_
      refine V_sub [(0, _), (1, _), (2, _)] [0, 1, 2] rfl ?_
      refine V_goto 54 4 dX8_tellOrder_54 (by decide) ?_
      refine V_sub [(0, _), (1, _), (2, _)] [0, 1, 2] rfl ?_
      exact ih (h + 1) _ J' (by omega) (by rw [List.append_assoc]; exact hA) k1 (fun i hi => by rw [k2 i hi, hf i hi])
  refine V_cst 0 0 dX8_tellOrder_0 rfl ?_
  refine V_istore_n 1 [(0, _), (1, _)] dX8_tellOrder_1 (by decide) rfl ?_
  refine V_cst 2 0 dX8_tellOrder_2 rfl ?_
  refine V_istore_n 3 [(0, _), (1, _), (2, _)] dX8_tellOrder_3 (by decide) rfl ?_
  exact out 12 0 [] I (by omega) (by rw [List.nil_append, ← List.range_eq_range']; rfl) (fun i hi => absurd hi (Nat.not_lt_zero _)) (fun _ _ => rfl)
theorem m_cellOf {I : w_I} {i h s a : Nat} (hi : i ≤ 12) (hh : h < 64) (hs : s < 64) (ha : a < 2) : FnI Ω d mX8_cellOf [.int (nI i), .int (nI h), .int (nI s), .int (nI a)] (SH u v) I L (fun r S' I' L' => r = nI (((i * 64 + h) * 64 + s) * 2 + a) ∧ S' = SH u v ∧ I = I' ∧ L = L') := by
  refine FnR_of okX8_cellOf (Nat.le_of_ble_eq_true rfl) fun l z => ?_
  show V _ _ _ _ _ _ _ _ 0 [(0, _), (1, _), (2, _), (3, _)] []
  refine V_iload_n 0 0 dX8_cellOf_0 rfl ?_
  refine V_bip 1 64 dX8_cellOf_1 rfl ?_
  refine V_mul 3 dX8_cellOf_3 ?_
  refine V_iload_n 4 1 dX8_cellOf_4 rfl ?_
  refine V_add 5 dX8_cellOf_5 ?_
  refine V_bip 6 64 dX8_cellOf_6 rfl ?_
  refine V_mul 8 dX8_cellOf_8 ?_
  refine V_iload_n 9 2 dX8_cellOf_9 rfl ?_
  refine V_add 10 dX8_cellOf_10 ?_
  refine V_cst 11 2 dX8_cellOf_11 rfl ?_
  refine V_mul 12 dX8_cellOf_12 ?_
  refine V_iload_n 13 3 dX8_cellOf_13 rfl ?_
  refine V_add 14 dX8_cellOf_14 ?_
  exact V_iret 15 dX8_cellOf_15 rfl ⟨rfl, rfl, rfl, rfl⟩
theorem m_spokeAt {I : w_I} {i s : Nat} (hP : s_POK P) (hMP : MP P I) (hO : ∀ j, j < P 2 0 → I 87 j = r_m P j) (hi : i ≤ 12) : FnI Ω d mX8_spokeAt [.ref (Ω.1 + 63), .int (nI i), .int (nI s)] (SH u v) I L (fun r S' I' L' => r = nI (r_s P i s) ∧ S' = SH u v ∧ I = I' ∧ L = L') := by
  have h12 := hP.2.2.1
  refine FnR_of okX8_spokeAt (Nat.le_of_ble_eq_true rfl) fun l z => ?_
  show V _ _ _ _ _ _ _ _ 0 [(0, _), (1, _), (2, _)] []
  have no : ¬ (0 < i ∧ i < P 2 0 ∧ P 5 (r_m P i) = P 5 (r_m P (i - 1))) → V mX8_spokeAt (w_Er l d 0 0 Ω (w_pi (fun r S' I' L' => r = nI (r_s P i s) ∧ S' = SH u v ∧ I = I' ∧ L = L')) z) Ω 0 0 (SH u v) I L 45 [(0, .ref (Ω.1 + 63)), (1, .int (nI i)), (2, .int (nI s))] [] := by
    intro h
    refine V_cst 45 0 dX8_spokeAt_45 rfl ?_
    exact V_iret 46 dX8_spokeAt_46 rfl ⟨by unfold r_s; rw [if_neg h], rfl, rfl, rfl⟩
  refine V_iload_n 0 1 dX8_spokeAt_0 rfl ?_
  refine V_zN_le 1 45 dX8_spokeAt_1 (by decide) (by omega) (fun c => ?_) (fun c => ?_)
  · exact no (fun q => by omega)
  refine V_iload_n 4 1 dX8_spokeAt_4 rfl ?_
  refine V_aload_n 5 0 dX8_spokeAt_5 rfl ?_
  refine V_getR 6 flX8_7 dX8_spokeAt_6 rfl ?_
  refine V_cst 9 1 dX8_spokeAt_9 rfl ?_
  refine V_iald 10 dX8_spokeAt_10 rfl (by omega) (by omega) ?_
  rw [hMP.2.1]
  refine V_cN_ge 11 45 dX8_spokeAt_11 (by decide) (by omega) (by omega) (fun c1 => ?_) (fun c1 => ?_)
  · exact no (fun q => by omega)
  have g1 := r_m_lt hP (j := i) (by omega)
  have g2 := r_m_lt hP (j := i - 1) (by omega)
  obtain ⟨-, -, m5⟩ := hMP.2.2.2.2.1 _ g1
  obtain ⟨-, -, m6⟩ := hMP.2.2.2.2.1 _ g2
  obtain ⟨-, -, -, q5⟩ := hP.2.2.2.1 _ g1
  obtain ⟨-, -, -, q6⟩ := hP.2.2.2.1 _ g2
  refine V_aload_n 14 0 dX8_spokeAt_14 rfl ?_
  refine V_getR 15 flX8_22 dX8_spokeAt_15 rfl ?_
  refine V_aload_n 18 0 dX8_spokeAt_18 rfl ?_
  refine V_getR 19 flX8_84 dX8_spokeAt_19 rfl ?_
  refine V_iload_n 22 1 dX8_spokeAt_22 rfl ?_
  refine V_iald 23 dX8_spokeAt_23 rfl (by omega) (by omega) ?_
  rw [hO i (by omega)]
  refine V_iald 24 dX8_spokeAt_24 rfl (by omega) (by omega) ?_
  rw [m5]
  refine V_aload_n 25 0 dX8_spokeAt_25 rfl ?_
  refine V_getR 26 flX8_22 dX8_spokeAt_26 rfl ?_
  refine V_aload_n 29 0 dX8_spokeAt_29 rfl ?_
  refine V_getR 30 flX8_84 dX8_spokeAt_30 rfl ?_
  refine V_iload_n 33 1 dX8_spokeAt_33 rfl ?_
  refine V_cst 34 1 dX8_spokeAt_34 rfl ?_
  refine V_sub1 35 dX8_spokeAt_35 (by omega) ?_
  refine V_iald 36 dX8_spokeAt_36 rfl (by omega) (by omega) ?_
  rw [hO (i - 1) (by omega)]
  refine V_iald 37 dX8_spokeAt_37 rfl (by omega) (by omega) ?_
  rw [m6]
  refine V_cN_ne 38 45 dX8_spokeAt_38 (by decide) (by omega) (by omega) (fun c2 => ?_) (fun c2 => ?_)
  · exact no (fun q => c2 q.2.2)
  · refine V_iload_n 41 2 dX8_spokeAt_41 rfl ?_
    refine V_goto 42 46 dX8_spokeAt_42 (by decide) ?_
    exact V_iret 46 dX8_spokeAt_46 rfl ⟨by unfold r_s; rw [if_pos ⟨by omega, by omega, c2⟩], rfl, rfl, rfl⟩
theorem bf_l {si ks : Nat} : ∀ (n j : Nat) (I : w_I), j + n = 64 →
    (∀ I', (∀ q, q < 64 → I' 94 q = if j ≤ q then 0 else I 94 q) → (∀ i, i ≠ 94 → I' i = I i) → V mX8_beginFares E Ω 0 0 (SH u v) I' L 35 [(0, .ref (Ω.1 + 63)), (1, .int (nI si)), (2, .int (nI ks)), (3, .int (nI 64))] []) →
    V mX8_beginFares E Ω 0 0 (SH u v) I L 16 [(0, .ref (Ω.1 + 63)), (1, .int (nI si)), (2, .int (nI ks)), (3, .int (nI j))] [] := by
  intro n
  induction n with
  | zero =>
    intro j I hj hk
    have e : j = 64 := by omega
    subst e
    refine V_iload_n 16 3 dX8_beginFares_16 rfl ?_
    refine V_bip 17 64 dX8_beginFares_17 rfl ?_
    refine V_cN_ge 19 35 dX8_beginFares_19 (by decide) (by omega) (by omega) (fun c => ?_) (fun c => ?_)
    · exact hk I (fun q hq => by rw [if_neg (by omega)]) (fun _ _ => rfl)
    · omega
  | succ n ih =>
    intro j I hj hk
    refine V_iload_n 16 3 dX8_beginFares_16 rfl ?_
    refine V_bip 17 64 dX8_beginFares_17 rfl ?_
    refine V_cN_ge 19 35 dX8_beginFares_19 (by decide) (by omega) (by omega) (fun c => ?_) (fun c => ?_)
    · omega
    refine V_aload_n 22 0 dX8_beginFares_22 rfl ?_
    refine V_getR 23 flX8_106 dX8_beginFares_23 rfl ?_
    refine V_iload_n 26 3 dX8_beginFares_26 rfl ?_
    refine V_cst 27 0 dX8_beginFares_27 rfl ?_
    refine V_zast 28 dX8_beginFares_28 rfl (by omega) (by omega) (by first | exact Or.inl rfl | exact Or.inr rfl | assumption) ?_
    refine V_inc 29 3 _ [(0, _), (1, _), (2, _), (3, _)] dX8_beginFares_29 rfl rfl rfl (by decide) rfl ?_
    refine V_goto 32 16 dX8_beginFares_32 (by decide) ?_
    refine ih (j + 1) _ (by omega) (fun I' h1 h2 => hk I' (fun q hq => ?_) (fun i hi => ?_))
    · refine lp_if (fun e => ?_) (fun e => ?_) (h1 q hq) rfl
      · rw [w_put_other _ (Or.inr e)]
      · rw [e, w_put_same]
    · rw [h2 i hi, w_put_ne _ _ hi]
theorem m_beginFares {I : w_I} {si ks : Nat} (hks : ks = 0 ∨ ks = 1) (hP : s_POK P) (hMP : MP P I) : FnV Ω (d + 1) mX8_beginFares [.ref (Ω.1 + 63), .int (nI si), .int (nI ks)] (SH u v) I L (fun S' I' L' => S' = SH u v ∧ L = L' ∧ KF P si ks I' ∧ (∀ k, k < 64 → I' 94 k = 0) ∧ I' 63 52 = I 63 52 ∧ I' 97 = I 97 ∧ FrK I I') := by
  refine FnR_of1 okX8_beginFares (Nat.le_of_ble_eq_true rfl) fun l z hE => ?_
  show V _ _ _ _ _ _ _ _ 0 [(0, _), (1, _), (2, _)] []
  refine V_aload_n 0 0 dX8_beginFares_0 rfl ?_
  refine V_vv 1 mvX8_325 dX8_beginFares_1 ⟨_, _, _, rfl, rfl, rfl⟩ (w_fit.mono (by omega) hE) (m_tellOrder (d := d) hP hMP) rfl (Nat.le_of_ble_eq_true rfl) ?_
  rintro _ I1 _ ⟨rfl, rfl, k1, k2⟩
  refine V_aload_n 4 0 dX8_beginFares_4 rfl ?_
  refine V_iload_n 5 1 dX8_beginFares_5 rfl ?_
  refine V_putI 6 flX8_295 ft_8_43 dX8_beginFares_6 rfl ?_
  refine V_aload_n 9 0 dX8_beginFares_9 rfl ?_
  refine V_iload_n 10 2 dX8_beginFares_10 rfl ?_
  refine V_putZ 11 flX8_302 ft_8_44 dX8_beginFares_11 rfl (by first | exact Or.inl rfl | exact Or.inr rfl | assumption) ?_
  refine V_cst 14 0 dX8_beginFares_14 rfl ?_
  refine V_istore_n 15 [(0, _), (1, _), (2, _), (3, _)] dX8_beginFares_15 (by decide) rfl ?_
  refine bf_l 64 0 _ (by omega) (fun I' h1 h2 => ?_)
  have f1 : FrK I I1 := ⟨fun i a b => k2 i (by omega), fun j _ => by rw [k2 63 (by decide)]⟩
  have f2 : FrK I (w_put (w_put I1 63 43 si) 63 44 ks) := (f1.put (Or.inr ⟨rfl, by decide⟩)).put (Or.inr ⟨rfl, by decide⟩)
  have f3 : FrK I I' := f2.trans ⟨fun i a b => h2 i (by omega), fun j _ => by rw [h2 63 (by decide)]⟩
  refine V_ret 35 dX8_beginFares_35 rfl ⟨rfl, rfl, ⟨f3.mp hMP, ?_, ?_, fun j hj => ?_⟩, fun k hk => ?_, ?_, ?_, f3⟩
  · rw [h2 63 (by decide), w_put_other _ (Or.inr (by decide)), w_put_same]
  · rw [h2 63 (by decide), w_put_same]
  · rw [h2 87 (by decide), w_put_ne _ 87 (by decide), w_put_ne _ 87 (by decide)]; exact k1 j hj
  · rw [h1 k hk, if_pos (Nat.zero_le _)]
  · rw [h2 63 (by decide), w_put_other _ (Or.inr (by decide)), w_put_other _ (Or.inr (by decide)), k2 63 (by decide)]
  · rw [h2 97 (by decide), w_put_ne _ 97 (by decide), w_put_ne _ 97 (by decide), k2 97 (by decide)]
end
