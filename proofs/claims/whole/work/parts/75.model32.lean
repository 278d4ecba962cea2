theorem nodup_len {Q : List Nat} {n : Nat} (hn : Q.Nodup) (hQ : ∀ c, c ∈ Q → c < n) : Q.length ≤ n := by
  have h1 := len_filters id (List.range n) Q hn
  rw [List.length_range] at h1
  refine Nat.le_trans ?_ h1
  clear h1 hn
  induction Q with
  | nil => exact Nat.zero_le _
  | cons q Q ih =>
    rw [List.flatMap_cons, List.length_append, List.length_cons]
    have h2 : 0 < ((List.range n).filter (fun s => id s == q)).length := List.length_pos_of_mem (List.mem_filter.mpr ⟨List.mem_range.mpr (hQ q (List.mem_cons_self ..)), by simp⟩)
    have := ih (fun c hc => hQ c (List.mem_cons_of_mem _ hc))
    omega
/-- the cells offered so far on a side, and their values -/
def FQ (sd : Nat) (Q : List Nat) (V : Nat → Nat) (I : w_I) : Prop := I 63 51 = Q.length ∧ Q.Nodup ∧ (∀ k, k < Q.length → I 95 (8192 * sd + k) = Q.getD k 0) ∧ (∀ c, c < 8192 → (I 97 (8192 * sd + c) = I 63 52 ↔ c ∈ Q)) ∧ (∀ c, c ∈ Q → c < 8192 ∧ I 96 (8192 * sd + c) = V c ∧ V c < 1000000) ∧ MS I
/-- of a side only, and how many were offered there -/
def FrO (sd : Nat) (I I' : w_I) : Prop := (∀ i, i ≠ 63 → i ≠ 95 → i ≠ 96 → i ≠ 97 → I' i = I i) ∧ (∀ j, j ≠ 51 → I' 63 j = I 63 j) ∧ ∀ k, k < 8192 * sd ∨ 8192 * sd + 8192 ≤ k → I' 95 k = I 95 k ∧ I' 96 k = I 96 k
theorem FrO.rf {sd : Nat} {I : w_I} : FrO sd I I := ⟨fun _ _ _ _ _ => rfl, fun _ _ => rfl, fun _ _ => ⟨rfl, rfl⟩⟩
theorem FrO.trans {sd : Nat} {I I' I'' : w_I} (h : FrO sd I I') (h' : FrO sd I' I'') : FrO sd I I'' := ⟨fun i a b c e => (h'.1 i a b c e).trans (h.1 i a b c e), fun j hj => (h'.2.1 j hj).trans (h.2.1 j hj), fun k hk => ⟨(h'.2.2 k hk).1.trans (h.2.2 k hk).1, (h'.2.2 k hk).2.trans (h.2.2 k hk).2⟩⟩
theorem FrO.k {sd : Nat} {I I' : w_I} (h : FrO sd I I') : FrK I I' := ⟨fun i a b => h.1 i a (by omega) (by omega) (by omega), fun j hj => h.2.1 j (by omega)⟩
/-- more was offered -/
def Ext (Q : List Nat) (V : Nat → Nat) (Q' : List Nat) (V' : Nat → Nat) (new : Nat → Nat → Prop) : Prop := (∀ c, c ∈ Q' → (c ∈ Q ∧ V' c = V c) ∨ new c (V' c)) ∧ (∀ c, c ∈ Q → c ∈ Q' ∧ V' c ≤ V c) ∧ ∀ c x, new c x → c ∈ Q' ∧ V' c ≤ x
theorem Ext.rf {Q : List Nat} {V : Nat → Nat} : Ext Q V Q V (fun _ _ => False) := ⟨fun c h => Or.inl ⟨h, rfl⟩, fun c h => ⟨h, Nat.le_refl _⟩, fun c x h => absurd h id⟩
theorem Ext.comp {Q Q' Q'' : List Nat} {V V' V'' : Nat → Nat} {n1 n2 : Nat → Nat → Prop} (h : Ext Q V Q' V' n1) (h' : Ext Q' V' Q'' V'' n2) : Ext Q V Q'' V'' (fun c x => n1 c x ∨ n2 c x) := by
  refine ⟨fun c hc => ?_, fun c hc => ?_, fun c x hn => ?_⟩
  · rcases h'.1 c hc with ⟨a, b⟩ | a
    · rcases h.1 c a with ⟨e, f⟩ | e
      · exact Or.inl ⟨e, b.trans f⟩
      · exact Or.inr (Or.inl (by rw [b]; exact e))
    · exact Or.inr (Or.inr a)
  · obtain ⟨a, b⟩ := h.2.1 c hc
    obtain ⟨e, f⟩ := h'.2.1 c a
    exact ⟨e, Nat.le_trans f b⟩
  · rcases hn with hn | hn
    · obtain ⟨a, b⟩ := h.2.2 c x hn
      obtain ⟨e, f⟩ := h'.2.1 c a
      exact ⟨e, Nat.le_trans f b⟩
    · exact h'.2.2 c x hn
theorem Ext.of {Q Q' : List Nat} {V V' : Nat → Nat} {n1 n2 : Nat → Nat → Prop} (h : Ext Q V Q' V' n1) (he : ∀ c x, n1 c x ↔ n2 c x) : Ext Q V Q' V' n2 := ⟨fun c hc => (h.1 c hc).imp id (fun q => (he c _).mp q), h.2.1, fun c x hn => h.2.2 c x ((he c x).mpr hn)⟩
section
variable {Ω : w_O} {d u v : Nat} {L : w_L} {E : w_E} {P : w_R}
theorem m_offer {I : w_I} {sd h s a x : Nat} {Q : List Nat} {vl : Nat → Nat} (hsd : sd < 2) (hh : h < 64) (hs : s < 64) (ha : a < 2) (hx : x < 1000000) (hS : I 63 52 < 2000000000) (hF : FQ sd Q vl I) : FnV Ω (d + 1) mX8_offer [.ref (Ω.1 + 63), .int (nI sd), .int (nI h), .int (nI s), .int (nI a), .int (nI x)] (SH u v) I L (fun S' I' L' => S' = SH u v ∧ L = L' ∧ FrO sd I I' ∧ ∃ Q' vl', FQ sd Q' vl' I' ∧ Ext Q vl Q' vl' (fun c y => c = (h * 64 + s) * 2 + a ∧ y = x)) := by
  obtain ⟨f1, f2, f3, f4, f5, f6⟩ := hF
  have hc : (h * 64 + s) * 2 + a < 8192 := by omega
  have h4 := f4 _ hc
  have h6 := f6 (8192 * sd + ((h * 64 + s) * 2 + a)) (by omega)
  have hlen := nodup_len f2 (fun c hc => (f5 c hc).1)
  refine FnR_of1 okX8_offer (Nat.le_of_ble_eq_true rfl) fun l z hE => ?_
  show V _ _ _ _ _ _ _ _ 0 [(0, _), (1, _), (2, _), (3, _), (4, _), (5, _)] []
  refine V_iload_n 0 2 dX8_offer_0 rfl ?_
  refine V_bip 1 64 dX8_offer_1 rfl ?_
  refine V_mul 3 dX8_offer_3 ?_
  refine V_iload_n 4 3 dX8_offer_4 rfl ?_
  refine V_add 5 dX8_offer_5 ?_
  refine V_cst 6 2 dX8_offer_6 rfl ?_
  refine V_mul 7 dX8_offer_7 ?_
  refine V_iload 8 4 dX8_offer_8 rfl ?_
  refine V_add 10 dX8_offer_10 ?_
  refine V_istore 11 [(0, _), (1, _), (2, _), (3, _), (4, _), (5, _), (6, _)] dX8_offer_11 (by decide) rfl ?_
  refine V_sip 13 8192 dX8_offer_13 rfl ?_
  refine V_iload_n 16 1 dX8_offer_16 rfl ?_
  refine V_mul 17 dX8_offer_17 ?_
  refine V_iload 18 6 dX8_offer_18 rfl ?_
  refine V_add 20 dX8_offer_20 ?_
  refine V_istore 21 [(0, _), (1, _), (2, _), (3, _), (4, _), (5, _), (6, _), (7, _)] dX8_offer_21 (by decide) rfl ?_
  refine V_aload_n 23 0 dX8_offer_23 rfl ?_
  refine V_getR 24 flX8_115 dX8_offer_24 rfl ?_
  refine V_iload 27 7 dX8_offer_27 rfl ?_
  refine V_iald 29 dX8_offer_29 rfl (by omega) (by omega) ?_
  refine V_aload_n 30 0 dX8_offer_30 rfl ?_
  refine V_getI 31 flX8_309 dX8_offer_31 rfl ?_
  generalize hcc : (h * 64 + s) * 2 + a = c0 at hc h4 h6 ⊢
  refine V_cN_ne 34 57 dX8_offer_34 (by decide) (by omega) (by omega) (fun c1 => ?_) (fun c1 => ?_)
  · have hno : ¬ c0 ∈ Q := fun w => c1 (h4.mpr w)
    have hl2 : Q.length < 8192 := by
      have hn : (c0 :: Q).Nodup := List.nodup_cons.mpr ⟨hno, f2⟩
      have := nodup_len hn (n := 8192) (fun c w => by
        rcases List.mem_cons.mp w with e | e
        · rw [e]; exact hc
        · exact (f5 c e).1)
      rw [List.length_cons] at this
      omega
    refine V_aload_n 57 0 dX8_offer_57 rfl ?_
    refine V_getR 58 flX8_115 dX8_offer_58 rfl ?_
    refine V_iload 61 7 dX8_offer_61 rfl ?_
    refine V_aload_n 63 0 dX8_offer_63 rfl ?_
    refine V_getI 64 flX8_309 dX8_offer_64 rfl ?_
    refine V_iast 67 dX8_offer_67 rfl (by omega) (by omega) ?_
    refine V_aload_n 68 0 dX8_offer_68 rfl ?_
    refine V_getR 69 flX8_112 dX8_offer_69 rfl ?_
    refine V_iload 72 7 dX8_offer_72 rfl ?_
    refine V_iload 74 5 dX8_offer_74 rfl ?_
    refine V_iast 76 dX8_offer_76 rfl (by omega) (by omega) ?_
    refine V_aload_n 77 0 dX8_offer_77 rfl ?_
    refine V_getR 78 flX8_109 dX8_offer_78 rfl ?_
    refine V_sip 81 8192 dX8_offer_81 rfl ?_
    refine V_iload_n 84 1 dX8_offer_84 rfl ?_
    refine V_mul 85 dX8_offer_85 ?_
    refine V_aload_n 86 0 dX8_offer_86 rfl ?_
    refine V_getI 87 flX8_312 dX8_offer_87 rfl ?_
    rw [w_put_ne _ 63 (by decide), w_put_ne _ 63 (by decide), f1]
    refine V_add 90 dX8_offer_90 ?_
    refine V_iload 91 6 dX8_offer_91 rfl ?_
    refine V_iast 93 dX8_offer_93 rfl (by omega) (by omega) ?_
    refine V_aload_n 94 0 dX8_offer_94 rfl ?_
    refine V_dup 95 dX8_offer_95 rfl ?_
    refine V_getI 96 flX8_312 dX8_offer_96 rfl ?_
    rw [w_put_ne _ 63 (by decide), w_put_ne _ 63 (by decide), w_put_ne _ 63 (by decide), f1]
    refine V_cst 99 1 dX8_offer_99 rfl ?_
    refine V_add 100 dX8_offer_100 ?_
    refine V_putI 101 flX8_312 ft_8_51 dX8_offer_101 rfl ?_
    have j51 : w_put (w_put (w_put (w_put I 97 (8192 * sd + c0) (I 63 52)) 96 (8192 * sd + c0) x) 95 (8192 * sd + Q.length) c0) 63 51 (Q.length + 1) 63 51 = Q.length + 1 := w_put_same _ _ _ _
    have j66 : ∀ j, j ≠ 51 → w_put (w_put (w_put (w_put I 97 (8192 * sd + c0) (I 63 52)) 96 (8192 * sd + c0) x) 95 (8192 * sd + Q.length) c0) 63 51 (Q.length + 1) 63 j = I 63 j := fun j hj => by simp [w_put_eq, hj]
    have j98 : ∀ k, w_put (w_put (w_put (w_put I 97 (8192 * sd + c0) (I 63 52)) 96 (8192 * sd + c0) x) 95 (8192 * sd + Q.length) c0) 63 51 (Q.length + 1) 95 k = if k = 8192 * sd + Q.length then c0 else I 95 k := fun k => by simp [w_put_eq]
    have j99 : ∀ k, w_put (w_put (w_put (w_put I 97 (8192 * sd + c0) (I 63 52)) 96 (8192 * sd + c0) x) 95 (8192 * sd + Q.length) c0) 63 51 (Q.length + 1) 96 k = if k = 8192 * sd + c0 then x else I 96 k := fun k => by simp [w_put_eq]
    have j100 : ∀ k, w_put (w_put (w_put (w_put I 97 (8192 * sd + c0) (I 63 52)) 96 (8192 * sd + c0) x) 95 (8192 * sd + Q.length) c0) 63 51 (Q.length + 1) 97 k = if k = 8192 * sd + c0 then I 63 52 else I 97 k := fun k => by simp [w_put_eq]
    have jo : ∀ i, i ≠ 63 → i ≠ 95 → i ≠ 96 → i ≠ 97 → w_put (w_put (w_put (w_put I 97 (8192 * sd + c0) (I 63 52)) 96 (8192 * sd + c0) x) 95 (8192 * sd + Q.length) c0) 63 51 (Q.length + 1) i = I i := fun i w1 w2 w3 w4 => by rw [w_put_ne _ _ w1, w_put_ne _ _ w2, w_put_ne _ _ w3, w_put_ne _ _ w4]
    generalize w_put (w_put (w_put (w_put I 97 (8192 * sd + c0) (I 63 52)) 96 (8192 * sd + c0) x) 95 (8192 * sd + Q.length) c0) 63 51 (Q.length + 1) = J at j51 j66 j98 j99 j100 jo ⊢
    refine V_ret 104 dX8_offer_104 rfl ⟨rfl, rfl, ⟨jo, j66, fun k hk => ?_⟩, Q ++ [c0], (fun c => if c = c0 then x else vl c), ⟨?_, ?_, fun k hk => ?_, fun c hc2 => ?_, fun c hc2 => ?_, fun k hk => ?_⟩, ⟨fun c hc2 => ?_, fun c hc2 => ?_, fun c y hy => ?_⟩⟩
    · rw [j98, j99, if_neg (by omega), if_neg (by omega)]
      exact ⟨rfl, rfl⟩
    · rw [j51, List.length_append]; rfl
    · refine List.nodup_append.mpr ⟨f2, by simp, fun y hy w hw e => ?_⟩
      rw [List.mem_singleton] at hw
      subst hw
      subst e
      exact hno hy
    · rw [List.length_append, List.length_singleton] at hk
      by_cases e : k = Q.length
      · subst e
        rw [j98, if_pos rfl, List.getD_eq_getElem?_getD, List.getElem?_append_right (Nat.le_refl _), Nat.sub_self]
        rfl
      · rw [j98, if_neg (by omega), f3 k (by omega), List.getD_eq_getElem?_getD, List.getD_eq_getElem?_getD, List.getElem?_append_left (by omega)]
    · rw [j100, j66 52 (by decide), List.mem_append, List.mem_singleton]
      by_cases e : c = c0
      · rw [if_pos (by omega)]
        exact ⟨fun _ => Or.inr e, fun _ => rfl⟩
      · rw [if_neg (by omega)]
        exact ⟨fun w => Or.inl ((f4 c hc2).mp w), fun w => by
          rcases w with w | w
          · exact (f4 c hc2).mpr w
          · exact absurd w e⟩
    · show _ ∧ _ = (if c = c0 then x else vl c) ∧ (if c = c0 then x else vl c) < 1000000
      rw [j99]
      by_cases e : c = c0
      · rw [if_pos (by omega), if_pos e]
        exact ⟨by omega, rfl, hx⟩
      · rw [List.mem_append, List.mem_singleton] at hc2
        rcases hc2 with w | w
        · obtain ⟨g1, g2, g3⟩ := f5 c w
          rw [if_neg (by omega), if_neg e]
          exact ⟨g1, g2, g3⟩
        · exact absurd w e
    · rw [j100, j66 52 (by decide)]
      split
      · exact Nat.le_refl _
      · exact f6 k hk
    · rw [List.mem_append, List.mem_singleton] at hc2
      rcases hc2 with w | w
      · left
        refine ⟨w, ?_⟩
        show (if c = c0 then x else vl c) = vl c
        rw [if_neg (fun (e : c = c0) => hno (e ▸ w))]
      · right
        refine ⟨w, ?_⟩
        show (if c = c0 then x else vl c) = x
        rw [if_pos w]
    · refine ⟨List.mem_append.mpr (Or.inl hc2), ?_⟩
      show (if c = c0 then x else vl c) ≤ vl c
      rw [if_neg (fun (e : c = c0) => hno (e ▸ hc2))]
      exact Nat.le_refl _
    · obtain ⟨e1, rfl⟩ := hy
      have e1 : c = c0 := e1
      refine ⟨List.mem_append.mpr (Or.inr (List.mem_singleton.mpr e1)), ?_⟩
      show (if c = c0 then y else vl c) ≤ y
      rw [if_pos e1]
      exact Nat.le_refl _
  · have hin : c0 ∈ Q := h4.mp c1
    obtain ⟨g1, g2, g3⟩ := f5 c0 hin
    refine V_aload_n 37 0 dX8_offer_37 rfl ?_
    refine V_getR 38 flX8_112 dX8_offer_38 rfl ?_
    refine V_iload 41 7 dX8_offer_41 rfl ?_
    refine V_aload_n 43 0 dX8_offer_43 rfl ?_
    refine V_getR 44 flX8_112 dX8_offer_44 rfl ?_
    refine V_iload 47 7 dX8_offer_47 rfl ?_
    refine V_iald 49 dX8_offer_49 rfl (by omega) (by omega) ?_
    rw [g2]
    refine V_iload 50 5 dX8_offer_50 rfl ?_
    refine V_mini 52 (by omega) (by omega) mnX8_164 dX8_offer_52 (w_fit.mono (by omega) hE) (Nat.le_of_ble_eq_true rfl) ?_
    refine V_iast 55 dX8_offer_55 rfl (by omega) (by omega) ?_
    refine V_ret 56 dX8_offer_56 rfl ⟨rfl, rfl, ⟨fun i w1 w2 w3 w4 => ?_, fun j hj => ?_, fun k hk => ?_⟩, Q, (fun c => if c = c0 then min (vl c0) x else vl c), ⟨?_, f2, fun k hk => ?_, fun c hc2 => ?_, fun c hc2 => ?_, fun k hk => ?_⟩, ⟨fun c hc2 => ?_, fun c hc2 => ?_, fun c y hy => ?_⟩⟩
    · rw [w_put_ne _ _ w3]
    · rw [w_put_ne _ 63 (by decide)]
    · rw [w_put_ne _ 95 (by decide), w_put_other _ (Or.inr (by omega))]
      exact ⟨rfl, rfl⟩
    · rw [w_put_ne _ 63 (by decide)]; exact f1
    · rw [w_put_ne _ 95 (by decide)]; exact f3 k hk
    · rw [w_put_ne _ 63 (by decide), w_put_ne _ 97 (by decide)]; exact f4 c hc2
    · obtain ⟨k1, k2, k3⟩ := f5 c hc2
      show _ ∧ _ = (if c = c0 then min (vl c0) x else vl c) ∧ (if c = c0 then min (vl c0) x else vl c) < 1000000
      by_cases e : c = c0
      · subst e
        rw [w_put_same, if_pos rfl]
        exact ⟨k1, rfl, by omega⟩
      · rw [w_put_other _ (Or.inr (by omega)), if_neg e]
        exact ⟨k1, k2, k3⟩
    · rw [w_put_ne _ 63 (by decide), w_put_ne _ 97 (by decide)]; exact f6 k hk
    · by_cases e : c = c0
      · subst e
        show (_ ∧ (if c = c then min (vl c) x else vl c) = vl c) ∨ (_ ∧ (if c = c then min (vl c) x else vl c) = x)
        rw [if_pos rfl]
        rcases Nat.le_total (vl c) x with q | q
        · exact Or.inl ⟨hin, Nat.min_eq_left q⟩
        · exact Or.inr ⟨rfl, Nat.min_eq_right q⟩
      · left
        refine ⟨hc2, ?_⟩
        show (if c = c0 then min (vl c0) x else vl c) = vl c
        rw [if_neg e]
    · refine ⟨hc2, ?_⟩
      show (if c = c0 then min (vl c0) x else vl c) ≤ vl c
      by_cases e : c = c0
      · rw [if_pos e, e]; exact Nat.min_le_left _ _
      · rw [if_neg e]; exact Nat.le_refl _
    · obtain ⟨e1, rfl⟩ := hy
      have e1 : c = c0 := e1
      refine ⟨by rw [e1]; exact hin, ?_⟩
      show (if c = c0 then min (vl c0) y else vl c) ≤ y
      rw [if_pos e1]
      exact Nat.min_le_right _ _
end
