section
variable {P Y : w_R} {p : Nat}
theorem said_9 (C : w_R) (s q : Nat) : s_said P Y C s 9 q = if q = Y 4 s then C 9 q ||| s_both P (Y 2 s) else C 9 q := by
  unfold s_said
  (try dsimp only)
  by_cases e : q = Y 4 s
  · subst e
    rw [if_pos rfl, w_put_same]
    congr 1
    split <;> simp [w_put_eq]
  · rw [if_neg e, w_put_other _ (Or.inr e)]
    split <;> simp [w_put_eq]
theorem said_8 (C : w_R) (s q : Nat) : s_said P Y C s 8 q = C 8 q := by
  unfold s_said
  (try dsimp only)
  rw [w_put_other _ (Or.inl (by decide))]
  split <;> simp [w_put_eq]
theorem who_both (s : Nat) : (s_both P (Y 2 s)).testBit (s_who P Y s) = true := by
  unfold s_both s_who
  rw [Nat.testBit_or, tb_p, tb_p]
  split <;> simp
theorem say_may {C : w_R} {X : Nat} (s : Nat) (h9 : Sb (C 9 p) (y_m P X (Y 2 s))) (h8 : Sb (C 8 p) (y_m P X (Y 2 s))) : Sb (s_say P Y C s 9 p) (y_m P X (Y 2 s)) ∧ Sb (s_say P Y C s 8 p) (y_m P X (Y 2 s)) := by
  unfold s_say
  split
  · rename_i c
    rw [said_9, said_8]
    refine ⟨?_, h8⟩
    split
    · rename_i e
      refine h9.or ?_
      have hw : (C 8 p ||| C 9 p).testBit (s_who P Y s) = true := by
        have h1 := (bitN_iff _ _).mp c.2.2
        rw [Nat.testBit_and, Bool.and_eq_true, ← e] at h1
        exact h1.1
      have hx : (y_m P X (Y 2 s)).testBit (s_who P Y s) = true := (h8.or h9) _ hw
      have hb := who_both (P := P) (Y := Y) s
      unfold y_m at hx ⊢
      split
      · intro w e2; rw [Nat.testBit_or, e2, Bool.or_true]
      · rename_i c2
        rw [if_neg c2] at hx
        exfalso
        apply c2
        intro e2
        have : (X &&& s_both P (Y 2 s)).testBit (s_who P Y s) = true := by rw [Nat.testBit_and, hx, hb]; rfl
        rw [e2, Nat.zero_testBit] at this
        exact absurd this (by decide)
    · exact h9
  · exact ⟨h9, h8⟩
theorem meet_may {C : w_R} {X m : Nat} (h9 : Sb (C 9 p) X) (h8 : Sb (C 8 p) X) : Sb ((s_sm Y m).foldl (s_say P Y) C 9 p) (y_m P X m) ∧ Sb ((s_sm Y m).foldl (s_say P Y) C 8 p) (y_m P X m) := by
  refine foldl_ind (J := fun (D : w_R) => Sb (D 9 p) (y_m P X m) ∧ Sb (D 8 p) (y_m P X m)) _ _ ⟨h9.trans (y_m_sub X m), h8.trans (y_m_sub X m)⟩ (fun D s hs h => ?_)
  have hm : Y 2 s = m := by
    unfold s_sm at hs
    exact beq_iff_eq.mp (List.mem_filter.mp hs).2
  subst hm
  exact say_may s h.1 h.2
theorem meets_may : ∀ (l : List Nat) (C : w_R) (X : Nat), Sb (C 9 p) X → Sb (C 8 p) X → Sb (l.foldl (fun C m => (s_sm Y m).foldl (s_say P Y) C) C 9 p) (l.foldl (y_m P) X) ∧ Sb (l.foldl (fun C m => (s_sm Y m).foldl (s_say P Y) C) C 8 p) (l.foldl (y_m P) X) := by
  intro l
  induction l with
  | nil => intro C X h9 h8; exact ⟨h9, h8⟩
  | cons m l ih =>
    intro C X h9 h8
    obtain ⟨a, b⟩ := meet_may (Y := Y) (m := m) h9 h8
    exact ih _ _ a b
theorem make1_may {C : w_R} {X h : Nat} (q : Nat) (h9 : Sb (C 9 p) X) (h8 : Sb (C 8 p) X) (hX : P 9 p = C 0 0 → P 10 p = h → Sb (y_0 P p) X) : Sb (s_make1 P h C q 9 p) X ∧ Sb (s_make1 P h C q 8 p) X := by
  unfold s_make1
  split
  · rename_i c
    split
    · rw [s_undo_at _ _ 9 p (by decide) (by decide) (by decide) (by decide), s_undo_at _ _ 8 p (by decide) (by decide) (by decide) (by decide)]
      exact ⟨h9, h8⟩
    · by_cases e : p = q
      · subst e
        rw [w_put_same, w_put_other _ (Or.inl (by decide)), w_put_other _ (Or.inl (by decide))]
        exact ⟨hX c.1 c.2, h8⟩
      · rw [w_put_other _ (Or.inr e), w_put_other _ (Or.inl (by decide)), w_put_other _ (Or.inl (by decide)), w_put_other _ (Or.inl (by decide))]
        exact ⟨h9, h8⟩
  · exact ⟨h9, h8⟩
theorem make_may {C : w_R} {X h : Nat} (h9 : Sb (C 9 p) X) (h8 : Sb (C 8 p) X) (hX : P 9 p = C 0 0 → P 10 p = h → Sb (y_0 P p) X) : ∀ n, Sb (s_make P h C n 9 p) X ∧ Sb (s_make P h C n 8 p) X ∧ s_make P h C n 0 0 = C 0 0 := by
  intro n
  induction n with
  | zero => exact ⟨h9, h8, rfl⟩
  | succ n ih =>
    obtain ⟨a, b, c⟩ := ih
    rw [s_make_succ]
    obtain ⟨a', b'⟩ := make1_may (h := h) n a b (by rw [c]; exact hX)
    exact ⟨a', b', (s_make1_day _ _ _).trans c⟩
theorem hour_may {C : w_R} {dd h : Nat} (hd : C 0 0 = dd) (hh : h < 12) (h9 : Sb (C 9 p) (y_B P p (dd * 12 + h))) (h8 : Sb (C 8 p) (y_B P p (dd * 12 + h))) : Sb (s_hour P Y C h 9 p) (y_B P p (dd * 12 + h + 1)) ∧ Sb (s_hour P Y C h 8 p) (y_B P p (dd * 12 + h + 1)) := by
  rw [y_B_succ, show (dd * 12 + h) % 12 = h by omega]
  unfold s_hour
  have hA : P 9 p = C 0 0 → P 10 p = h → Sb (y_0 P p) (y_A P p (dd * 12 + h)) := by
    intro e1 e2
    rw [y_AB, if_pos (by unfold y_fr; rw [e1, e2, hd])]
    exact Sb.rf
  obtain ⟨a, b, -⟩ := make_may (h := h) (h9.trans (y_BA _)) (h8.trans (y_BA _)) hA (P 6 0)
  refine meets_may _ _ _ ?_ ?_
  · rw [w_put_other _ (Or.inl (by decide))]; exact a
  · rw [w_put_other _ (Or.inl (by decide))]; exact b
theorem t_may {C0 : w_R} (hp : p < P 6 0) (hd : C0 0 0 = 0) (h8 : C0 8 p = 0) (h9 : C0 9 p = 0) : ∀ dd, (∀ h, h ≤ 12 → Sb (t_H P Y C0 dd h 9 p) (y_B P p (dd * 12 + h)) ∧ Sb (t_H P Y C0 dd h 8 p) (y_B P p (dd * 12 + h))) := by
  have hday : ∀ dd h, h ≤ 12 → t_H P Y C0 dd h 0 0 = dd := by
    intro dd h hh
    unfold t_H
    rw [s_hours_day _ _ hh, t_D_day, hd, Nat.zero_add]
  have hin : ∀ dd, Sb (t_D P Y C0 dd 9 p) (y_B P p (dd * 12)) → Sb (t_D P Y C0 dd 8 p) (y_B P p (dd * 12)) → ∀ h, h ≤ 12 → Sb (t_H P Y C0 dd h 9 p) (y_B P p (dd * 12 + h)) ∧ Sb (t_H P Y C0 dd h 8 p) (y_B P p (dd * 12 + h)) := by
    intro dd a b h
    induction h with
    | zero => intro _; exact ⟨a, b⟩
    | succ h ih =>
      intro hh
      obtain ⟨c, e⟩ := ih (by omega)
      rw [t_H_succ]
      exact hour_may (hday dd h (by omega)) (by omega) c e
  intro dd
  induction dd with
  | zero =>
    refine hin 0 ?_ ?_
    · show Sb (C0 9 p) _; rw [h9]; exact Sb.zero
    · show Sb (C0 8 p) _; rw [h8]; exact Sb.zero
  | succ dd ih =>
    obtain ⟨a, b⟩ := ih 12 (Nat.le_refl _)
    have e8 : t_D P Y C0 (dd + 1) 8 p = t_H P Y C0 dd 12 9 p := by
      show s_dusk P (t_H P Y C0 dd 12) 8 p = _
      unfold s_dusk
      (try dsimp only)
      rw [w_put_other _ (Or.inl (by decide)), w_put_other _ (Or.inl (by decide))]
      show d_C P (t_H P Y C0 dd 12) (P 6 0) 8 p = _
      rw [(d_C_more _).2.2.1, if_pos hp]
    have e9 : t_D P Y C0 (dd + 1) 9 p = 0 := by
      show s_dusk P (t_H P Y C0 dd 12) 9 p = _
      unfold s_dusk
      (try dsimp only)
      rw [w_put_other _ (Or.inl (by decide)), w_put_other _ (Or.inl (by decide))]
      show d_C P (t_H P Y C0 dd 12) (P 6 0) 9 p = _
      rw [(d_C_more _).2.2.2.1, if_pos hp]
    refine hin (dd + 1) ?_ ?_
    · rw [e9]; exact Sb.zero
    · rw [e8, show (dd + 1) * 12 = dd * 12 + 12 by omega]; exact a
theorem heard_may {C0 : w_R} {m w : Nat} (hp : p < P 6 0) (hd : C0 0 0 = 0) (h8 : C0 8 p = 0) (h9 : C0 9 p = 0) {s : Nat} (hs : s ≤ m) (h : (t_h P Y C0 s p).testBit w = true) : (y_B P p (m + 1)).testBit w = true := by
  have h1 := (t_may (Y := Y) hp hd h8 h9 (s / 12) (s % 12 + 1) (by omega)).1 w h
  rw [show s / 12 * 12 + (s % 12 + 1) = s + 1 by omega] at h1
  exact y_B_le (by omega) w h1
end
