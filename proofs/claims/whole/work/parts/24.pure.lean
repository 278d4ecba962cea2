/-! WHAT STAYS TRUE, day by day -/
section
variable {P Y : w_R}
theorem foldl_ind {α β : Type} {f : β → α → β} {J : β → Prop} : ∀ (l : List α) (b : β), J b → (∀ b a, a ∈ l → J b → J (f b a)) → J (l.foldl f b) := by
  intro l
  induction l with
  | nil => intro b h _; exact h
  | cons x l ih => intro b h hs; exact ih _ (hs b x List.mem_cons_self h) (fun b a ha => hs b a (List.mem_cons_of_mem _ ha))
theorem hour_ind {J : w_R → Prop} {C : w_R} {h : Nat} (h0 : J C) (hm : ∀ C p, p < P 6 0 → J C → J (s_make1 P h C p)) (h6 : ∀ C, J C → J (w_put C 6 0 0)) (hs : ∀ C s, s < Y 0 0 → P 5 (Y 2 s) = h → J C → J (s_say P Y C s)) : J (s_hour P Y C h) := by
  unfold s_hour
  refine foldl_ind _ _ ?_ (fun C m hm' hC => ?_)
  · exact h6 _ (foldl_ind _ _ h0 (fun C p hp hC => hm C p (List.mem_range.mp hp) hC))
  · refine foldl_ind _ _ hC (fun C s hs' hC => ?_)
    simp only [s_sm, List.mem_filter, List.mem_range, beq_iff_eq] at hs'
    obtain ⟨a, b⟩ := hs'
    have := (s_mh_mem.mp hm').2
    exact hs C s a (by rw [b]; exact this) hC
theorem day_ind {J : w_R → Prop} {C : w_R} (h0 : J C) (hm : ∀ C h p, p < P 6 0 → h < 12 → J C → J (s_make1 P h C p)) (h6 : ∀ C, J C → J (w_put C 6 0 0)) (hs : ∀ C s, s < Y 0 0 → J C → J (s_say P Y C s)) (n : Nat) (hn : n ≤ 12) : J ((List.range n).foldl (s_hour P Y) C) :=
  foldl_ind _ _ h0 (fun C h hh hC => by
    have := List.mem_range.mp hh
    exact hour_ind hC (fun C p hp hC => hm C h p hp (by omega) hC) h6 (fun C s a _ hC => hs C s a hC))
/-! numbers -/
theorem s_undo_at (C : w_R) (p k j : Nat) (h3 : k ≠ 3) (h4 : k ≠ 4) (h7 : k ≠ 7) (h2 : k ≠ 2) : s_undo C p k j = C k j := by
  unfold s_undo
  simp [w_put_eq, h3, h4, h7, h2]
theorem s_undo_3 (C : w_R) (p : Nat) : s_undo C p 3 0 = C 3 0 &&& (2 ^ p ^^^ mI) := by unfold s_undo; simp [w_put_eq]
theorem s_undo_4 (C : w_R) (p : Nat) : s_undo C p 4 0 = C 4 0 ||| 2 ^ p := by unfold s_undo; simp [w_put_eq]
theorem s_make1_day (C : w_R) (h p : Nat) : s_make1 P h C p 0 0 = C 0 0 := by
  unfold s_make1
  split
  · split
    · exact s_undo_at C p 0 0 (by decide) (by decide) (by decide) (by decide)
    · simp [w_put_eq]
  · rfl
theorem s_say_at (C : w_R) (s k j : Nat) (h1 : k ≠ 1) (h5 : k ≠ 5) (h6 : k ≠ 6) (h9 : k ≠ 9) : s_say P Y C s k j = C k j := by
  unfold s_say
  split
  · unfold s_said
    try dsimp only
    split <;> simp [w_put_eq, h1, h5, h6, h9]
  · rfl
theorem s_dusk1_day (C : w_R) (p : Nat) : s_dusk1 P C p 0 0 = C 0 0 := by
  unfold s_dusk1
  try dsimp only
  rw [w_put_other _ (Or.inl (by decide)), w_put_other _ (Or.inl (by decide))]
  split
  · exact s_undo_at C p 0 0 (by decide) (by decide) (by decide) (by decide)
  · rfl
theorem s_hours_day (C : w_R) (n : Nat) (hn : n ≤ 12) : (List.range n).foldl (s_hour P Y) C 0 0 = C 0 0 :=
  day_ind (J := fun D => D 0 0 = C 0 0) rfl (fun D h p _ _ e => (s_make1_day D h p).trans e) (fun D e => (w_put_other D (Or.inl (by decide))).trans e) (fun D s _ e => (s_say_at D s 0 0 (by decide) (by decide) (by decide) (by decide)).trans e) n hn
theorem s_day_day (C : w_R) : s_day P Y C 0 0 = C 0 0 + 1 := by
  unfold s_day s_dusk
  try dsimp only
  rw [w_put_same, w_put_other _ (Or.inl (by decide))]
  congr 1
  refine foldl_ind (J := fun D => D 0 0 = C 0 0) _ _ (s_hours_day C 12 (Nat.le_refl _)) (fun D p _ e => (s_dusk1_day D p).trans e)
theorem s_hours_ok {C : w_R} (hP : s_POK P) (hY : s_YOK P Y) (hC : COK C) (n : Nat) (hn : n ≤ 12) : COK ((List.range n).foldl (s_hour P Y) C) := by
  have h6 := hP.1.2
  have h12 := hP.2.2.2.2.1
  refine day_ind hC (fun D h p hp _ hD => ?_) (fun D hD => ?_) (fun D s hs hD => ?_) n hn
  · obtain ⟨q1, q2, -⟩ := hP.2.2.2.2.2 p hp
    exact s_make1_ok hD (by omega) (by omega) (by omega)
  · exact COK.put hD 6 0 0 (by omega) (by omega) (by omega) (by omega) (by omega) (by omega) (by omega)
  · obtain ⟨-, y2, -, y4⟩ := hY.2 s hs
    exact s_say_ok hD hP y2 y4
theorem s_day_ok {C : w_R} (hP : s_POK P) (hY : s_YOK P Y) (hC : COK C) (hd : C 0 0 + 1 < 1000000) : COK (s_day P Y C) := by
  have h12 := hP.2.2.2.2.1
  have hd2 : s_day P Y C 0 0 = C 0 0 + 1 := s_day_day C
  unfold s_day s_dusk at hd2 ⊢
  (try dsimp only at hd2 ⊢)
  rw [w_put_same] at hd2
  have h1 : COK ((List.range (P 6 0)).foldl (s_dusk1 P) ((List.range 12).foldl (s_hour P Y) C)) := foldl_ind _ _ (s_hours_ok hP hY hC 12 (Nat.le_refl _)) (fun D p hp hD => s_dusk1_ok_34 hD (by have := List.mem_range.mp hp; omega))
  have h2 := COK.put h1 5 0 0 (by omega) (by omega) (by omega) (by omega) (by omega) (by omega) (by omega)
  exact COK.put h2 0 0 _ (fun _ _ => by omega) (by omega) (by omega) (by omega) (by omega) (by omega) (by omega)
/-! what is made, stands, is undone, is heard -/
/-- D: what has been made -/
def HI (P : w_R) (D : Nat → Prop) (C : w_R) : Prop := ∀ p, ((C 4 0).testBit p = true → D p ∧ (C 3 0).testBit p = false) ∧ ((C 3 0).testBit p = true → D p) ∧ (C 9 p ≠ 0 → (C 3 0).testBit p = true) ∧ ((C 5 0).testBit p = true → (C 3 0).testBit p = true) ∧ ((C 3 0).testBit p = true → ∀ q, (P 11 p).testBit q = true → (C 3 0).testBit q = true ∨ (C 4 0).testBit q = true)
theorem tb_p (p q : Nat) : (2 ^ p).testBit q = decide (p = q) := Nat.testBit_two_pow
theorem HI.mono {D D' : Nat → Prop} {C : w_R} (h : HI P D C) (hD : ∀ p, D p → D' p) : HI P D' C := fun p => ⟨fun e => ⟨hD p ((h p).1 e).1, ((h p).1 e).2⟩, fun e => hD p ((h p).2.1 e), (h p).2.2⟩
theorem HI.say {D : Nat → Prop} {C : w_R} (s : Nat) (hs : Y 4 s < 32) (h : HI P D C) : HI P D (s_say P Y C s) := by
  unfold s_say
  split
  · rename_i hc
    have hst : (C 3 0).testBit (Y 4 s) = true := (bitN_iff _ _).mp hc.2.1
    intro p
    have e3 : s_said P Y C s 3 0 = C 3 0 := by unfold s_said; (try dsimp only); split <;> simp [w_put_eq]
    have e4 : s_said P Y C s 4 0 = C 4 0 := by unfold s_said; (try dsimp only); split <;> simp [w_put_eq]
    have e5 : (s_said P Y C s 5 0).testBit p = true → (C 5 0).testBit p = true ∨ p = Y 4 s := by
      unfold s_said
      try dsimp only
      split
      · simp [w_put_eq, Nat.testBit_or, tb_p]
        intro h; rcases h with h | h
        · exact Or.inl h
        · exact Or.inr h.symm
      · simp [w_put_eq]
        intro h; exact Or.inl h
    have e9 : s_said P Y C s 9 p ≠ 0 → C 9 p ≠ 0 ∨ p = Y 4 s := by
      intro h1
      by_cases e : p = Y 4 s
      · exact Or.inr e
      · left
        intro h2
        apply h1
        unfold s_said
        try dsimp only
        split <;> simp [w_put_eq, e, h2]
    rw [e3, e4]
    refine ⟨(h p).1, (h p).2.1, fun e => ?_, fun e => ?_, (h p).2.2.2.2⟩
    · rcases e9 e with e | e
      · exact (h p).2.2.1 e
      · rw [e]; exact hst
    · rcases e5 e with e | e
      · exact (h p).2.2.2.1 e
      · rw [e]; exact hst
  · exact h
theorem HI.spoke {D : Nat → Prop} {C : w_R} (h : HI P D C) (x : Nat) : HI P D (w_put C 6 0 x) := by
  intro p
  simp only [w_put_eq, Nat.reduceEqDiff, false_and, if_false, show ¬ (9 = 6 ∧ p = 0) by omega]
  exact h p
theorem HI.make {D : Nat → Prop} {C : w_R} {x p : Nat} (h : HI P D C) (hC : COK C) (hp : p < 12) (hl : P 11 p < 4096) (hD : ¬ D p) : HI P (fun q => D q ∨ (q = p ∧ P 9 p = C 0 0 ∧ P 10 p = x)) (s_make1 P x C p) := by
  have n3 : (C 3 0).testBit p = false := by
    cases e : (C 3 0).testBit p
    · rfl
    · exact absurd ((h p).2.1 e) hD
  have n5 : (C 5 0).testBit p = false := by
    cases e : (C 5 0).testBit p
    · rfl
    · exact absurd ((h p).2.2.2.1 e) (by simp [n3])
  have n9 : C 9 p = 0 := by
    by_cases e : C 9 p = 0
    · exact e
    · exact absurd ((h p).2.2.1 e) (by simp [n3])
  unfold s_make1
  by_cases c : P 9 p = C 0 0 ∧ P 10 p = x
  · rw [if_pos c]
    by_cases c2 : P 11 p &&& (C 3 0 ^^^ mI) ≠ 0
    · rw [if_pos c2]
      have b3 : ∀ q, (s_undo C p 3 0).testBit q = (C 3 0).testBit q := by
        intro q
        rw [s_undo_3, Nat.testBit_and]
        by_cases e : q < 32
        · rw [tb_mI e, tb_p]
          by_cases e2 : p = q
          · subst e2; simp [n3]
          · simp [e2]
        · have : (C 3 0).testBit q = false := Nat.testBit_lt_two_pow (Nat.lt_of_lt_of_le hC.2.1 (Nat.pow_le_pow_right (n := 2) (i := 12) (by decide) (by omega)))
          rw [this]; rfl
      have b4 : ∀ q, (s_undo C p 4 0).testBit q = ((C 4 0).testBit q || decide (p = q)) := by
        intro q; rw [s_undo_4, Nat.testBit_or, tb_p]
      intro q
      rw [b3, b4, s_undo_at C p 9 q (by decide) (by decide) (by decide) (by decide), s_undo_at C p 5 0 (by decide) (by decide) (by decide) (by decide)]
      refine ⟨fun e => ?_, fun e => Or.inl ((h q).2.1 e), (h q).2.2.1, (h q).2.2.2.1, fun e r hr => ?_⟩
      · by_cases e2 : p = q
        · subst e2; exact ⟨Or.inr ⟨rfl, c⟩, n3⟩
        · simp [e2] at e
          exact ⟨Or.inl ((h q).1 e).1, ((h q).1 e).2⟩
      · rw [b3, b4]
        rcases (h q).2.2.2.2 e r hr with e1 | e1
        · exact Or.inl e1
        · exact Or.inr (by simp [e1])
    · rw [if_neg c2]
      have hle : ∀ r, (P 11 p).testBit r = true → (C 3 0).testBit r = true := by
        intro r hr
        have : r < 32 := by
          by_cases e : r < 32
          · exact e
          · have : (P 11 p).testBit r = false := Nat.testBit_lt_two_pow (Nat.lt_of_lt_of_le hl (Nat.pow_le_pow_right (n := 2) (i := 12) (by decide) (by omega)))
            rw [this] at hr
            exact absurd hr (by decide)
        have h1 : (P 11 p &&& (C 3 0 ^^^ mI)).testBit r = false := by
          rw [show P 11 p &&& (C 3 0 ^^^ mI) = 0 by omega, Nat.zero_testBit]
        rw [Nat.testBit_and, tb_mI this, hr] at h1
        simpa using h1
      intro q
      have b3 : (w_put (w_put C 3 0 (C 3 0 ||| 2 ^ p)) 9 p (2 ^ P 7 p ||| 2 ^ P 8 p) 3 0) = C 3 0 ||| 2 ^ p := by simp [w_put_eq]
      have b4 : (w_put (w_put C 3 0 (C 3 0 ||| 2 ^ p)) 9 p (2 ^ P 7 p ||| 2 ^ P 8 p) 4 0) = C 4 0 := by simp [w_put_eq]
      have b5 : (w_put (w_put C 3 0 (C 3 0 ||| 2 ^ p)) 9 p (2 ^ P 7 p ||| 2 ^ P 8 p) 5 0) = C 5 0 := by simp [w_put_eq]
      rw [b3, b4, b5]
      simp only [Nat.testBit_or, tb_p]
      refine ⟨fun e => ?_, fun e => ?_, fun e => ?_, fun e => ?_, fun e r hr => ?_⟩
      · have := (h q).1 e
        refine ⟨Or.inl this.1, ?_⟩
        by_cases e2 : p = q
        · subst e2; exact absurd this.1 hD
        · simp [e2, this.2]
      · by_cases e2 : p = q
        · subst e2; exact Or.inr ⟨rfl, c⟩
        · simp [e2] at e
          exact Or.inl ((h q).2.1 e)
      · by_cases e2 : p = q
        · simp [e2]
        · rw [w_put_other _ (Or.inr (fun e3 => e2 e3.symm)), w_put_other _ (Or.inl (by decide))] at e
          simp [(h q).2.2.1 e]
      · simp [(h q).2.2.2.1 e]
      · by_cases e2 : p = q
        · subst e2; left; simp [hle r hr]
        · simp [e2] at e
          rcases (h q).2.2.2.2 e r hr with e1 | e1
          · left; simp [e1]
          · right; exact e1
  · rw [if_neg c]
    exact h.mono (fun q hq => Or.inl hq)
end
