section
variable {P Y : w_R}
/-- made before an hour of a day -/
def mb (P : w_R) (dd h p : Nat) : Prop := p < P 6 0 ∧ (P 9 p < dd ∨ (P 9 p = dd ∧ P 10 p < h))
theorem lean_lt {p : Nat} (hP : s_POK P) (hp : p < P 6 0) : P 11 p < 4096 := by
  obtain ⟨q1, q2, q3, q4, q5, q6⟩ := hP.2.2.2.2.2 p hp
  have h12 := hP.2.2.2.2.1
  have := p12 (p := p) (by omega)
  omega
theorem HI.makes {C : w_R} {dd x : Nat} (hP : s_POK P) (h : HI P (mb P dd x) C) (hC : COK C) (hd : C 0 0 = dd) : ∀ n, n ≤ P 6 0 → HI P (fun q => mb P dd x q ∨ (q < n ∧ P 9 q = dd ∧ P 10 q = x)) (s_make P x C n) ∧ COK (s_make P x C n) ∧ s_make P x C n 0 0 = dd := by
  have h6 := hP.1.2
  have h12 := hP.2.2.2.2.1
  intro n
  induction n with
  | zero => intro _; exact ⟨h.mono (fun q hq => Or.inl hq), hC, hd⟩
  | succ n ih =>
    intro hn
    obtain ⟨i1, i2, i3⟩ := ih (by omega)
    obtain ⟨q1, q2, q3, q4, q5, q6⟩ := hP.2.2.2.2.2 n (by omega)
    have e : s_make P x C (n + 1) = s_make1 P x (s_make P x C n) n := by unfold s_make; rw [List.range_succ, List.foldl_append]; rfl
    rw [e]
    refine ⟨?_, s_make1_ok i2 (by omega) (by omega) (by omega), (s_make1_day _ _ _).trans i3⟩
    by_cases c : P 9 n = dd ∧ P 10 n = x
    · refine (i1.make (x := x) i2 (by omega) (lean_lt hP (by omega)) (fun hD => ?_)).mono (fun q hq => ?_)
      · rcases hD with ⟨_, h1⟩ | ⟨h1, -⟩ <;> omega
      · rcases hq with (h1 | ⟨h1, h2⟩) | ⟨rfl, h2, h3⟩
        · exact Or.inl h1
        · exact Or.inr ⟨by omega, h2⟩
        · exact Or.inr ⟨by omega, c⟩
    · have e2 : s_make1 P x (s_make P x C n) n = s_make P x C n := by
        conv => lhs; unfold s_make1
        rw [i3, if_neg c]
      rw [e2]
      refine i1.mono (fun q hq => ?_)
      rcases hq with h1 | ⟨h1, h2⟩
      · exact Or.inl h1
      · exact Or.inr ⟨by omega, h2⟩
theorem HI.hour {C : w_R} {dd x : Nat} (hP : s_POK P) (hY : s_YOK P Y) (h : HI P (mb P dd x) C) (hC : COK C) (hd : C 0 0 = dd) : HI P (mb P dd (x + 1)) (s_hour P Y C x) := by
  have h12 := hP.2.2.2.2.1
  obtain ⟨i1, -, -⟩ := h.makes (x := x) hP hC hd (P 6 0) (Nat.le_refl _)
  have i2 : HI P (mb P dd (x + 1)) (s_make P x C (P 6 0)) := i1.mono (fun q hq => by
    rcases hq with ⟨h1, h2⟩ | ⟨h1, h2, h3⟩
    · exact ⟨h1, by omega⟩
    · exact ⟨h1, by omega⟩)
  unfold s_hour
  refine foldl_ind _ _ (i2.spoke 0) (fun D m _ hD => foldl_ind _ _ hD (fun D s hs hD => ?_))
  simp only [s_sm, List.mem_filter, List.mem_range, beq_iff_eq] at hs
  obtain ⟨-, y2, -, y4⟩ := hY.2 s hs.1
  exact hD.say s (by omega)
theorem HI.hours {C : w_R} {dd : Nat} (hP : s_POK P) (hY : s_YOK P Y) (h : HI P (mb P dd 0) C) (hC : COK C) (hd : C 0 0 = dd) : ∀ n, n ≤ 12 → HI P (mb P dd n) ((List.range n).foldl (s_hour P Y) C) := by
  intro n
  induction n with
  | zero => intro _; exact h
  | succ n ih =>
    intro hn
    rw [List.range_succ, List.foldl_append]
    exact (ih (by omega)).hour hP hY (s_hours_ok hP hY hC n (by omega)) ((s_hours_day C n (by omega)).trans hd)
/-- at dusk -/
def HD (P : w_R) (D : Nat → Prop) (C : w_R) : Prop := ∀ p, ((C 4 0).testBit p = true → D p ∧ (C 3 0).testBit p = false) ∧ ((C 3 0).testBit p = true → D p) ∧ (C 9 p ≠ 0 → (C 3 0).testBit p = true) ∧ ((C 3 0).testBit p = true → ∀ q, (P 11 p).testBit q = true → (C 3 0).testBit q = true ∨ (C 4 0).testBit q = true)
theorem HD.dusk1 {D : Nat → Prop} {C : w_R} {p : Nat} (h : HD P D C) (hC : COK C) : HD P D (s_dusk1 P C p) := by
  unfold s_dusk1
  (try dsimp only)
  split
  · rename_i c
    have s3 : (C 3 0).testBit p = true := (bitN_iff _ _).mp c.1
    have b3 : ∀ q, (s_undo C p 3 0).testBit q = ((C 3 0).testBit q && !decide (p = q)) := by
      intro q
      rw [s_undo_3, Nat.testBit_and]
      by_cases e : q < 32
      · rw [tb_mI e, tb_p]
      · have : (C 3 0).testBit q = false := Nat.testBit_lt_two_pow (Nat.lt_of_lt_of_le hC.2.1 (Nat.pow_le_pow_right (n := 2) (i := 12) (by decide) (by omega)))
        rw [this]; rfl
    have b4 : ∀ q, (s_undo C p 4 0).testBit q = ((C 4 0).testBit q || decide (p = q)) := by
      intro q; rw [s_undo_4, Nat.testBit_or, tb_p]
    intro q
    rw [w_put_other _ (Or.inl (by decide)), w_put_other _ (Or.inl (by decide)), w_put_other _ (Or.inl (by decide)), w_put_other _ (Or.inl (by decide)), b3, b4]
    refine ⟨fun e => ?_, fun e => ?_, fun e => ?_, fun e r hr => ?_⟩
    · by_cases e2 : p = q
      · subst e2; exact ⟨(h p).2.1 s3, by simp⟩
      · simp [e2] at e ⊢
        exact (h q).1 e
    · simp at e; exact (h q).2.1 e.1
    · by_cases e2 : p = q
      · subst e2; rw [w_put_same] at e; exact absurd rfl e
      · rw [w_put_other _ (Or.inr (fun e3 => e2 e3.symm)), w_put_other _ (Or.inl (by decide)), s_undo_at C p 9 q (by decide) (by decide) (by decide) (by decide)] at e
        simp [e2, (h q).2.2.1 e]
    · simp at e
      rw [b3, b4]
      rcases (h q).2.2.2 e.1 r hr with e1 | e1
      · by_cases e2 : p = r
        · right; simp [e2]
        · left; simp [e2, e1]
      · right; simp [e1]
  · intro q
    rw [w_put_other _ (Or.inl (by decide)), w_put_other _ (Or.inl (by decide)), w_put_other _ (Or.inl (by decide)), w_put_other _ (Or.inl (by decide))]
    refine ⟨(h q).1, (h q).2.1, fun e => ?_, (h q).2.2.2⟩
    by_cases e2 : p = q
    · subst e2; rw [w_put_same] at e; exact absurd rfl e
    · rw [w_put_other _ (Or.inr (fun e3 => e2 e3.symm)), w_put_other _ (Or.inl (by decide))] at e
      exact (h q).2.2.1 e
theorem s_dusk1_9 (C : w_R) (p q : Nat) : s_dusk1 P C p 9 q = if q = p then 0 else C 9 q := by
  unfold s_dusk1
  (try dsimp only)
  by_cases e : q = p
  · rw [e, w_put_same, if_pos rfl]
  · rw [if_neg e, w_put_other _ (Or.inr e), w_put_other _ (Or.inl (by decide))]
    split
    · exact s_undo_at C p 9 q (by decide) (by decide) (by decide) (by decide)
    · rfl
/-- at the beginning of a day -/
def CI (P C : w_R) : Prop := COK C ∧ HI P (mb P (C 0 0) 0) C ∧ C 5 0 = 0 ∧ ∀ p, C 9 p = 0
theorem CI.day {C : w_R} (hP : s_POK P) (hY : s_YOK P Y) (h : CI P C) (hd : C 0 0 + 1 < 1000000) : CI P (s_day P Y C) := by
  obtain ⟨h1, h2, h3, h4⟩ := h
  have h12 := hP.2.2.2.2.1
  have i1 := h2.hours hP hY h1 rfl 12 (Nat.le_refl _)
  have i2 := s_hours_ok hP hY h1 12 (Nat.le_refl _)
  have j1 : HD P (mb P (C 0 0) 12) ((List.range 12).foldl (s_hour P Y) C) := fun p => ⟨(i1 p).1, (i1 p).2.1, (i1 p).2.2.1, (i1 p).2.2.2.2⟩
  have key : ∀ n, n ≤ P 6 0 → HD P (mb P (C 0 0) 12) ((List.range n).foldl (s_dusk1 P) ((List.range 12).foldl (s_hour P Y) C)) ∧ COK ((List.range n).foldl (s_dusk1 P) ((List.range 12).foldl (s_hour P Y) C)) ∧ ∀ q, q < n → (List.range n).foldl (s_dusk1 P) ((List.range 12).foldl (s_hour P Y) C) 9 q = 0 := by
    intro n
    induction n with
    | zero => intro _; exact ⟨j1, i2, fun q hq => absurd hq (Nat.not_lt_zero _)⟩
    | succ n ih =>
      intro hn
      obtain ⟨k1, k2, k3⟩ := ih (by omega)
      rw [show List.range (n + 1) = List.range n ++ [n] from List.range_succ, List.foldl_append]
      refine ⟨k1.dusk1 k2, s_dusk1_ok_34 k2 (by omega), fun q hq => ?_⟩
      show s_dusk1 P _ n 9 q = 0
      rw [s_dusk1_9]
      split
      · rfl
      · exact k3 q (by omega)
  obtain ⟨k1, k2, k3⟩ := key (P 6 0) (Nat.le_refl _)
  have hdd := s_day_day (P := P) (Y := Y) C
  have k9 : ∀ q, (List.range (P 6 0)).foldl (s_dusk1 P) ((List.range 12).foldl (s_hour P Y) C) 9 q = 0 := by
    intro q
    by_cases e : (List.range (P 6 0)).foldl (s_dusk1 P) ((List.range 12).foldl (s_hour P Y) C) 9 q = 0
    · exact e
    · exact k3 q ((k1 q).2.1 ((k1 q).2.2.1 e)).1
  refine ⟨s_day_ok hP hY h1 hd, ?_, ?_, ?_⟩
  · rw [hdd]
    intro p
    have e3 : s_day P Y C 3 0 = (List.range (P 6 0)).foldl (s_dusk1 P) ((List.range 12).foldl (s_hour P Y) C) 3 0 := by unfold s_day s_dusk; simp [w_put_eq]
    have e4 : s_day P Y C 4 0 = (List.range (P 6 0)).foldl (s_dusk1 P) ((List.range 12).foldl (s_hour P Y) C) 4 0 := by unfold s_day s_dusk; simp [w_put_eq]
    have e5 : s_day P Y C 5 0 = 0 := by unfold s_day s_dusk; simp [w_put_eq]
    have e9 : s_day P Y C 9 p = (List.range (P 6 0)).foldl (s_dusk1 P) ((List.range 12).foldl (s_hour P Y) C) 9 p := by unfold s_day s_dusk; simp [w_put_eq]
    have hmb : mb P (C 0 0) 12 p → mb P (C 0 0 + 1) 0 p := fun hm => ⟨hm.1, by have := hm.2; omega⟩
    rw [e3, e4, e5, e9, k9]
    refine ⟨fun e => ⟨hmb ((k1 p).1 e).1, ((k1 p).1 e).2⟩, fun e => hmb ((k1 p).2.1 e), fun e => absurd rfl e, fun e => ?_, (k1 p).2.2.2⟩
    rw [Nat.zero_testBit] at e
    exact absurd e (by decide)
  · unfold s_day s_dusk; simp [w_put_eq]
  · intro p
    have e9 : s_day P Y C 9 p = (List.range (P 6 0)).foldl (s_dusk1 P) ((List.range 12).foldl (s_hour P Y) C) 9 p := by unfold s_day s_dusk; simp [w_put_eq]
    rw [e9, k9]
theorem CI.new (x : Nat) (hx : x < 64) : CI P (w_put s_new 6 0 x) := by
  have e : ∀ k j, k ≠ 6 → k ≠ 7 → w_put s_new 6 0 x k j = 0 := fun k j h1 h2 => by rw [w_put_other _ (Or.inl h1)]; unfold s_new; rw [if_neg (fun h => h2 h.1)]
  refine ⟨⟨?_, ?_, ?_, ?_, ?_, ?_, ?_⟩, fun p => ?_, e 5 0 (by decide) (by decide), fun p => e 9 p (by decide) (by decide)⟩
  · rw [e 0 0 (by decide) (by decide)]; decide
  · rw [e 3 0 (by decide) (by decide)]; decide
  · rw [e 4 0 (by decide) (by decide)]; decide
  · rw [e 5 0 (by decide) (by decide)]; decide
  · rw [w_put_same]; exact hx
  · intro p; rw [e 8 p (by decide) (by decide)]; decide
  · intro p; rw [e 9 p (by decide) (by decide)]; decide
  · rw [e 3 0 (by decide) (by decide), e 4 0 (by decide) (by decide), e 5 0 (by decide) (by decide), e 9 p (by decide) (by decide)]
    simp
/-! what is undone stays undone -/
theorem und_make {C : w_R} {x p q : Nat} (h : (C 4 0).testBit q = true) : (s_make1 P x C p 4 0).testBit q = true := by
  unfold s_make1
  split
  · split
    · rw [s_undo_4, Nat.testBit_or, h]; rfl
    · simpa [w_put_eq] using h
  · exact h
theorem und_dusk1 {C : w_R} {p q : Nat} (h : (C 4 0).testBit q = true) : (s_dusk1 P C p 4 0).testBit q = true := by
  unfold s_dusk1
  (try dsimp only)
  rw [w_put_other _ (Or.inl (by decide)), w_put_other _ (Or.inl (by decide))]
  split
  · rw [s_undo_4, Nat.testBit_or, h]; rfl
  · exact h
theorem und_hours {C : w_R} {q : Nat} (h : (C 4 0).testBit q = true) (n : Nat) (hn : n ≤ 12) : ((List.range n).foldl (s_hour P Y) C 4 0).testBit q = true :=
  day_ind (J := fun D => (D 4 0).testBit q = true) h (fun D x p _ _ e => und_make e) (fun D e => by rw [w_put_other _ (Or.inl (by decide))]; exact e) (fun D s _ e => by rw [s_say_at D s 4 0 (by decide) (by decide) (by decide) (by decide)]; exact e) n hn
theorem und_day {C : w_R} {q : Nat} (h : (C 4 0).testBit q = true) : (s_day P Y C 4 0).testBit q = true := by
  have e4 : s_day P Y C 4 0 = (List.range (P 6 0)).foldl (s_dusk1 P) ((List.range 12).foldl (s_hour P Y) C) 4 0 := by unfold s_day s_dusk; simp [w_put_eq]
  rw [e4]
  exact foldl_ind (J := fun (D : w_R) => (D 4 0).testBit q = true) _ _ (und_hours h 12 (Nat.le_refl _)) (fun D p _ e => und_dusk1 e)
/-! a town of its own -/
theorem t_D_day {C0 : w_R} (n : Nat) : t_D P Y C0 n 0 0 = C0 0 0 + n := by
  induction n with
  | zero => rfl
  | succ n ih => show s_day P Y (t_D P Y C0 n) 0 0 = _; rw [s_day_day, ih]; omega
theorem t_D_CI {C0 : w_R} (hP : s_POK P) (hY : s_YOK P Y) (h0 : CI P C0) (hd : C0 0 0 = 0) : ∀ n, n ≤ 1000 → CI P (t_D P Y C0 n) := by
  intro n
  induction n with
  | zero => intro _; exact h0
  | succ n ih => intro hn; exact (ih (by omega)).day hP hY (by rw [t_D_day, hd]; omega)
theorem t_h_lt {C0 : w_R} (hP : s_POK P) (hY : s_YOK P Y) (h0 : CI P C0) (hd : C0 0 0 = 0) {t : Nat} (ht : t < 1200) (p : Nat) : t_h P Y C0 t p < 64 :=
  (s_hours_ok hP hY (t_D_CI hP hY h0 hd (t / 12) (by omega)).1 (t % 12 + 1) (by omega)).2.2.2.2.2.2 p
theorem t_frozen {C0 : w_R} (hP : s_POK P) (hY : s_YOK P Y) (h0 : CI P C0) (hd : C0 0 0 = 0) {dd t p : Nat} (hu : (t_D P Y C0 dd 4 0).testBit p = true) (ht : 12 * dd ≤ t) (ht2 : t < 1200) : t_h P Y C0 t p = 0 := by
  have h1 : ∀ k, (t_D P Y C0 (dd + k) 4 0).testBit p = true := by
    intro k
    induction k with
    | zero => exact hu
    | succ k ih => exact und_day ih
  have h2 := h1 (t / 12 - dd)
  rw [show dd + (t / 12 - dd) = t / 12 by omega] at h2
  have h3 := und_hours (P := P) (Y := Y) h2 (t % 12 + 1) (by omega)
  have hc := t_D_CI hP hY h0 hd (t / 12) (by omega)
  have h4 := hc.2.1.hours hP hY hc.1 rfl (t % 12 + 1) (by omega)
  by_cases e : t_h P Y C0 t p = 0
  · exact e
  · exfalso
    have h5 := (h4 p).2.2.1 e
    have h6 := ((h4 p).1 h3).2
    rw [h6] at h5
    exact absurd h5 (by decide)
theorem t_F_stop {C0 : w_R} (hP : s_POK P) (hY : s_YOK P Y) (h0 : CI P C0) (hd : C0 0 0 = 0) {dd p w : Nat} (hu : (t_D P Y C0 dd 4 0).testBit p = true) : ∀ n, 12 * dd + n ≤ 1200 → t_F P Y C0 (12 * dd + n) p w = t_F P Y C0 (12 * dd) p w := by
  intro n
  induction n with
  | zero => intro _; rfl
  | succ n ih =>
    intro hn
    have hz := t_frozen hP hY h0 hd hu (t := 12 * dd + n) (by omega) (by omega)
    show (if t_F P Y C0 (12 * dd + n) p w < 1200 then t_F P Y C0 (12 * dd + n) p w else if (t_h P Y C0 (12 * dd + n) p).testBit w then 12 * dd + n else 1200) = _
    rw [hz, Nat.zero_testBit, ← ih (by omega)]
    have : t_F P Y C0 (12 * dd + n) p w < 1200 ∨ t_F P Y C0 (12 * dd + n) p w = 1200 := t_F_le _ (by omega)
    rcases this with e | e
    · rw [if_pos e]
    · rw [e]; rfl
end
