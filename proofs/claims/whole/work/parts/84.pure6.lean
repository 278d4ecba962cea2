section
variable {P : w_R} {K : Nat} {W : Nat → Nat}
theorem k_mt_mono {Z Z' : w_R} {m g : Nat} (h : ∀ k i, k < 2 → Z k i ≤ Z' k i) {k i : Nat} (hk : k < 2) : k_mt P W Z m g k i ≤ k_mt P W Z' m g k i := by
  unfold k_mt
  have h3 := h 0 (P 3 m) (by decide)
  have h4 := h 0 (P 4 m) (by decide)
  have hi := h k i hk
  split
  · unfold k_lst
    omega
  · exact hi
theorem k_more {x : Nat} (hx : K.testBit x = true) : ∀ j k i, k < 2 → k_day P W K j k i ≤ k_day P W (2 ^ x) j k i := by
  intro j
  induction j with
  | zero =>
    intro k i hk
    show k_0 K k i ≤ k_0 (2 ^ x) k i
    unfold k_0
    by_cases h : k = 0 ∧ (2 ^ x / 2 ^ i) &&& 1 ≠ 0
    · rw [if_pos h, if_pos]
      · exact Nat.le_refl _
      · refine ⟨h.1, ?_⟩
        have h2 := (bitN_iff (2 ^ x) i).mp h.2
        rw [tb_p] at h2
        rw [← of_decide_eq_true h2]
        exact (bitN_iff K x).mpr hx
    · rw [if_neg h]
      split
      · exact Nat.zero_le _
      · exact Nat.le_refl _
  | succ j ih =>
    intro k i hk
    rw [k_day_succ, k_day_succ]
    exact k_mt_mono (fun k i hk => ih k i hk) hk
theorem k_pick : ∀ j k i, k < 2 → k_day P W K j k i < FAR → ∃ x, K.testBit x = true ∧ k_day P W (2 ^ x) j k i ≤ k_day P W K j k i := by
  intro j
  induction j with
  | zero =>
    intro k i hk hlt
    have hlt : k_0 K k i < FAR := hlt
    unfold k_0 at hlt
    by_cases h : k = 0 ∧ (K / 2 ^ i) &&& 1 ≠ 0
    · refine ⟨i, (bitN_iff K i).mp h.2, ?_⟩
      show k_0 (2 ^ i) k i ≤ _
      unfold k_0
      rw [if_pos ⟨h.1, (bitN_iff (2 ^ i) i).mpr (Nat.testBit_two_pow_self)⟩]
      exact Nat.zero_le _
    · rw [if_neg h] at hlt
      exact absurd hlt (Nat.lt_irrefl _)
  | succ j ih =>
    intro k i hk hlt
    have same : k_day P W K (j + 1) k i = k_day P W K j k i → ∃ x, K.testBit x = true ∧ k_day P W (2 ^ x) (j + 1) k i ≤ k_day P W K (j + 1) k i := by
      intro e
      rw [e] at hlt ⊢
      obtain ⟨x, h1, h2⟩ := ih k i hk hlt
      exact ⟨x, h1, Nat.le_trans (k_day_up j k i) h2⟩
    have on : ∀ b, (b = 1 ∨ b = 2) → (i = r_w P j b ∨ i = r_o P j b) → k_day P W K (j + 1) k i = k_day P W K j 0 (r_w P j b) + W (r_w P j b) + b * w_dn j → ∃ x, K.testBit x = true ∧ k_day P W (2 ^ x) (j + 1) k i ≤ k_day P W K (j + 1) k i := by
      intro b hb hi e
      rw [e] at hlt ⊢
      have hlt2 : k_day P W K j 0 (r_w P j b) < FAR := by
        generalize b * w_dn j = y at hlt
        omega
      obtain ⟨x, h1, h2⟩ := ih 0 (r_w P j b) (by decide) hlt2
      refine ⟨x, h1, Nat.le_trans (k_say (P := P) (K := 2 ^ x) (W := W) (j := j) hb hk hi) ?_⟩
      exact Nat.add_le_add_right (Nat.add_le_add_right h2 _) _
    have ek : k_day P W K (j + 1) k i = k_mt P W (k_day P W K j) (r_m P j) (w_dn j) k i := by rw [k_day_succ]; rfl
    unfold k_mt at ek
    by_cases hc : k < 2 ∧ (i = P 3 (r_m P j) ∨ i = P 4 (r_m P j))
    · rw [if_pos hc] at ek
      rcases Nat.le_total (k_day P W K j k i) (k_lst P W (k_day P W K j) (r_m P j) (w_dn j)) with q | q
      · rw [Nat.min_eq_left q] at ek
        exact same ek
      · rw [Nat.min_eq_right q] at ek
        unfold k_lst at ek
        have r1 : r_w P j 1 = P 3 (r_m P j) ∧ r_o P j 1 = P 4 (r_m P j) := by unfold r_w r_o; rw [if_pos rfl, if_pos rfl]; exact ⟨rfl, rfl⟩
        have r2 : r_w P j 2 = P 4 (r_m P j) ∧ r_o P j 2 = P 3 (r_m P j) := by unfold r_w r_o; rw [if_neg (by decide), if_neg (by decide)]; exact ⟨rfl, rfl⟩
        rcases Nat.le_total (k_day P W K j 0 (P 3 (r_m P j)) + W (P 3 (r_m P j)) + w_dn j) (k_day P W K j 0 (P 4 (r_m P j)) + W (P 4 (r_m P j)) + 2 * w_dn j) with q2 | q2
        · rw [Nat.min_eq_left q2] at ek
          exact on 1 (Or.inl rfl) (by rw [r1.1, r1.2]; exact hc.2) (by rw [ek, r1.1]; omega)
        · rw [Nat.min_eq_right q2] at ek
          exact on 2 (Or.inr rfl) (by rw [r2.1, r2.2]; exact hc.2.symm) (by rw [ek, r2.1])
    · rw [if_neg hc] at ek
      exact same ek
theorem k_min_le_at {f : Nat → Nat} : ∀ {n i : Nat}, i < n → k_min f n ≤ f i := by
  intro n
  induction n with
  | zero => intro i hi; exact absurd hi (Nat.not_lt_zero _)
  | succ n ih =>
    intro i hi
    rw [k_min_succ]
    by_cases e : i = n
    · rw [e]; exact Nat.min_le_right _ _
    · exact Nat.le_trans (Nat.min_le_left _ _) (ih (by omega))
theorem k_min_pick {f : Nat → Nat} : ∀ {n : Nat}, k_min f n < FAR → ∃ i, i < n ∧ k_min f n = f i := by
  intro n
  induction n with
  | zero => intro h; exact absurd h (Nat.lt_irrefl FAR)
  | succ n ih =>
    intro h
    rw [k_min_succ] at h ⊢
    rcases Nat.le_total (k_min f n) (f n) with q | q
    · rw [Nat.min_eq_left q] at h ⊢
      obtain ⟨i, hi, e⟩ := ih h
      exact ⟨i, by omega, e⟩
    · rw [Nat.min_eq_right q]
      exact ⟨n, by omega, rfl⟩
end
/-- what some days cost from the set k on, and what the chains say -/
def RF (P : w_R) (W : Nat → Nat) (dd k y : Nat) : Prop := (y = NVR ∧ ∀ x, k.testBit x = true → FAR ≤ k_some P W dd x) ∨ (y ≤ 1188 * dd ∧ (∃ x, k.testBit x = true ∧ k_some P W dd x = y * 1048576) ∧ ∀ x, k.testBit x = true → y * 1048576 ≤ k_some P W dd x)
section
variable {P : w_R} {si : Nat} {w W : Nat → Nat}
theorem bit_lt {k x n : Nat} (hk : k < 2 ^ n) (hx : k.testBit x = true) : x < n := by
  rcases Nat.lt_or_ge x n with e | e
  · exact e
  · have := Nat.testBit_lt_two_pow (Nat.lt_of_lt_of_le hk (Nat.pow_le_pow_right (n := 2) (by decide) e))
    rw [hx] at this
    exact absurd this (by decide)
/-- a day more -/
theorem RF.next (hP : s_POK P) (hw : ∀ x, x < P 0 0 → w x ≤ 99) (hW : r_W si w W (P 0 0)) {dd k y : Nat} {f fr : Nat → Nat} (hk : k < 2 ^ P 0 0) (hdd : dd ≤ 400)
    (hfr : ∀ h, h < 2 ^ P 0 0 → (fr h = NVR ∨ ∃ s r, rR P k si w (P 2 0) h s 1 (fr h) r) ∧ ∀ s c r, rR P k si w (P 2 0) h s 1 c r → fr h ≤ c)
    (hf : ∀ h, h ≠ 0 → h < 2 ^ P 0 0 → fr h < NVR → RF P W dd h (f h))
    (hy : (y = NVR ∧ ∀ h, h ≠ 0 → h < 2 ^ P 0 0 → fr h < NVR → f h = NVR) ∨ ((∃ h, h ≠ 0 ∧ h < 2 ^ P 0 0 ∧ fr h < NVR ∧ f h < NVR ∧ y = fr h + f h) ∧ ∀ h, h ≠ 0 → h < 2 ^ P 0 0 → fr h < NVR → f h < NVR → y ≤ fr h + f h)) : RF P W (dd + 1) k y := by
  have h12 := hP.2.2.1
  have hNV : NVR = 1000000000 := rfl
  have p312 : 3 ^ 12 = 531441 := by decide
  -- what a chain costs, a day can
  have up : ∀ x, k.testBit x = true → k_some P W (dd + 1) x < FAR → ∃ h, h ≠ 0 ∧ h < 2 ^ P 0 0 ∧ fr h < NVR ∧ f h < NVR ∧ (fr h + f h) * 1048576 ≤ k_some P W (dd + 1) x := by
    intro x hx hlt
    obtain ⟨t, ht, e⟩ := k_min_pick (f := fun t => k_ds P W x t + k_some P W dd t) (n := P 0 0) hlt
    have e : k_some P W (dd + 1) x = k_ds P W x t + k_some P W dd t := e
    rw [e] at hlt ⊢
    have h1 : k_ds P W x t < FAR := Nat.lt_of_le_of_lt (Nat.le_add_right _ _) hlt
    have h2 : k_some P W dd t < FAR := Nat.lt_of_le_of_lt (Nat.le_add_left _ _) hlt
    have hh : k_heard P W (2 ^ x) t < FAR := by
      rcases Nat.lt_or_ge (k_heard P W (2 ^ x) t) FAR with q | q
      · exact q
      · have q2 := k_heard_le P W (2 ^ x) t
        have q3 : k_heard P W (2 ^ x) t = FAR := Nat.le_antisymm q2 q
        unfold k_ds at h1
        rw [q3] at h1
        exact absurd h1 (by decide)
    have hm : k_heard P W k t ≤ k_heard P W (2 ^ x) t := k_more hx (P 2 0) 1 t (by decide)
    obtain ⟨h, s, a, c, r, hR, e1, -, e3⟩ := r_high (K := k) hP hw hW (P 2 0) (Nat.le_refl _) 1 t (by decide) (Nat.lt_of_le_of_lt hm hh)
    have e3 := e3 rfl
    obtain ⟨b1, b2, b3, b4, b5, b6⟩ := rR_b hP hw (P 2 0) (Nat.le_refl _) h s a c r hR
    have hne : h ≠ 0 := fun q => by rw [q, Nat.zero_testBit] at e3; exact absurd e3 (by decide)
    have ha : a = 1 := b4.mpr hne
    subst ha
    have hfc := (hfr h b1).2 s c r hR
    have hc : c * 1048576 ≤ k_ds P W x t := by
      unfold k_ds
      have e1 : c * 1048576 + r = k_heard P W k t := e1
      have : c ≤ k_heard P W (2 ^ x) t / 1048576 := by
        rw [Nat.le_div_iff_mul_le (by decide)]
        omega
      exact Nat.mul_le_mul_right _ this
    have hrf := hf h hne b1 (by omega)
    rcases hrf with ⟨-, q⟩ | ⟨q1, q2, q3⟩
    · exact absurd (q t e3) (Nat.not_le.mpr h2)
    · refine ⟨h, hne, b1, by omega, by omega, ?_⟩
      rw [Nat.add_mul]
      exact Nat.add_le_add (Nat.le_trans (Nat.mul_le_mul_right _ hfc) hc) (q3 t e3)
  rcases hy with ⟨rfl, hall⟩ | ⟨⟨h, hne, hlt, h1, h2, rfl⟩, hmin⟩
  · refine Or.inl ⟨rfl, fun x hx => ?_⟩
    rcases Nat.lt_or_ge (k_some P W (dd + 1) x) FAR with q | q
    · obtain ⟨h, a1, a2, a3, a4, -⟩ := up x hx q
      rw [hall h a1 a2 a3] at a4
      exact absurd a4 (Nat.lt_irrefl _)
    · exact q
  · have hlow : ∀ x, k.testBit x = true → (fr h + f h) * 1048576 ≤ k_some P W (dd + 1) x := by
      intro x hx
      rcases Nat.lt_or_ge (k_some P W (dd + 1) x) FAR with q | q
      · obtain ⟨h', a1, a2, a3, a4, a5⟩ := up x hx q
        exact Nat.le_trans (Nat.mul_le_mul_right _ (hmin h' a1 a2 a3 a4)) a5
      · refine Nat.le_trans ?_ q
        rcases (hfr h hlt).1 with e | ⟨s, r, hR⟩
        · omega
        · obtain ⟨-, -, -, -, b5, -⟩ := rR_b hP hw (P 2 0) (Nat.le_refl _) _ _ _ _ _ hR
          rcases hf h hne hlt h1 with ⟨e, -⟩ | ⟨q1, -⟩
          · omega
          · have : fr h + f h ≤ 1000000 := by omega
            exact Nat.le_trans (Nat.mul_le_mul_right _ this) (by decide)
    rcases (hfr h hlt).1 with e | ⟨s, r, hR⟩
    · omega
    obtain ⟨b1, -, -, -, b5, b6⟩ := rR_b hP hw (P 2 0) (Nat.le_refl _) _ _ _ _ _ hR
    rcases hf h hne hlt h1 with ⟨e, -⟩ | ⟨q1, ⟨t, q2, q3⟩, q4⟩
    · omega
    refine Or.inr ⟨by omega, ?_, hlow⟩
    have ht := bit_lt hlt q2
    have h3 := (r_low hP hW (P 2 0) (Nat.le_refl _) _ _ _ _ _ hR t).2.1 q2
    have h3 : k_heard P W k t ≤ fr h * 1048576 + r := h3
    have hr : r < 531441 := by
      have := Nat.pow_pos (n := 12 - P 2 0) (show 0 < 3 by decide)
      rw [p312] at b6
      omega
    have hb1 : fr h * 1048576 + r < FAR := by
      have : fr h * 1048576 ≤ 1188 * 1048576 := Nat.mul_le_mul_right _ (by omega)
      show _ < 1125899906842624
      omega
    obtain ⟨x, x1, x2⟩ := k_pick (P := P) (K := k) (W := W) (P 2 0) 1 t (by decide) (Nat.lt_of_le_of_lt h3 hb1)
    have x2 : k_heard P W (2 ^ x) t ≤ k_heard P W k t := x2
    refine ⟨x, x1, Nat.le_antisymm ?_ (hlow x x1)⟩
    refine Nat.le_trans (k_min_le_at (f := fun t => k_ds P W x t + k_some P W dd t) ht) ?_
    show k_ds P W x t + k_some P W dd t ≤ _
    rw [q3, Nat.add_mul]
    apply Nat.add_le_add_right
    unfold k_ds
    apply Nat.mul_le_mul_right
    have : k_heard P W (2 ^ x) t < (fr h + 1) * 1048576 := by
      rw [Nat.add_mul]
      refine Nat.lt_of_le_of_lt (Nat.le_trans x2 h3) ?_
      omega
    have := Nat.div_lt_of_lt_mul (show k_heard P W (2 ^ x) t < 1048576 * (fr h + 1) by rw [Nat.mul_comm]; exact this)
    omega
end
