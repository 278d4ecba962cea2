/-! DAYS OF SAYINGS: how a day may go, meeting by meeting (0 nobody says it, 1 the first, 2 the second) -/
def r_m (P : w_R) (j : Nat) : Nat := (s_ord P).getD j 0
def r_w (P : w_R) (j b : Nat) : Nat := if b = 1 then P 3 (r_m P j) else P 4 (r_m P j)
def r_o (P : w_R) (j b : Nat) : Nat := if b = 1 then P 4 (r_m P j) else P 3 (r_m P j)
/-- who has spoken in the hour of the j-th meeting -/
def r_s (P : w_R) (j s : Nat) : Nat := if 0 < j ∧ j < P 2 0 ∧ P 5 (r_m P j) = P 5 (r_m P (j - 1)) then s else 0
def r_a (P : w_R) (j b h a : Nat) : Nat := if a = 1 ∨ h.testBit (r_o P j b) = false then 1 else 0
def r_ok (P : w_R) (K si j b h s : Nat) : Prop := (s ||| si).testBit (r_w P j b) = false ∧ (K ||| h).testBit (r_w P j b) = true
def r_h (P : w_R) (j b h : Nat) : Nat := h ||| 2 ^ r_w P j b ||| 2 ^ r_o P j b
/-- j meetings can go so: h heard it, s spoke in this hour, a: said again; cost c, row r -/
def rR (P : w_R) (K si : Nat) (w : Nat → Nat) : Nat → Nat → Nat → Nat → Nat → Nat → Prop
  | 0, h, s, a, c, r => h = 0 ∧ s = 0 ∧ a = 0 ∧ c = 0 ∧ r = 0
  | j + 1, h', s', a', c', r' => ∃ h s a c r, rR P K si w j h s a c r ∧ ((h' = h ∧ s' = r_s P (j + 1) s ∧ a' = a ∧ c' = c ∧ r' = r) ∨ ∃ b, (b = 1 ∨ b = 2) ∧ r_ok P K si j b h s ∧ h' = r_h P j b h ∧ s' = r_s P (j + 1) (s ||| 2 ^ r_w P j b) ∧ a' = r_a P j b h a ∧ c' = c + w (r_w P j b) ∧ r' = r + b * w_dn j)
section
variable {P : w_R} {K si : Nat} {w : Nat → Nat}
theorem r_m_lt (hP : s_POK P) {j : Nat} (hj : j < P 2 0) : r_m P j < P 2 0 := by
  have hl : j < (s_ord P).length := by rw [s_ord_len hP]; exact hj
  unfold r_m
  rw [List.getD_eq_getElem?_getD, List.getElem?_eq_getElem hl]
  exact (s_ord_mem hP).mp (List.getElem_mem hl)
theorem r_wo (hP : s_POK P) {j : Nat} (hj : j < P 2 0) (b : Nat) : r_w P j b < P 0 0 ∧ r_o P j b < P 0 0 ∧ r_w P j b ≠ r_o P j b := by
  obtain ⟨q1, q2, q3, -⟩ := hP.2.2.2.1 _ (r_m_lt hP hj)
  unfold r_w r_o
  split
  · exact ⟨q1, q2, q3⟩
  · exact ⟨q2, q1, fun h => q3 h.symm⟩
theorem rR_0 {h s a c r : Nat} : rR P K si w 0 h s a c r ↔ (h = 0 ∧ s = 0 ∧ a = 0 ∧ c = 0 ∧ r = 0) := Iff.rfl
theorem rR.no {j h s a c r : Nat} (hR : rR P K si w j h s a c r) : rR P K si w (j + 1) h (r_s P (j + 1) s) a c r := ⟨h, s, a, c, r, hR, Or.inl ⟨rfl, rfl, rfl, rfl, rfl⟩⟩
theorem rR.yes {j h s a c r b : Nat} (hR : rR P K si w j h s a c r) (hb : b = 1 ∨ b = 2) (hk : r_ok P K si j b h s) : rR P K si w (j + 1) (r_h P j b h) (r_s P (j + 1) (s ||| 2 ^ r_w P j b)) (r_a P j b h a) (c + w (r_w P j b)) (r + b * w_dn j) := ⟨h, s, a, c, r, hR, Or.inr ⟨b, hb, hk, rfl, rfl, rfl, rfl, rfl⟩⟩
theorem w_dn_3 : ∀ j, j < 12 → w_dn j = 3 ^ (11 - j) := by decide
theorem r_s_le {j s n : Nat} (h : s < n) : r_s P j s < n := by unfold r_s; split; exact h; omega
theorem rR_b (hP : s_POK P) (hw : ∀ x, x < P 0 0 → w x ≤ 99) : ∀ j, j ≤ P 2 0 → ∀ h s a c r, rR P K si w j h s a c r → h < 2 ^ P 0 0 ∧ s < 2 ^ P 0 0 ∧ a < 2 ∧ (a = 1 ↔ h ≠ 0) ∧ c ≤ 99 * j ∧ r + 3 ^ (12 - j) ≤ 3 ^ 12 := by
  have h12 := hP.2.2.1
  intro j
  induction j with
  | zero =>
    rintro _ h s a c r ⟨rfl, rfl, rfl, rfl, rfl⟩
    exact ⟨Nat.two_pow_pos _, Nat.two_pow_pos _, by decide, by decide, by decide, by decide⟩
  | succ j ih =>
    rintro hj h' s' a' c' r' ⟨h, s, a, c, r, hR, hs⟩
    obtain ⟨i1, i2, i3, i4, i5, i6⟩ := ih (by omega) h s a c r hR
    have e3 : 3 ^ (12 - j) = 3 * 3 ^ (12 - (j + 1)) := by rw [show 12 - j = (12 - (j + 1)) + 1 by omega, Nat.pow_succ]; omega
    rcases hs with ⟨rfl, rfl, rfl, rfl, rfl⟩ | ⟨b, hb, hk, rfl, rfl, rfl, rfl, rfl⟩
    · exact ⟨i1, r_s_le i2, i3, i4, by omega, by omega⟩
    · obtain ⟨w1, w2, w3⟩ := r_wo hP (j := j) (by omega) b
      have hh : r_h P j b h < 2 ^ P 0 0 := Nat.or_lt_two_pow (Nat.or_lt_two_pow i1 (p_lt w1)) (p_lt w2)
      have hne : r_h P j b h ≠ 0 := by
        intro e
        have : (r_h P j b h).testBit (r_o P j b) = true := by unfold r_h; rw [Nat.testBit_or, tb_p]; simp
        rw [e, Nat.zero_testBit] at this
        exact absurd this (by decide)
      have ha : r_a P j b h a = 1 := by
        unfold r_a
        rw [if_pos]
        by_cases e : h = 0
        · right; rw [e, Nat.zero_testBit]
        · left; exact i4.mpr e
      refine ⟨hh, r_s_le (Nat.or_lt_two_pow i2 (p_lt w1)), by rw [ha]; decide, ⟨fun _ => hne, fun _ => ha⟩, ?_, ?_⟩
      · have := hw _ w1
        omega
      · rw [w_dn_3 j (by omega), show 11 - j = 12 - (j + 1) by omega]
        have : b * 3 ^ (12 - (j + 1)) ≤ 2 * 3 ^ (12 - (j + 1)) := Nat.mul_le_mul_right _ (by omega)
        omega
/-- what a saying weighs -/
def r_W (si : Nat) (w : Nat → Nat) (W : Nat → Nat) (n : Nat) : Prop := ∀ i, i < n → W i = if si.testBit i then FAR else w i * 1048576
theorem k_mt_up (Z : w_R) (W : Nat → Nat) (m g : Nat) (k i : Nat) : k_mt P W Z m g k i ≤ Z k i := by
  unfold k_mt
  split
  · exact Nat.min_le_left _ _
  · exact Nat.le_refl _
theorem k_day_up {W : Nat → Nat} (j k i : Nat) : k_day P W K (j + 1) k i ≤ k_day P W K j k i := by rw [k_day_succ]; exact k_mt_up _ _ _ _ _ _
/-- behind a saying, both have it for that much -/
theorem k_say {W : Nat → Nat} {j b k i : Nat} (hb : b = 1 ∨ b = 2) (hk : k < 2) (hi : i = r_w P j b ∨ i = r_o P j b) : k_day P W K (j + 1) k i ≤ k_day P W K j 0 (r_w P j b) + W (r_w P j b) + b * w_dn j := by
  rw [k_day_succ]
  have hi2 : i = P 3 (r_m P j) ∨ i = P 4 (r_m P j) := by
    unfold r_w r_o at hi
    split at hi <;> omega
  show k_mt P W (k_day P W K j) (r_m P j) (w_dn j) k i ≤ _
  unfold k_mt
  rw [if_pos ⟨hk, hi2⟩]
  refine Nat.le_trans (Nat.min_le_right _ _) ?_
  unfold k_lst
  rcases hb with rfl | rfl
  · refine Nat.le_trans (Nat.min_le_left _ _) ?_
    unfold r_w
    rw [if_pos rfl]
    omega
  · refine Nat.le_trans (Nat.min_le_right _ _) ?_
    unfold r_w
    rw [if_neg (by decide)]
    omega
theorem w_dn_pos {j : Nat} (hj : j < 12) : 1 ≤ w_dn j := by rw [w_dn_3 j hj]; exact Nat.pow_pos (by decide)
/-- a day that can go so costs no less than the chain -/
theorem r_low {W : Nat → Nat} (hP : s_POK P) (hW : r_W si w W (P 0 0)) : ∀ j, j ≤ P 2 0 → ∀ h s a c r, rR P K si w j h s a c r → ∀ i, ((K ||| h).testBit i = true → k_day P W K j 0 i ≤ c * 1048576 + r) ∧ (h.testBit i = true → k_day P W K j 1 i ≤ c * 1048576 + r) ∧ (s.testBit i = true → k_day P W K j 0 i < c * 1048576 + r) := by
  have h12 := hP.2.2.1
  intro j
  induction j with
  | zero =>
    rintro _ h s a c r ⟨rfl, rfl, rfl, rfl, rfl⟩ i
    refine ⟨fun e => ?_, fun e => ?_, fun e => ?_⟩
    · rw [Nat.or_zero] at e
      show k_0 K 0 i ≤ 0
      unfold k_0
      rw [if_pos ⟨rfl, (bitN_iff K i).mpr e⟩]
      exact Nat.le_refl _
    · rw [Nat.zero_testBit] at e; exact absurd e (by decide)
    · rw [Nat.zero_testBit] at e; exact absurd e (by decide)
  | succ j ih =>
    rintro hj h' s' a' c' r' ⟨h, s, a, c, r, hR, hs⟩ i
    obtain ⟨i1, i2, i3⟩ := ih (by omega) h s a c r hR i
    have u0 := k_day_up (P := P) (K := K) (W := W) j 0 i
    have u1 := k_day_up (P := P) (K := K) (W := W) j 1 i
    rcases hs with ⟨rfl, rfl, rfl, rfl, rfl⟩ | ⟨b, hb, hk, rfl, rfl, rfl, rfl, rfl⟩
    · refine ⟨fun e => Nat.le_trans u0 (i1 e), fun e => Nat.le_trans u1 (i2 e), fun e => ?_⟩
      unfold r_s at e
      split at e
      · exact Nat.lt_of_le_of_lt u0 (i3 e)
      · rw [Nat.zero_testBit] at e; exact absurd e (by decide)
    · obtain ⟨w1, w2, w3⟩ := r_wo hP (j := j) (by omega) b
      have hsi : si.testBit (r_w P j b) = false := by
        have := hk.1
        rw [Nat.testBit_or, Bool.or_eq_false_iff] at this
        exact this.2
      have hWw : W (r_w P j b) = w (r_w P j b) * 1048576 := by rw [hW _ w1, hsi, if_neg (by decide)]
      have hd := w_dn_pos (j := j) (by omega)
      have hbd : 1 ≤ b * w_dn j := Nat.mul_pos (by omega) hd
      have hz : k_day P W K j 0 (r_w P j b) ≤ c * 1048576 + r := (ih (by omega) h s a c r hR (r_w P j b)).1 hk.2
      have hV : (c + w (r_w P j b)) * 1048576 + (r + b * w_dn j) = (c * 1048576 + r) + w (r_w P j b) * 1048576 + b * w_dn j := by rw [Nat.add_mul]; omega
      rw [hV]
      have hnew : ∀ k, k < 2 → (i = r_w P j b ∨ i = r_o P j b) → k_day P W K (j + 1) k i ≤ (c * 1048576 + r) + w (r_w P j b) * 1048576 + b * w_dn j := fun k hk2 hi => by
        have := k_say (P := P) (K := K) (W := W) (j := j) hb hk2 hi
        rw [hWw] at this
        omega
      have hsplit : (r_h P j b h).testBit i = true → h.testBit i = true ∨ (i = r_w P j b ∨ i = r_o P j b) := by
        intro e
        unfold r_h at e
        rw [Nat.testBit_or, Nat.testBit_or, tb_p, tb_p] at e
        rw [Bool.or_eq_true, Bool.or_eq_true] at e
        rcases e with (e | e) | e
        · exact Or.inl e
        · exact Or.inr (Or.inl (of_decide_eq_true e).symm)
        · exact Or.inr (Or.inr (of_decide_eq_true e).symm)
      refine ⟨fun e => ?_, fun e => ?_, fun e => ?_⟩
      · rw [Nat.testBit_or, Bool.or_eq_true] at e
        rcases e with e | e
        · have := i1 (by rw [Nat.testBit_or, e]; rfl)
          omega
        · rcases hsplit e with e | e
          · have := i1 (by rw [Nat.testBit_or, e, Bool.or_true])
            omega
          · exact hnew 0 (by decide) e
      · rcases hsplit e with e | e
        · have := i2 e
          omega
        · exact hnew 1 (by decide) e
      · unfold r_s at e
        split at e
        · rw [Nat.testBit_or, Bool.or_eq_true, tb_p] at e
          rcases e with e | e
          · have := i3 e
            omega
          · have e : r_w P j b = i := of_decide_eq_true e
            rw [← e]
            have := k_day_up (P := P) (K := K) (W := W) j 0 (r_w P j b)
            omega
        · rw [Nat.zero_testBit] at e; exact absurd e (by decide)
/-- and a chain is a day that can go so -/
theorem r_high {W : Nat → Nat} (hP : s_POK P) (hw : ∀ x, x < P 0 0 → w x ≤ 99) (hW : r_W si w W (P 0 0)) : ∀ j, j ≤ P 2 0 → ∀ k i, k < 2 → k_day P W K j k i < FAR → ∃ h s a c r, rR P K si w j h s a c r ∧ c * 1048576 + r = k_day P W K j k i ∧ (k = 0 → (K ||| h).testBit i = true) ∧ (k = 1 → h.testBit i = true) := by
  have h12 := hP.2.2.1
  intro j
  induction j with
  | zero =>
    intro _ k i hk hlt
    have e : k_day P W K 0 k i = k_0 K k i := rfl
    rw [e] at hlt ⊢
    unfold k_0 at hlt ⊢
    by_cases hc : k = 0 ∧ (K / 2 ^ i) &&& 1 ≠ 0
    · rw [if_pos hc]
      refine ⟨0, 0, 0, 0, 0, ⟨rfl, rfl, rfl, rfl, rfl⟩, rfl, fun _ => ?_, fun e => ?_⟩
      · rw [Nat.or_zero]; exact (bitN_iff K i).mp hc.2
      · omega
    · rw [if_neg hc] at hlt
      exact absurd hlt (Nat.lt_irrefl _)
  | succ j ih =>
    intro hj k i hk hlt
    have same : k_day P W K (j + 1) k i = k_day P W K j k i → ∃ h s a c r, rR P K si w (j + 1) h s a c r ∧ c * 1048576 + r = k_day P W K (j + 1) k i ∧ (k = 0 → (K ||| h).testBit i = true) ∧ (k = 1 → h.testBit i = true) := by
      intro e
      rw [e] at hlt ⊢
      obtain ⟨h, s, a, c, r, hR, e1, e2, e3⟩ := ih (by omega) k i hk hlt
      exact ⟨h, _, a, c, r, hR.no, e1, e2, e3⟩
    -- a chain on, by b
    have on : ∀ b, (b = 1 ∨ b = 2) → (i = r_w P j b ∨ i = r_o P j b) → k_day P W K (j + 1) k i = k_day P W K j 0 (r_w P j b) + W (r_w P j b) + b * w_dn j → ∃ h s a c r, rR P K si w (j + 1) h s a c r ∧ c * 1048576 + r = k_day P W K (j + 1) k i ∧ (k = 0 → (K ||| h).testBit i = true) ∧ (k = 1 → h.testBit i = true) := by
      intro b hb hi e
      obtain ⟨w1, w2, w3⟩ := r_wo hP (j := j) (by omega) b
      rw [e] at hlt ⊢
      obtain ⟨h, s, a, c, r, hR, e1, e2, e3⟩ := ih (by omega) 0 (r_w P j b) (by decide) (by omega)
      have hsi : si.testBit (r_w P j b) = false := by
        cases q : si.testBit (r_w P j b)
        · rfl
        · have := hW _ w1
          rw [q, if_pos rfl] at this
          omega
      have hWw : W (r_w P j b) = w (r_w P j b) * 1048576 := by rw [hW _ w1, hsi, if_neg (by decide)]
      have hs : s.testBit (r_w P j b) = false := by
        cases q : s.testBit (r_w P j b)
        · rfl
        · have := (r_low hP hW j (by omega) h s a c r hR (r_w P j b)).2.2 q
          omega
      have hin : (r_h P j b h).testBit i = true := by
        unfold r_h
        rw [Nat.testBit_or, Nat.testBit_or, tb_p, tb_p]
        rcases hi with rfl | rfl <;> simp
      refine ⟨_, _, _, _, _, hR.yes hb ⟨by rw [Nat.testBit_or, hs, hsi]; rfl, e2 rfl⟩, ?_, fun _ => ?_, fun _ => hin⟩
      · rw [hWw, Nat.add_mul, ← e1]
        clear hlt e1 hW hWw
        omega
      · rw [Nat.testBit_or, hin, Bool.or_true]
    have ek : k_day P W K (j + 1) k i = k_mt P W (k_day P W K j) (r_m P j) (w_dn j) k i := by rw [k_day_succ]; rfl
    unfold k_mt at ek
    by_cases hc : k < 2 ∧ (i = P 3 (r_m P j) ∨ i = P 4 (r_m P j))
    · rw [if_pos hc] at ek
      rcases Nat.le_total (k_day P W K j k i) (k_lst P W (k_day P W K j) (r_m P j) (w_dn j)) with q | q
      · rw [Nat.min_eq_left q] at ek
        exact same ek
      · rw [Nat.min_eq_right q] at ek
        unfold k_lst at ek
        have r1 : r_w P j 1 = P 3 (r_m P j) ∧ r_o P j 1 = P 4 (r_m P j) := by unfold r_w r_o; rw [if_pos rfl, if_pos rfl]; exact ⟨rfl, rfl⟩
        have r2 : r_w P j 2 = P 4 (r_m P j) ∧ r_o P j 2 = P 3 (r_m P j) := by unfold r_w r_o; rw [if_neg (by decide), if_neg (by decide)]; exact ⟨rfl, rfl⟩
        rcases Nat.le_total (k_day P W K j 0 (P 3 (r_m P j)) + W (P 3 (r_m P j)) + w_dn j) (k_day P W K j 0 (P 4 (r_m P j)) + W (P 4 (r_m P j)) + 2 * w_dn j) with q2 | q2
        · rw [Nat.min_eq_left q2] at ek
          exact on 1 (Or.inl rfl) (by rw [r1.1, r1.2]; exact hc.2) (by rw [ek, r1.1]; omega)
        · rw [Nat.min_eq_right q2] at ek
          exact on 2 (Or.inr rfl) (by rw [r2.1, r2.2]; exact hc.2.symm) (by rw [ek, r2.1])
    · rw [if_neg hc] at ek
      exact same ek
end
