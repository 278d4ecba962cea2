section
variable {P C : w_R} {D : Nat → Prop}
theorem HD_st (h : HD P D C) (q : Nat) : q_st C q = 1 ↔ (C 3 0).testBit q = true := by
  unfold q_st
  constructor
  · intro e
    split at e
    · exact absurd e (by decide)
    · split at e
      · assumption
      · exact absurd e (by decide)
  · intro e
    have : (C 4 0).testBit q = false := by
      cases h1 : (C 4 0).testBit q
      · rfl
      · have := ((h q).1 h1).2
        rw [this] at e
        exact absurd e (by decide)
    rw [this, e]
    rfl
theorem lB_iff {j : Nat} (hP : s_POK P) (hj : j < P 6 0) (hC : COK C) (hD : HD P D C) (hs : (C 3 0).testBit j = true) : m_lB P (d_B P C j) j 0 (P 6 0) = true ↔ P 11 j &&& d_C P C j 4 0 = 0 := by
  have h12 := hP.2.2.2.2.1
  obtain ⟨q1, q2, q3, q4, q5, q6⟩ := hP.2.2.2.2.2 j hj
  obtain ⟨a, b, c, e⟩ := d_C_all hP hC hD j (by omega)
  have hsj : (d_C P C j 3 0).testBit j = true := by rw [(e j (Nat.le_refl _) (by omega)).1]; exact hs
  have hlt : ∀ q, (P 11 j).testBit q = true → q < j := by
    intro q hq
    rcases Nat.lt_or_ge q j with h | h
    · exact h
    · have : (P 11 j).testBit q = false := Nat.testBit_lt_two_pow (Nat.lt_of_lt_of_le q6 (Nat.pow_le_pow_right (by decide) h))
      rw [this] at hq
      exact absurd hq (by decide)
  unfold m_lB
  rw [List.all_eq_true]
  constructor
  · intro h
    apply Nat.eq_of_testBit_eq
    intro i
    rw [Nat.testBit_and, Nat.zero_testBit]
    cases hb : (P 11 j).testBit i
    · rfl
    · have hi := hlt i hb
      have h1 := h i (List.mem_range'.mpr ⟨i, by omega, by omega⟩)
      rw [hb] at h1
      have h2 : d_B P C j i = 1 := by simpa using h1
      unfold d_B at h2
      rw [if_pos hi] at h2
      have h3 := (HD_st b i).mp h2
      cases h4 : (d_C P C j 4 0).testBit i
      · rfl
      · rw [((b i).1 h4).2] at h3
        exact absurd h3 (by decide)
  · intro h i hi
    obtain ⟨k, hk, rfl⟩ := List.mem_range'.mp hi
    rw [show 0 + 1 * k = k by omega]
    cases hb : (P 11 j).testBit k
    · rfl
    · have hk2 := hlt k hb
      have h1 : (P 11 j &&& d_C P C j 4 0).testBit k = false := by rw [h, Nat.zero_testBit]
      rw [Nat.testBit_and, hb, Bool.true_and] at h1
      have h2 : (d_C P C j 3 0).testBit k = true := by
        rcases (b j).2.2.2 hsj k hb with q | q
        · exact q
        · rw [q] at h1; exact absurd h1 (by decide)
      have h3 : d_B P C j k = 1 := by
        unfold d_B
        rw [if_pos hk2]
        exact (HD_st b k).mpr h2
      rw [h3]
      rfl
/-- a step of the model's second pass -/
theorem d_step {j : Nat} (hP : s_POK P) (hj : j < P 6 0) (hC : COK C) (hD : HD P D C) : q_st (d_C P C (j + 1)) j = if d_1 C j = 1 ∧ m_lB P (d_B P C j) j 0 (P 6 0) = false then 2 else d_1 C j := by
  have h12 := hP.2.2.2.2.1
  obtain ⟨a, b, c, e⟩ := d_C_all hP hC hD j (by omega)
  obtain ⟨e1, e2⟩ := e j (Nat.le_refl _) (by omega)
  have eq : q_st (d_C P C j) j = q_st C j := by unfold q_st; rw [e1, e2]
  rw [d_C_succ, dusk1_st a (by omega), e1, c, eq]
  by_cases hs : (C 3 0).testBit j = true
  · have h1 : q_st C j = 1 := (HD_st hD j).mpr hs
    have hl := lB_iff hP hj hC hD hs
    cases h5 : (C 5 0).testBit j
    · have hd : d_1 C j = 2 := by unfold d_1; rw [if_pos ⟨h1, h5⟩]
      rw [hd, if_pos ⟨rfl, hs, fun q => absurd q.1 (by decide)⟩, if_neg (fun q => absurd q.1 (by decide))]
    · have hd : d_1 C j = 1 := by unfold d_1; rw [if_neg (fun q => by rw [h5] at q; exact absurd q.2 (by decide))]; exact h1
      rw [hd, h1]
      cases hm : m_lB P (d_B P C j) j 0 (P 6 0)
      · rw [if_pos ⟨rfl, hs, fun q => by rw [hl.mpr q.2] at hm; exact absurd hm (by decide)⟩, if_pos ⟨rfl, rfl⟩]
      · rw [if_neg (fun q => q.2.2 ⟨rfl, hl.mp hm⟩), if_neg (fun q => absurd q.2 (by decide))]
  · have h1 : q_st C j ≠ 1 := fun h => hs ((HD_st hD j).mp h)
    have hd : d_1 C j = q_st C j := by unfold d_1; rw [if_neg (fun q => h1 q.1)]
    rw [hd, if_neg (fun q => hs q.2.1), if_neg (fun q => h1 q.1)]
end
