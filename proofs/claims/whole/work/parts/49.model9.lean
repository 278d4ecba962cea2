section
variable {P C : w_R}
/-- the model's dusk: what falls because it was not said again, then by what it leans on, in order -/
def d_1 (C : w_R) (p : Nat) : Nat := if q_st C p = 1 ∧ (C 5 0).testBit p = false then 2 else q_st C p
theorem q_st_undo' {p q : Nat} (hC : COK C) (hq : q < 32) : q_st (s_undo C p) q = if q = p then 2 else q_st C q := q_st_undo hC hq
theorem dusk1_st {p q : Nat} (hC : COK C) (hq : q < 32) : q_st (s_dusk1 P C p) q = if q = p ∧ (C 3 0).testBit p = true ∧ ¬ ((C 5 0).testBit p = true ∧ P 11 p &&& C 4 0 = 0) then 2 else q_st C q := by
  have e1 : (C 3 0 / 2 ^ p) &&& 1 ≠ 0 ↔ (C 3 0).testBit p = true := bitN_iff _ _
  have e5 : (C 5 0 / 2 ^ p) &&& 1 ≠ 0 ↔ (C 5 0).testBit p = true := bitN_iff _ _
  unfold s_dusk1
  (try dsimp only)
  rw [q_st_of (C := if (C 3 0 / 2 ^ p) &&& 1 ≠ 0 ∧ ¬ ((C 5 0 / 2 ^ p) &&& 1 ≠ 0 ∧ P 11 p &&& C 4 0 = 0) then s_undo C p else C) (by rw [w_put_other _ (Or.inl (by decide)), w_put_other _ (Or.inl (by decide))]) (by rw [w_put_other _ (Or.inl (by decide)), w_put_other _ (Or.inl (by decide))])]
  simp only [e1, e5]
  by_cases h : (C 3 0).testBit p = true ∧ ¬ ((C 5 0).testBit p = true ∧ P 11 p &&& C 4 0 = 0)
  · rw [if_pos h, q_st_undo hC hq]
    by_cases e : q = p
    · rw [if_pos e, if_pos ⟨e, h⟩]
    · rw [if_neg e, if_neg (fun w => e w.1)]
  · rw [if_neg h, if_neg (fun w => h w.2)]
theorem dusk1_5 (p : Nat) : s_dusk1 P C p 5 0 = C 5 0 := by
  unfold s_dusk1
  (try dsimp only)
  rw [w_put_other _ (Or.inl (by decide)), w_put_other _ (Or.inl (by decide))]
  split
  · exact s_undo_at C p 5 0 (by decide) (by decide) (by decide) (by decide)
  · rfl
theorem dusk1_3 {p q : Nat} (hC : COK C) (hq : q < 32) (hne : q ≠ p) : (s_dusk1 P C p 3 0).testBit q = (C 3 0).testBit q ∧ (s_dusk1 P C p 4 0).testBit q = (C 4 0).testBit q := by
  unfold s_dusk1
  (try dsimp only)
  rw [w_put_other _ (Or.inl (by decide)), w_put_other _ (Or.inl (by decide)), w_put_other _ (Or.inl (by decide)), w_put_other _ (Or.inl (by decide))]
  have e2 : ¬ p = q := fun h => hne h.symm
  split
  · rw [s_undo_3, s_undo_4, Nat.testBit_and, Nat.testBit_or, tb_mI hq, tb_p]
    simp [e2]
  · exact ⟨rfl, rfl⟩
end
