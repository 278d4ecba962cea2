/-! KEEPING, by chains: a sum carries its first day's row in its low bits, as a number of base 3 -/
abbrev FAR : Nat := 1125899906842624
def k_W (P : w_R) (si : Nat) (bp : Bool) (i : Nat) : Nat := if (si / 2 ^ i) &&& 1 ≠ 0 then FAR else (if bp then P 1 i else 1) * 1048576
/-- the least sums by which each has it (0), has heard it (1), behind a meeting -/
def k_lst (P : w_R) (W : Nat → Nat) (Z : w_R) (m g : Nat) : Nat := min (Z 0 (P 3 m) + W (P 3 m) + g) (Z 0 (P 4 m) + W (P 4 m) + 2 * g)
def k_mt (P : w_R) (W : Nat → Nat) (Z : w_R) (m g : Nat) : w_R := fun k i => if k < 2 ∧ (i = P 3 m ∨ i = P 4 m) then min (Z k i) (k_lst P W Z m g) else Z k i
def k_0 (K : Nat) : w_R := fun k i => if k = 0 ∧ (K / 2 ^ i) &&& 1 ≠ 0 then 0 else FAR
def k_day (P : w_R) (W : Nat → Nat) (K n : Nat) : w_R := (List.range n).foldl (fun Z p => k_mt P W Z ((s_ord P).getD p 0) (w_dn p)) (k_0 K)
def k_heard (P : w_R) (W : Nat → Nat) (K i : Nat) : Nat := k_day P W K (P 2 0) 1 i
def k_ds (P : w_R) (W : Nat → Nat) (p t : Nat) : Nat := k_heard P W (2 ^ p) t / 1048576 * 1048576
def k_min (f : Nat → Nat) (n : Nat) : Nat := (List.range n).foldl (fun a i => min a (f i)) FAR
def k_some (P : w_R) (W : Nat → Nat) : Nat → Nat → Nat
  | 0, _ => 0
  | n + 1, p => k_min (fun t => k_ds P W p t + k_some P W n t) (P 0 0)
def k_best (P : w_R) (W : Nat → Nat) (K n : Nat) : Nat := k_min (fun p => k_heard P W K p + k_some P W n p) (P 0 0)
def KB (Z : w_R) : Prop := ∀ k i, k < 2 → Z k i ≤ FAR
theorem k_mt_b {P : w_R} {W : Nat → Nat} {Z : w_R} {m g : Nat} (h : KB Z) : KB (k_mt P W Z m g) := by
  intro k i hk
  unfold k_mt
  split
  · exact Nat.le_trans (Nat.min_le_left _ _) (h k i hk)
  · exact h k i hk
theorem k_0_b (K : Nat) : KB (k_0 K) := by
  intro k i _
  unfold k_0
  split
  · exact Nat.zero_le _
  · exact Nat.le_refl _
theorem k_day_succ {P : w_R} {W : Nat → Nat} {K n : Nat} : k_day P W K (n + 1) = k_mt P W (k_day P W K n) ((s_ord P).getD n 0) (w_dn n) := by
  unfold k_day
  rw [List.range_succ, List.foldl_append]
  rfl
theorem k_day_b {P : w_R} {W : Nat → Nat} {K : Nat} : ∀ n, KB (k_day P W K n) := by
  intro n
  induction n with
  | zero => exact k_0_b K
  | succ n ih => rw [k_day_succ]; exact k_mt_b ih
theorem k_min_succ (f : Nat → Nat) (n : Nat) : k_min f (n + 1) = min (k_min f n) (f n) := by
  unfold k_min
  rw [List.range_succ, List.foldl_append]
  rfl
theorem k_min_le (f : Nat → Nat) : ∀ n, k_min f n ≤ FAR := by
  intro n
  induction n with
  | zero => exact Nat.le_refl _
  | succ n ih => rw [k_min_succ]; exact Nat.le_trans (Nat.min_le_left _ _) ih
theorem k_some_le (P : w_R) (W : Nat → Nat) (n p : Nat) : k_some P W n p ≤ FAR := by
  cases n with
  | zero => exact Nat.zero_le _
  | succ n => exact k_min_le _ _
theorem k_heard_le (P : w_R) (W : Nat → Nat) (K i : Nat) : k_heard P W K i ≤ FAR := k_day_b _ 1 i (by decide)
theorem k_ds_le (P : w_R) (W : Nat → Nat) (p t : Nat) : k_ds P W p t ≤ FAR := Nat.le_trans (Nat.div_mul_le_self _ _) (k_heard_le _ _ _ _)
theorem w_dn_lt (j : Nat) : w_dn j < 200000 := by
  unfold w_dn
  rw [List.getD_eq_getElem?_getD]
  rcases Nat.lt_or_ge j 12 with h | h
  · rcases (show j = 0 ∨ j = 1 ∨ j = 2 ∨ j = 3 ∨ j = 4 ∨ j = 5 ∨ j = 6 ∨ j = 7 ∨ j = 8 ∨ j = 9 ∨ j = 10 ∨ j = 11 by omega) with rfl | rfl | rfl | rfl | rfl | rfl | rfl | rfl | rfl | rfl | rfl | rfl <;> decide
  · rw [List.getElem?_eq_none (by simpa using h)]
    decide
