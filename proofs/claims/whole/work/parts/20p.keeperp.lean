/-! KEEPING, by one saying a day: the same least sum, and the same first row -/
abbrev FAS : Nat := 268435456
/-- the least sum of the days behind one on which it was said at meeting m -/
def g_bh (P : w_R) (f : Nat → Nat) (m : Nat) : Nat := min (f (P 3 m)) (f (P 4 m))
def g_in (P : w_R) (F : Nat) (W f : Nat → Nat) : Nat → Nat → Nat
  | 0, _ => F
  | m + 1, i => if i = P 3 m ∨ i = P 4 m then min (g_in P F W f m i) (W i + g_bh P f m) else g_in P F W f m i
def g_some (P : w_R) (F : Nat) (W : Nat → Nat) : Nat → Nat → Nat
  | 0, _ => 0
  | n + 1, i => g_in P F W (g_some P F W n) (P 2 0) i
section
variable {P : w_R} {F : Nat} {W f : Nat → Nat}
theorem g_bh_l (m : Nat) {y : Nat} (hy : y = P 3 m ∨ y = P 4 m) : g_bh P f m ≤ f y := by
  unfold g_bh
  rcases hy with rfl | rfl
  · exact Nat.min_le_left _ _
  · exact Nat.min_le_right _ _
theorem g_in_le : ∀ m i, g_in P F W f m i ≤ F := by
  intro m
  induction m with
  | zero => intro i; exact Nat.le_refl _
  | succ m ih =>
    intro i
    have := ih i
    unfold g_in
    split
    · exact Nat.le_trans (Nat.min_le_left _ _) this
    · exact this
theorem g_some_le (n i : Nat) : g_some P F W n i ≤ F := by
  cases n with
  | zero => exact Nat.zero_le _
  | succ n => exact g_in_le _ _
theorem g_in_at {i : Nat} : ∀ {M m : Nat}, m < M → (i = P 3 m ∨ i = P 4 m) → g_in P F W f M i ≤ W i + g_bh P f m := by
  intro M
  induction M with
  | zero => intro m h; exact absurd h (Nat.not_lt_zero _)
  | succ M ih =>
    intro m hm hi
    unfold g_in
    by_cases e : m = M
    · rw [← e, if_pos hi]
      exact Nat.min_le_right _ _
    · have h1 := ih (show m < M by omega) hi
      split
      · exact Nat.le_trans (Nat.min_le_left _ _) h1
      · exact h1
theorem g_in_lo {x i : Nat} (hF : x ≤ F) : ∀ M, (∀ m, m < M → (i = P 3 m ∨ i = P 4 m) → x ≤ W i + g_bh P f m) → x ≤ g_in P F W f M i := by
  intro M
  induction M with
  | zero => intro _; exact hF
  | succ M ih =>
    intro h
    have h1 := ih (fun m hm => h m (by omega))
    unfold g_in
    split
    · rename_i e
      exact Nat.le_min.mpr ⟨h1, h M (by omega) e⟩
    · exact h1
theorem g_in_mono {f' : Nat → Nat} (h : ∀ i, f i ≤ f' i) : ∀ m i, g_in P F W f m i ≤ g_in P F W f' m i := by
  intro m
  induction m with
  | zero => intro i; exact Nat.le_refl _
  | succ m ih =>
    intro i
    have h1 := ih i
    have h3 := h (P 3 m)
    have h4 := h (P 4 m)
    unfold g_in g_bh
    split
    · omega
    · exact h1
theorem g_some_mono : ∀ n i, g_some P F W n i ≤ g_some P F W (n + 1) i := by
  intro n
  induction n with
  | zero => intro i; exact Nat.zero_le _
  | succ n ih => intro i; exact g_in_mono ih _ _
/-- who tells another first pays no more than that -/
theorem g_B {n m x y : Nat} (hm : m < P 2 0) (hx : x = P 3 m ∨ x = P 4 m) (hy : y = P 3 m ∨ y = P 4 m) : g_some P F W n x ≤ W x + g_some P F W n y := by
  cases n with
  | zero => exact Nat.zero_le _
  | succ n =>
    have h1 : g_some P F W (n + 1) x ≤ W x + g_bh P (g_some P F W n) m := g_in_at hm hx
    have h2 := g_bh_l (P := P) (f := g_some P F W n) m hy
    have h3 := g_some_mono (P := P) (F := F) (W := W) n y
    omega
theorem g_mod (hW : ∀ i, W i % 1048576 = 0) (hF : F % 1048576 = 0) : ∀ n i, g_some P F W n i % 1048576 = 0 := by
  intro n
  induction n with
  | zero => intro i; rfl
  | succ n ih =>
    have h : ∀ m i, g_in P F W (g_some P F W n) m i % 1048576 = 0 := by
      intro m
      induction m with
      | zero => intro i; exact hF
      | succ m ihm =>
        intro i
        have h1 := ihm i
        have h2 := hW i
        have h3 := ih (P 3 m)
        have h4 := ih (P 4 m)
        unfold g_in g_bh
        generalize g_in P F W (g_some P F W n) m i = a at h1 ⊢
        generalize g_some P F W n (P 3 m) = b at h3 ⊢
        generalize g_some P F W n (P 4 m) = c at h4 ⊢
        generalize W i = e at h2 ⊢
        split <;> omega
    exact fun i => h _ i
end
section
variable {P : w_R} {W : Nat → Nat} {K : Nat}
theorem g_up1 (j k i : Nat) : k_day P W K (j + 1) k i ≤ k_day P W K j k i := by
  rw [k_day_succ]
  unfold k_mt
  split
  · exact Nat.min_le_left _ _
  · exact Nat.le_refl _
theorem g_up {j : Nat} (k i : Nat) : ∀ n, k_day P W K (j + n) k i ≤ k_day P W K j k i := by
  intro n
  induction n with
  | zero => exact Nat.le_refl _
  | succ n ih => exact Nat.le_trans (g_up1 (j + n) k i) ih
/-- one who knows it says it: both have heard it for that much -/
theorem g_tell {j w t : Nat} (hj : j < P 2 0) (hw : w < 2) (hb : (K / 2 ^ k_sp P ((s_ord P).getD j 0) w) &&& 1 ≠ 0) (ht : t = P 3 ((s_ord P).getD j 0) ∨ t = P 4 ((s_ord P).getD j 0)) : k_heard P W K t ≤ W (k_sp P ((s_ord P).getD j 0) w) + (w + 1) * w_dn j := by
  have h0 : k_day P W K j 0 (k_sp P ((s_ord P).getD j 0) w) ≤ 0 := by
    have h := g_up (P := P) (W := W) (K := K) (j := 0) 0 (k_sp P ((s_ord P).getD j 0) w) j
    rw [Nat.zero_add] at h
    refine Nat.le_trans h ?_
    show k_0 K 0 _ ≤ 0
    unfold k_0
    rw [if_pos ⟨rfl, hb⟩]
    exact Nat.le_refl _
  have h1 : k_heard P W K t ≤ k_day P W K (j + 1) 1 t := by
    have h := g_up (P := P) (W := W) (K := K) (j := j + 1) 1 t (P 2 0 - (j + 1))
    rw [show j + 1 + (P 2 0 - (j + 1)) = P 2 0 by omega] at h
    exact h
  refine Nat.le_trans h1 ?_
  rw [k_day_succ]
  unfold k_mt
  rw [if_pos ⟨by decide, ht⟩]
  refine Nat.le_trans (Nat.min_le_right _ _) ?_
  unfold k_lst
  rcases (show w = 0 ∨ w = 1 by omega) with rfl | rfl
  · have e : k_sp P ((s_ord P).getD j 0) 0 = P 3 ((s_ord P).getD j 0) := rfl
    rw [e] at h0 ⊢
    refine Nat.le_trans (Nat.min_le_left _ _) ?_
    omega
  · have e : k_sp P ((s_ord P).getD j 0) 1 = P 4 ((s_ord P).getD j 0) := rfl
    rw [e] at h0 ⊢
    refine Nat.le_trans (Nat.min_le_right _ _) ?_
    omega
/-- what no saying of a knower goes below, no chain goes below -/
theorem g_low {G n : Nat} (hP : s_POK P) (hG : G ≤ FAR) (h : ∀ j, j < P 2 0 → ∀ w, w < 2 → (K / 2 ^ k_sp P ((s_ord P).getD j 0) w) &&& 1 ≠ 0 → G ≤ W (k_sp P ((s_ord P).getD j 0) w) + g_bh P (g_some P FAR W n) ((s_ord P).getD j 0) + (w + 1) * w_dn j) :
    ∀ j, j ≤ P 2 0 → ∀ i, ((K / 2 ^ i) &&& 1 ≠ 0 ∨ G ≤ k_day P W K j 0 i + g_some P FAR W n i) ∧ G ≤ k_day P W K j 1 i + g_some P FAR W n i := by
  intro j
  induction j with
  | zero =>
    intro _ i
    show ((K / 2 ^ i) &&& 1 ≠ 0 ∨ G ≤ k_0 K 0 i + _) ∧ G ≤ k_0 K 1 i + _
    refine ⟨?_, ?_⟩
    · by_cases hb : (K / 2 ^ i) &&& 1 ≠ 0
      · exact Or.inl hb
      · right
        unfold k_0
        rw [if_neg (fun e => hb e.2)]
        exact Nat.le_trans hG (Nat.le_add_right _ _)
    · unfold k_0
      rw [if_neg (fun e => absurd e.1 (by decide))]
      exact Nat.le_trans hG (Nat.le_add_right _ _)
  | succ j ih =>
    intro hj i
    have ih := ih (by omega)
    have hm := s_ord_getD_lt hP (show j < P 2 0 by omega)
    have h0 := h j (by omega) 0 (by decide)
    have h1 := h j (by omega) 1 (by decide)
    rw [k_day_succ]
    generalize (s_ord P).getD j 0 = m at hm h0 h1 ⊢
    have e0 : k_sp P m 0 = P 3 m := rfl
    have e1 : k_sp P m 1 = P 4 m := rfl
    rw [e0] at h0
    rw [e1] at h1
    have hl : (i = P 3 m ∨ i = P 4 m) → G ≤ k_lst P W (k_day P W K j) m (w_dn j) + g_some P FAR W n i := by
      intro hi
      have hb := g_bh_l (P := P) (f := g_some P FAR W n) m hi
      have a0 : G ≤ k_day P W K j 0 (P 3 m) + W (P 3 m) + w_dn j + g_some P FAR W n i := by
        rcases (ih (P 3 m)).1 with q | q
        · have := h0 q
          omega
        · have := g_B (P := P) (F := FAR) (W := W) (n := n) hm (Or.inl rfl) hi
          omega
      have a1 : G ≤ k_day P W K j 0 (P 4 m) + W (P 4 m) + 2 * w_dn j + g_some P FAR W n i := by
        rcases (ih (P 4 m)).1 with q | q
        · have := h1 q
          omega
        · have := g_B (P := P) (F := FAR) (W := W) (n := n) hm (Or.inr rfl) hi
          omega
      unfold k_lst
      omega
    have one : ∀ k, k < 2 → G ≤ k_day P W K j k i + g_some P FAR W n i → G ≤ k_mt P W (k_day P W K j) m (w_dn j) k i + g_some P FAR W n i := by
      intro k hk q
      unfold k_mt
      split
      · rename_i e
        have := hl e.2
        omega
      · exact q
    refine ⟨?_, one 1 (by decide) (ih i).2⟩
    rcases (ih i).1 with q | q
    · exact Or.inl q
    · exact Or.inr (one 0 (by decide) q)
theorem g_min_le {f : Nat → Nat} : ∀ {n i : Nat}, i < n → k_min f n ≤ f i := by
  intro n
  induction n with
  | zero => intro i hi; exact absurd hi (Nat.not_lt_zero _)
  | succ n ih =>
    intro i hi
    rw [k_min_succ]
    by_cases e : i = n
    · rw [e]; exact Nat.min_le_right _ _
    · exact Nat.le_trans (Nat.min_le_left _ _) (ih (by omega))
theorem g_min_lo {f : Nat → Nat} {x : Nat} (hx : x ≤ FAR) : ∀ n, (∀ i, i < n → x ≤ f i) → x ≤ k_min f n := by
  intro n
  induction n with
  | zero => intro _; exact hx
  | succ n ih =>
    intro h
    rw [k_min_succ]
    exact Nat.le_min.mpr ⟨ih (fun i hi => h i (by omega)), h n (by omega)⟩
theorem ord_idx {m : Nat} (hP : s_POK P) (hm : m < P 2 0) : (s_ord P).idxOf m < P 2 0 ∧ (s_ord P).getD ((s_ord P).idxOf m) 0 = m := by
  have h1 : m ∈ s_ord P := (s_ord_mem hP).mpr hm
  have h2 := List.idxOf_lt_length_of_mem h1
  refine ⟨by rw [s_ord_len hP] at h2; exact h2, ?_⟩
  rw [List.getD_eq_getElem?_getD, List.getElem?_eq_getElem h2]
  exact List.getElem_idxOf h2
theorem g_bit (p i : Nat) : (2 ^ p / 2 ^ i) &&& 1 ≠ 0 ↔ i = p := by
  have h : (2 ^ p / 2 ^ i) &&& 1 ≠ 0 ↔ (2 ^ p).testBit i = true := by
    rw [Nat.testBit_eq_decide_div_mod_eq, Nat.and_one_is_mod]
    simp
  rw [h, Nat.testBit_two_pow]
  simp only [decide_eq_true_eq]
  exact ⟨fun e => e.symm, fun e => e.symm⟩
theorem g_arg (f : Nat → Nat) (m : Nat) : ∃ t, (t = P 3 m ∨ t = P 4 m) ∧ f t = g_bh P f m := by
  unfold g_bh
  rcases Nat.le_total (f (P 3 m)) (f (P 4 m)) with q | q
  · exact ⟨_, Or.inl rfl, (Nat.min_eq_left q).symm⟩
  · exact ⟨_, Or.inr rfl, (Nat.min_eq_right q).symm⟩
/-- one saying a day costs as little as chains do -/
theorem g_eq (hP : s_POK P) (hW : ∀ i, W i % 1048576 = 0) : ∀ n i, k_some P W n i = g_some P FAR W n i := by
  intro n
  induction n with
  | zero => intro i; rfl
  | succ n ih =>
    intro i
    have hd := g_mod (P := P) (F := FAR) hW (by decide)
    apply Nat.le_antisymm
    · refine g_in_lo (k_some_le P W (n + 1) i) (P 2 0) (fun m hm hi => ?_)
      obtain ⟨j1, j2⟩ := ord_idx hP hm
      obtain ⟨t, t1, t2⟩ := g_arg (P := P) (g_some P FAR W n) m
      obtain ⟨f1, f2, -⟩ := hP.2.2.2.1 m hm
      have ht : t < P 0 0 := by rcases t1 with rfl | rfl <;> assumption
      refine Nat.le_trans (g_min_le (f := fun t => k_ds P W i t + k_some P W n t) ht) ?_
      show k_ds P W i t + k_some P W n t ≤ _
      rw [ih t, t2]
      apply Nat.add_le_add_right
      have hdn := w_dn_lt ((s_ord P).idxOf m)
      have hWi := hW i
      have key : ∃ w, w < 2 ∧ k_sp P m w = i := by
        rcases hi with rfl | rfl
        · exact ⟨0, by decide, rfl⟩
        · exact ⟨1, by decide, rfl⟩
      obtain ⟨w, w1, w2⟩ := key
      have hh := g_tell (W := W) (K := 2 ^ i) (t := t) j1 w1 (by rw [j2, w2]; exact (g_bit i i).mpr rfl) (by rw [j2]; exact t1)
      rw [j2, w2] at hh
      unfold k_ds
      have hx : (w + 1) * w_dn ((s_ord P).idxOf m) ≤ 2 * w_dn ((s_ord P).idxOf m) := Nat.mul_le_mul_right _ (by omega)
      generalize (w + 1) * w_dn ((s_ord P).idxOf m) = r at hh hx
      generalize k_heard P W (2 ^ i) t = a at hh ⊢
      generalize W i = b at hh hWi ⊢
      omega
    · refine g_min_lo (g_some_le (n + 1) i) _ (fun t ht => ?_)
      have h1 := (g_low (P := P) (W := W) (K := 2 ^ i) (G := g_some P FAR W (n + 1) i) (n := n) hP (g_some_le _ _) (fun j hj w hw hb => by
        have e := (g_bit i _).mp hb
        rw [e]
        have hm := s_ord_getD_lt hP hj
        have h2 : g_some P FAR W (n + 1) i ≤ W i + g_bh P (g_some P FAR W n) ((s_ord P).getD j 0) := by
          refine g_in_at hm ?_
          rw [← e]
          unfold k_sp
          split
          · exact Or.inl rfl
          · exact Or.inr rfl
        exact Nat.le_trans h2 (Nat.le_add_right _ _)) (P 2 0) (Nat.le_refl _) t).2
      have h1 : g_some P FAR W (n + 1) i ≤ k_heard P W (2 ^ i) t + g_some P FAR W n t := h1
      show _ ≤ k_ds P W i t + k_some P W n t
      rw [ih t]
      unfold k_ds
      have d1 := hd (n + 1) i
      have d2 := hd n t
      generalize g_some P FAR W (n + 1) i = a at h1 d1 ⊢
      generalize g_some P FAR W n t = b at h1 d2 ⊢
      generalize k_heard P W (2 ^ i) t = c at h1 ⊢
      omega
/-- a saying at a place of the day, by a knower; the least of some places -/
def g_e (P : w_R) (W : Nat → Nat) (K n j w : Nat) : Nat := if (K / 2 ^ k_sp P ((s_ord P).getD j 0) w) &&& 1 ≠ 0 then W (k_sp P ((s_ord P).getD j 0) w) + g_bh P (g_some P FAR W n) ((s_ord P).getD j 0) + (w + 1) * w_dn j else FAR
def g_t (P : w_R) (W : Nat → Nat) (K n : Nat) : Nat → Nat → Nat
  | 0, _ => FAR
  | k + 1, j => min (min (g_t P W K n k (j + 1)) (g_e P W K n j 0)) (g_e P W K n j 1)
theorem g_t_le {n : Nat} : ∀ k j, g_t P W K n k j ≤ FAR ∧ ∀ q, j ≤ q → q < j + k → ∀ w, w < 2 → g_t P W K n k j ≤ g_e P W K n q w := by
  intro k
  induction k with
  | zero => intro j; exact ⟨Nat.le_refl _, fun q h1 h2 => by omega⟩
  | succ k ih =>
    intro j
    obtain ⟨a1, a2⟩ := ih (j + 1)
    have e : g_t P W K n (k + 1) j = min (min (g_t P W K n k (j + 1)) (g_e P W K n j 0)) (g_e P W K n j 1) := rfl
    refine ⟨by omega, fun q h1 h2 w hw => ?_⟩
    by_cases hq : q = j
    · subst hq
      rcases (show w = 0 ∨ w = 1 by omega) with rfl | rfl <;> omega
    · have := a2 q (by omega) (by omega) w hw
      omega
theorem g_t_lo {n x : Nat} (hx : x ≤ FAR) : ∀ k j, (∀ q, j ≤ q → q < j + k → ∀ w, w < 2 → x ≤ g_e P W K n q w) → x ≤ g_t P W K n k j := by
  intro k
  induction k with
  | zero => intro j _; exact hx
  | succ k ih =>
    intro j h
    have a := ih (j + 1) (fun q h1 h2 => h q (by omega) (by omega))
    have b0 := h j (Nat.le_refl _) (by omega) 0 (by decide)
    have b1 := h j (Nat.le_refl _) (by omega) 1 (by decide)
    show x ≤ min (min _ _) _
    omega
theorem g_best (hP : s_POK P) (hW : ∀ i, W i % 1048576 = 0) (n : Nat) : k_best P W K n = g_t P W K n (P 2 0) 0 := by
  apply Nat.le_antisymm
  · refine g_t_lo (k_min_le _ _) (P 2 0) 0 (fun q _ hq w hw => ?_)
    rw [Nat.zero_add] at hq
    unfold g_e
    split
    · rename_i hb
      have hm := s_ord_getD_lt hP hq
      obtain ⟨t, t1, t2⟩ := g_arg (P := P) (g_some P FAR W n) ((s_ord P).getD q 0)
      obtain ⟨f1, f2, -⟩ := hP.2.2.2.1 _ hm
      have ht : t < P 0 0 := by rcases t1 with e | e <;> rw [e] <;> assumption
      refine Nat.le_trans (g_min_le (f := fun p => k_heard P W K p + k_some P W n p) ht) ?_
      show k_heard P W K t + k_some P W n t ≤ _
      rw [g_eq hP hW n t, t2]
      have := g_tell (W := W) (K := K) (t := t) hq hw hb t1
      omega
    · exact k_min_le _ _
  · obtain ⟨a1, a2⟩ := g_t_le (P := P) (W := W) (K := K) (n := n) (P 2 0) 0
    refine g_min_lo a1 _ (fun t ht => ?_)
    rw [g_eq hP hW n t]
    refine (g_low (P := P) (W := W) (K := K) (n := n) hP a1 (fun j hj w hw hb => ?_) (P 2 0) (Nat.le_refl _) t).2
    have := a2 j (Nat.zero_le _) (by omega) w hw
    unfold g_e at this
    rw [if_pos hb] at this
    exact this
end
/-! the same in small numbers, as the class has them -/
def Sc (n x y : Nat) : Prop := (x = FAS ∧ y = FAR) ∨ (x ≤ 99 * n ∧ y = x * 1048576)
theorem Sc.mn {n a b c e : Nat} (hn : n ≤ 400) (h1 : Sc n a b) (h2 : (FAS ≤ c ∧ FAR ≤ e) ∨ (c ≤ 99 * n ∧ e = c * 1048576)) : Sc n (min a c) (min b e) := by
  have hS : FAS = 268435456 := rfl
  have hF : FAR = 1125899906842624 := rfl
  have e1 : min a c = if a ≤ c then a else c := Nat.min_def
  have e2 : min b e = if b ≤ e then b else e := Nat.min_def
  unfold Sc at h1 ⊢
  rw [e1, e2]
  rcases h1 with ⟨p1, p2⟩ | ⟨p1, p2⟩ <;> rcases h2 with ⟨q1, q2⟩ | ⟨q1, q2⟩ <;> split <;> split <;> omega
section
variable {P : w_R} {W w : Nat → Nat} {K : Nat}
theorem Sc.bh {n m : Nat} {f g : Nat → Nat} (hn : n ≤ 400) (h3 : Sc n (f (P 3 m)) (g (P 3 m))) (h4 : Sc n (f (P 4 m)) (g (P 4 m))) : Sc n (g_bh P f m) (g_bh P g m) := by
  refine Sc.mn hn h3 ?_
  rcases h4 with ⟨a, b⟩ | ⟨a, b⟩
  · exact Or.inl ⟨Nat.le_of_eq a.symm, Nat.le_of_eq b.symm⟩
  · exact Or.inr ⟨a, b⟩
theorem Sc.sum {n a b c e : Nat} (h1 : Sc 1 a b) (h2 : Sc n c e) : (FAS ≤ a + c ∧ FAR ≤ b + e) ∨ (a + c ≤ 99 * (n + 1) ∧ b + e = (a + c) * 1048576) := by
  have hS : FAS = 268435456 := rfl
  have hF : FAR = 1125899906842624 := rfl
  unfold Sc at h1 h2
  rcases h1 with ⟨p1, p2⟩ | ⟨p1, p2⟩ <;> rcases h2 with ⟨q1, q2⟩ | ⟨q1, q2⟩ <;> omega
theorem sc_some (hP : s_POK P) (hw : ∀ i, i < P 0 0 → Sc 1 (w i) (W i)) : ∀ n, n ≤ 400 → ∀ i, i < P 0 0 → Sc n (g_some P FAS w n i) (g_some P FAR W n i) := by
  intro n
  induction n with
  | zero =>
    intro _ i _
    show Sc 0 0 0
    exact Or.inr ⟨Nat.zero_le _, (Nat.zero_mul _).symm⟩
  | succ n ih =>
    intro hn
    have ih := ih (by omega)
    have h : ∀ m, m ≤ P 2 0 → ∀ i, i < P 0 0 → Sc (n + 1) (g_in P FAS w (g_some P FAS w n) m i) (g_in P FAR W (g_some P FAR W n) m i) := by
      intro m
      induction m with
      | zero => intro _ i _; exact Or.inl ⟨rfl, rfl⟩
      | succ m ihm =>
        intro hm i hi
        have h1 := ihm (by omega) i hi
        obtain ⟨f1, f2, -⟩ := hP.2.2.2.1 m (by omega)
        unfold g_in
        split
        · exact Sc.mn hn h1 (Sc.sum (hw i hi) (Sc.bh (by omega) (ih _ f1) (ih _ f2)))
        · exact h1
    exact h (P 2 0) (Nat.le_refl _)
/-- what the class keeps of the least sum so far: G its number, q above its digit's -/
def BI (P : w_R) (G q ls pl dg : Nat) : Prop := (ls = FAS ∧ G = FAR) ∨ (ls < FAS ∧ pl < P 2 0 ∧ (dg = 1 ∨ dg = 2) ∧ dg * w_dn pl ≤ q ∧ G = ls * 1048576 + dg * w_dn pl)
theorem BI.mono {G q q' ls pl dg : Nat} (h : BI P G q ls pl dg) (hq : q ≤ q') : BI P G q' ls pl dg := by
  rcases h with h | ⟨a, b, c, e, f⟩
  · exact Or.inl h
  · exact Or.inr ⟨a, b, c, Nat.le_trans e hq, f⟩
theorem w_dn_12 (j : Nat) : j < 12 → 1 ≤ w_dn j ∧ 2 * w_dn j < 1048576 := by
  intro h
  have : ∀ j, j < 12 → 1 ≤ w_dn j ∧ 2 * w_dn j < 1048576 := by decide
  exact this j h
theorem w_dn_dec (j : Nat) (h : j < 12) : 2 * w_dn (j + 1) ≤ w_dn j := by
  have : ∀ j, j < 12 → 2 * w_dn (j + 1) ≤ w_dn j := by decide
  exact this j h
/-- a saying more: it is the better one -/
theorem BI.yes {G q ls pl dg j wh s b : Nat} (h : BI P G q ls pl dg) (hj : j < P 2 0) (h12 : j < 12) (hw : wh < 2) (hq : q ≤ (wh + 1) * w_dn j) (hs : (FAS ≤ s ∧ FAR ≤ b) ∨ (s ≤ 40000 ∧ b = s * 1048576)) (hc : s < ls) : BI P (min G (b + (wh + 1) * w_dn j)) ((wh + 1) * w_dn j) s j (wh + 1) := by
  have hS : FAS = 268435456 := rfl
  have hF : FAR = 1125899906842624 := rfl
  obtain ⟨d1, d2⟩ := w_dn_12 j h12
  have hx : (wh + 1) * w_dn j ≤ 2 * w_dn j := Nat.mul_le_mul_right _ (by omega)
  have hls : ls ≤ FAS := by rcases h with ⟨a, -⟩ | ⟨a, -⟩ <;> omega
  have hG : (ls + 0) * 1048576 ≤ G ∨ FAR ≤ G := by
    rcases h with ⟨a, b⟩ | ⟨a, b, c, e, f⟩
    · right; omega
    · left; rw [f]; omega
  unfold BI
  right
  rcases hs with ⟨s1, s2⟩ | ⟨s1, s2⟩
  · omega
  · generalize (wh + 1) * w_dn j = x at hx hq ⊢
    refine ⟨by omega, hj, by omega, Nat.le_refl _, ?_⟩
    rw [s2]
    apply Nat.min_eq_right
    omega
/-- or it isn't -/
theorem BI.no {G q ls pl dg x s b : Nat} (h : BI P G q ls pl dg) (hq : q ≤ x) (hs : (FAS ≤ s ∧ FAR ≤ b) ∨ (s ≤ 40000 ∧ b = s * 1048576)) (hc : ¬ s < ls) : BI P (min G (b + x)) x ls pl dg := by
  have hS : FAS = 268435456 := rfl
  have hF : FAR = 1125899906842624 := rfl
  have e : min G (b + x) = G := by
    apply Nat.min_eq_left
    rcases h with ⟨a, b⟩ | ⟨a, b, c, e, f⟩
    · omega
    · rw [f]
      generalize dg * w_dn pl = y at e ⊢
      rcases hs with ⟨s1, s2⟩ | ⟨s1, s2⟩ <;> omega
  rw [e]
  exact h.mono hq
theorem BI.far {G q ls pl dg : Nat} (h : BI P G q ls pl dg) (h12 : P 2 0 ≤ 12) : G ≤ FAR := by
  have hS : FAS = 268435456 := rfl
  have hF : FAR = 1125899906842624 := rfl
  rcases h with ⟨a, b⟩ | ⟨a, b, c, e, f⟩
  · omega
  · obtain ⟨d1, d2⟩ := w_dn_12 pl (by omega)
    have hx : dg * w_dn pl ≤ 2 * w_dn pl := Nat.mul_le_mul_right _ (by omega)
    omega
/-- what is known at the end -/
theorem BI.out {G q ls pl dg : Nat} (h : BI P G q ls pl dg) (h12 : P 2 0 ≤ 12) : (if ls < FAS then ls else mI) = (if G < FAR then G / 1048576 else mI) ∧ (G < FAR → pl < P 2 0 ∧ (dg = 1 ∨ dg = 2) ∧ G % 1048576 = dg * w_dn pl) := by
  have hS : FAS = 268435456 := rfl
  have hF : FAR = 1125899906842624 := rfl
  rcases h with ⟨a, b⟩ | ⟨a, b, c, e, f⟩
  · rw [if_neg (by omega), if_neg (by omega)]
    exact ⟨rfl, fun h => by omega⟩
  · obtain ⟨d1, d2⟩ := w_dn_12 pl (by omega)
    have hx : dg * w_dn pl ≤ 2 * w_dn pl := Nat.mul_le_mul_right _ (by omega)
    generalize dg * w_dn pl = y at e f hx ⊢
    rw [if_pos a, if_pos (by omega), f]
    refine ⟨by omega, fun _ => ⟨b, c, by omega⟩⟩
theorem row_digit (p pl dg : Nat) (hp : p < 12) (hpl : pl < 12) (hd : dg < 3) : dg * w_dn pl / 3 ^ (11 - p) % 3 = if p = pl then dg else 0 := by
  have : ∀ p, p < 12 → ∀ pl, pl < 12 → ∀ dg, dg < 3 → dg * w_dn pl / 3 ^ (11 - p) % 3 = if p = pl then dg else 0 := by decide +kernel
  exact this p hp pl hpl dg hd
end
