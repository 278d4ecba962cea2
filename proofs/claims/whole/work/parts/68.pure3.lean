/-! who may have heard, without the tales' table -/
def Sb (a b : Nat) : Prop := ∀ w, a.testBit w = true → b.testBit w = true
theorem Sb.rf {a : Nat} : Sb a a := fun _ h => h
theorem Sb.trans {a b c : Nat} (h : Sb a b) (h' : Sb b c) : Sb a c := fun w e => h' w (h w e)
theorem Sb.zero {a : Nat} : Sb 0 a := fun w e => by rw [Nat.zero_testBit] at e; exact absurd e (by decide)
theorem Sb.orl {a b : Nat} : Sb a (a ||| b) := fun w e => by rw [Nat.testBit_or, e]; rfl
theorem Sb.or {a b c : Nat} (h : Sb a c) (h' : Sb b c) : Sb (a ||| b) c := fun w e => by
  rw [Nat.testBit_or, Bool.or_eq_true] at e
  rcases e with e | e
  · exact h w e
  · exact h' w e
theorem Sb.anti {a b : Nat} (h : Sb a b) (h' : Sb b a) : a = b := by
  apply Nat.eq_of_testBit_eq
  intro i
  cases h1 : a.testBit i <;> cases h2 : b.testBit i
  · rfl
  · rw [h' i h2] at h1; exact h1.symm
  · rw [h i h1] at h2; exact h2
  · rfl
theorem b_cnt_mono {a b : Nat} (h : Sb a b) : ∀ n, b_cnt a n ≤ b_cnt b n := by
  intro n
  induction n with
  | zero => exact Nat.le_refl _
  | succ n ih =>
    rw [b_cnt_succ, b_cnt_succ]
    cases h1 : a.testBit n
    · rw [if_neg (by decide)]; split <;> omega
    · rw [h n h1, if_pos rfl]; omega
theorem b_cnt_eq {a b : Nat} (h : Sb a b) : ∀ n, b_cnt a n = b_cnt b n → ∀ i, i < n → a.testBit i = b.testBit i := by
  intro n
  induction n with
  | zero => intro _ i hi; exact absurd hi (Nat.not_lt_zero _)
  | succ n ih =>
    intro e i hi
    rw [b_cnt_succ, b_cnt_succ] at e
    have hm := b_cnt_mono h n
    have key : b_cnt a n = b_cnt b n ∧ a.testBit n = b.testBit n := by
      cases h1 : a.testBit n
      · cases h2 : b.testBit n
        · rw [h1, h2] at e; exact ⟨by simpa using e, rfl⟩
        · rw [h1, h2] at e; simp at e; omega
      · have h2 := h n h1
        rw [h1, h2] at e
        exact ⟨by simpa using e, h2.symm⟩
    by_cases e2 : i = n
    · rw [e2]; exact key.2
    · exact ih key.1 i (by omega)
theorem b_cnt_lt {a b : Nat} (h : Sb a b) (hne : a ≠ b) (ha : a < 64) (hb : b < 64) : b_cnt a 6 < b_cnt b 6 := by
  rcases Nat.lt_or_ge (b_cnt a 6) (b_cnt b 6) with w | w
  · exact w
  · exfalso
    have e := b_cnt_eq h 6 (Nat.le_antisymm (b_cnt_mono h 6) w)
    apply hne
    apply Nat.eq_of_testBit_eq
    intro i
    by_cases hi : i < 6
    · exact e i hi
    · have h2 : 2 ^ 6 ≤ 2 ^ i := Nat.pow_le_pow_right (by decide) (by omega)
      rw [Nat.testBit_lt_two_pow (Nat.lt_of_lt_of_le ha h2), Nat.testBit_lt_two_pow (Nat.lt_of_lt_of_le hb h2)]
section
variable {P Y : w_R} {p : Nat}
theorem y_m_sub (X m : Nat) : Sb X (y_m P X m) := by unfold y_m; split; exact Sb.orl; exact Sb.rf
theorem y_ms_sub (l : List Nat) : ∀ X, Sb X (l.foldl (y_m P) X) := by
  induction l with
  | nil => intro X; exact Sb.rf
  | cons m l ih => intro X; exact (y_m_sub X m).trans (ih _)
theorem y_S_up (t : Nat) : Sb (y_S P p t) (y_S P p (t + 1)) := y_ms_sub _ _
theorem y_S_le {s t : Nat} (h : s ≤ t) : Sb (y_S P p s) (y_S P p t) := by
  obtain ⟨k, rfl⟩ := Nat.exists_eq_add_of_le h
  clear h
  induction k with
  | zero => exact Sb.rf
  | succ k ih => exact ih.trans (y_S_up (s + k))
theorem y_m_lt2 {X m q : Nat} (hX : X < 2 ^ q) (h3 : P 3 m < q) (h4 : P 4 m < q) : y_m P X m < 2 ^ q := by
  unfold y_m
  split
  · exact Nat.or_lt_two_pow hX (Nat.or_lt_two_pow (p_lt h3) (p_lt h4))
  · exact hX
theorem y_S_lt (hP : s_POK P) (hp : p < P 6 0) : ∀ t, y_S P p t < 2 ^ P 0 0 := by
  intro t
  induction t with
  | zero =>
    obtain ⟨q1, q2, -⟩ := hP.2.2.2.2.2 p hp
    exact Nat.or_lt_two_pow (p_lt q1) (p_lt q2)
  | succ t ih =>
    show (s_mh P ((y_fr P p + t) % 12)).foldl (y_m P) (y_S P p t) < 2 ^ P 0 0
    refine foldl_ind (J := fun X => X < 2 ^ P 0 0) _ _ ih (fun X m hm hX => ?_)
    have hm2 : m < P 2 0 := by
      unfold s_mh at hm
      exact List.mem_range.mp (List.mem_filter.mp hm).1
    obtain ⟨a, b, -⟩ := hP.2.2.2.1 m hm2
    exact y_m_lt2 hX a b
/-- the day's map -/
def y_day (P : w_R) (p X : Nat) : Nat := (List.range 12).foldl (fun X i => (s_mh P ((y_fr P p + i) % 12)).foldl (y_m P) X) X
theorem y_S_part (k : Nat) : ∀ i, y_S P p (12 * k + i) = (List.range i).foldl (fun X i => (s_mh P ((y_fr P p + i) % 12)).foldl (y_m P) X) (y_S P p (12 * k)) := by
  intro i
  induction i with
  | zero => rfl
  | succ i ih =>
    rw [List.range_succ, List.foldl_append, ← ih]
    show (s_mh P ((y_fr P p + (12 * k + i)) % 12)).foldl (y_m P) (y_S P p (12 * k + i)) = (s_mh P ((y_fr P p + i) % 12)).foldl (y_m P) (y_S P p (12 * k + i))
    rw [show (y_fr P p + (12 * k + i)) % 12 = (y_fr P p + i) % 12 by omega]
theorem y_S_day (k : Nat) : y_S P p (12 * (k + 1)) = y_day P p (y_S P p (12 * k)) := y_S_part k 12
theorem y_S_stay {k : Nat} (h : y_S P p (12 * (k + 1)) = y_S P p (12 * k)) : ∀ j, y_S P p (12 * (k + j)) = y_S P p (12 * k) := by
  intro j
  induction j with
  | zero => rfl
  | succ j ih => rw [show k + (j + 1) = (k + j) + 1 by omega, y_S_day, ih, ← y_S_day, h]
theorem y_S_72 (hP : s_POK P) (hp : p < P 6 0) {t : Nat} (ht : 72 ≤ t) : y_S P p t = y_S P p 72 := by
  have h6 := hP.1.2
  have h64 : ∀ t, y_S P p t < 64 := fun t => Nat.lt_of_lt_of_le (y_S_lt hP hp t) (Nat.pow_le_pow_right (by decide) h6)
  have hst : ∀ j, 6 ≤ j → y_S P p (12 * j) = y_S P p 72 := by
    have ex : ∃ k, k ≤ 6 ∧ y_S P p (12 * (k + 1)) = y_S P p (12 * k) := by
      rcases Classical.em (∃ k, k ≤ 6 ∧ y_S P p (12 * (k + 1)) = y_S P p (12 * k)) with h | h
      · exact h
      · exfalso
        have hlt : ∀ k, k ≤ 6 → b_cnt (y_S P p (12 * k)) 6 < b_cnt (y_S P p (12 * (k + 1))) 6 := fun k hk => b_cnt_lt (y_S_le (by omega)) (fun e => h ⟨k, hk, e.symm⟩) (h64 _) (h64 _)
        have hge : ∀ k, k ≤ 7 → k ≤ b_cnt (y_S P p (12 * k)) 6 := by
          intro k
          induction k with
          | zero => intro _; exact Nat.zero_le _
          | succ k ih => intro hk; have := hlt k (by omega); have := ih (by omega); omega
        have := hge 7 (by decide)
        have := b_cnt_le (y_S P p (12 * 7)) 6
        omega
    obtain ⟨k, hk, e⟩ := ex
    intro j hj
    have h1 := y_S_stay e (j - k)
    have h2 := y_S_stay e (6 - k)
    rw [show k + (j - k) = j by omega] at h1
    rw [show k + (6 - k) = 6 by omega] at h2
    rw [h1, show (72 : Nat) = 12 * 6 from rfl, h2]
  refine Sb.anti ?_ (y_S_le ht)
  have := hst (t / 12 + 1) (by omega)
  rw [← this]
  exact y_S_le (by omega)
/-- the set before the moment t -/
def y_B (P : w_R) (p t : Nat) : Nat := if t ≤ y_fr P p then 0 else y_S P p (t - y_fr P p)
def y_A (P : w_R) (p t : Nat) : Nat := if t < y_fr P p then 0 else y_S P p (t - y_fr P p)
theorem y_m_0 (m : Nat) : y_m P 0 m = 0 := by unfold y_m; rw [Nat.zero_and, if_neg (fun h => h rfl)]
theorem y_ms_0 (l : List Nat) : l.foldl (y_m P) 0 = 0 := by
  induction l with
  | nil => rfl
  | cons m l ih => show l.foldl (y_m P) (y_m P 0 m) = 0; rw [y_m_0]; exact ih
theorem y_B_succ (t : Nat) : y_B P p (t + 1) = (s_mh P (t % 12)).foldl (y_m P) (y_A P p t) := by
  unfold y_B y_A
  by_cases h : t < y_fr P p
  · rw [if_pos (by omega), if_pos h, y_ms_0]
  · rw [if_neg (by omega), if_neg h, show t + 1 - y_fr P p = (t - y_fr P p) + 1 by omega]
    show (s_mh P ((y_fr P p + (t - y_fr P p)) % 12)).foldl (y_m P) _ = _
    rw [show y_fr P p + (t - y_fr P p) = t by omega]
theorem y_AB (t : Nat) : y_A P p t = if t = y_fr P p then y_0 P p else y_B P p t := by
  unfold y_A y_B
  by_cases h : t = y_fr P p
  · rw [if_pos h, if_neg (by omega), h, Nat.sub_self]; rfl
  · rw [if_neg h]
    by_cases h2 : t < y_fr P p
    · rw [if_pos h2, if_pos (by omega)]
    · rw [if_neg h2, if_neg (by omega)]
theorem y_BA (t : Nat) : Sb (y_B P p t) (y_A P p t) := by
  rw [y_AB]
  split
  · rename_i h
    unfold y_B
    rw [if_pos (by omega)]
    exact Sb.zero
  · exact Sb.rf
theorem y_B_up (t : Nat) : Sb (y_B P p t) (y_B P p (t + 1)) := by rw [y_B_succ]; exact (y_BA t).trans (y_ms_sub _ _)
theorem y_B_le {s t : Nat} (h : s ≤ t) : Sb (y_B P p s) (y_B P p t) := by
  obtain ⟨k, rfl⟩ := Nat.exists_eq_add_of_le h
  clear h
  induction k with
  | zero => exact Sb.rf
  | succ k ih => exact ih.trans (y_B_up (s + k))
theorem y_B_lt (hP : s_POK P) (hp : p < P 6 0) (t : Nat) : y_B P p t < 2 ^ P 0 0 := by
  unfold y_B
  split
  · exact Nat.two_pow_pos _
  · exact y_S_lt hP hp _
theorem y_F_iff {m w : Nat} (hm : m < 1200) : ∀ t, y_F P p t w ≤ m ↔ (y_fr P p ≤ m ∧ (y_S P p (min t (m - y_fr P p + 1))).testBit w = true) := by
  intro t
  induction t with
  | zero =>
    show (if (y_0 P p).testBit w then y_fr P p else 1200) ≤ m ↔ _
    rw [Nat.zero_min]
    show _ ↔ (_ ∧ (y_0 P p).testBit w = true)
    cases h : (y_0 P p).testBit w
    · simp; omega
    · simp
  | succ t ih =>
    show (if (y_S P p t).testBit w then y_F P p t w else if (y_S P p (t + 1)).testBit w then y_fr P p + t else 1200) ≤ m ↔ _
    cases h : (y_S P p t).testBit w
    · rw [if_neg (by decide)]
      cases h1 : (y_S P p (t + 1)).testBit w
      · rw [if_neg (by decide)]
        constructor
        · intro q; omega
        · rintro ⟨q1, q2⟩
          have := y_S_le (P := P) (p := p) (Nat.min_le_left (t + 1) (m - y_fr P p + 1)) w q2
          rw [h1] at this
          exact absurd this (by decide)
      · rw [if_pos rfl]
        constructor
        · intro q
          refine ⟨by omega, ?_⟩
          rw [Nat.min_eq_left (by omega)]
          exact h1
        · rintro ⟨q1, q2⟩
          rcases Nat.lt_or_ge m (y_fr P p + t) with q3 | q3
          · have := y_S_le (P := P) (p := p) (s := min (t + 1) (m - y_fr P p + 1)) (t := t) (by omega) w q2
            rw [h] at this
            exact absurd this (by decide)
          · exact q3
    · rw [if_pos rfl, ih]
      rcases Nat.lt_or_ge t (m - y_fr P p + 1) with q | q
      · rw [Nat.min_eq_left (by omega), Nat.min_eq_left (by omega)]
        have := y_S_up (P := P) (p := p) t w h
        rw [h, this]
      · rw [Nat.min_eq_right (by omega), Nat.min_eq_right (by omega)]
theorem y_F_B (hP : s_POK P) (hp : p < P 6 0) {m w : Nat} (hm : m < 1200) : y_F P p (y_N P p) w ≤ m ↔ (y_B P p (m + 1)).testBit w = true := by
  rw [y_F_iff hm]
  have hfr := y_fr_lt hP hp
  have hN : y_N P p = min 1200 (y_fr P p + 72) - y_fr P p := rfl
  unfold y_B
  by_cases h : m + 1 ≤ y_fr P p
  · rw [if_pos h, Nat.zero_testBit]
    constructor
    · rintro ⟨q, -⟩; omega
    · intro q; exact absurd q (by decide)
  · rw [if_neg h]
    have e : y_S P p (min (y_N P p) (m - y_fr P p + 1)) = y_S P p (m + 1 - y_fr P p) := by
      by_cases h2 : m + 1 - y_fr P p ≤ 72
      · rw [show min (y_N P p) (m - y_fr P p + 1) = m + 1 - y_fr P p by omega]
      · rw [show min (y_N P p) (m - y_fr P p + 1) = 72 by omega, y_S_72 hP hp (t := m + 1 - y_fr P p) (by omega)]
    rw [e]
    constructor
    · rintro ⟨-, q⟩; exact q
    · intro q; exact ⟨by omega, q⟩
theorem t_F_iff {C0 : w_R} {m w : Nat} (hm : m < 1200) : ∀ t, t ≤ 1200 → (t_F P Y C0 t p w ≤ m ↔ ∃ s, s < t ∧ s ≤ m ∧ (t_h P Y C0 s p).testBit w = true) := by
  intro t
  induction t with
  | zero =>
    intro _
    constructor
    · intro q; exact absurd q (by show ¬ 1200 ≤ m; omega)
    · rintro ⟨s, q, -⟩; exact absurd q (Nat.not_lt_zero _)
  | succ t ih =>
    intro ht
    have ih := ih (by omega)
    show (if t_F P Y C0 t p w < 1200 then t_F P Y C0 t p w else if (t_h P Y C0 t p).testBit w then t else 1200) ≤ m ↔ _
    by_cases h : t_F P Y C0 t p w < 1200
    · rw [if_pos h]
      constructor
      · intro q
        obtain ⟨s, a, b⟩ := ih.mp q
        exact ⟨s, by omega, b⟩
      · rintro ⟨s, a, b, c⟩
        by_cases e : s = t
        · subst e
          have hb : t_F P Y C0 s p w < s := by
            clear ih a b c
            revert h
            have : ∀ k, k ≤ 1200 → t_F P Y C0 k p w < 1200 → t_F P Y C0 k p w < k := by
              intro k
              induction k with
              | zero => intro _ q; exact absurd q (by show ¬ 1200 < 1200; decide)
              | succ k ihk =>
                intro hk q
                have e1 : t_F P Y C0 (k + 1) p w = if t_F P Y C0 k p w < 1200 then t_F P Y C0 k p w else if (t_h P Y C0 k p).testBit w then k else 1200 := rfl
                rw [e1] at q ⊢
                by_cases w1 : t_F P Y C0 k p w < 1200
                · rw [if_pos w1]; have := ihk (by omega) w1; omega
                · rw [if_neg w1] at q ⊢
                  split
                  · omega
                  · rename_i w2
                    rw [if_neg w2] at q
                    omega
            intro q
            exact this s (by omega) q
          omega
        · exact ih.mpr ⟨s, by omega, b, c⟩
    · rw [if_neg h]
      have hno : ¬ ∃ s, s < t ∧ (t_h P Y C0 s p).testBit w = true := by
        rintro ⟨s, a, b⟩
        have : ∀ k, k ≤ 1200 → (∃ s, s < k ∧ (t_h P Y C0 s p).testBit w = true) → t_F P Y C0 k p w < 1200 := by
          intro k
          induction k with
          | zero => rintro _ ⟨s, q, -⟩; exact absurd q (Nat.not_lt_zero _)
          | succ k ihk =>
            rintro hk ⟨s, q, r⟩
            show (if t_F P Y C0 k p w < 1200 then t_F P Y C0 k p w else if (t_h P Y C0 k p).testBit w then k else 1200) < 1200
            by_cases w1 : t_F P Y C0 k p w < 1200
            · rw [if_pos w1]; exact w1
            · rw [if_neg w1]
              by_cases e : s = k
              · subst e; rw [r, if_pos rfl]; omega
              · exact absurd (ihk (by omega) ⟨s, by omega, r⟩) w1
        exact h (this t (by omega) ⟨s, a, b⟩)
      cases h2 : (t_h P Y C0 t p).testBit w
      · rw [if_neg (by decide)]
        constructor
        · intro q; omega
        · rintro ⟨s, a, b, c⟩
          by_cases e : s = t
          · subst e; rw [h2] at c; exact absurd c (by decide)
          · exact absurd ⟨s, by omega, c⟩ hno
      · rw [if_pos rfl]
        constructor
        · intro q; exact ⟨t, by omega, q, h2⟩
        · rintro ⟨s, a, b, c⟩
          by_cases e : s = t
          · omega
          · exact absurd ⟨s, by omega, c⟩ hno
end
