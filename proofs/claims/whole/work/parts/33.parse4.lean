theorem xb_inv {α β : Type} {x : x_E α} {f : α → x_E β} {b : β} (h : (x >>= f) = .ok b) : ∃ a, x = .ok a ∧ f a = .ok b := by
  cases x with
  | error q => cases h
  | ok a => exact ⟨a, rfl, h⟩
theorem xb_inv_e {α β : Type} {x : x_E α} {f : α → x_E β} {q : Nat × Nat} (h : (x >>= f) = .error q) : x = .error q ∨ ∃ a, x = .ok a ∧ f a = .error q := by
  cases x with
  | error z => exact Or.inl (by cases h; rfl)
  | ok a => exact Or.inr ⟨a, rfl, h⟩
section
variable {T : Nat → Nat} {n : Nat} {P : w_R}
theorem s_P0_ok : s_POK s_P0 := ⟨⟨by decide, by decide⟩, fun j _ => (by decide : (1 : Nat) ≤ 99), by decide, fun j hj => absurd hj (Nat.not_lt_zero _), by decide, fun j hj => absurd hj (Nat.not_lt_zero _)⟩
theorem POK_people {x : Nat} (h : s_POK P) (h2 : P 2 0 = 0) (h6 : P 6 0 = 0) (hx : 2 ≤ x ∧ x < 7) : s_POK (w_put P 0 0 x) := by
  obtain ⟨r0, r1, r2, r3, r4, r5⟩ := h
  refine ⟨?_, fun j hj => ?_, ?_, fun j hj => ?_, ?_, fun j hj => ?_⟩
  · rw [w_put_same]; omega
  · simpa [w_put_eq] using r1 j hj
  · simpa [w_put_eq] using r2
  · have hj : j < P 2 0 := by simpa [w_put_eq] using hj
    omega
  · simpa [w_put_eq] using r4
  · have hj : j < P 6 0 := by simpa [w_put_eq] using hj
    omega
theorem POK_price {a x : Nat} (h : s_POK P) (hx : x < 100) : s_POK (w_put P 1 a x) := by
  obtain ⟨r0, r1, r2, r3, r4, r5⟩ := h
  refine ⟨?_, fun j hj => ?_, ?_, fun j hj => ?_, ?_, fun j hj => ?_⟩
  · simpa [w_put_eq] using r0
  · have := r1 j hj
    rw [w_put_eq]
    split <;> omega
  · simpa [w_put_eq] using r2
  · have hj : j < P 2 0 := by simpa [w_put_eq] using hj
    simpa [w_put_eq] using r3 j hj
  · simpa [w_put_eq] using r4
  · have hj : j < P 6 0 := by simpa [w_put_eq] using hj
    simpa [w_put_eq] using r5 j hj
theorem POK_meet {a b h : Nat} (hP : s_POK P) (h12 : P 2 0 < 12) (ha : a < P 0 0) (hb : b < P 0 0) (hab : b ≠ a) (hh : h < 12) : s_POK (s_addM P a b h) := by
  obtain ⟨r0, r1, r2, r3, r4, r5⟩ := hP
  unfold s_addM
  refine ⟨?_, fun j hj => ?_, ?_, fun j hj => ?_, ?_, fun j hj => ?_⟩
  · simpa [w_put_eq] using r0
  · simpa [w_put_eq] using r1 j hj
  · simp [w_put_eq]; omega
  · have hj : j < P 2 0 + 1 := by simpa [w_put_eq] using hj
    by_cases e : j = P 2 0
    · subst e
      simp [w_put_eq]
      exact ⟨ha, hb, fun e => hab e.symm, hh⟩
    · simpa [w_put_eq, e] using r3 j (by omega)
  · simpa [w_put_eq] using r4
  · have hj : j < P 6 0 := by simpa [w_put_eq] using hj
    simpa [w_put_eq] using r5 j hj
theorem POK_prom {a b dd h ln : Nat} (hP : s_POK P) (h12 : P 6 0 < 12) (ha : a < P 0 0) (hb : b < P 0 0) (hab : b ≠ a) (hd : dd < 100) (hh : h < 12) (hl : ln < 2 ^ P 6 0) : s_POK (s_addP P a b dd h ln) := by
  obtain ⟨r0, r1, r2, r3, r4, r5⟩ := hP
  unfold s_addP
  refine ⟨?_, fun j hj => ?_, ?_, fun j hj => ?_, ?_, fun j hj => ?_⟩
  · simpa [w_put_eq] using r0
  · simpa [w_put_eq] using r1 j hj
  · simpa [w_put_eq] using r2
  · have hj : j < P 2 0 := by simpa [w_put_eq] using hj
    simpa [w_put_eq] using r3 j hj
  · simp [w_put_eq]; omega
  · have hj : j < P 6 0 + 1 := by simpa [w_put_eq] using hj
    by_cases e : j = P 6 0
    · subst e
      simp [w_put_eq]
      exact ⟨ha, hb, fun e => hab e.symm, hd, hh, hl⟩
    · simpa [w_put_eq, e] using r5 j (by omega)
theorem x_semi_ok {e e' : Nat} (he : e ≤ n) (h : x_semi T n e = .ok e') : e ≤ e' ∧ e' ≤ n := by
  unfold x_semi at h
  split at h
  · cases h; exact ⟨(x_en_le he).1, (x_en_le he).2.2⟩
  · cases h
theorem x_is_kd {e w : Nat} (h : x_is T n e w = true) : x_kd T n e = 1 := by
  unfold x_is at h
  simp only [Bool.and_eq_true, beq_iff_eq] at h
  exact h.1
theorem x_en_gt {e : Nat} (he : e ≤ n) (h : x_kd T n e ≠ 0) : e < x_en T n e := by
  have hst : e ≤ x_st T n e ∧ x_st T n e ≤ e + (n - e) := x_run_ge _ _ _ _
  unfold x_kd at h
  unfold x_en
  split
  · omega
  · split
    · omega
    · split
      · omega
      · rename_i a b c
        rw [if_neg a, if_neg b, if_neg c] at h
        exact absurd rfl h
theorem x_num_ge {e lo hi f : Nat} {q : Nat × Nat} (he : e ≤ n) (h : x_num T n e lo hi f = .ok q) : e ≤ q.2 ∧ q.2 ≤ n := by
  rw [(x_num_ok h).2.2.1]; exact ⟨(x_en_le he).1, (x_en_le he).2.2⟩
theorem x_oth_ge {e a hi : Nat} {q : Nat × Nat} (he : e ≤ n) (h : x_oth T n e a hi = .ok q) : e ≤ q.2 ∧ q.2 ≤ n := by
  rw [(x_oth_ok h).2.2]; exact ⟨(x_en_le he).1, (x_en_le he).2.2⟩
theorem x_hr_ge {e : Nat} {q : Nat × Nat} (he : e ≤ n) (h : x_hr T n e = .ok q) : e ≤ q.2 ∧ q.2 ≤ n ∧ q.1 < 12 := by
  unfold x_hr at h
  split at h
  · have := x_num_ge (x_en_le he).2.2 h
    have := (x_en_le (T := T) he).1
    exact ⟨by omega, by omega, (x_num_ok h).2.1⟩
  · cases h
theorem x_day_ge {e : Nat} {q : Nat × Nat} (he : e ≤ n) (h : x_day T n e = .ok q) : e ≤ q.2 ∧ q.2 ≤ n ∧ q.1 < 100 := by
  unfold x_day at h
  split at h
  · have := x_num_ge (x_en_le he).2.2 h
    have := (x_en_le (T := T) he).1
    exact ⟨by omega, by omega, (x_num_ok h).2.1⟩
  · cases h; exact ⟨Nat.le_refl _, he, Nat.zero_lt_succ _⟩
theorem x_ls_ge {np : Nat} : ∀ (k b e : Nat) (q : Nat × Nat), e ≤ n → x_ls T n np k b e = .ok q → e ≤ q.2 := by
  intro k
  induction k with
  | zero => intro b e q he h; cases h; exact Nat.le_refl _
  | succ k ih =>
    intro b e q he h
    cases h1 : x_l1 T n np b e with
    | error z => rw [x_ls_err h1] at h; cases h
    | ok z =>
      obtain ⟨z1, z2⟩ := z
      rw [x_ls_ok h1] at h
      have o2 : z2 = x_en T n e := (x_l1_ok h1).2
      have hle := x_en_le (T := T) he
      split at h
      · have := ih _ _ q (by omega) h
        omega
      · cases h; show e ≤ z2; omega
theorem x_on_ge {np e : Nat} {q : Nat × Nat} (he : e ≤ n) (h : x_on T n np e = .ok q) : e ≤ q.2 ∧ q.2 ≤ n ∧ q.1 < 2 ^ np := by
  have h0 := x_on_le he h
  refine ⟨?_, h0.2, h0.1⟩
  unfold x_on at h
  split at h
  · have := x_ls_ge 13 0 _ q (x_en_le he).2.2 h
    have := (x_en_le (T := T) he).1
    omega
  · cases h; exact Nat.le_refl _
/-- a line that is read keeps the plan as it must be, and takes a token -/
theorem x_line_ok {k e : Nat} {q : w_R × Nat} (hP : s_POK P) (hk : k = 0 → P 2 0 = 0 ∧ P 6 0 = 0) (he : e ≤ n) (h : x_line T n P k e = .ok q) : s_POK q.1 ∧ e < q.2 ∧ q.2 ≤ n := by
  have hen := x_en_le (T := T) he
  unfold x_line at h
  split at h
  · rename_i w
    have hgt := x_en_gt (T := T) he (by rw [x_is_kd w]; decide)
    split at h
    · rename_i k0
      obtain ⟨h2, h6⟩ := hk k0
      obtain ⟨a, m1, h⟩ := xb_inv h
      obtain ⟨e', m2, h⟩ := xb_inv h
      cases h
      have o1 := x_num_ok m1
      have o2 := x_num_ge hen.2.2 m1
      have o3 := x_semi_ok o2.2 m2
      exact ⟨POK_people hP h2 h6 ⟨o1.1, o1.2.1⟩, by show e < e'; omega, o3.2⟩
    · cases h
  · split at h
    · rename_i _ w
      have hgt := x_en_gt (T := T) he (by rw [x_is_kd w]; decide)
      obtain ⟨a, m1, h⟩ := xb_inv h
      obtain ⟨b, m2, h⟩ := xb_inv h
      obtain ⟨e', m3, h⟩ := xb_inv h
      cases h
      have o2 := x_num_ge hen.2.2 m1
      have o4 := x_num_ge o2.2 m2
      have o5 := x_semi_ok o4.2 m3
      exact ⟨POK_price hP (x_num_ok m2).2.1, by show e < e'; omega, o5.2⟩
    · split at h
      · rename_i _ _ w
        have hgt := x_en_gt (T := T) he (by rw [x_is_kd w]; decide)
        split at h
        · rename_i h12
          obtain ⟨a, m1, h⟩ := xb_inv h
          obtain ⟨b, m2, h⟩ := xb_inv h
          obtain ⟨c, m3, h⟩ := xb_inv h
          obtain ⟨e', m4, h⟩ := xb_inv h
          cases h
          have o2 := x_num_ge hen.2.2 m1
          have o3 := x_oth_ge o2.2 m2
          have o4 := x_hr_ge o3.2 m3
          have o5 := x_semi_ok o4.2.1 m4
          exact ⟨POK_meet hP h12 (x_num_ok m1).2.1 (x_oth_ok m2).1 (x_oth_ok m2).2.1 o4.2.2, by show e < e'; omega, o5.2⟩
        · cases h
      · split at h
        · rename_i _ _ _ w
          have hgt := x_en_gt (T := T) he (by rw [x_is_kd w]; decide)
          split at h
          · rename_i h12
            obtain ⟨a, m1, h⟩ := xb_inv h
            obtain ⟨b, m2, h⟩ := xb_inv h
            obtain ⟨c, m3, h⟩ := xb_inv h
            obtain ⟨g, m4, h⟩ := xb_inv h
            obtain ⟨l, m5, h⟩ := xb_inv h
            obtain ⟨e', m6, h⟩ := xb_inv h
            cases h
            have o2 := x_num_ge hen.2.2 m1
            have o3 := x_oth_ge o2.2 m2
            have o4 := x_day_ge o3.2 m3
            have o5 := x_hr_ge o4.2.1 m4
            have o6 := x_on_ge o5.2.1 m5
            have o7 := x_semi_ok o6.2.1 m6
            exact ⟨POK_prom hP h12 (x_num_ok m1).2.1 (x_oth_ok m2).1 (x_oth_ok m2).2.1 o4.2.2 o5.2.2 o6.2.2, by show e < e'; omega, o7.2⟩
          · cases h
        · cases h
/-! a fault has a number -/
theorem x_num_f {e lo hi f : Nat} {q : Nat × Nat} (hf : 1 ≤ f ∧ f ≤ 5) (h : x_num T n e lo hi f = .error q) : 1 ≤ q.1 ∧ q.1 ≤ 5 := by
  unfold x_num at h
  split at h
  · cases h; show 1 ≤ 1 ∧ 1 ≤ 5; decide
  · split at h
    · cases h; exact ⟨Nat.le_succ _, by show 2 ≤ 5; decide⟩
    · split at h
      · cases h; exact hf
      · cases h
theorem x_oth_f {e a hi : Nat} {q : Nat × Nat} (h : x_oth T n e a hi = .error q) : 1 ≤ q.1 ∧ q.1 ≤ 5 := by
  unfold x_oth at h
  split at h
  · cases h; show 1 ≤ 4 ∧ 4 ≤ 5; decide
  · exact x_num_f (by decide) h
theorem x_semi_f {e : Nat} {q : Nat × Nat} (h : x_semi T n e = .error q) : 1 ≤ q.1 ∧ q.1 ≤ 5 := by
  unfold x_semi at h
  split at h
  · cases h
  · cases h; show 1 ≤ 1 ∧ 1 ≤ 5; decide
theorem x_hr_f {e : Nat} {q : Nat × Nat} (h : x_hr T n e = .error q) : 1 ≤ q.1 ∧ q.1 ≤ 5 := by
  unfold x_hr at h
  split at h
  · exact x_num_f (by decide) h
  · cases h; show 1 ≤ 1 ∧ 1 ≤ 5; decide
theorem x_day_f {e : Nat} {q : Nat × Nat} (h : x_day T n e = .error q) : 1 ≤ q.1 ∧ q.1 ≤ 5 := by
  unfold x_day at h
  split at h
  · exact x_num_f (by decide) h
  · cases h
theorem x_ls_f {np : Nat} : ∀ (k b e : Nat) (q : Nat × Nat), x_ls T n np k b e = .error q → 1 ≤ q.1 ∧ q.1 ≤ 5 := by
  intro k
  induction k with
  | zero => intro b e q h; cases h
  | succ k ih =>
    intro b e q h
    cases h1 : x_l1 T n np b e with
    | error z =>
      rw [x_ls_err h1] at h
      cases h
      unfold x_l1 at h1
      split at h1
      · cases h1; show 1 ≤ 4 ∧ 4 ≤ 5; decide
      · exact x_num_f (by decide) h1
    | ok z =>
      obtain ⟨z1, z2⟩ := z
      rw [x_ls_ok h1] at h
      split at h
      · exact ih _ _ q h
      · cases h
theorem x_on_f {np e : Nat} {q : Nat × Nat} (h : x_on T n np e = .error q) : 1 ≤ q.1 ∧ q.1 ≤ 5 := by
  unfold x_on at h
  split at h
  · exact x_ls_f 13 0 _ q h
  · cases h
theorem x_line_f {k e : Nat} {q : Nat × Nat} (h : x_line T n P k e = .error q) : 1 ≤ q.1 ∧ q.1 ≤ 5 := by
  unfold x_line at h
  split at h
  · split at h
    · rcases xb_inv_e h with h | ⟨a, -, h⟩
      · exact x_num_f (by decide) h
      rcases xb_inv_e h with h | ⟨a, -, h⟩
      · exact x_semi_f h
      cases h
    · cases h; show 1 ≤ 5 ∧ 5 ≤ 5; decide
  · split at h
    · rcases xb_inv_e h with h | ⟨a, -, h⟩
      · exact x_num_f (by decide) h
      rcases xb_inv_e h with h | ⟨a, -, h⟩
      · exact x_num_f (by decide) h
      rcases xb_inv_e h with h | ⟨a, -, h⟩
      · exact x_semi_f h
      cases h
    · split at h
      · split at h
        · rcases xb_inv_e h with h | ⟨a, -, h⟩
          · exact x_num_f (by decide) h
          rcases xb_inv_e h with h | ⟨a, -, h⟩
          · exact x_oth_f h
          rcases xb_inv_e h with h | ⟨a, -, h⟩
          · exact x_hr_f h
          rcases xb_inv_e h with h | ⟨a, -, h⟩
          · exact x_semi_f h
          cases h
        · cases h; show 1 ≤ 2 ∧ 2 ≤ 5; decide
      · split at h
        · split at h
          · rcases xb_inv_e h with h | ⟨a, -, h⟩
            · exact x_num_f (by decide) h
            rcases xb_inv_e h with h | ⟨a, -, h⟩
            · exact x_oth_f h
            rcases xb_inv_e h with h | ⟨a, -, h⟩
            · exact x_day_f h
            rcases xb_inv_e h with h | ⟨a, -, h⟩
            · exact x_hr_f h
            rcases xb_inv_e h with h | ⟨a, -, h⟩
            · exact x_on_f h
            rcases xb_inv_e h with h | ⟨a, -, h⟩
            · exact x_semi_f h
            cases h
          · cases h; show 1 ≤ 2 ∧ 2 ≤ 5; decide
        · cases h; show 1 ≤ 1 ∧ 1 ≤ 5; decide
end
section
variable {Ω : w_O} {d u v : Nat} {L : w_L} {E : w_E} {T : Nat → Nat} {n : Nat} {P : w_R}
theorem c_readLine {I : w_I} {e k : Nat} (hk : k < 1000) (hP : s_POK P) (hRP : PRep 3 P I) (hR : RT T n e I) (hT : TX T n I) (h256 : ∀ j, T j < 256) (he : e ≤ n) : FnI Ω (d + 7) mX4_readLine [.ref (Ω.1 + 2), .int (nI k)] (SH u v) I L (LnP u v T n L I (x_line T n P k e)) := by
  have h2 := hP.2.2.1
  have h6 := hP.2.2.2.2.1
  refine FnR_of okX4_readLine (Nat.le_of_ble_eq_true rfl) fun l z => ?_
  have hE : w_fit (d + 6) (w_Er l (d + 7) 0 0 Ω (w_pi (LnP u v T n L I (x_line T n P k e))) z) := w_fit_r
  have bz : ∀ {x : x_E (w_R × Nat)} {r : Int32} {I1 : w_I} {Q : w_R × Nat → Prop}, RQ x r I I1 Q → narrow .boolean (.int r) = .int r := by
    intro x r I1 Q h
    rcases h with ⟨_, _, _, rfl, _⟩ | ⟨_, _, rfl, _⟩ <;> rfl
  show V _ _ _ _ _ _ _ _ 0 [(0, _), (1, _)] []
  refine V_aload_n 0 0 dX4_readLine_0 rfl ?_
  refine V_lit 1 (w := 0) "people" (by decide) dX4_readLine_1 ?_
  refine V_vi 3 mvX4_47 dX4_readLine_3 ⟨_, _, _, rfl, rfl, rfl⟩ (w_fit.mono (by omega) hE) (c_isWord (d := d) (w := 0) (by decide) hR hT he) rfl (Nat.le_of_ble_eq_true rfl) ?_
  rintro _ _ _ _ ⟨rfl, rfl, rfl, rfl⟩
  by_cases w0 : x_is T n e 0 = true
  · rw [if_pos w0]
    refine V_zN_eq 6 26 dX4_readLine_6 (by decide) (by omega) (fun c => ?_) (fun c => ?_)
    · exact absurd c (by decide)
    refine V_iload_n 9 1 dX4_readLine_9 rfl ?_
    refine V_zN_ne 10 20 dX4_readLine_10 (by decide) (by omega) (fun c0 => ?_) (fun c0 => ?_)
    · refine V_aload_n 20 0 dX4_readLine_20 rfl ?_
      refine V_cst 21 5 dX4_readLine_21 rfl ?_
      refine V_vi 22 mvX4_55 dX4_readLine_22 ⟨_, _, _, rfl, rfl, rfl⟩ (w_fit.mono (by omega) hE) (c_refuse (d := d)) rfl (Nat.le_of_ble_eq_true rfl) ?_
      rintro _ _ I1 _ ⟨rfl, rfl, rfl, g1, g2, g3⟩
      refine V_zret 25 dX4_readLine_25 rfl rfl ⟨rfl, rfl, Or.inl ⟨5, x_st T n e, ?_, rfl, g1, by rw [g2, hR.2.2.1]⟩, g3.toP⟩
      unfold x_line
      rw [if_pos w0, if_neg c0]
    · refine V_aload_n 13 0 dX4_readLine_13 rfl ?_
      refine V_vi 14 mvX4_51 dX4_readLine_14 ⟨_, _, _, rfl, rfl, rfl⟩ (w_fit.mono (by omega) hE) (c_readPeople (d := d) hRP hR hT h256 he) rfl (Nat.le_of_ble_eq_true rfl) ?_
      rintro r _ I1 _ ⟨rfl, rfl, g1, g2⟩
      have e1 : x_line T n P k e = x_people T n P e := by unfold x_line; rw [if_pos w0, if_pos c0]
      refine V_goto 17 25 dX4_readLine_17 (by decide) ?_
      exact V_zret 25 dX4_readLine_25 rfl (bz g1) ⟨rfl, rfl, by rw [e1]; exact g1, g2⟩
  rw [if_neg w0]
  refine V_zN_eq 6 26 dX4_readLine_6 (by decide) (by omega) (fun c => ?_) (fun c => ?_)
  rotate_left
  · exact absurd rfl c
  refine V_aload_n 26 0 dX4_readLine_26 rfl ?_
  refine V_lit 27 (w := 1) "price" (by decide) dX4_readLine_27 ?_
  refine V_vi 29 mvX4_47 dX4_readLine_29 ⟨_, _, _, rfl, rfl, rfl⟩ (w_fit.mono (by omega) hE) (c_isWord (d := d) (w := 1) (by decide) hR hT he) rfl (Nat.le_of_ble_eq_true rfl) ?_
  rintro _ _ _ _ ⟨rfl, rfl, rfl, rfl⟩
  by_cases w1 : x_is T n e 1 = true
  · rw [if_pos w1]
    refine V_zN_eq 32 40 dX4_readLine_32 (by decide) (by omega) (fun c => ?_) (fun c => ?_)
    · exact absurd c (by decide)
    refine V_aload_n 35 0 dX4_readLine_35 rfl ?_
    refine V_vi 36 mvX4_60 dX4_readLine_36 ⟨_, _, _, rfl, rfl, rfl⟩ (w_fit.mono (by omega) hE) (c_readPrice (d := d) hP hRP hR hT h256 he) rfl (Nat.le_of_ble_eq_true rfl) ?_
    rintro r _ I1 _ ⟨rfl, rfl, g1, g2⟩
    have e1 : x_line T n P k e = x_price T n P e := by unfold x_line; rw [if_neg w0, if_pos w1]
    exact V_zret 39 dX4_readLine_39 rfl (bz g1) ⟨rfl, rfl, by rw [e1]; exact g1, g2⟩
  rw [if_neg w1]
  refine V_zN_eq 32 40 dX4_readLine_32 (by decide) (by omega) (fun c1 => ?_) (fun c1 => ?_)
  rotate_left
  · exact absurd rfl c1
  refine V_aload_n 40 0 dX4_readLine_40 rfl ?_
  refine V_lit 41 (w := 2) "meet" (by decide) dX4_readLine_41 ?_
  refine V_vi 43 mvX4_47 dX4_readLine_43 ⟨_, _, _, rfl, rfl, rfl⟩ (w_fit.mono (by omega) hE) (c_isWord (d := d) (w := 2) (by decide) hR hT he) rfl (Nat.le_of_ble_eq_true rfl) ?_
  rintro _ _ _ _ ⟨rfl, rfl, rfl, rfl⟩
  by_cases w2 : x_is T n e 2 = true
  · rw [if_pos w2]
    refine V_zN_eq 46 74 dX4_readLine_46 (by decide) (by omega) (fun c2 => ?_) (fun c2 => ?_)
    · exact absurd c2 (by decide)
    refine V_aload_n 49 0 dX4_readLine_49 rfl ?_
    refine V_getR 50 flX4_12 dX4_readLine_50 rfl ?_
    refine V_getI 53 flX4_65 dX4_readLine_53 rfl ?_
    refine V_bip 56 12 dX4_readLine_56 rfl ?_
    rw [hRP.2.2.1]
    refine V_cN_ge 58 68 dX4_readLine_58 (by decide) (by omega) (by omega) (fun c3 => ?_) (fun c3 => ?_)
    · refine V_aload_n 68 0 dX4_readLine_68 rfl ?_
      refine V_cst 69 2 dX4_readLine_69 rfl ?_
      refine V_vi 70 mvX4_55 dX4_readLine_70 ⟨_, _, _, rfl, rfl, rfl⟩ (w_fit.mono (by omega) hE) (c_refuse (d := d)) rfl (Nat.le_of_ble_eq_true rfl) ?_
      rintro _ _ I1 _ ⟨rfl, rfl, rfl, g1, g2, g3⟩
      refine V_zret 73 dX4_readLine_73 rfl rfl ⟨rfl, rfl, Or.inl ⟨2, x_st T n e, ?_, rfl, g1, by rw [g2, hR.2.2.1]⟩, g3.toP⟩
      unfold x_line
      rw [if_neg w0, if_neg w1, if_pos w2, if_neg (by omega)]
    · refine V_aload_n 61 0 dX4_readLine_61 rfl ?_
      refine V_vi 62 mvX4_68 dX4_readLine_62 ⟨_, _, _, rfl, rfl, rfl⟩ (w_fit.mono (by omega) hE) (c_readMeeting (d := d) hP c3 hRP hR hT h256 he) rfl (Nat.le_of_ble_eq_true rfl) ?_
      rintro r _ I1 _ ⟨rfl, rfl, g1, g2⟩
      have e1 : x_line T n P k e = x_meet T n P e := by unfold x_line; rw [if_neg w0, if_neg w1, if_pos w2, if_pos c3]
      refine V_goto 65 73 dX4_readLine_65 (by decide) ?_
      exact V_zret 73 dX4_readLine_73 rfl (bz g1) ⟨rfl, rfl, by rw [e1]; exact g1, g2⟩
  rw [if_neg w2]
  refine V_zN_eq 46 74 dX4_readLine_46 (by decide) (by omega) (fun c2 => ?_) (fun c2 => ?_)
  rotate_left
  · exact absurd rfl c2
  refine V_aload_n 74 0 dX4_readLine_74 rfl ?_
  refine V_lit 75 (w := 3) "promise" (by decide) dX4_readLine_75 ?_
  refine V_vi 77 mvX4_47 dX4_readLine_77 ⟨_, _, _, rfl, rfl, rfl⟩ (w_fit.mono (by omega) hE) (c_isWord (d := d) (w := 3) (by decide) hR hT he) rfl (Nat.le_of_ble_eq_true rfl) ?_
  rintro _ _ _ _ ⟨rfl, rfl, rfl, rfl⟩
  by_cases w3 : x_is T n e 3 = true
  · rw [if_pos w3]
    refine V_zN_eq 80 108 dX4_readLine_80 (by decide) (by omega) (fun c3 => ?_) (fun c3 => ?_)
    · exact absurd c3 (by decide)
    refine V_aload_n 83 0 dX4_readLine_83 rfl ?_
    refine V_getR 84 flX4_12 dX4_readLine_84 rfl ?_
    refine V_getI 87 flX4_73 dX4_readLine_87 rfl ?_
    refine V_bip 90 12 dX4_readLine_90 rfl ?_
    rw [hRP.2.2.2.2.1]
    refine V_cN_ge 92 102 dX4_readLine_92 (by decide) (by omega) (by omega) (fun c4 => ?_) (fun c4 => ?_)
    · refine V_aload_n 102 0 dX4_readLine_102 rfl ?_
      refine V_cst 103 2 dX4_readLine_103 rfl ?_
      refine V_vi 104 mvX4_55 dX4_readLine_104 ⟨_, _, _, rfl, rfl, rfl⟩ (w_fit.mono (by omega) hE) (c_refuse (d := d)) rfl (Nat.le_of_ble_eq_true rfl) ?_
      rintro _ _ I1 _ ⟨rfl, rfl, rfl, g1, g2, g3⟩
      refine V_zret 107 dX4_readLine_107 rfl rfl ⟨rfl, rfl, Or.inl ⟨2, x_st T n e, ?_, rfl, g1, by rw [g2, hR.2.2.1]⟩, g3.toP⟩
      unfold x_line
      rw [if_neg w0, if_neg w1, if_neg w2, if_pos w3, if_neg (by omega)]
    · refine V_aload_n 95 0 dX4_readLine_95 rfl ?_
      refine V_vi 96 mvX4_76 dX4_readLine_96 ⟨_, _, _, rfl, rfl, rfl⟩ (w_fit.mono (by omega) hE) (c_readPromise (d := d) hP c4 hRP hR hT h256 he) rfl (Nat.le_of_ble_eq_true rfl) ?_
      rintro r _ I1 _ ⟨rfl, rfl, g1, g2⟩
      have e1 : x_line T n P k e = x_prom T n P e := by unfold x_line; rw [if_neg w0, if_neg w1, if_neg w2, if_pos w3, if_pos c4]
      refine V_goto 99 107 dX4_readLine_99 (by decide) ?_
      exact V_zret 107 dX4_readLine_107 rfl (bz g1) ⟨rfl, rfl, by rw [e1]; exact g1, g2⟩
  rw [if_neg w3]
  refine V_zN_eq 80 108 dX4_readLine_80 (by decide) (by omega) (fun c3 => ?_) (fun c3 => ?_)
  rotate_left
  · exact absurd rfl c3
  refine V_aload_n 108 0 dX4_readLine_108 rfl ?_
  refine V_cst 109 1 dX4_readLine_109 rfl ?_
  refine V_vi 110 mvX4_55 dX4_readLine_110 ⟨_, _, _, rfl, rfl, rfl⟩ (w_fit.mono (by omega) hE) (c_refuse (d := d)) rfl (Nat.le_of_ble_eq_true rfl) ?_
  rintro _ _ I1 _ ⟨rfl, rfl, rfl, g1, g2, g3⟩
  refine V_zret 113 dX4_readLine_113 rfl rfl ⟨rfl, rfl, Or.inl ⟨1, x_st T n e, ?_, rfl, g1, by rw [g2, hR.2.2.1]⟩, g3.toP⟩
  unfold x_line
  rw [if_neg w0, if_neg w1, if_neg w2, if_neg w3]
theorem rd_l (hE : w_fit (d + 7) E) (h256 : ∀ j, T j < 256) : ∀ (m k e : Nat) (P : w_R) (I : w_I), k + m = n → e ≤ n → s_POK P → (k = 0 → P 2 0 = 0 ∧ P 6 0 = 0) → PRep 3 P I → RT T n e I → TX T n I → I 2 8 = 0 →
    (∀ I' f p x, x_lines T n m P k e = .error (f, p) → 1 ≤ f → I' 2 8 = f → I' 2 9 = p → FrP I I' → V mX4_read E Ω 0 0 (SH u v) I' L 60 [(0, .ref (Ω.1 + 2)), (1, .int (nI n)), (2, .int (nI x))] []) →
    (∀ I' P' e' x, x_lines T n m P k e = .ok (P', e') → s_POK P' → I' 2 8 = 0 → PRep 3 P' I' → FrP I I' → V mX4_read E Ω 0 0 (SH u v) I' L 60 [(0, .ref (Ω.1 + 2)), (1, .int (nI n)), (2, .int (nI x))] []) →
    V mX4_read E Ω 0 0 (SH u v) I L 28 [(0, .ref (Ω.1 + 2)), (1, .int (nI n)), (2, .int (nI k))] [] := by
  intro m
  induction m with
  | zero =>
    intro k e P I hk he hP h0 hRP hR hT h8 kE kO
    have hn := hT.1
    refine V_iload_n 28 2 dX4_read_28 rfl ?_
    refine V_aload_n 29 0 dX4_read_29 rfl ?_
    refine V_getI 30 flX4_22 dX4_read_30 rfl ?_
    rw [hR.1]
    refine V_cN_ge 33 60 dX4_read_33 (by decide) (by omega) (by omega) (fun c => ?_) (fun c => ?_)
    · exact kO I P e k rfl hP h8 hRP FrP.rf
    · omega
  | succ m ih =>
    intro k e P I hk he hP h0 hRP hR hT h8 kE kO
    have hn := hT.1
    have hkd := x_kd_lt (T := T) (n := n) e
    refine V_iload_n 28 2 dX4_read_28 rfl ?_
    refine V_aload_n 29 0 dX4_read_29 rfl ?_
    refine V_getI 30 flX4_22 dX4_read_30 rfl ?_
    rw [hR.1]
    refine V_cN_ge 33 60 dX4_read_33 (by decide) (by omega) (by omega) (fun c => ?_) (fun c => ?_)
    · omega
    refine V_aload_n 36 0 dX4_read_36 rfl ?_
    refine V_getI 37 flX4_38 dX4_read_37 rfl ?_
    rw [hR.2.1]
    refine V_zN_eq 40 60 dX4_read_40 (by decide) (by omega) (fun c1 => ?_) (fun c1 => ?_)
    · exact kO I P e k (by unfold x_lines; rw [if_pos c1]) hP h8 hRP FrP.rf
    refine V_aload_n 43 0 dX4_read_43 rfl ?_
    refine V_iload_n 44 2 dX4_read_44 rfl ?_
    have e0 : x_lines T n (m + 1) P k e = (x_line T n P k e >>= fun q => x_lines T n m q.1 (k + 1) q.2) := if_neg c1
    refine V_vi 45 mvX4_41 dX4_read_45 ⟨_, _, _, rfl, rfl, rfl⟩ (w_fit.mono (by omega) hE) (c_readLine (d := d) (by omega) hP hRP hR hT h256 he) rfl (Nat.le_of_ble_eq_true rfl) ?_
    rintro r _ I1 _ ⟨rfl, rfl, g1, g2⟩
    rcases g1 with ⟨f, p, m1, rfl, m2, m3⟩ | ⟨⟨P1, e1⟩, m1, rfl, m2, m3, m4⟩
    · refine V_zN_ne 48 54 dX4_read_48 (by decide) (by omega) (fun c2 => ?_) (fun c2 => ?_)
      · exact absurd rfl c2
      refine V_goto 51 60 dX4_read_51 (by decide) ?_
      exact kE I1 f p k (e0.trans (xb_err m1)) (x_line_f m1).1 m2 m3 g2
    · obtain ⟨o1, o2, o3⟩ := x_line_ok hP h0 he m1
      have e2 := e0.trans (xb_ok m1)
      refine V_zN_ne 48 54 dX4_read_48 (by decide) (by omega) (fun c2 => ?_) (fun c2 => ?_)
      · refine V_inc 54 2 _ [(0, _), (1, _), (2, _)] dX4_read_54 rfl rfl rfl (by decide) rfl ?_
        refine V_goto 57 28 dX4_read_57 (by decide) ?_
        exact ih (k + 1) e1 P1 I1 (by omega) o3 o1 (fun h => absurd h (by omega)) m3 m4 (hT.fr (g2.1 1 (by decide))) (m2.trans h8) (fun I' f p x h1 h2 h3 h4 h5 => kE I' f p x (e2.trans h1) h2 h3 h4 (g2.trans h5)) (fun I' P' e' x h1 h2 h3 h4 h5 => kO I' P' e' x (e2.trans h1) h2 h3 h4 (g2.trans h5))
      · exact absurd c2 (by decide)
/-- how a whole text is read -/
def x_text (T : Nat → Nat) (n : Nat) : x_E (w_R × Nat) := x_lines T n n s_P0 0 0
theorem c_read {I : w_I} (hT : TX T n I) (h256 : ∀ j, T j < 256) : FnI Ω (d + 8) mX4_read [.ref (Ω.1 + 2), .int (nI n)] (SH u v) I L (fun r S' I' L' => S' = SH u v ∧ L = L' ∧ ((∃ f p, x_text T n = .error (f, p) ∧ 1 ≤ f ∧ f ≤ 5 ∧ r = nI f ∧ I' 2 9 = p) ∨ ∃ P' e', x_text T n = .ok (P', e') ∧ s_POK P' ∧ r = nI 0 ∧ PRep 3 P' I') ∧ ∀ i, i < 2 ∨ 15 ≤ i → I' i = I i) := by
  have hn := hT.1
  refine FnR_of okX4_read (Nat.le_of_ble_eq_true rfl) fun l z => ?_
  have hE : w_fit (d + 7) (w_Er l (d + 8) 0 0 Ω (w_pi (fun r S' I' L' => S' = SH u v ∧ L = L' ∧ ((∃ f p, x_text T n = .error (f, p) ∧ 1 ≤ f ∧ f ≤ 5 ∧ r = nI f ∧ I' 2 9 = p) ∨ ∃ P' e', x_text T n = .ok (P', e') ∧ s_POK P' ∧ r = nI 0 ∧ PRep 3 P' I') ∧ ∀ i, i < 2 ∨ 15 ≤ i → I' i = I i)) z) := w_fit_r
  show V _ _ _ _ _ _ _ _ 0 [(0, _), (1, _)] []
  refine V_aload_n 0 0 dX4_read_0 rfl ?_
  refine V_iload_n 1 1 dX4_read_1 rfl ?_
  refine V_putI 2 flX4_22 ft_4_2 dX4_read_2 rfl ?_
  refine V_aload_n 5 0 dX4_read_5 rfl ?_
  refine V_getR 6 flX4_12 dX4_read_6 rfl ?_
  refine V_vv 9 mvX4_26 dX4_read_9 ⟨_, _, _, rfl, rfl, rfl⟩ (w_fit.mono (by omega) hE) (c_clear (d := d)) rfl (Nat.le_of_ble_eq_true rfl) ?_
  rintro _ I1 _ ⟨rfl, rfl, g1, g2⟩
  refine V_aload_n 12 0 dX4_read_12 rfl ?_
  refine V_cst 13 0 dX4_read_13 rfl ?_
  refine V_putI 14 flX4_29 ft_4_8 dX4_read_14 rfl ?_
  refine V_aload_n 17 0 dX4_read_17 rfl ?_
  refine V_cst 18 0 dX4_read_18 rfl ?_
  refine V_putI 19 flX4_32 ft_4_5 dX4_read_19 rfl ?_
  refine V_aload_n 22 0 dX4_read_22 rfl ?_
  have f1 : ∀ i, i < 2 ∨ 15 ≤ i → I1 i = I i := fun i hi => by rw [g2 i (by omega), w_put_ne _ _ (by omega)]
  have f2 : ∀ i, i ≠ 2 → w_put (w_put I1 2 8 0) 2 5 0 i = I1 i := fun i hi => by rw [w_put_ne _ _ hi, w_put_ne _ _ hi]
  have hP1 : PRep 3 s_P0 (w_put (w_put I1 2 8 0) 2 5 0) := g1.fr (lo := 2) (hi := 3) (fun i hi => f2 i (by omega)) (by decide)
  have hT1 : TX T n (w_put (w_put I1 2 8 0) 2 5 0) := hT.fr (by rw [f2 1 (by decide), f1 1 (by decide)])
  have h2 : w_put (w_put I1 2 8 0) 2 5 0 2 2 = n := by
    rw [w_put_other _ (Or.inr (by decide)), w_put_other _ (Or.inr (by decide)), g2 2 (by decide), w_put_same]
  refine V_vv 23 mvX4_35 dX4_read_23 ⟨_, _, _, rfl, rfl, rfl⟩ (w_fit.mono (by omega) hE) (c_advance (d := d) (T := T) (n := n) (e := 0) h2 (w_put_same _ _ _ _) (Nat.zero_le _) hT1) rfl (Nat.le_of_ble_eq_true rfl) ?_
  rintro _ I2 _ ⟨rfl, rfl, k1, k2⟩
  refine V_cst 26 0 dX4_read_26 rfl ?_
  refine V_istore_n 27 [(0, _), (1, _), (2, _)] dX4_read_27 (by decide) rfl ?_
  refine rd_l hE h256 n 0 0 s_P0 I2 (by omega) (Nat.zero_le _) s_P0_ok (fun _ => ⟨rfl, rfl⟩) (k2.toR.P hP1) k1 (hT1.fr (k2.1 1 (by decide))) ?_ (fun I' f p x h1 h2 h3 h4 h5 => ?_) (fun I' P' e' x h1 h2 h3 h4 h5 => ?_)
  · rw [k2.2 8 (by decide), w_put_other _ (Or.inr (by decide)), w_put_same]
  · refine V_aload_n 60 0 dX4_read_60 rfl ?_
    refine V_getI 61 flX4_29 dX4_read_61 rfl ?_
    refine V_iret 64 dX4_read_64 rfl ⟨rfl, rfl, Or.inl ⟨f, p, h1, h2, ?_, by rw [h3], h4⟩, fun i hi => ?_⟩
    · have key : ∀ (m k e : Nat) (P : w_R) (q : Nat × Nat), x_lines T n m P k e = .error q → q.1 ≤ 5 := by
        intro m
        induction m with
        | zero => intro k e P q h; cases h
        | succ m ih =>
          intro k e P q h
          unfold x_lines at h
          split at h
          · cases h
          · rcases xb_inv_e h with h | ⟨a, -, h⟩
            · exact (x_line_f h).2
            · exact ih _ _ _ q h
      exact key _ _ _ _ _ h1
    · rw [h5.1 i hi, k2.1 i (by omega), f2 i (by omega), f1 i hi]
  · refine V_aload_n 60 0 dX4_read_60 rfl ?_
    refine V_getI 61 flX4_29 dX4_read_61 rfl ?_
    refine V_iret 64 dX4_read_64 rfl ⟨rfl, rfl, Or.inr ⟨P', e', h1, h2, by rw [h3], h4⟩, fun i hi => ?_⟩
    rw [h5.1 i hi, k2.1 i (by omega), f2 i (by omega), f1 i hi]
end
