/-! lines -/
def x_people (T : Nat → Nat) (n : Nat) (P : w_R) (e : Nat) : x_E (w_R × Nat) := x_num T n (x_en T n e) 2 7 2 >>= fun a => x_semi T n a.2 >>= fun e' => .ok (w_put P 0 0 a.1, e')
def x_price (T : Nat → Nat) (n : Nat) (P : w_R) (e : Nat) : x_E (w_R × Nat) := x_num T n (x_en T n e) 0 (P 0 0) 3 >>= fun a => x_num T n a.2 0 100 2 >>= fun b => x_semi T n b.2 >>= fun e' => .ok (w_put P 1 a.1 b.1, e')
def x_meet (T : Nat → Nat) (n : Nat) (P : w_R) (e : Nat) : x_E (w_R × Nat) := x_num T n (x_en T n e) 0 (P 0 0) 3 >>= fun a => x_oth T n a.2 a.1 (P 0 0) >>= fun b => x_hr T n b.2 >>= fun c => x_semi T n c.2 >>= fun e' => .ok (s_addM P a.1 b.1 c.1, e')
def x_prom (T : Nat → Nat) (n : Nat) (P : w_R) (e : Nat) : x_E (w_R × Nat) := x_num T n (x_en T n e) 0 (P 0 0) 3 >>= fun a => x_oth T n a.2 a.1 (P 0 0) >>= fun b => x_day T n b.2 >>= fun c => x_hr T n c.2 >>= fun h => x_on T n (P 6 0) h.2 >>= fun l => x_semi T n l.2 >>= fun e' => .ok (s_addP P a.1 b.1 c.1 h.1 l.1, e')
def x_line (T : Nat → Nat) (n : Nat) (P : w_R) (k e : Nat) : x_E (w_R × Nat) :=
  if x_is T n e 0 then (if k = 0 then x_people T n P e else .error (5, x_st T n e)) else if x_is T n e 1 then x_price T n P e else if x_is T n e 2 then (if P 2 0 < 12 then x_meet T n P e else .error (2, x_st T n e)) else if x_is T n e 3 then (if P 6 0 < 12 then x_prom T n P e else .error (2, x_st T n e)) else .error (1, x_st T n e)
/-- lines from the k-th on, at most m -/
def x_lines (T : Nat → Nat) (n : Nat) : Nat → w_R → Nat → Nat → x_E (w_R × Nat)
  | 0, P, _, e => .ok (P, e)
  | m + 1, P, k, e => if x_kd T n e = 0 then .ok (P, e) else x_line T n P k e >>= fun q => x_lines T n m q.1 (k + 1) q.2
theorem xb_err {α β : Type} {x : x_E α} {f : α → x_E β} {q : Nat × Nat} (h : x = .error q) : (x >>= f) = .error q := by rw [h]; rfl
theorem xb_ok {α β : Type} {x : x_E α} {f : α → x_E β} {a : α} (h : x = .ok a) : (x >>= f) = f a := by rw [h]; rfl
/-- only the reader's numbers and its plan have changed -/
def FrP (I I' : w_I) : Prop := (∀ i, i < 2 ∨ 15 ≤ i → I' i = I i) ∧ ∀ j, j < 3 → I' 2 j = I 2 j
theorem FrP.rf {I : w_I} : FrP I I := ⟨fun _ _ => rfl, fun _ _ => rfl⟩
theorem FrP.trans {I I' I'' : w_I} (h : FrP I I') (h' : FrP I' I'') : FrP I I'' := ⟨fun i hi => (h'.1 i hi).trans (h.1 i hi), fun j hj => (h'.2 j hj).trans (h.2 j hj)⟩
theorem FrR.toP {I I' : w_I} (h : FrR I I') : FrP I I' := ⟨fun i hi => h.1 i (by omega), h.2⟩
theorem FrP.put {I I' : w_I} {a j x : Nat} (h : FrP I I') (h1 : 3 ≤ a) (h2 : a < 15) : FrP I (w_put I' a j x) := ⟨fun i hi => (w_put_ne I' i (by omega)).trans (h.1 i hi), fun q hq => by rw [w_put_other _ (Or.inl (by omega))]; exact h.2 q hq⟩
theorem FrP.of {I I' : w_I} (h : Fr 3 15 I I') : FrP I I' := ⟨fun i hi => h i (by omega), fun j _ => by rw [h 2 (by decide)]⟩
theorem RT.same {T : Nat → Nat} {n e : Nat} {I I' : w_I} (h : RT T n e I) (h2 : I' 2 = I 2) : RT T n e I' := by unfold RT; rw [h2]; exact h
theorem PRep.people {P : w_R} {I : w_I} {x : Nat} (h : PRep 3 P I) : PRep 3 (w_put P 0 0 x) (w_put I 3 0 x) := by
  obtain ⟨r0, r1, r2, r3, r4, r5⟩ := h
  refine ⟨rfl, fun j hj => ?_, ?_, fun j hj => ?_, ?_, fun j hj => ?_⟩
  · simpa [w_put_eq] using r1 j hj
  · simpa [w_put_eq] using r2
  · have hj : j < P 2 0 := by simpa [w_put_eq] using hj
    simpa [w_put_eq] using r3 j hj
  · simpa [w_put_eq] using r4
  · have hj : j < P 6 0 := by simpa [w_put_eq] using hj
    simpa [w_put_eq] using r5 j hj
theorem PRep.price {P : w_R} {I : w_I} {a x : Nat} (h : PRep 3 P I) : PRep 3 (w_put P 1 a x) (w_put I 4 a x) := by
  obtain ⟨r0, r1, r2, r3, r4, r5⟩ := h
  refine ⟨?_, fun j hj => ?_, ?_, fun j hj => ?_, ?_, fun j hj => ?_⟩
  · simpa [w_put_eq] using r0
  · have := r1 j hj
    by_cases e : j = a
    · subst e; simp [w_put_eq]
    · simpa [w_put_eq, e] using this
  · simpa [w_put_eq] using r2
  · have hj : j < P 2 0 := by simpa [w_put_eq] using hj
    simpa [w_put_eq] using r3 j hj
  · simpa [w_put_eq] using r4
  · have hj : j < P 6 0 := by simpa [w_put_eq] using hj
    simpa [w_put_eq] using r5 j hj
section
variable {Ω : w_O} {d u v : Nat} {L : w_L} {E : w_E} {T : Nat → Nat} {n : Nat} {P : w_R}
/-- what a line's reader answers -/
abbrev LnP (u v : Nat) (T : Nat → Nat) (n : Nat) (L : w_L) (I : w_I) (x : x_E (w_R × Nat)) : Int32 → List w_SC → w_I → w_L → Prop := fun r S' I' L' => S' = SH u v ∧ L = L' ∧ RQ x r I I' (fun q => PRep 3 q.1 I' ∧ RT T n q.2 I') ∧ FrP I I'
theorem x_oth_le {e a hi : Nat} {q : Nat × Nat} (he : e ≤ n) (h : x_oth T n e a hi = .ok q) : q.2 ≤ n := by
  rw [(x_oth_ok h).2.2]; exact (x_en_le he).2.2
theorem x_num_le {e lo hi f : Nat} {q : Nat × Nat} (he : e ≤ n) (h : x_num T n e lo hi f = .ok q) : q.2 ≤ n := by
  rw [(x_num_ok h).2.2.1]; exact (x_en_le he).2.2
theorem x_hr_le {e : Nat} {q : Nat × Nat} (he : e ≤ n) (h : x_hr T n e = .ok q) : q.1 < 12 ∧ q.2 ≤ n := by
  unfold x_hr at h
  split at h
  · exact ⟨(x_num_ok h).2.1, x_num_le (x_en_le he).2.2 h⟩
  · cases h
theorem x_day_le {e : Nat} {q : Nat × Nat} (he : e ≤ n) (h : x_day T n e = .ok q) : q.1 < 100 ∧ q.2 ≤ n := by
  unfold x_day at h
  split at h
  · exact ⟨(x_num_ok h).2.1, x_num_le (x_en_le he).2.2 h⟩
  · cases h; exact ⟨Nat.zero_lt_succ _, he⟩
theorem x_l1_ok {np b e : Nat} {q : Nat × Nat} (h : x_l1 T n np b e = .ok q) : q.1 < np ∧ q.2 = x_en T n e := by
  unfold x_l1 at h
  split at h
  · cases h
  · exact ⟨(x_num_ok h).2.1, (x_num_ok h).2.2.1⟩
theorem x_ls_le {np : Nat} : ∀ (k b e : Nat) (q : Nat × Nat), e ≤ n → b < 2 ^ np → x_ls T n np k b e = .ok q → q.1 < 2 ^ np ∧ q.2 ≤ n := by
  intro k
  induction k with
  | zero => intro b e q he hb h; cases h; exact ⟨hb, he⟩
  | succ k ih =>
    intro b e q he hb h
    cases h1 : x_l1 T n np b e with
    | error z => rw [x_ls_err h1] at h; cases h
    | ok z =>
      obtain ⟨z1, z2⟩ := z
      rw [x_ls_ok h1] at h
      obtain ⟨o1, o2⟩ := x_l1_ok h1
      have o1 : z1 < np := o1
      have o2 : z2 = x_en T n e := o2
      have hle : z2 ≤ n := by rw [o2]; exact (x_en_le he).2.2
      have hb2 : b ||| 2 ^ z1 < 2 ^ np := Nat.or_lt_two_pow hb (p_lt o1)
      split at h
      · exact ih _ _ q hle hb2 h
      · cases h; exact ⟨hb2, hle⟩
theorem x_on_le {np e : Nat} {q : Nat × Nat} (he : e ≤ n) (h : x_on T n np e = .ok q) : q.1 < 2 ^ np ∧ q.2 ≤ n := by
  unfold x_on at h
  split at h
  · exact x_ls_le 13 0 _ q (x_en_le he).2.2 (Nat.two_pow_pos _) h
  · cases h; exact ⟨Nat.two_pow_pos _, he⟩
theorem c_readPeople {I : w_I} {e : Nat} (hRP : PRep 3 P I) (hR : RT T n e I) (hT : TX T n I) (h256 : ∀ j, T j < 256) (he : e ≤ n) : FnI Ω (d + 6) mX4_readPeople [.ref (Ω.1 + 2)] (SH u v) I L (LnP u v T n L I (x_people T n P e)) := by
  have hen := x_en_le (T := T) he
  refine FnR_of okX4_readPeople (Nat.le_of_ble_eq_true rfl) fun l z => ?_
  have hE : w_fit (d + 5) (w_Er l (d + 6) 0 0 Ω (w_pi (LnP u v T n L I (x_people T n P e))) z) := w_fit_r
  show V _ _ _ _ _ _ _ _ 0 [(0, _)] []
  refine V_aload_n 0 0 dX4_readPeople_0 rfl ?_
  refine V_vv 1 mvX4_35 dX4_readPeople_1 ⟨_, _, _, rfl, rfl, rfl⟩ (w_fit.mono (by omega) hE) (c_advance (d := d) (T := T) (n := n) (e := x_en T n e) hR.1 hR.2.2.2.1 hen.2.2 hT) rfl (Nat.le_of_ble_eq_true rfl) ?_
  rintro _ I1 _ ⟨rfl, rfl, g1, g2⟩
  refine V_aload_n 4 0 dX4_readPeople_4 rfl ?_
  refine V_cst 5 2 dX4_readPeople_5 rfl ?_
  refine V_bip 6 6 dX4_readPeople_6 rfl ?_
  refine V_cst 8 2 dX4_readPeople_8 rfl ?_
  refine V_vi 9 mvX4_79 dX4_readPeople_9 ⟨_, _, _, rfl, rfl, rfl⟩ (w_fit.mono (by omega) hE) (c_takeNumber (d := d) (lo := 2) (hi := 7) (f := 2) g1 (hT.fr (g2.1 1 (by decide))) h256 hen.2.2 (by decide) (by decide) (Or.inl ⟨by decide, rfl⟩)) rfl (Nat.le_of_ble_eq_true rfl) ?_
  rintro r _ I2 _ ⟨rfl, rfl, k1, k2⟩
  have hf2 : FrR I I2 := g2.toR.trans k2
  rcases k1 with ⟨f, p, m1, rfl, m2, m3⟩ | ⟨⟨a1, a2⟩, m1, rfl, m2, m3, m4⟩
  · refine V_zN_ne 12 17 dX4_readPeople_12 (by decide) (by omega) (fun c => ?_) (fun c => ?_)
    · exact absurd rfl c
    refine V_cst 15 0 dX4_readPeople_15 rfl ?_
    exact V_zret 16 dX4_readPeople_16 rfl rfl ⟨rfl, rfl, Or.inl ⟨f, p, xb_err m1, rfl, m2, m3⟩, hf2.toP⟩
  · have hle := x_num_le hen.2.2 m1
    refine V_zN_ne 12 17 dX4_readPeople_12 (by decide) (by omega) (fun c => ?_) (fun c => ?_)
    · refine V_aload_n 17 0 dX4_readPeople_17 rfl ?_
      refine V_getR 18 flX4_12 dX4_readPeople_18 rfl ?_
      refine V_aload_n 21 0 dX4_readPeople_21 rfl ?_
      refine V_getI 22 flX4_83 dX4_readPeople_22 rfl ?_
      refine V_putI 25 flX4_86 ft_3_0 dX4_readPeople_25 rfl ?_
      refine V_aload_n 28 0 dX4_readPeople_28 rfl ?_
      rw [show I2 2 7 = a1 from m3]
      have hf3 : FrP I (w_put I2 3 0 a1) := hf2.toP.put (by decide) (by decide)
      refine V_vi 29 mvX4_88 dX4_readPeople_29 ⟨_, _, _, rfl, rfl, rfl⟩ (w_fit.mono (by omega) hE) (c_takeSemicolon (d := d) (T := T) (n := n) (e := a2) (m4.same (w_put_ne _ _ (by decide))) (hT.fr (hf3.1 1 (by decide))) hle) rfl (Nat.le_of_ble_eq_true rfl) ?_
      rintro r _ I3 _ ⟨rfl, rfl, o1, o2⟩
      have hP3 : PRep 3 (w_put P 0 0 a1) I3 := o2.P (hf2.P hRP).people
      refine V_zret 32 dX4_readPeople_32 rfl ?_ ⟨rfl, rfl, ?_, hf3.trans o2.toP⟩
      · rcases o1 with ⟨_, _, _, rfl, _⟩ | ⟨_, _, rfl, _⟩ <;> rfl
      · rcases o1 with ⟨f, p, q1, q2, q3, q4⟩ | ⟨b, q1, q2, q3, q4⟩
        · exact Or.inl ⟨f, p, (xb_ok m1).trans (xb_err q1), q2, q3, q4⟩
        · refine Or.inr ⟨_, (xb_ok m1).trans (xb_ok q1), q2, ?_, hP3, q4⟩
          rw [q3, w_put_other _ (Or.inl (by decide)), m2, g2.2 8 (by decide)]
    · exact absurd c (by decide)
theorem c_readPrice {I : w_I} {e : Nat} (hP : s_POK P) (hRP : PRep 3 P I) (hR : RT T n e I) (hT : TX T n I) (h256 : ∀ j, T j < 256) (he : e ≤ n) : FnI Ω (d + 6) mX4_readPrice [.ref (Ω.1 + 2)] (SH u v) I L (LnP u v T n L I (x_price T n P e)) := by
  have hen := x_en_le (T := T) he
  have h6 := hP.1.2
  refine FnR_of okX4_readPrice (Nat.le_of_ble_eq_true rfl) fun l z => ?_
  have hE : w_fit (d + 5) (w_Er l (d + 6) 0 0 Ω (w_pi (LnP u v T n L I (x_price T n P e))) z) := w_fit_r
  show V _ _ _ _ _ _ _ _ 0 [(0, _)] []
  refine V_aload_n 0 0 dX4_readPrice_0 rfl ?_
  refine V_vv 1 mvX4_35 dX4_readPrice_1 ⟨_, _, _, rfl, rfl, rfl⟩ (w_fit.mono (by omega) hE) (c_advance (d := d) (T := T) (n := n) (e := x_en T n e) hR.1 hR.2.2.2.1 hen.2.2 hT) rfl (Nat.le_of_ble_eq_true rfl) ?_
  rintro _ I1 _ ⟨rfl, rfl, g1, g2⟩
  refine V_aload_n 4 0 dX4_readPrice_4 rfl ?_
  refine V_vi 5 mvX4_91 dX4_readPrice_5 ⟨_, _, _, rfl, rfl, rfl⟩ (w_fit.mono (by omega) hE) (c_takePerson (d := d) hP (g2.toR.P hRP) g1 (hT.fr (g2.1 1 (by decide))) h256 hen.2.2) rfl (Nat.le_of_ble_eq_true rfl) ?_
  rintro r _ I2 _ ⟨rfl, rfl, k1, k2⟩
  have hf2 : FrR I I2 := g2.toR.trans k2
  rcases k1 with ⟨f, p, m1, rfl, m2, m3⟩ | ⟨⟨a1, a2⟩, m1, rfl, m2, m3, m4⟩
  · refine V_zN_ne 8 13 dX4_readPrice_8 (by decide) (by omega) (fun c => ?_) (fun c => ?_)
    · exact absurd rfl c
    refine V_cst 11 0 dX4_readPrice_11 rfl ?_
    exact V_zret 12 dX4_readPrice_12 rfl rfl ⟨rfl, rfl, Or.inl ⟨f, p, xb_err m1, rfl, m2, m3⟩, hf2.toP⟩
  have hle := x_num_le hen.2.2 m1
  have ha1 : a1 < P 0 0 := (x_num_ok m1).2.1
  refine V_zN_ne 8 13 dX4_readPrice_8 (by decide) (by omega) (fun c => ?_) (fun c => ?_)
  · refine V_aload_n 13 0 dX4_readPrice_13 rfl ?_
    refine V_getI 14 flX4_83 dX4_readPrice_14 rfl ?_
    rw [show I2 2 7 = a1 from m3]
    refine V_istore_n 17 [(0, _), (1, _)] dX4_readPrice_17 (by decide) rfl ?_
    refine V_aload_n 18 0 dX4_readPrice_18 rfl ?_
    refine V_cst 19 0 dX4_readPrice_19 rfl ?_
    refine V_bip 20 99 dX4_readPrice_20 rfl ?_
    refine V_cst 22 2 dX4_readPrice_22 rfl ?_
    refine V_vi 23 mvX4_79 dX4_readPrice_23 ⟨_, _, _, rfl, rfl, rfl⟩ (w_fit.mono (by omega) hE) (c_takeNumber (d := d) (T := T) (n := n) (e := a2) (lo := 0) (hi := 100) (f := 2) m4 (hT.fr (hf2.1 1 (by decide))) h256 hle (by decide) (by decide) (Or.inl ⟨by decide, rfl⟩)) rfl (Nat.le_of_ble_eq_true rfl) ?_
    rintro r _ I3 _ ⟨rfl, rfl, k3, k4⟩
    have hf3 : FrR I I3 := hf2.trans k4
    rcases k3 with ⟨f, p, q1, rfl, q2, q3⟩ | ⟨⟨b1, b2⟩, q1, rfl, q2, q3, q4⟩
    · refine V_zN_ne 26 31 dX4_readPrice_26 (by decide) (by omega) (fun c1 => ?_) (fun c1 => ?_)
      · exact absurd rfl c1
      refine V_cst 29 0 dX4_readPrice_29 rfl ?_
      exact V_zret 30 dX4_readPrice_30 rfl rfl ⟨rfl, rfl, Or.inl ⟨f, p, (xb_ok m1).trans (xb_err q1), rfl, q2, q3⟩, hf3.toP⟩
    have hle2 := x_num_le hle q1
    refine V_zN_ne 26 31 dX4_readPrice_26 (by decide) (by omega) (fun c1 => ?_) (fun c1 => ?_)
    · refine V_aload_n 31 0 dX4_readPrice_31 rfl ?_
      refine V_getR 32 flX4_12 dX4_readPrice_32 rfl ?_
      refine V_getR 35 flX4_94 dX4_readPrice_35 rfl ?_
      refine V_iload_n 38 1 dX4_readPrice_38 rfl ?_
      refine V_aload_n 39 0 dX4_readPrice_39 rfl ?_
      refine V_getI 40 flX4_83 dX4_readPrice_40 rfl ?_
      rw [show I3 2 7 = b1 from q3]
      refine V_iast 43 dX4_readPrice_43 rfl (by omega) (by omega) ?_
      refine V_aload_n 44 0 dX4_readPrice_44 rfl ?_
      have hf4 : FrP I (w_put I3 4 a1 b1) := hf3.toP.put (by decide) (by decide)
      refine V_vi 45 mvX4_88 dX4_readPrice_45 ⟨_, _, _, rfl, rfl, rfl⟩ (w_fit.mono (by omega) hE) (c_takeSemicolon (d := d) (T := T) (n := n) (e := b2) (q4.same (w_put_ne _ _ (by decide))) (hT.fr (hf4.1 1 (by decide))) hle2) rfl (Nat.le_of_ble_eq_true rfl) ?_
      rintro r _ I5 _ ⟨rfl, rfl, o1, o2⟩
      have hP3 : PRep 3 (w_put P 1 a1 b1) I5 := o2.P (hf3.P hRP).price
      refine V_zret 48 dX4_readPrice_48 rfl ?_ ⟨rfl, rfl, ?_, hf4.trans o2.toP⟩
      · rcases o1 with ⟨_, _, _, rfl, _⟩ | ⟨_, _, rfl, _⟩ <;> rfl
      · rcases o1 with ⟨f, p, s1, s2, s3, s4⟩ | ⟨b, s1, s2, s3, s4⟩
        · exact Or.inl ⟨f, p, (xb_ok m1).trans ((xb_ok q1).trans (xb_err s1)), s2, s3, s4⟩
        · refine Or.inr ⟨_, (xb_ok m1).trans ((xb_ok q1).trans (xb_ok s1)), s2, ?_, hP3, s4⟩
          rw [s3, w_put_other _ (Or.inl (by decide)), q2, m2, g2.2 8 (by decide)]
    · exact absurd c1 (by decide)
  · exact absurd c (by decide)
theorem c_readMeeting {I : w_I} {e : Nat} (hP : s_POK P) (h12 : P 2 0 < 12) (hRP : PRep 3 P I) (hR : RT T n e I) (hT : TX T n I) (h256 : ∀ j, T j < 256) (he : e ≤ n) : FnI Ω (d + 6) mX4_readMeeting [.ref (Ω.1 + 2)] (SH u v) I L (LnP u v T n L I (x_meet T n P e)) := by
  have hen := x_en_le (T := T) he
  have h6 := hP.1.2
  refine FnR_of okX4_readMeeting (Nat.le_of_ble_eq_true rfl) fun l z => ?_
  have hE : w_fit (d + 5) (w_Er l (d + 6) 0 0 Ω (w_pi (LnP u v T n L I (x_meet T n P e))) z) := w_fit_r
  show V _ _ _ _ _ _ _ _ 0 [(0, _)] []
  refine V_aload_n 0 0 dX4_readMeeting_0 rfl ?_
  refine V_vv 1 mvX4_35 dX4_readMeeting_1 ⟨_, _, _, rfl, rfl, rfl⟩ (w_fit.mono (by omega) hE) (c_advance (d := d) (T := T) (n := n) (e := x_en T n e) hR.1 hR.2.2.2.1 hen.2.2 hT) rfl (Nat.le_of_ble_eq_true rfl) ?_
  rintro _ I1 _ ⟨rfl, rfl, g1, g2⟩
  refine V_aload_n 4 0 dX4_readMeeting_4 rfl ?_
  refine V_vi 5 mvX4_91 dX4_readMeeting_5 ⟨_, _, _, rfl, rfl, rfl⟩ (w_fit.mono (by omega) hE) (c_takePerson (d := d) hP (g2.toR.P hRP) g1 (hT.fr (g2.1 1 (by decide))) h256 hen.2.2) rfl (Nat.le_of_ble_eq_true rfl) ?_
  rintro r _ I2 _ ⟨rfl, rfl, k1, k2⟩
  have hf2 : FrR I I2 := g2.toR.trans k2
  rcases k1 with ⟨f, p, m1, rfl, m2, m3⟩ | ⟨⟨a1, a2⟩, m1, rfl, m2, m3, m4⟩
  · refine V_zN_ne 8 13 dX4_readMeeting_8 (by decide) (by omega) (fun c => ?_) (fun c => ?_)
    · exact absurd rfl c
    refine V_cst 11 0 dX4_readMeeting_11 rfl ?_
    exact V_zret 12 dX4_readMeeting_12 rfl rfl ⟨rfl, rfl, Or.inl ⟨f, p, xb_err m1, rfl, m2, m3⟩, hf2.toP⟩
  have hle := x_num_le hen.2.2 m1
  have ha1 : a1 < P 0 0 := (x_num_ok m1).2.1
  refine V_zN_ne 8 13 dX4_readMeeting_8 (by decide) (by omega) (fun c => ?_) (fun c => ?_)
  rotate_left
  · exact absurd c (by decide)
  refine V_aload_n 13 0 dX4_readMeeting_13 rfl ?_
  refine V_getI 14 flX4_83 dX4_readMeeting_14 rfl ?_
  rw [show I2 2 7 = a1 from m3]
  refine V_istore_n 17 [(0, _), (1, _)] dX4_readMeeting_17 (by decide) rfl ?_
  refine V_aload_n 18 0 dX4_readMeeting_18 rfl ?_
  refine V_iload_n 19 1 dX4_readMeeting_19 rfl ?_
  refine V_vi 20 mvX4_97 dX4_readMeeting_20 ⟨_, _, _, rfl, rfl, rfl⟩ (w_fit.mono (by omega) hE) (c_takeOther (d := d) (T := T) (n := n) (e := a2) (a := a1) (by omega) hP (hf2.P hRP) m4 (hT.fr (hf2.1 1 (by decide))) h256 hle) rfl (Nat.le_of_ble_eq_true rfl) ?_
  rintro r _ I3 _ ⟨rfl, rfl, k3, k4⟩
  have hf3 : FrR I I3 := hf2.trans k4
  rcases k3 with ⟨f, p, q1, rfl, q2, q3⟩ | ⟨⟨b1, b2⟩, q1, rfl, q2, q3, q4⟩
  · refine V_zN_ne 23 28 dX4_readMeeting_23 (by decide) (by omega) (fun c1 => ?_) (fun c1 => ?_)
    · exact absurd rfl c1
    refine V_cst 26 0 dX4_readMeeting_26 rfl ?_
    exact V_zret 27 dX4_readMeeting_27 rfl rfl ⟨rfl, rfl, Or.inl ⟨f, p, (xb_ok m1).trans (xb_err q1), rfl, q2, q3⟩, hf3.toP⟩
  have hle2 := x_oth_le hle q1
  refine V_zN_ne 23 28 dX4_readMeeting_23 (by decide) (by omega) (fun c1 => ?_) (fun c1 => ?_)
  rotate_left
  · exact absurd c1 (by decide)
  refine V_aload_n 28 0 dX4_readMeeting_28 rfl ?_
  refine V_getI 29 flX4_83 dX4_readMeeting_29 rfl ?_
  rw [show I3 2 7 = b1 from q3]
  refine V_istore_n 32 [(0, _), (1, _), (2, _)] dX4_readMeeting_32 (by decide) rfl ?_
  refine V_aload_n 33 0 dX4_readMeeting_33 rfl ?_
  refine V_vi 34 mvX4_100 dX4_readMeeting_34 ⟨_, _, _, rfl, rfl, rfl⟩ (w_fit.mono (by omega) hE) (c_takeHour (d := d) (T := T) (n := n) (e := b2) q4 (hT.fr (hf3.1 1 (by decide))) h256 hle2) rfl (Nat.le_of_ble_eq_true rfl) ?_
  rintro r _ I4 _ ⟨rfl, rfl, k5, k6⟩
  have hf4 : FrR I I4 := hf3.trans k6
  rcases k5 with ⟨f, p, t1, rfl, t2, t3⟩ | ⟨⟨c1', c2'⟩, t1, rfl, t2, t3, t4⟩
  · refine V_zN_ne 37 42 dX4_readMeeting_37 (by decide) (by omega) (fun c2 => ?_) (fun c2 => ?_)
    · exact absurd rfl c2
    refine V_cst 40 0 dX4_readMeeting_40 rfl ?_
    exact V_zret 41 dX4_readMeeting_41 rfl rfl ⟨rfl, rfl, Or.inl ⟨f, p, (xb_ok m1).trans ((xb_ok q1).trans (xb_err t1)), rfl, t2, t3⟩, hf4.toP⟩
  have hle3 := (x_hr_le hle2 t1).2
  refine V_zN_ne 37 42 dX4_readMeeting_37 (by decide) (by omega) (fun c2 => ?_) (fun c2 => ?_)
  rotate_left
  · exact absurd c2 (by decide)
  refine V_aload_n 42 0 dX4_readMeeting_42 rfl ?_
  refine V_getR 43 flX4_12 dX4_readMeeting_43 rfl ?_
  refine V_iload_n 46 1 dX4_readMeeting_46 rfl ?_
  refine V_iload_n 47 2 dX4_readMeeting_47 rfl ?_
  refine V_aload_n 48 0 dX4_readMeeting_48 rfl ?_
  refine V_getI 49 flX4_83 dX4_readMeeting_49 rfl ?_
  rw [show I4 2 7 = c1' from t3]
  refine V_vv 52 mvX4_103 dX4_readMeeting_52 ⟨_, _, _, rfl, rfl, rfl⟩ (w_fit.mono (by omega) hE) (c_addMeeting (d := d) (a := a1) (b := b1) (h := c1') (hf4.P hRP) h12) rfl (Nat.le_of_ble_eq_true rfl) ?_
  rintro _ I5 _ ⟨rfl, rfl, v1, v2⟩
  have hf5 : FrP I I5 := hf4.toP.trans (FrP.of v2)
  refine V_aload_n 55 0 dX4_readMeeting_55 rfl ?_
  refine V_vi 56 mvX4_88 dX4_readMeeting_56 ⟨_, _, _, rfl, rfl, rfl⟩ (w_fit.mono (by omega) hE) (c_takeSemicolon (d := d) (T := T) (n := n) (e := c2') (t4.same (v2 2 (by decide))) (hT.fr (hf5.1 1 (by decide))) hle3) rfl (Nat.le_of_ble_eq_true rfl) ?_
  rintro r _ I6 _ ⟨rfl, rfl, o1, o2⟩
  refine V_zret 59 dX4_readMeeting_59 rfl ?_ ⟨rfl, rfl, ?_, hf5.trans o2.toP⟩
  · rcases o1 with ⟨_, _, _, rfl, _⟩ | ⟨_, _, rfl, _⟩ <;> rfl
  · rcases o1 with ⟨f, p, s1, s2, s3, s4⟩ | ⟨b, s1, s2, s3, s4⟩
    · exact Or.inl ⟨f, p, (xb_ok m1).trans ((xb_ok q1).trans ((xb_ok t1).trans (xb_err s1))), s2, s3, s4⟩
    · refine Or.inr ⟨_, (xb_ok m1).trans ((xb_ok q1).trans ((xb_ok t1).trans (xb_ok s1))), s2, ?_, o2.P v1, s4⟩
      rw [s3, v2 2 (by decide), t2, q2, m2, g2.2 8 (by decide)]
theorem c_readPromise {I : w_I} {e : Nat} (hP : s_POK P) (h12 : P 6 0 < 12) (hRP : PRep 3 P I) (hR : RT T n e I) (hT : TX T n I) (h256 : ∀ j, T j < 256) (he : e ≤ n) : FnI Ω (d + 6) mX4_readPromise [.ref (Ω.1 + 2)] (SH u v) I L (LnP u v T n L I (x_prom T n P e)) := by
  have hen := x_en_le (T := T) he
  have h6 := hP.1.2
  refine FnR_of okX4_readPromise (Nat.le_of_ble_eq_true rfl) fun l z => ?_
  have hE : w_fit (d + 5) (w_Er l (d + 6) 0 0 Ω (w_pi (LnP u v T n L I (x_prom T n P e))) z) := w_fit_r
  show V _ _ _ _ _ _ _ _ 0 [(0, _)] []
  refine V_aload_n 0 0 dX4_readPromise_0 rfl ?_
  refine V_vv 1 mvX4_35 dX4_readPromise_1 ⟨_, _, _, rfl, rfl, rfl⟩ (w_fit.mono (by omega) hE) (c_advance (d := d) (T := T) (n := n) (e := x_en T n e) hR.1 hR.2.2.2.1 hen.2.2 hT) rfl (Nat.le_of_ble_eq_true rfl) ?_
  rintro _ I1 _ ⟨rfl, rfl, g1, g2⟩
  refine V_aload_n 4 0 dX4_readPromise_4 rfl ?_
  refine V_vi 5 mvX4_91 dX4_readPromise_5 ⟨_, _, _, rfl, rfl, rfl⟩ (w_fit.mono (by omega) hE) (c_takePerson (d := d) hP (g2.toR.P hRP) g1 (hT.fr (g2.1 1 (by decide))) h256 hen.2.2) rfl (Nat.le_of_ble_eq_true rfl) ?_
  rintro r _ I2 _ ⟨rfl, rfl, k1, k2⟩
  have hf2 : FrR I I2 := g2.toR.trans k2
  rcases k1 with ⟨f, p, m1, rfl, m2, m3⟩ | ⟨⟨a1, a2⟩, m1, rfl, m2, m3, m4⟩
  · refine V_zN_ne 8 13 dX4_readPromise_8 (by decide) (by omega) (fun c => ?_) (fun c => ?_)
    · exact absurd rfl c
    refine V_cst 11 0 dX4_readPromise_11 rfl ?_
    exact V_zret 12 dX4_readPromise_12 rfl rfl ⟨rfl, rfl, Or.inl ⟨f, p, xb_err m1, rfl, m2, m3⟩, hf2.toP⟩
  have hle := x_num_le hen.2.2 m1
  have ha1 : a1 < P 0 0 := (x_num_ok m1).2.1
  refine V_zN_ne 8 13 dX4_readPromise_8 (by decide) (by omega) (fun c => ?_) (fun c => ?_)
  rotate_left
  · exact absurd c (by decide)
  refine V_aload_n 13 0 dX4_readPromise_13 rfl ?_
  refine V_getI 14 flX4_83 dX4_readPromise_14 rfl ?_
  rw [show I2 2 7 = a1 from m3]
  refine V_istore_n 17 [(0, _), (1, _)] dX4_readPromise_17 (by decide) rfl ?_
  refine V_aload_n 18 0 dX4_readPromise_18 rfl ?_
  refine V_iload_n 19 1 dX4_readPromise_19 rfl ?_
  refine V_vi 20 mvX4_97 dX4_readPromise_20 ⟨_, _, _, rfl, rfl, rfl⟩ (w_fit.mono (by omega) hE) (c_takeOther (d := d) (T := T) (n := n) (e := a2) (a := a1) (by omega) hP (hf2.P hRP) m4 (hT.fr (hf2.1 1 (by decide))) h256 hle) rfl (Nat.le_of_ble_eq_true rfl) ?_
  rintro r _ I3 _ ⟨rfl, rfl, k3, k4⟩
  have hf3 : FrR I I3 := hf2.trans k4
  rcases k3 with ⟨f, p, q1, rfl, q2, q3⟩ | ⟨⟨b1, b2⟩, q1, rfl, q2, q3, q4⟩
  · refine V_zN_ne 23 28 dX4_readPromise_23 (by decide) (by omega) (fun c1 => ?_) (fun c1 => ?_)
    · exact absurd rfl c1
    refine V_cst 26 0 dX4_readPromise_26 rfl ?_
    exact V_zret 27 dX4_readPromise_27 rfl rfl ⟨rfl, rfl, Or.inl ⟨f, p, (xb_ok m1).trans (xb_err q1), rfl, q2, q3⟩, hf3.toP⟩
  have hle2 := x_oth_le hle q1
  refine V_zN_ne 23 28 dX4_readPromise_23 (by decide) (by omega) (fun c1 => ?_) (fun c1 => ?_)
  rotate_left
  · exact absurd c1 (by decide)
  refine V_aload_n 28 0 dX4_readPromise_28 rfl ?_
  refine V_getI 29 flX4_83 dX4_readPromise_29 rfl ?_
  rw [show I3 2 7 = b1 from q3]
  refine V_istore_n 32 [(0, _), (1, _), (2, _)] dX4_readPromise_32 (by decide) rfl ?_
  refine V_aload_n 33 0 dX4_readPromise_33 rfl ?_
  refine V_vi 34 mvX4_107 dX4_readPromise_34 ⟨_, _, _, rfl, rfl, rfl⟩ (w_fit.mono (by omega) hE) (c_takeDay (d := d) (T := T) (n := n) (e := b2) q4 (hT.fr (hf3.1 1 (by decide))) h256 hle2) rfl (Nat.le_of_ble_eq_true rfl) ?_
  rintro r _ I4 _ ⟨rfl, rfl, k5, k6⟩
  have hf4 : FrR I I4 := hf3.trans k6
  rcases k5 with ⟨f, p, t1, rfl, t2, t3⟩ | ⟨⟨d1, d2⟩, t1, rfl, t2, t3, t4⟩
  · refine V_zN_ne 37 42 dX4_readPromise_37 (by decide) (by omega) (fun c2 => ?_) (fun c2 => ?_)
    · exact absurd rfl c2
    refine V_cst 40 0 dX4_readPromise_40 rfl ?_
    exact V_zret 41 dX4_readPromise_41 rfl rfl ⟨rfl, rfl, Or.inl ⟨f, p, (xb_ok m1).trans ((xb_ok q1).trans (xb_err t1)), rfl, t2, t3⟩, hf4.toP⟩
  have hle3 := (x_day_le hle2 t1).2
  refine V_zN_ne 37 42 dX4_readPromise_37 (by decide) (by omega) (fun c2 => ?_) (fun c2 => ?_)
  rotate_left
  · exact absurd c2 (by decide)
  refine V_aload_n 42 0 dX4_readPromise_42 rfl ?_
  refine V_getI 43 flX4_83 dX4_readPromise_43 rfl ?_
  rw [show I4 2 7 = d1 from t3]
  refine V_istore_n 46 [(0, _), (1, _), (2, _), (3, _)] dX4_readPromise_46 (by decide) rfl ?_
  refine V_aload_n 47 0 dX4_readPromise_47 rfl ?_
  refine V_vi 48 mvX4_100 dX4_readPromise_48 ⟨_, _, _, rfl, rfl, rfl⟩ (w_fit.mono (by omega) hE) (c_takeHour (d := d) (T := T) (n := n) (e := d2) t4 (hT.fr (hf4.1 1 (by decide))) h256 hle3) rfl (Nat.le_of_ble_eq_true rfl) ?_
  rintro r _ I5 _ ⟨rfl, rfl, k7, k8⟩
  have hf5 : FrR I I5 := hf4.trans k8
  rcases k7 with ⟨f, p, v1, rfl, v2, v3⟩ | ⟨⟨h1', h2'⟩, v1, rfl, v2, v3, v4⟩
  · refine V_zN_ne 51 56 dX4_readPromise_51 (by decide) (by omega) (fun c3 => ?_) (fun c3 => ?_)
    · exact absurd rfl c3
    refine V_cst 54 0 dX4_readPromise_54 rfl ?_
    exact V_zret 55 dX4_readPromise_55 rfl rfl ⟨rfl, rfl, Or.inl ⟨f, p, (xb_ok m1).trans ((xb_ok q1).trans ((xb_ok t1).trans (xb_err v1))), rfl, v2, v3⟩, hf5.toP⟩
  have hle4 := (x_hr_le hle3 v1).2
  refine V_zN_ne 51 56 dX4_readPromise_51 (by decide) (by omega) (fun c3 => ?_) (fun c3 => ?_)
  rotate_left
  · exact absurd c3 (by decide)
  refine V_aload_n 56 0 dX4_readPromise_56 rfl ?_
  refine V_getI 57 flX4_83 dX4_readPromise_57 rfl ?_
  rw [show I5 2 7 = h1' from v3]
  refine V_istore 60 [(0, _), (1, _), (2, _), (3, _), (4, _)] dX4_readPromise_60 (by decide) rfl ?_
  refine V_aload_n 62 0 dX4_readPromise_62 rfl ?_
  refine V_vi 63 mvX4_110 dX4_readPromise_63 ⟨_, _, _, rfl, rfl, rfl⟩ (w_fit.mono (by omega) hE) (c_takeLeans (d := d) (T := T) (n := n) (e := h2') hP h12 (hf5.P hRP) v4 (hT.fr (hf5.1 1 (by decide))) h256 hle4) rfl (Nat.le_of_ble_eq_true rfl) ?_
  rintro r _ I6 _ ⟨rfl, rfl, k9, k10⟩
  have hf6 : FrR I I6 := hf5.trans k10
  rcases k9 with ⟨f, p, x1, rfl, x2, x3⟩ | ⟨⟨l1, l2⟩, x1, rfl, x2, x3, x4⟩
  · refine V_zN_ne 66 71 dX4_readPromise_66 (by decide) (by omega) (fun c4 => ?_) (fun c4 => ?_)
    · exact absurd rfl c4
    refine V_cst 69 0 dX4_readPromise_69 rfl ?_
    exact V_zret 70 dX4_readPromise_70 rfl rfl ⟨rfl, rfl, Or.inl ⟨f, p, (xb_ok m1).trans ((xb_ok q1).trans ((xb_ok t1).trans ((xb_ok v1).trans (xb_err x1)))), rfl, x2, x3⟩, hf6.toP⟩
  have hle5 := (x_on_le hle4 x1).2
  refine V_zN_ne 66 71 dX4_readPromise_66 (by decide) (by omega) (fun c4 => ?_) (fun c4 => ?_)
  rotate_left
  · exact absurd c4 (by decide)
  refine V_aload_n 71 0 dX4_readPromise_71 rfl ?_
  refine V_getR 72 flX4_12 dX4_readPromise_72 rfl ?_
  refine V_iload_n 75 1 dX4_readPromise_75 rfl ?_
  refine V_iload_n 76 2 dX4_readPromise_76 rfl ?_
  refine V_iload_n 77 3 dX4_readPromise_77 rfl ?_
  refine V_iload 78 4 dX4_readPromise_78 rfl ?_
  refine V_aload_n 80 0 dX4_readPromise_80 rfl ?_
  refine V_getI 81 flX4_83 dX4_readPromise_81 rfl ?_
  rw [show I6 2 7 = l1 from x3]
  refine V_vv 84 mvX4_113 dX4_readPromise_84 ⟨_, _, _, rfl, rfl, rfl⟩ (w_fit.mono (by omega) hE) (c_addPromise (d := d) (a := a1) (b := b1) (dd := d1) (h := h1') (ln := l1) (hf6.P hRP) h12) rfl (Nat.le_of_ble_eq_true rfl) ?_
  rintro _ I7 _ ⟨rfl, rfl, y1, y2⟩
  have hf7 : FrP I I7 := hf6.toP.trans (FrP.of y2)
  refine V_aload_n 87 0 dX4_readPromise_87 rfl ?_
  refine V_vi 88 mvX4_88 dX4_readPromise_88 ⟨_, _, _, rfl, rfl, rfl⟩ (w_fit.mono (by omega) hE) (c_takeSemicolon (d := d) (T := T) (n := n) (e := l2) (x4.same (y2 2 (by decide))) (hT.fr (hf7.1 1 (by decide))) hle5) rfl (Nat.le_of_ble_eq_true rfl) ?_
  rintro r _ I8 _ ⟨rfl, rfl, o1, o2⟩
  refine V_zret 91 dX4_readPromise_91 rfl ?_ ⟨rfl, rfl, ?_, hf7.trans o2.toP⟩
  · rcases o1 with ⟨_, _, _, rfl, _⟩ | ⟨_, _, rfl, _⟩ <;> rfl
  · rcases o1 with ⟨f, p, s1, s2, s3, s4⟩ | ⟨b, s1, s2, s3, s4⟩
    · exact Or.inl ⟨f, p, (xb_ok m1).trans ((xb_ok q1).trans ((xb_ok t1).trans ((xb_ok v1).trans ((xb_ok x1).trans (xb_err s1))))), s2, s3, s4⟩
    · refine Or.inr ⟨_, (xb_ok m1).trans ((xb_ok q1).trans ((xb_ok t1).trans ((xb_ok v1).trans ((xb_ok x1).trans (xb_ok s1))))), s2, ?_, o2.P y1, s4⟩
      rw [s3, y2 2 (by decide), x2, v2, t2, q2, m2, g2.2 8 (by decide)]
end
