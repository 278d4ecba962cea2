/-! HOW BOTH BEGIN -/
def i_c (I0 : w_I) : w_I := (w_row (w_row (w_row (w_row (w_put (w_put (w_row (w_put I0 3 0 2) 4 (w_fill 1 ((w_put I0 3 0 2) 4) 6)) 0 3 4294967295) 15 0 2) 16 (w_fill 1 ((w_put (w_put (w_row (w_put I0 3 0 2) 4 (w_fill 1 ((w_put I0 3 0 2) 4) 6)) 0 3 4294967295) 15 0 2) 16) 6)) 35 (w_fill 4294967295 ((w_row (w_put (w_put (w_row (w_put I0 3 0 2) 4 (w_fill 1 ((w_put I0 3 0 2) 4) 6)) 0 3 4294967295) 15 0 2) 16 (w_fill 1 ((w_put (w_put (w_row (w_put I0 3 0 2) 4 (w_fill 1 ((w_put I0 3 0 2) 4) 6)) 0 3 4294967295) 15 0 2) 16) 6)) 35) 12)) 47 (w_fill 4294967295 ((w_row (w_row (w_put (w_put (w_row (w_put I0 3 0 2) 4 (w_fill 1 ((w_put I0 3 0 2) 4) 6)) 0 3 4294967295) 15 0 2) 16 (w_fill 1 ((w_put (w_put (w_row (w_put I0 3 0 2) 4 (w_fill 1 ((w_put I0 3 0 2) 4) 6)) 0 3 4294967295) 15 0 2) 16) 6)) 35 (w_fill 4294967295 ((w_row (w_put (w_put (w_row (w_put I0 3 0 2) 4 (w_fill 1 ((w_put I0 3 0 2) 4) 6)) 0 3 4294967295) 15 0 2) 16 (w_fill 1 ((w_put (w_put (w_row (w_put I0 3 0 2) 4 (w_fill 1 ((w_put I0 3 0 2) 4) 6)) 0 3 4294967295) 15 0 2) 16) 6)) 35) 12)) 47) 12)) 55 (w_fill 4294967295 ((w_row (w_row (w_row (w_put (w_put (w_row (w_put I0 3 0 2) 4 (w_fill 1 ((w_put I0 3 0 2) 4) 6)) 0 3 4294967295) 15 0 2) 16 (w_fill 1 ((w_put (w_put (w_row (w_put I0 3 0 2) 4 (w_fill 1 ((w_put I0 3 0 2) 4) 6)) 0 3 4294967295) 15 0 2) 16) 6)) 35 (w_fill 4294967295 ((w_row (w_put (w_put (w_row (w_put I0 3 0 2) 4 (w_fill 1 ((w_put I0 3 0 2) 4) 6)) 0 3 4294967295) 15 0 2) 16 (w_fill 1 ((w_put (w_put (w_row (w_put I0 3 0 2) 4 (w_fill 1 ((w_put I0 3 0 2) 4) 6)) 0 3 4294967295) 15 0 2) 16) 6)) 35) 12)) 47 (w_fill 4294967295 ((w_row (w_row (w_put (w_put (w_row (w_put I0 3 0 2) 4 (w_fill 1 ((w_put I0 3 0 2) 4) 6)) 0 3 4294967295) 15 0 2) 16 (w_fill 1 ((w_put (w_put (w_row (w_put I0 3 0 2) 4 (w_fill 1 ((w_put I0 3 0 2) 4) 6)) 0 3 4294967295) 15 0 2) 16) 6)) 35 (w_fill 4294967295 ((w_row (w_put (w_put (w_row (w_put I0 3 0 2) 4 (w_fill 1 ((w_put I0 3 0 2) 4) 6)) 0 3 4294967295) 15 0 2) 16 (w_fill 1 ((w_put (w_put (w_row (w_put I0 3 0 2) 4 (w_fill 1 ((w_put I0 3 0 2) 4) 6)) 0 3 4294967295) 15 0 2) 16) 6)) 35) 12)) 47) 12)) 55) 12))
def i_m (I0 : w_I) : w_I := (w_put (w_put (w_put (w_put (w_put (w_put (w_put (w_put (w_put (w_put (w_put (w_put (w_put I0 64 0 2) 64 1 0) 64 2 0) 64 3 2) 64 4 0) 64 5 0) 63 27 4294967295) 65 0 1) 65 1 1) 65 2 1) 65 3 1) 65 4 1) 65 5 1)

def z_0 : w_Z := fun q => if q = 0 then s_P0 else if q = 2 then s_new else if q = 3 then (fun k _ => if k = 2 then mI else 0) else fun _ _ => 0
def I_0 : w_I := fun i j => if i = 3 ∨ i = 15 then (if j = 0 then 2 else 0) else if i = 4 ∨ i = 16 then (if j < 6 then 1 else 0) else if i = 0 then (if j = 3 then mI else 0) else if i = 35 ∨ i = 47 ∨ i = 55 then (if j < 12 then mI else 0) else 0
theorem s_hs_P0 : ∀ h, h ≤ 12 → s_hs s_P0 h = 0 := by decide +kernel
theorem start_C {I : w_I} (h : ∀ i, i < 63 → I i = I_0 i) : CInv 60 61 z_0 I := by
  refine ⟨⟨rfl, rfl⟩, ⟨s_P0_ok, ⟨?_, fun j hj => ?_, ?_, fun j hj => absurd hj (Nat.not_lt_zero _), ?_, fun j hj => absurd hj (Nat.not_lt_zero _)⟩, ⟨fun i hi => absurd hi (Nat.not_lt_zero _), fun q hq => ?_⟩, ?_⟩, ⟨⟨Nat.zero_le _, fun s hs => absurd hs (Nat.not_lt_zero _)⟩, ?_, fun s hs => absurd hs (Nat.not_lt_zero _)⟩, ⟨s_new_CI, rfl, ?_, ?_⟩, ⟨?_, Nat.zero_le _, fun j => ?_, fun j hj => absurd hj (Nat.not_lt_zero _)⟩, ⟨?_, ?_, ?_⟩, ⟨?_, Or.inl rfl⟩, ⟨?_, Or.inl rfl, ?_, ?_, fun j hj => ?_⟩, ⟨?_, Or.inl ?_, Or.inl ?_⟩⟩
  · rw [h 15 (by decide)]; rfl
  · rw [h 16 (by decide)]
    show (if j < 6 then 1 else 0) = 1
    rw [if_pos hj]
  · rw [h 15 (by decide)]; rfl
  · rw [h 15 (by decide)]; rfl
  · rw [h 26 (by decide)]; exact (s_hs_P0 q hq).symm
  · rw [h 15 (by decide)]; rfl
  · rw [h 27 (by decide)]; rfl
  · funext k j
    have e34 : ∀ q, I 34 q = 0 := fun q => by rw [h 34 (by decide)]; rfl
    have e35 : ∀ q, I 35 q = if q < 12 then mI else 0 := fun q => by rw [h 35 (by decide)]; rfl
    have e36 : ∀ q, I 36 q = 0 := fun q => by rw [h 36 (by decide)]; rfl
    have e37 : ∀ q, I 37 q = 0 := fun q => by rw [h 37 (by decide)]; rfl
    show w_put (cv 34 I) 6 0 0 k j = s_new k j
    rw [w_put_eq]
    unfold s_new cv
    split
    · rename_i q
      rw [if_neg (fun w => by omega)]
    · by_cases hj : j < 12
      · split <;> simp [e34, e35, e36, e37, hj]
        omega
      · split <;> simp [e34, e35, e36, e37, hj]
  · rw [h 34 (by decide)]; decide
  · rw [h 0 (by decide)]; rfl
  · show (0 : Nat) < 256; decide
  · rw [h 0 (by decide)]; rfl
  · rw [h 0 (by decide)]; rfl
  · rw [h 0 (by decide)]; rfl
  · rw [h 0 (by decide)]; rfl
  · rw [h 38 (by decide)]; rfl
  · rw [h 46 (by decide)]; rfl
  · rw [h 46 (by decide)]; rfl
  · rw [h 49 (by decide)]; rfl
  · rw [h 54 (by decide)]; decide
  · rw [h 50 (by decide)]; rfl
  · rw [h 50 (by decide)]; rfl
/-- what the town's constructor makes of nothing -/
theorem i_c_0 : ∀ i, i_c (fun _ _ => 0) i = if i < 63 then I_0 i else fun _ => 0 := by
  intro i
  by_cases h3 : i = 3
  · subst h3; funext j; simp [i_c, I_0, w_row, w_put, w_fill]
  by_cases h4 : i = 4
  · subst h4; funext j; simp [i_c, I_0, w_row, w_put, w_fill]
  by_cases h0 : i = 0
  · subst h0; funext j; simp [i_c, I_0, w_row, w_put, w_fill]
  by_cases h15 : i = 15
  · subst h15; funext j; simp [i_c, I_0, w_row, w_put, w_fill]
  by_cases h16 : i = 16
  · subst h16; funext j; simp [i_c, I_0, w_row, w_put, w_fill]
  by_cases h35 : i = 35
  · subst h35; funext j; simp [i_c, I_0, w_row, w_put, w_fill]
  by_cases h47 : i = 47
  · subst h47; funext j; simp [i_c, I_0, w_row, w_put, w_fill]
  by_cases h55 : i = 55
  · subst h55; funext j; simp [i_c, I_0, w_row, w_put, w_fill]
  unfold i_c
  rw [w_row_ne _ _ h55, w_row_ne _ _ h47, w_row_ne _ _ h35, w_row_ne _ _ h16, w_put_ne _ _ h15, w_put_ne _ _ h0, w_row_ne _ _ h4, w_put_ne _ _ h3]
  split
  · funext j
    show 0 = I_0 i j
    unfold I_0
    simp [h3, h4, h0, h15, h16, h35, h47, h55]
  · rfl
theorem start_M {I I' : w_I} (hI : ∀ i, 63 ≤ i → ∀ j, I i j = 0) (h83 : I' 80 0 = 0) (h84 : I' 81 0 = 0) (h85 : ∀ q, q < 12 → I' 82 (12 * 0 + q) = 0 ∧ I' 83 (12 * 0 + q) = mI ∧ I' 84 (12 * 0 + q) = 0 ∧ I' 85 (12 * 0 + q) = 0) (hf : FrD 0 (i_m I) I') : MInv z_0 I' ∧ I' 63 52 = 0 ∧ ∀ i, i < 63 ∨ 100 ≤ i → I' i = I i := by
  have e : ∀ i j, i < 80 ∨ 86 < i → I' i j = i_m I i j := fun i j hi => by rw [hf.1 i hi]
  have em : ∀ i, i ≠ 63 → i ≠ 64 → i ≠ 65 → i_m I i = I i := by
    intro i h1 h2 h3
    unfold i_m
    rw [w_put_ne _ _ h3, w_put_ne _ _ h3, w_put_ne _ _ h3, w_put_ne _ _ h3, w_put_ne _ _ h3, w_put_ne _ _ h3, w_put_ne _ _ h1, w_put_ne _ _ h2, w_put_ne _ _ h2, w_put_ne _ _ h2, w_put_ne _ _ h2, w_put_ne _ _ h2, w_put_ne _ _ h2]
  have e66 : ∀ j, j ≠ 27 → I' 63 j = 0 := by
    intro j hj
    rw [e 63 j (by decide)]
    simp [i_m, w_put, hj, hI]
  have e52 := e66 52 (by decide)
  refine ⟨⟨⟨?_, ?_, ?_, fun j hj => ?_, fun j hj => absurd hj (Nat.not_lt_zero _), fun j hj => absurd hj (Nat.not_lt_zero _)⟩, ⟨e66 11 (by decide), fun j hj => absurd hj (Nat.not_lt_zero _)⟩, s_new_MC (Nat.zero_le _) h83 h84 h85, ⟨e66 18 (by decide), fun j hj => absurd hj (Nat.not_lt_zero _)⟩, ⟨?_, ?_, ?_⟩, ⟨e66 41 (by decide), Or.inl rfl⟩, ⟨e66 53 (by decide), Or.inl rfl⟩, fun k hk => ?_⟩, e52, fun i hi => ?_⟩
  · rw [e 64 0 (by decide)]; simp [i_m, w_put, z_0, s_P0]
  · rw [e 64 1 (by decide)]; simp [i_m, w_put, z_0, s_P0]
  · rw [e 64 2 (by decide)]; simp [i_m, w_put, z_0, s_P0]
  · rw [e 65 j (by decide)]
    have hj' : j = 0 ∨ j = 1 ∨ j = 2 ∨ j = 3 ∨ j = 4 ∨ j = 5 := by omega
    rcases hj' with rfl | rfl | rfl | rfl | rfl | rfl <;> simp [i_m, w_put, z_0, s_P0]
  · rw [e 63 27 (by decide)]; simp [i_m, w_put, z_0]
  · rw [e 78 0 (by decide), em 78 (by decide) (by decide) (by decide), hI 78 (by decide)]; rfl
  · rw [e 78 1 (by decide), em 78 (by decide) (by decide) (by decide), hI 78 (by decide)]; rfl
  · rw [e 97 k (by decide), em 97 (by decide) (by decide) (by decide), hI 97 (by decide)]; exact Nat.zero_le _
  · rw [hf.1 i (by omega), em i (by omega) (by omega) (by omega)]
