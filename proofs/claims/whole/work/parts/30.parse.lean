/-! READING A TEXT: what is read from a token on, or the fault and its place -/
abbrev x_E (α : Type) : Type := Except (Nat × Nat) α
def x_is (T : Nat → Nat) (n e w : Nat) : Bool := x_kd T n e == 1 && (x_en T n e - x_st T n e == x_wl w && (List.range' 0 (x_wl w)).all (fun j => T (x_st T n e + j) == x_wc w j))
def x_num (T : Nat → Nat) (n e lo hi f : Nat) : x_E (Nat × Nat) := if x_kd T n e ≠ 2 then .error (1, x_st T n e) else if x_va T n e = mI then .error (2, x_st T n e) else if x_va T n e < lo ∨ hi ≤ x_va T n e then .error (f, x_st T n e) else .ok (x_va T n e, x_en T n e)
def x_oth (T : Nat → Nat) (n e a hi : Nat) : x_E (Nat × Nat) := if x_kd T n e = 2 ∧ x_va T n e = a then .error (4, x_st T n e) else x_num T n e 0 hi 3
def x_semi (T : Nat → Nat) (n e : Nat) : x_E Nat := if x_kd T n e = 3 then .ok (x_en T n e) else .error (1, x_st T n e)
def x_day (T : Nat → Nat) (n e : Nat) : x_E (Nat × Nat) := if x_is T n e 4 then x_num T n (x_en T n e) 0 100 2 else .ok (0, e)
def x_hr (T : Nat → Nat) (n e : Nat) : x_E (Nat × Nat) := if x_is T n e 5 then x_num T n (x_en T n e) 0 12 2 else .error (1, x_st T n e)
def x_l1 (T : Nat → Nat) (n np b e : Nat) : x_E (Nat × Nat) := if x_kd T n e = 2 ∧ x_va T n e < np ∧ b.testBit (x_va T n e) then .error (4, x_st T n e) else x_num T n e 0 np 3
def x_ls (T : Nat → Nat) (n np : Nat) : Nat → Nat → Nat → x_E (Nat × Nat)
  | 0, b, e => .ok (b, e)
  | k + 1, b, e => match x_l1 T n np b e with
    | .error q => .error q
    | .ok q => if x_kd T n q.2 = 2 then x_ls T n np k (b ||| 2 ^ q.1) q.2 else .ok (b ||| 2 ^ q.1, q.2)
def x_on (T : Nat → Nat) (n np e : Nat) : x_E (Nat × Nat) := if x_is T n e 6 then x_ls T n np 13 0 (x_en T n e) else .ok (0, e)
section
variable {T : Nat → Nat} {n : Nat}
theorem x_va_lt (h : ∀ j, T j < 256) (e : Nat) : x_va T n e < 1000000 ∨ x_va T n e = mI := by
  unfold x_va
  split
  · left; decide
  · unfold x_vl
    split
    · left; exact x_dec_lt h _ _ (by omega)
    · right; rfl
theorem x_num_ok {e lo hi f : Nat} {q : Nat × Nat} (h : x_num T n e lo hi f = .ok q) : lo ≤ q.1 ∧ q.1 < hi ∧ q.2 = x_en T n e ∧ x_kd T n e = 2 := by
  unfold x_num at h
  split at h
  · cases h
  · rename_i c
    split at h
    · cases h
    · split at h
      · cases h
      · cases h
        exact ⟨by omega, by omega, rfl, by omega⟩
theorem x_oth_ok {e a hi : Nat} {q : Nat × Nat} (h : x_oth T n e a hi = .ok q) : q.1 < hi ∧ q.1 ≠ a ∧ q.2 = x_en T n e := by
  unfold x_oth at h
  split at h
  · cases h
  · rename_i c
    have h1 := x_num_ok h
    refine ⟨h1.2.1, ?_, h1.2.2.1⟩
    intro e1
    apply c
    refine ⟨h1.2.2.2, ?_⟩
    unfold x_num at h
    split at h
    · cases h
    · split at h
      · cases h
      · split at h
        · cases h
        · cases h; exact e1
theorem x_kd_lt (e : Nat) : x_kd T n e < 5 := by
  unfold x_kd
  split
  · decide
  · split
    · decide
    · split
      · split <;> decide
      · decide
end
/-- only the reader's numbers have changed -/
def FrR (I I' : w_I) : Prop := (∀ i, i ≠ 2 → I' i = I i) ∧ ∀ j, j < 3 → I' 2 j = I 2 j
theorem FrR.rf {I : w_I} : FrR I I := ⟨fun _ _ => rfl, fun _ _ => rfl⟩
theorem FrR.trans {I I' I'' : w_I} (h : FrR I I') (h' : FrR I' I'') : FrR I I'' := ⟨fun i hi => (h'.1 i hi).trans (h.1 i hi), fun j hj => (h'.2 j hj).trans (h.2 j hj)⟩
theorem FrR.put {I I' : w_I} {j x : Nat} (h : FrR I I') (h1 : 3 ≤ j) : FrR I (w_put I' 2 j x) := ⟨fun i hi => (w_put_ne I' i hi).trans (h.1 i hi), fun q hq => by rw [w_put_other _ (Or.inr (by omega))]; exact h.2 q hq⟩
theorem FrT.toR {I I' : w_I} (h : FrT I I') : FrR I I' := ⟨h.1, fun j hj => h.2 j (Or.inl hj)⟩
theorem FrR.P {I I' : w_I} {P : w_R} (h : FrR I I') (hR : PRep 3 P I) : PRep 3 P I' := by
  have hf : Fr 2 3 I I' := fun i hi => h.1 i (by omega)
  exact hR.fr hf (by decide)
/-- how reading ends -/
def RQ {α : Type} (x : x_E α) (r : Int32) (I I' : w_I) (Q : α → Prop) : Prop := (∃ f p, x = .error (f, p) ∧ r = nI 0 ∧ I' 2 8 = f ∧ I' 2 9 = p) ∨ ∃ a, x = .ok a ∧ r = nI 1 ∧ I' 2 8 = I 2 8 ∧ Q a
theorem RT.put {T : Nat → Nat} {n e j x : Nat} {I : w_I} (h : RT T n e I) (hj : 6 < j) : RT T n e (w_put I 2 j x) := by
  obtain ⟨a, b, c, d, f⟩ := h
  refine ⟨?_, ?_, ?_, ?_, ?_⟩ <;> rw [w_put_other _ (Or.inr (by omega))] <;> assumption
section
variable {Ω : w_O} {d u v : Nat} {L : w_L} {E : w_E} {T : Nat → Nat} {n : Nat}
theorem iw_l {I : w_I} {e w : Nat} (hE : w_fit (d + 3) E) (hi : w < 7) (hR : RT T n e I) (hT : TX T n I) (hs : x_st T n e + x_wl w ≤ n) : ∀ (k j : Nat), j + k = x_wl w →
    ((List.range' j k).all (fun j => T (x_st T n e + j) == x_wc w j) = true → ∀ x, V mX4_isWord E Ω 0 0 (SH u v) I L 63 [(0, .ref (Ω.1 + 2)), (1, .ref (w_sa Ω w)), (2, .int (nI x))] []) →
    ((List.range' j k).all (fun j => T (x_st T n e + j) == x_wc w j) = false → ∀ x, V mX4_isWord E Ω 0 0 (SH u v) I L 55 [(0, .ref (Ω.1 + 2)), (1, .ref (w_sa Ω w)), (2, .int (nI x))] []) →
    V mX4_isWord E Ω 0 0 (SH u v) I L 28 [(0, .ref (Ω.1 + 2)), (1, .ref (w_sa Ω w)), (2, .int (nI j))] [] := by
  obtain ⟨-, a2, a3⟩ := x_w_all w hi
  have hn := hT.1
  intro k
  induction k with
  | zero =>
    intro j hj k1 k0
    refine V_iload_n 28 2 dX4_isWord_28 rfl ?_
    refine V_aload_n 29 1 dX4_isWord_29 rfl ?_
    refine V_wi 30 hi mvX4_132 rfl dX4_isWord_30 (w_fit.mono (by omega) hE) (c_length (d := d) hi) rfl (Nat.le_of_ble_eq_true rfl) ?_
    rintro _ _ _ _ ⟨rfl, rfl, rfl, rfl⟩
    refine V_cN_ge 33 63 dX4_isWord_33 (by decide) (by omega) (by omega) (fun c => ?_) (fun c => ?_)
    · exact k1 rfl j
    · omega
  | succ k ih =>
    intro j hj k1 k0
    have hc := (a3 j (by omega)).2
    obtain ⟨t1, t2⟩ := hT.2 (x_st T n e + j) (by omega)
    have hb := b8_lt (T (x_st T n e + j))
    rw [List.range'_succ, List.all_cons] at k1 k0
    refine V_iload_n 28 2 dX4_isWord_28 rfl ?_
    refine V_aload_n 29 1 dX4_isWord_29 rfl ?_
    refine V_wi 30 hi mvX4_132 rfl dX4_isWord_30 (w_fit.mono (by omega) hE) (c_length (d := d) hi) rfl (Nat.le_of_ble_eq_true rfl) ?_
    rintro _ _ _ _ ⟨rfl, rfl, rfl, rfl⟩
    refine V_cN_ge 33 63 dX4_isWord_33 (by decide) (by omega) (by omega) (fun c => ?_) (fun c => ?_)
    · omega
    refine V_aload_n 36 0 dX4_isWord_36 rfl ?_
    refine V_getR 37 flX4_18 dX4_isWord_37 rfl ?_
    refine V_aload_n 40 0 dX4_isWord_40 rfl ?_
    refine V_getI 41 flX4_126 dX4_isWord_41 rfl ?_
    rw [hR.2.2.1]
    refine V_iload_n 44 2 dX4_isWord_44 rfl ?_
    refine V_add 45 dX4_isWord_45 ?_
    refine V_bald 46 dX4_isWord_46 rfl (by omega) (by omega) ?_
    rw [t2]
    refine V_aload_n 47 1 dX4_isWord_47 rfl ?_
    refine V_iload_n 48 2 dX4_isWord_48 rfl ?_
    refine V_wi 49 hi mvX4_137 rfl dX4_isWord_49 (w_fit.mono (by omega) hE) (c_charAt (d := d) hi (by omega)) rfl (Nat.le_of_ble_eq_true rfl) ?_
    rintro _ _ _ _ ⟨rfl, rfl, rfl, rfl⟩
    refine V_cN_eq 52 57 dX4_isWord_52 (by decide) (by omega) (by omega) (fun c1 => ?_) (fun c1 => ?_)
    · have e1 : (T (x_st T n e + j) == x_wc w j) = true := beq_iff_eq.mpr ((b8_eq t1 hc).mp c1)
      rw [e1, Bool.true_and] at k1 k0
      refine V_inc 57 2 _ [(0, _), (1, _), (2, _)] dX4_isWord_57 rfl rfl rfl (by decide) rfl ?_
      refine V_goto 60 28 dX4_isWord_60 (by decide) ?_
      exact ih (j + 1) (by omega) k1 k0
    · have e1 : (T (x_st T n e + j) == x_wc w j) = false := by
        cases h : (T (x_st T n e + j) == x_wc w j)
        · rfl
        · exact absurd ((b8_eq t1 hc).mpr (beq_iff_eq.mp h)) c1
      rw [e1, Bool.false_and] at k0
      exact k0 rfl j
theorem c_isWord {I : w_I} {e w : Nat} (hi : w < 7) (hR : RT T n e I) (hT : TX T n I) (he : e ≤ n) : FnI Ω (d + 4) mX4_isWord [.ref (Ω.1 + 2), .ref (w_sa Ω w)] (SH u v) I L (fun r S' I' L' => r = nI (if x_is T n e w then 1 else 0) ∧ S' = SH u v ∧ I = I' ∧ L = L') := by
  obtain ⟨-, a2, a3⟩ := x_w_all w hi
  have hn := hT.1
  have hen := x_en_le (T := T) he
  have hkd := x_kd_lt (T := T) (n := n) e
  refine FnR_of okX4_isWord (Nat.le_of_ble_eq_true rfl) fun l z => ?_
  have hE : w_fit (d + 3) (w_Er l (d + 4) 0 0 Ω (w_pi (fun r S' I' L' => r = nI (if x_is T n e w then 1 else 0) ∧ S' = SH u v ∧ I = I' ∧ L = L')) z) := w_fit_r
  show V _ _ _ _ _ _ _ _ 0 [(0, _), (1, _)] []
  have no : x_is T n e w = false → V mX4_isWord (w_Er l (d + 4) 0 0 Ω (w_pi (fun r S' I' L' => r = nI (if x_is T n e w then 1 else 0) ∧ S' = SH u v ∧ I = I' ∧ L = L')) z) Ω 0 0 (SH u v) I L 24 [(0, .ref (Ω.1 + 2)), (1, .ref (w_sa Ω w))] [] := by
    intro h
    refine V_cst 24 0 dX4_isWord_24 rfl ?_
    exact V_zret 25 dX4_isWord_25 rfl rfl ⟨by rw [h]; rfl, rfl, rfl, rfl⟩
  refine V_aload_n 0 0 dX4_isWord_0 rfl ?_
  refine V_getI 1 flX4_38 dX4_isWord_1 rfl ?_
  refine V_cst 4 1 dX4_isWord_4 rfl ?_
  rw [hR.2.1]
  refine V_cN_ne 5 24 dX4_isWord_5 (by decide) (by omega) (by omega) (fun c => ?_) (fun c => ?_)
  · refine no ?_
    unfold x_is
    rw [show (x_kd T n e == 1) = false from beq_eq_false_iff_ne.mpr c]
    rfl
  refine V_aload_n 8 0 dX4_isWord_8 rfl ?_
  refine V_getI 9 flX4_32 dX4_isWord_9 rfl ?_
  refine V_aload_n 12 0 dX4_isWord_12 rfl ?_
  refine V_getI 13 flX4_126 dX4_isWord_13 rfl ?_
  rw [hR.2.2.2.1, hR.2.2.1]
  refine V_sub1 16 dX4_isWord_16 (by omega) ?_
  refine V_aload_n 17 1 dX4_isWord_17 rfl ?_
  refine V_wi 18 hi mvX4_132 rfl dX4_isWord_18 (w_fit.mono (by omega) hE) (c_length (d := d) hi) rfl (Nat.le_of_ble_eq_true rfl) ?_
  rintro _ _ _ _ ⟨rfl, rfl, rfl, rfl⟩
  have e1 : (x_kd T n e == 1) = true := beq_iff_eq.mpr c
  refine V_cN_eq 21 26 dX4_isWord_21 (by decide) (by omega) (by omega) (fun c1 => ?_) (fun c1 => ?_)
  · have e2 : (x_en T n e - x_st T n e == x_wl w) = true := beq_iff_eq.mpr c1
    refine V_cst 26 0 dX4_isWord_26 rfl ?_
    refine V_istore_n 27 [(0, _), (1, _), (2, _)] dX4_isWord_27 (by decide) rfl ?_
    refine iw_l hE hi hR hT (by omega) (x_wl w) 0 (by omega) (fun h x => ?_) (fun h x => ?_)
    · refine V_cst 63 1 dX4_isWord_63 rfl ?_
      exact V_zret 64 dX4_isWord_64 rfl rfl ⟨by unfold x_is; rw [e1, e2, h]; rfl, rfl, rfl, rfl⟩
    · refine V_cst 55 0 dX4_isWord_55 rfl ?_
      exact V_zret 56 dX4_isWord_56 rfl rfl ⟨by unfold x_is; rw [e1, e2, h]; rfl, rfl, rfl, rfl⟩
  · refine no ?_
    unfold x_is
    rw [show (x_en T n e - x_st T n e == x_wl w) = false from beq_eq_false_iff_ne.mpr c1, Bool.false_and, Bool.and_false]
theorem c_refuse {I : w_I} {f : Nat} : FnI Ω d mX4_refuse [.ref (Ω.1 + 2), .int (nI f)] (SH u v) I L (fun r S' I' L' => S' = SH u v ∧ L = L' ∧ r = nI 0 ∧ I' 2 8 = f ∧ I' 2 9 = I 2 4 ∧ FrR I I') := by
  refine FnR_of okX4_refuse (Nat.le_of_ble_eq_true rfl) fun l z => ?_
  show V _ _ _ _ _ _ _ _ 0 [(0, _), (1, _)] []
  refine V_aload_n 0 0 dX4_refuse_0 rfl ?_
  refine V_iload_n 1 1 dX4_refuse_1 rfl ?_
  refine V_putI 2 flX4_29 ft_4_8 dX4_refuse_2 rfl ?_
  refine V_aload_n 5 0 dX4_refuse_5 rfl ?_
  refine V_aload_n 6 0 dX4_refuse_6 rfl ?_
  refine V_getI 7 flX4_126 dX4_refuse_7 rfl ?_
  refine V_putI 10 flX4_129 ft_4_9 dX4_refuse_10 rfl ?_
  refine V_cst 13 0 dX4_refuse_13 rfl ?_
  refine V_zret 14 dX4_refuse_14 rfl rfl ⟨rfl, rfl, rfl, ?_, ?_, (FrR.rf.put (by decide)).put (by decide)⟩
  · rw [w_put_other _ (Or.inr (by decide)), w_put_same]
  · rw [w_put_same, w_put_other _ (Or.inr (by decide))]
theorem c_takeNumber {I : w_I} {e lo hi q f : Nat} (hR : RT T n e I) (hT : TX T n I) (h256 : ∀ j, T j < 256) (he : e ≤ n) (hlo : lo < 1000) (hhi : hi < 1000) (hq : (1 ≤ hi ∧ q = hi - 1) ∨ (hi = 0 ∧ q = mI)) : FnI Ω (d + 1) mX4_takeNumber [.ref (Ω.1 + 2), .int (nI lo), .int (nI q), .int (nI f)] (SH u v) I L (fun r S' I' L' => S' = SH u v ∧ L = L' ∧ RQ (x_num T n e lo hi f) r I I' (fun q => I' 2 7 = q.1 ∧ RT T n q.2 I') ∧ FrR I I') := by
  have hmI : mI = 4294967295 := rfl
  have hn := hT.1
  have hkd := x_kd_lt (T := T) (n := n) e
  have hva := x_va_lt (n := n) h256 e
  have hen := x_en_le (T := T) he
  refine FnR_of okX4_takeNumber (Nat.le_of_ble_eq_true rfl) fun l z => ?_
  have hE : w_fit d (w_Er l (d + 1) 0 0 Ω (w_pi (fun r S' I' L' => S' = SH u v ∧ L = L' ∧ RQ (x_num T n e lo hi f) r I I' (fun q => I' 2 7 = q.1 ∧ RT T n q.2 I') ∧ FrR I I')) z) := w_fit_r
  show V _ _ _ _ _ _ _ _ 0 [(0, _), (1, _), (2, _), (3, _)] []
  refine V_aload_n 0 0 dX4_takeNumber_0 rfl ?_
  refine V_getI 1 flX4_38 dX4_takeNumber_1 rfl ?_
  refine V_cst 4 2 dX4_takeNumber_4 rfl ?_
  rw [hR.2.1]
  refine V_cN_eq 5 14 dX4_takeNumber_5 (by decide) (by omega) (by omega) (fun c => ?_) (fun c => ?_)
  · refine V_aload_n 14 0 dX4_takeNumber_14 rfl ?_
    refine V_getI 15 flX4_117 dX4_takeNumber_15 rfl ?_
    refine V_cst 18 4294967295 dX4_takeNumber_18 rfl ?_
    rw [hR.2.2.2.2]
    refine V_cN_ne 19 28 dX4_takeNumber_19 (by decide) (by omega) (by omega) (fun c1 => ?_) (fun c1 => ?_)
    · have hv : x_va T n e < 1000000 := by rcases hva with h | h; exact h; exact absurd h c1
      have k44 : x_va T n e < lo ∨ hi ≤ x_va T n e → V mX4_takeNumber (w_Er l (d + 1) 0 0 Ω (w_pi (fun r S' I' L' => S' = SH u v ∧ L = L' ∧ RQ (x_num T n e lo hi f) r I I' (fun q => I' 2 7 = q.1 ∧ RT T n q.2 I') ∧ FrR I I')) z) Ω 0 0 (SH u v) I L 44 [(0, .ref (Ω.1 + 2)), (1, .int (nI lo)), (2, .int (nI q)), (3, .int (nI f))] [] := by
        intro h
        refine V_aload_n 44 0 dX4_takeNumber_44 rfl ?_
        refine V_iload_n 45 3 dX4_takeNumber_45 rfl ?_
        refine V_vi 46 mvX4_55 dX4_takeNumber_46 ⟨_, _, _, rfl, rfl, rfl⟩ (w_fit.mono (by omega) hE) (c_refuse (d := d)) rfl (Nat.le_of_ble_eq_true rfl) ?_
        rintro _ _ I1 _ ⟨rfl, rfl, rfl, g1, g2, g3⟩
        refine V_zret 49 dX4_takeNumber_49 rfl rfl ⟨rfl, rfl, Or.inl ⟨f, x_st T n e, ?_, rfl, g1, by rw [g2, hR.2.2.1]⟩, g3⟩
        unfold x_num
        rw [if_neg (by omega), if_neg c1, if_pos h]
      refine V_aload_n 28 0 dX4_takeNumber_28 rfl ?_
      refine V_getI 29 flX4_117 dX4_takeNumber_29 rfl ?_
      refine V_iload_n 32 1 dX4_takeNumber_32 rfl ?_
      rw [hR.2.2.2.2]
      refine V_cN_lt 33 44 dX4_takeNumber_33 (by decide) (by omega) (by omega) (fun c2 => ?_) (fun c2 => ?_)
      · exact k44 (Or.inl c2)
      refine V_aload_n 36 0 dX4_takeNumber_36 rfl ?_
      refine V_getI 37 flX4_117 dX4_takeNumber_37 rfl ?_
      refine V_iload_n 40 2 dX4_takeNumber_40 rfl ?_
      rw [hR.2.2.2.2]
      have hs1 : sgn (x_va T n e) = (x_va T n e : Int) := sgn_s (by omega)
      have hs2 : sgn q = (hi : Int) - 1 := by
        rcases hq with ⟨h1, h2⟩ | ⟨h1, h2⟩
        · rw [h2, sgn_s (by omega)]; omega
        · rw [h2, h1]; decide
      have hq32 : q < 4294967296 := by rcases hq with ⟨h1, h2⟩ | ⟨h1, h2⟩ <;> omega
      refine V_cG_le 41 50 dX4_takeNumber_41 (by decide) (by omega) (by omega) (fun c3 => ?_) (fun c3 => ?_)
      · rw [hs1, hs2] at c3
        refine V_aload_n 50 0 dX4_takeNumber_50 rfl ?_
        refine V_aload_n 51 0 dX4_takeNumber_51 rfl ?_
        refine V_getI 52 flX4_117 dX4_takeNumber_52 rfl ?_
        refine V_putI 55 flX4_83 ft_4_7 dX4_takeNumber_55 rfl ?_
        refine V_aload_n 58 0 dX4_takeNumber_58 rfl ?_
        rw [hR.2.2.2.2]
        refine V_vv 59 mvX4_35 dX4_takeNumber_59 ⟨_, _, _, rfl, rfl, rfl⟩ (w_fit.mono (by omega) hE) (c_advance (d := d) (T := T) (n := n) (e := x_en T n e) ((w_put_other _ (Or.inr (by decide))).trans hR.1) ((w_put_other _ (Or.inr (by decide))).trans hR.2.2.2.1) hen.2.2 (hT.fr (w_put_ne _ _ (by decide)))) rfl (Nat.le_of_ble_eq_true rfl) ?_
        rintro _ I1 _ ⟨rfl, rfl, g1, g2⟩
        refine V_cst 62 1 dX4_takeNumber_62 rfl ?_
        refine V_zret 63 dX4_takeNumber_63 rfl rfl ⟨rfl, rfl, Or.inr ⟨(x_va T n e, x_en T n e), ?_, rfl, ?_, ?_, g1⟩, (FrR.rf.put (by decide)).trans g2.toR⟩
        · unfold x_num
          rw [if_neg (by omega), if_neg c1, if_neg (by omega)]
        · rw [g2.2 8 (by decide), w_put_other _ (Or.inr (by decide))]
        · rw [g2.2 7 (by decide), w_put_same]
      · rw [hs1, hs2] at c3
        exact k44 (Or.inr (by omega))
    · refine V_aload_n 22 0 dX4_takeNumber_22 rfl ?_
      refine V_cst 23 2 dX4_takeNumber_23 rfl ?_
      refine V_vi 24 mvX4_55 dX4_takeNumber_24 ⟨_, _, _, rfl, rfl, rfl⟩ (w_fit.mono (by omega) hE) (c_refuse (d := d)) rfl (Nat.le_of_ble_eq_true rfl) ?_
      rintro _ _ I1 _ ⟨rfl, rfl, rfl, g1, g2, g3⟩
      refine V_zret 27 dX4_takeNumber_27 rfl rfl ⟨rfl, rfl, Or.inl ⟨2, x_st T n e, ?_, rfl, g1, by rw [g2, hR.2.2.1]⟩, g3⟩
      unfold x_num
      rw [if_neg (by omega), if_pos c1]
  · refine V_aload_n 8 0 dX4_takeNumber_8 rfl ?_
    refine V_cst 9 1 dX4_takeNumber_9 rfl ?_
    refine V_vi 10 mvX4_55 dX4_takeNumber_10 ⟨_, _, _, rfl, rfl, rfl⟩ (w_fit.mono (by omega) hE) (c_refuse (d := d)) rfl (Nat.le_of_ble_eq_true rfl) ?_
    rintro _ _ I1 _ ⟨rfl, rfl, rfl, g1, g2, g3⟩
    refine V_zret 13 dX4_takeNumber_13 rfl rfl ⟨rfl, rfl, Or.inl ⟨1, x_st T n e, ?_, rfl, g1, by rw [g2, hR.2.2.1]⟩, g3⟩
    unfold x_num
    rw [if_pos c]
theorem c_takeSemicolon {I : w_I} {e : Nat} (hR : RT T n e I) (hT : TX T n I) (he : e ≤ n) : FnI Ω (d + 1) mX4_takeSemicolon [.ref (Ω.1 + 2)] (SH u v) I L (fun r S' I' L' => S' = SH u v ∧ L = L' ∧ RQ (x_semi T n e) r I I' (fun q => RT T n q I') ∧ FrR I I') := by
  have hn := hT.1
  have hkd := x_kd_lt (T := T) (n := n) e
  have hen := x_en_le (T := T) he
  refine FnR_of okX4_takeSemicolon (Nat.le_of_ble_eq_true rfl) fun l z => ?_
  have hE : w_fit d (w_Er l (d + 1) 0 0 Ω (w_pi (fun r S' I' L' => S' = SH u v ∧ L = L' ∧ RQ (x_semi T n e) r I I' (fun q => RT T n q I') ∧ FrR I I')) z) := w_fit_r
  show V _ _ _ _ _ _ _ _ 0 [(0, _)] []
  refine V_aload_n 0 0 dX4_takeSemicolon_0 rfl ?_
  refine V_getI 1 flX4_38 dX4_takeSemicolon_1 rfl ?_
  refine V_cst 4 3 dX4_takeSemicolon_4 rfl ?_
  rw [hR.2.1]
  refine V_cN_eq 5 14 dX4_takeSemicolon_5 (by decide) (by omega) (by omega) (fun c => ?_) (fun c => ?_)
  · refine V_aload_n 14 0 dX4_takeSemicolon_14 rfl ?_
    refine V_vv 15 mvX4_35 dX4_takeSemicolon_15 ⟨_, _, _, rfl, rfl, rfl⟩ (w_fit.mono (by omega) hE) (c_advance (d := d) (T := T) (n := n) (e := x_en T n e) hR.1 hR.2.2.2.1 hen.2.2 hT) rfl (Nat.le_of_ble_eq_true rfl) ?_
    rintro _ I1 _ ⟨rfl, rfl, g1, g2⟩
    refine V_cst 18 1 dX4_takeSemicolon_18 rfl ?_
    refine V_zret 19 dX4_takeSemicolon_19 rfl rfl ⟨rfl, rfl, Or.inr ⟨x_en T n e, ?_, rfl, g2.2 8 (by decide), g1⟩, g2.toR⟩
    unfold x_semi
    rw [if_pos c]
  · refine V_aload_n 8 0 dX4_takeSemicolon_8 rfl ?_
    refine V_cst 9 1 dX4_takeSemicolon_9 rfl ?_
    refine V_vi 10 mvX4_55 dX4_takeSemicolon_10 ⟨_, _, _, rfl, rfl, rfl⟩ (w_fit.mono (by omega) hE) (c_refuse (d := d)) rfl (Nat.le_of_ble_eq_true rfl) ?_
    rintro _ _ I1 _ ⟨rfl, rfl, rfl, g1, g2, g3⟩
    refine V_zret 13 dX4_takeSemicolon_13 rfl rfl ⟨rfl, rfl, Or.inl ⟨1, x_st T n e, ?_, rfl, g1, by rw [g2, hR.2.2.1]⟩, g3⟩
    unfold x_semi
    rw [if_neg c]
end
