/-- how many of the first n are 1 -/
def c_n (f : Nat → Nat) (n : Nat) : Nat := ((List.range n).filter (fun k => f k == 1)).length
theorem c_n_succ (f : Nat → Nat) (n : Nat) : c_n f (n + 1) = c_n f n + if f n = 1 then 1 else 0 := by
  unfold c_n
  rw [List.range_succ, List.filter_append, List.length_append]
  congr 1
  by_cases h : f n = 1 <;> simp [h]
theorem c_n_le (f : Nat → Nat) (n : Nat) : c_n f n ≤ n := by
  unfold c_n
  have := List.length_filter_le (fun k => f k == 1) (List.range n)
  rw [List.length_range] at this
  exact this
theorem c_n_mono {f g : Nat → Nat} : ∀ n, (∀ k, k < n → f k = 1 → g k = 1) → c_n f n ≤ c_n g n := by
  intro n
  induction n with
  | zero => intro _; exact Nat.le_refl _
  | succ n ih =>
    intro h
    have := ih (fun k hk => h k (by omega))
    rw [c_n_succ, c_n_succ]
    by_cases e : f n = 1
    · rw [if_pos e, if_pos (h n (by omega) e)]; omega
    · rw [if_neg e]; omega
theorem c_n_set {f g : Nat → Nat} {K : Nat} (h0 : f K = 0) (hg : ∀ k, g k = if k = K then 1 else f k) : ∀ n, c_n g n = c_n f n + if K < n then 1 else 0 := by
  intro n
  induction n with
  | zero => rfl
  | succ n ih =>
    rw [c_n_succ, c_n_succ, ih, hg n]
    by_cases e : n = K
    · subst e
      have e1 : (if n < n then 1 else 0) = 0 := if_neg (Nat.lt_irrefl _)
      have e2 : (if n < n + 1 then 1 else 0) = 1 := if_pos (Nat.lt_succ_self _)
      rw [e1, e2, if_pos rfl, if_pos rfl, h0, if_neg (by decide)]
    · rw [if_neg e]
      have e3 : (if K < n + 1 then 1 else 0) = (if K < n then 1 else 0) := by
        by_cases q : K < n
        · rw [if_pos q, if_pos (by omega)]
        · rw [if_neg q, if_neg (by omega)]
      rw [e3]
      omega
/-- every fare told is right -/
def FA (P : w_R) (si : Nat) (w : Nat → Nat) (I : w_I) : Prop := ∀ k, k < 64 → I 94 k = 0 ∨ (I 94 k = 1 ∧ FO P k si w I)
/-- and leads to fares told -/
def Cl (P : w_R) (k : Nat) (I : w_I) : Prop := ∀ h, 1 ≤ h → h < 2 ^ P 0 0 → I 93 (64 * k + h) < NVR → I 94 h = 1
/-- no fare told is lost -/
def FMn (I I' : w_I) : Prop := ∀ k, k < 64 → I 94 k = 1 → I' 94 k = 1 ∧ ∀ h, h < 64 → I' 93 (64 * k + h) = I 93 (64 * k + h)
theorem FMn.rf {I : w_I} : FMn I I := fun k _ h => ⟨h, fun _ _ => rfl⟩
theorem FMn.trans {I I' I'' : w_I} (h : FMn I I') (h' : FMn I' I'') : FMn I I'' := fun k hk e => ⟨(h' k hk (h k hk e).1).1, fun q hq => ((h' k hk (h k hk e).1).2 q hq).trans ((h k hk e).2 q hq)⟩
theorem Cl.mn {P : w_R} {k : Nat} {I I' : w_I} (hP : s_POK P) (hk : k < 64) (h1 : I 94 k = 1) (h : Cl P k I) (hm : FMn I I') : Cl P k I' := by
  have h6 := hP.1.2
  have h64 : 2 ^ P 0 0 ≤ 64 := Nat.pow_le_pow_right (n := 2) (j := 6) (by decide) h6
  intro q q1 q2 q3
  rw [(hm k hk h1).2 q (by omega)] at q3
  exact (hm q (by omega) (h q q1 q2 q3)).1
theorem FO.le {P : w_R} {K si : Nat} {w : Nat → Nat} {I : w_I} (hP : s_POK P) (hw : ∀ x, x < P 0 0 → w x ≤ 99) (h : FO P K si w I) {q : Nat} (hq : q < 64) : I 93 (64 * K + q) ≤ NVR := by
  have h12 := hP.2.2.1
  rcases (h q hq).1 with e | ⟨s, r, hR⟩
  · omega
  · obtain ⟨-, -, -, -, b5, -⟩ := rR_b hP hw (P 2 0) (Nat.le_refl _) _ _ _ _ _ hR
    show _ ≤ 1000000000
    omega
section
variable {Ω : w_O} {d u v : Nat} {L : w_L} {P : w_R}
theorem m_reach {si ks : Nat} (hP : s_POK P) (hks : ks = 0 ∨ ks = 1) (hsi : si < 64) : ∀ (m K : Nat) (I : w_I), 64 ≤ c_n (I 94) 64 + m → K < 2 ^ P 0 0 → I 94 K = 0 → KF P si ks I → MS I → FA P si (r_p P ks) I → I 63 52 + 832 < 2000000000 + 13 * c_n (I 94) 64 → FnV Ω (d + 3 + m) mX8_reach [.ref (Ω.1 + 63), .int (nI K)] (SH u v) I L (fun S' I' L' => S' = SH u v ∧ L = L' ∧ KF P si ks I' ∧ MS I' ∧ FA P si (r_p P ks) I' ∧ FMn I I' ∧ I' 94 K = 1 ∧ (∀ k, k < 64 → I' 94 k = 1 → I 94 k = 1 ∨ Cl P k I') ∧ I' 63 52 + 13 * c_n (I 94) 64 ≤ I 63 52 + 13 * c_n (I' 94) 64 ∧ FrK I I') := by
  have h6 := hP.1.2
  have h64 : 2 ^ P 0 0 ≤ 64 := Nat.pow_le_pow_right (n := 2) (j := 6) (by decide) h6
  have hNV : NVR = 1000000000 := rfl
  intro m
  induction m with
  | zero =>
    intro K I hc hK h0
    exfalso
    have := c_n_le (fun k => if k = K then 1 else I 94 k) 64
    have := c_n_set (f := I 94) (g := fun k => if k = K then 1 else I 94 k) (K := K) h0 (fun _ => rfl) 64
    rw [if_pos (by omega)] at this
    omega
  | succ m ih =>
    intro K I hc hK h0 hKF hMS hFA hS
    have hc64 := c_n_le (I 94) 64
    have hcK : c_n (I 94) 64 ≤ 63 := by
      have a1 := c_n_le (fun k => if k = K then 1 else I 94 k) 64
      have a2 := c_n_set (f := I 94) (g := fun k => if k = K then 1 else I 94 k) (K := K) h0 (fun _ => rfl) 64
      rw [if_pos (by omega)] at a2
      omega
    refine FnR_of1 (d := d + 3 + m) okX8_reach (Nat.le_of_ble_eq_true rfl) fun l z hE => ?_
    show V _ _ _ _ _ _ _ _ 0 [(0, _), (1, _)] []
    refine V_aload_n 0 0 dX8_reach_0 rfl ?_
    refine V_iload_n 1 1 dX8_reach_1 rfl ?_
    refine V_vv 2 mvX8_328 dX8_reach_2 ⟨_, _, _, rfl, rfl, rfl⟩ (w_fit.mono (by omega) hE) (m_tellFare (d := d + m) (K := K) (si := si) (ks := ks) hP hKF hks (by omega) hsi hMS (by omega)) rfl (Nat.le_of_ble_eq_true rfl) ?_
    rintro _ I1 _ ⟨rfl, rfl, k1, k2, k3, k4, k5, k6, k7⟩
    have mn1 : FMn I I1 := by
      intro k hk e
      have hne : k ≠ K := fun q => by rw [q] at e; omega
      refine ⟨by rw [k6, if_neg hne]; exact e, fun q hq => k5 _ (by omega)⟩
    have fa1 : FA P si (r_p P ks) I1 := by
      intro k hk
      by_cases e : k = K
      · subst e
        exact Or.inr ⟨by rw [k6, if_pos rfl], k4⟩
      · rcases hFA k hk with q | ⟨q1, q2⟩
        · left; rw [k6, if_neg e]; exact q
        · right
          refine ⟨by rw [k6, if_neg e]; exact q1, fun h hh => ?_⟩
          rw [(mn1 k hk q1).2 h hh]
          exact q2 h hh
    have c1 : c_n (I1 94) 64 = c_n (I 94) 64 + 1 := by
      have := c_n_set (f := I 94) (g := I1 94) (K := K) h0 k6 64
      rw [if_pos (by omega)] at this
      exact this
    have loop : ∀ (n h : Nat) (J : w_I), 1 ≤ h → h + n = 2 ^ P 0 0 → KF P si ks J → MS J → FA P si (r_p P ks) J → FMn I1 J → (∀ k, k < 64 → J 94 k = 1 → I 94 k = 1 ∨ k = K ∨ Cl P k J) → (∀ q, 1 ≤ q → q < h → J 93 (64 * K + q) < NVR → J 94 q = 1) → J 63 52 + 13 * c_n (I 94) 64 ≤ I 63 52 + 13 * c_n (J 94) 64 → FrK I J → V mX8_reach (w_Er l (d + 3 + m + 1) 0 0 Ω (w_pv (fun S' I' L' => S' = SH u v ∧ L = L' ∧ KF P si ks I' ∧ MS I' ∧ FA P si (r_p P ks) I' ∧ FMn I I' ∧ I' 94 K = 1 ∧ (∀ k, k < 64 → I' 94 k = 1 → I 94 k = 1 ∨ Cl P k I') ∧ I' 63 52 + 13 * c_n (I 94) 64 ≤ I 63 52 + 13 * c_n (I' 94) 64 ∧ FrK I I')) z) Ω 0 0 (SH u v) J L 7 [(0, .ref (Ω.1 + 63)), (1, .int (nI K)), (2, .int (nI h))] [] := by
      intro n
      induction n with
      | zero =>
        intro h J h1 hh j1 j2 j3 j4 j5 j6 j7 j8
        have hJK : J 94 K = 1 := (j4 K (by omega) (by rw [k6, if_pos rfl])).1
        refine V_iload_n 7 2 dX8_reach_7 rfl ?_
        refine V_cst 8 1 dX8_reach_8 rfl ?_
        refine V_aload_n 9 0 dX8_reach_9 rfl ?_
        refine V_getR 10 flX8_7 dX8_reach_10 rfl ?_
        refine V_cst 13 0 dX8_reach_13 rfl ?_
        refine V_iald 14 dX8_reach_14 rfl (by omega) (by omega) ?_
        rw [j1.1.1]
        refine V_shl 15 dX8_reach_15 (by omega) ?_
        rw [Nat.one_mul]
        refine V_cN_ge 16 56 dX8_reach_16 (by decide) (by omega) (by omega) (fun c => ?_) (fun c => ?_)
        · refine V_ret 56 dX8_reach_56 rfl ⟨rfl, rfl, j1, j2, j3, mn1.trans j4, hJK, fun k hk e => ?_, j7, j8⟩
          rcases j5 k hk e with q | q | q
          · exact Or.inl q
          · subst q
            exact Or.inr (fun q q1 q2 q3 => j6 q q1 (by omega) q3)
          · exact Or.inr q
        · omega
      | succ n ihn =>
        intro h J h1 hh j1 j2 j3 j4 j5 j6 j7 j8
        have hh64 : h < 64 := by omega
        obtain ⟨hJK, hrow⟩ := j4 K (by omega) (by rw [k6, if_pos rfl])
        have hle : J 93 (64 * K + h) ≤ NVR := by rw [hrow h hh64]; exact k4.le hP (r_p_le hP) hh64
        have on : ∀ J', KF P si ks J' → MS J' → FA P si (r_p P ks) J' → FMn J J' → (∀ k, k < 64 → J' 94 k = 1 → J 94 k = 1 ∨ Cl P k J') → J' 63 52 + 13 * c_n (I 94) 64 ≤ I 63 52 + 13 * c_n (J' 94) 64 → FrK J J' → (J' 93 (64 * K + h) < NVR → J' 94 h = 1) → V mX8_reach (w_Er l (d + 3 + m + 1) 0 0 Ω (w_pv (fun S' I' L' => S' = SH u v ∧ L = L' ∧ KF P si ks I' ∧ MS I' ∧ FA P si (r_p P ks) I' ∧ FMn I I' ∧ I' 94 K = 1 ∧ (∀ k, k < 64 → I' 94 k = 1 → I 94 k = 1 ∨ Cl P k I') ∧ I' 63 52 + 13 * c_n (I 94) 64 ≤ I 63 52 + 13 * c_n (I' 94) 64 ∧ FrK I I')) z) Ω 0 0 (SH u v) J' L 50 [(0, .ref (Ω.1 + 63)), (1, .int (nI K)), (2, .int (nI h))] [] := by
          intro J' q1 q2 q3 q4 q5 q6 q7 q8
          refine V_inc 50 2 _ [(0, _), (1, _), (2, _)] dX8_reach_50 rfl rfl rfl (by decide) rfl ?_
          refine V_goto 53 7 dX8_reach_53 (by decide) ?_
          refine ihn (h + 1) J' (by omega) (by omega) q1 q2 q3 (j4.trans q4) (fun k hk e => ?_) (fun q w1 w2 w3 => ?_) q6 (j8.trans q7)
          · rcases q5 k hk e with w | w
            · rcases j5 k hk w with w2 | w2 | w2
              · exact Or.inl w2
              · exact Or.inr (Or.inl w2)
              · exact Or.inr (Or.inr (w2.mn hP hk w q4))
            · exact Or.inr (Or.inr w)
          · by_cases e : q = h
            · rw [e] at w3 ⊢; exact q8 w3
            · rw [(q4 K (by omega) hJK).2 q (by omega)] at w3
              exact (q4 q (by omega) (j6 q w1 (by omega) w3)).1
        have stay : (J 93 (64 * K + h) < NVR → J 94 h = 1) → _ := on J j1 j2 j3 FMn.rf (fun k hk e => Or.inl e) j7 FrK.rf
        refine V_iload_n 7 2 dX8_reach_7 rfl ?_
        refine V_cst 8 1 dX8_reach_8 rfl ?_
        refine V_aload_n 9 0 dX8_reach_9 rfl ?_
        refine V_getR 10 flX8_7 dX8_reach_10 rfl ?_
        refine V_cst 13 0 dX8_reach_13 rfl ?_
        refine V_iald 14 dX8_reach_14 rfl (by omega) (by omega) ?_
        rw [j1.1.1]
        refine V_shl 15 dX8_reach_15 (by omega) ?_
        rw [Nat.one_mul]
        refine V_cN_ge 16 56 dX8_reach_16 (by decide) (by omega) (by omega) (fun c => ?_) (fun c => ?_)
        · omega
        refine V_aload_n 19 0 dX8_reach_19 rfl ?_
        refine V_getR 20 flX8_103 dX8_reach_20 rfl ?_
        refine V_bip 23 64 dX8_reach_23 rfl ?_
        refine V_iload_n 25 1 dX8_reach_25 rfl ?_
        refine V_mul 26 dX8_reach_26 ?_
        refine V_iload_n 27 2 dX8_reach_27 rfl ?_
        refine V_add 28 dX8_reach_28 ?_
        refine V_iald 29 dX8_reach_29 rfl (by omega) (by omega) ?_
        refine V_ldcwN 30 1000000000 kcX8_301 dX8_reach_30 rfl ?_
        refine V_cN_ge 33 50 dX8_reach_33 (by decide) (by omega) (by omega) (fun c2 => ?_) (fun c2 => ?_)
        · exact stay (fun w => by omega)
        refine V_aload_n 36 0 dX8_reach_36 rfl ?_
        refine V_getR 37 flX8_106 dX8_reach_37 rfl ?_
        refine V_iload_n 40 2 dX8_reach_40 rfl ?_
        refine V_zald 41 dX8_reach_41 rfl (by omega) (by omega) ?_
        rcases j3 h hh64 with q | ⟨q, -⟩
        · rw [q]
          refine V_zN_ne 42 50 dX8_reach_42 (by decide) (by omega) (fun c3 => ?_) (fun c3 => ?_)
          · exact absurd rfl c3
          refine V_aload_n 45 0 dX8_reach_45 rfl ?_
          refine V_iload_n 46 2 dX8_reach_46 rfl ?_
          have cJ := c_n_mono (f := I1 94) (g := J 94) 64 (fun k hk e => (j4 k hk e).1)
          refine V_vv 47 mvX8_331 dX8_reach_47 ⟨_, _, _, rfl, rfl, rfl⟩ (w_fit.mono (by omega) hE) (ih h J (by omega) (by omega) q j1 j2 j3 (by omega)) rfl (Nat.le_of_ble_eq_true rfl) ?_
          rintro _ J2 _ ⟨rfl, rfl, q1, q2, q3, q4, q5, q6, q7, q8⟩
          exact on J2 q1 q2 q3 q4 q6 (by omega) q8 (fun _ => q5)
        · rw [q]
          refine V_zN_ne 42 50 dX8_reach_42 (by decide) (by omega) (fun c3 => ?_) (fun c3 => ?_)
          rotate_left
          · exact absurd c3 (by decide)
          exact stay (fun _ => q)
    refine V_cst 5 1 dX8_reach_5 rfl ?_
    refine V_istore_n 6 [(0, _), (1, _), (2, _)] dX8_reach_6 (by decide) rfl ?_
    have hpos : 1 ≤ 2 ^ P 0 0 := Nat.one_le_two_pow
    refine loop (2 ^ P 0 0 - 1) 1 I1 (by omega) (by omega) k1 k2 fa1 FMn.rf (fun k hk e => ?_) (fun q w1 w2 => absurd w2 (by omega)) (by omega) k7
    by_cases q : k = K
    · exact Or.inr (Or.inl q)
    · left
      rw [k6, if_neg q] at e
      exact e
end
