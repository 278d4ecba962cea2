abbrev NVR : Nat := 1000000000
def RC (P : w_R) (K si : Nat) (w : Nat → Nat) (j c y : Nat) : Prop := ∃ h s a r, rR P K si w j h s a y r ∧ c = r_c h s a
/-- the front holds what can be, and its least costs -/
def FS (P : w_R) (K si : Nat) (w : Nat → Nat) (j : Nat) (Q : List Nat) (vl : Nat → Nat) : Prop := (∀ c, c ∈ Q → RC P K si w j c (vl c)) ∧ ∀ c y, RC P K si w j c y → c ∈ Q ∧ vl c ≤ y
def OQ (sd : Nat) (Q : List Nat) (vl : Nat → Nat) (I : w_I) : Prop := (∀ k, k < Q.length → I 95 (8192 * sd + k) = Q.getD k 0) ∧ ∀ c, c ∈ Q → I 96 (8192 * sd + c) = vl c
/-- fare's row of K -/
def FO (P : w_R) (K si : Nat) (w : Nat → Nat) (I : w_I) : Prop := ∀ h, h < 64 → (I 93 (64 * K + h) = NVR ∨ ∃ s r, rR P K si w (P 2 0) h s 1 (I 93 (64 * K + h)) r) ∧ ∀ s c r, rR P K si w (P 2 0) h s 1 c r → I 93 (64 * K + h) ≤ c
section
variable {P : w_R} {K si : Nat} {w : Nat → Nat}
theorem r_c_inj {h s a h' s' a' : Nat} (hs : s < 64) (ha : a < 2) (hs' : s' < 64) (ha' : a' < 2) (e : r_c h s a = r_c h' s' a') : h = h' ∧ s = s' ∧ a = a' := by unfold r_c at e; omega
theorem RC.d (hP : s_POK P) (hw : ∀ x, x < P 0 0 → w x ≤ 99) {j c y : Nat} (hj : j ≤ P 2 0) (h : RC P K si w j c y) : ∃ h s a r, rR P K si w j h s a y r ∧ c = r_c h s a ∧ h < 64 ∧ s < 64 ∧ a < 2 ∧ y ≤ 1188 := by
  have h6 := hP.1.2
  have h12 := hP.2.2.1
  have h64 : 2 ^ P 0 0 ≤ 64 := Nat.pow_le_pow_right (n := 2) (j := 6) (by decide) h6
  obtain ⟨h, s, a, r, hR, e⟩ := h
  obtain ⟨b1, b2, b3, -, b5, -⟩ := rR_b hP hw j hj h s a y r hR
  exact ⟨h, s, a, r, hR, e, by omega, by omega, b3, by omega⟩
/-- a step of a state on the front leads to a state -/
theorem RC.step {i h s a x r c y : Nat} (hR : rR P K si w i h s a x r) (hn : r_new P K si w i h s a x c y) : RC P K si w (i + 1) c y := by
  rcases hn with ⟨rfl, rfl⟩ | ⟨b, hb, hk, rfl, rfl⟩
  · exact ⟨_, _, _, _, hR.no, rfl⟩
  · exact ⟨_, _, _, _, hR.yes hb hk, rfl⟩
theorem FS.next (hP : s_POK P) (hw : ∀ x, x < P 0 0 → w x ≤ 99) {i : Nat} (hi : i < P 2 0) {Q0 Q1 : List Nat} {v0 v1 : Nat → Nat} (h0 : FS P K si w i Q0 v0) (hs : ∀ c, c ∈ Q1 → RC P K si w (i + 1) c (v1 c)) (hc : ∀ q, q ∈ Q0 → ∀ h s a, q = r_c h s a → s < 64 → a < 2 → ∀ c y, r_new P K si w i h s a (v0 q) c y → c ∈ Q1 ∧ v1 c ≤ y) : FS P K si w (i + 1) Q1 v1 := by
  refine ⟨hs, fun c y hR => ?_⟩
  obtain ⟨h', s', a', r', hR, rfl⟩ := hR
  obtain ⟨h, s, a, c0, r, hR0, hstep⟩ := hR
  have h6 := hP.1.2
  have h64 : 2 ^ P 0 0 ≤ 64 := Nat.pow_le_pow_right (n := 2) (j := 6) (by decide) h6
  obtain ⟨b1, b2, b3, -⟩ := rR_b hP hw i (by omega) h s a c0 r hR0
  obtain ⟨g1, g2⟩ := h0.2 (r_c h s a) c0 ⟨h, s, a, r, hR0, rfl⟩
  have hcc := hc _ g1 h s a rfl (by omega) b3
  rcases hstep with ⟨rfl, rfl, rfl, rfl, rfl⟩ | ⟨b, hb, hk, rfl, rfl, rfl, rfl, rfl⟩
  · obtain ⟨k1, k2⟩ := hcc _ _ (Or.inl ⟨rfl, rfl⟩)
    exact ⟨k1, by omega⟩
  · obtain ⟨k1, k2⟩ := hcc _ _ (Or.inr ⟨b, hb, hk, rfl, rfl⟩)
    exact ⟨k1, by omega⟩
theorem FQ.fresh {sd : Nat} {vl : Nat → Nat} {I : w_I} (hsd : sd < 2) (h : MS I) : FQ sd [] vl (w_put (w_put I 63 52 (I 63 52 + 1)) 63 51 0) := by
  have e52 : w_put (w_put I 63 52 (I 63 52 + 1)) 63 51 0 63 52 = I 63 52 + 1 := by rw [w_put_other _ (Or.inr (by decide)), w_put_same]
  have e100 : w_put (w_put I 63 52 (I 63 52 + 1)) 63 51 0 97 = I 97 := by rw [w_put_ne _ _ (by decide), w_put_ne _ _ (by decide)]
  refine ⟨w_put_same _ _ _ _, List.nodup_nil, fun k hk => absurd hk (Nat.not_lt_zero _), fun c hc => ?_, fun c hc => absurd hc (List.not_mem_nil), fun k hk => ?_⟩
  · rw [e52, e100]
    have := h (8192 * sd + c) (by omega)
    exact ⟨fun q => by omega, fun q => absurd q (List.not_mem_nil)⟩
  · rw [e52, e100]
    have := h k hk
    omega
end
section
variable {Ω : w_O} {d u v : Nat} {L : w_L} {E : w_E} {P : w_R}
theorem getD_mem {Q : List Nat} {k : Nat} (hk : k < Q.length) : Q.getD k 0 ∈ Q := by
  rw [List.getD_eq_getElem?_getD, List.getElem?_eq_getElem hk]
  exact List.getElem_mem hk
theorem mem_getD {Q : List Nat} {c : Nat} (h : c ∈ Q) : ∃ k, k < Q.length ∧ Q.getD k 0 = c := by
  obtain ⟨k, hk, e⟩ := List.getElem_of_mem h
  exact ⟨k, hk, by rw [List.getD_eq_getElem?_getD, List.getElem?_eq_getElem hk]; exact e⟩
theorem tf_in {K si ks i : Nat} {Q0 : List Nat} {v0 : Nat → Nat} (hE : w_fit (d + 2) E) (hP : s_POK P) (hks : ks = 0 ∨ ks = 1) (hK64 : K < 64) (hsi : si < 64) (hi : i < P 2 0) (h0 : FS P K si (r_p P ks) i Q0 v0) (hn0 : Q0.length ≤ 8192) : ∀ (n k : Nat) (Q1 : List Nat) (v1 : Nat → Nat) (J : w_I), k + n = Q0.length → KF P si ks J → J 63 42 = K → J 63 50 = Q0.length → J 63 52 < 2000000000 → OQ (i % 2) Q0 v0 J → FQ ((i + 1) % 2) Q1 v1 J → (∀ c, c ∈ Q1 → RC P K si (r_p P ks) (i + 1) c (v1 c)) → (∀ t, t < k → ∀ h s a, Q0.getD t 0 = r_c h s a → s < 64 → a < 2 → ∀ c y, r_new P K si (r_p P ks) i h s a (v0 (Q0.getD t 0)) c y → c ∈ Q1 ∧ v1 c ≤ y) →
    (∀ Q' v' J', FrO ((i + 1) % 2) J J' → FQ ((i + 1) % 2) Q' v' J' → FS P K si (r_p P ks) (i + 1) Q' v' → V mX8_tellFare E Ω 0 0 (SH u v) J' L 99 [(0, .ref (Ω.1 + 63)), (1, .int (nI K)), (2, .int (nI i)), (3, .int (nI Q0.length))] []) →
    V mX8_tellFare E Ω 0 0 (SH u v) J L 66 [(0, .ref (Ω.1 + 63)), (1, .int (nI K)), (2, .int (nI i)), (3, .int (nI k))] [] := by
  have h12 := hP.2.2.1
  have hi2 : i % 2 < 2 := Nat.mod_lt _ (by decide)
  intro n
  induction n with
  | zero =>
    intro k Q1 v1 J hk hK h42 h50 hS hO hF hs hc hkk
    have e : k = Q0.length := by omega
    subst e
    refine V_iload_n 66 3 dX8_tellFare_66 rfl ?_
    refine V_aload_n 67 0 dX8_tellFare_67 rfl ?_
    refine V_getI 68 flX8_319 dX8_tellFare_68 rfl ?_
    rw [h50]
    refine V_cN_ge 71 99 dX8_tellFare_71 (by decide) (by omega) (by omega) (fun cb => ?_) (fun cb => ?_)
    · refine hkk Q1 v1 J FrO.rf hF (FS.next hP (r_p_le hP) hi h0 hs (fun q hq h s a e1 e2 e3 c y hn => ?_))
      obtain ⟨t, ht, et⟩ := mem_getD hq
      exact hc t ht h s a (et.trans e1) e2 e3 c y (by rw [et]; exact hn)
    · omega
  | succ n ih =>
    intro k Q1 v1 J hk hK h42 h50 hS hO hF hs hc hkk
    have hm := getD_mem (Q := Q0) (k := k) (by omega)
    obtain ⟨h, s, a, r, hR, ec, hh, hs6, ha, hy⟩ := RC.d hP (r_p_le hP) (by omega) (h0.1 _ hm)
    have hv := hO.2 _ hm
    rw [ec] at hv
    refine V_iload_n 66 3 dX8_tellFare_66 rfl ?_
    refine V_aload_n 67 0 dX8_tellFare_67 rfl ?_
    refine V_getI 68 flX8_319 dX8_tellFare_68 rfl ?_
    rw [h50]
    refine V_cN_ge 71 99 dX8_tellFare_71 (by decide) (by omega) (by omega) (fun cb => ?_) (fun cb => ?_)
    · omega
    refine V_aload_n 74 0 dX8_tellFare_74 rfl ?_
    refine V_iload_n 75 2 dX8_tellFare_75 rfl ?_
    refine V_aload_n 76 0 dX8_tellFare_76 rfl ?_
    refine V_getR 77 flX8_109 dX8_tellFare_77 rfl ?_
    refine V_sip 80 8192 dX8_tellFare_80 rfl ?_
    refine V_iload_n 83 2 dX8_tellFare_83 rfl ?_
    refine V_cst 84 2 dX8_tellFare_84 rfl ?_
    refine V_rem 85 dX8_tellFare_85 (by omega) (by omega) (by omega) ?_
    refine V_mul 86 dX8_tellFare_86 ?_
    refine V_iload_n 87 3 dX8_tellFare_87 rfl ?_
    refine V_add 88 dX8_tellFare_88 ?_
    refine V_iald 89 dX8_tellFare_89 rfl (by omega) (by omega) ?_
    rw [hO.1 k (by omega), ec]
    refine V_vv 90 mvX8_322 dX8_tellFare_90 ⟨_, _, _, rfl, rfl, rfl⟩ (w_fit.mono (by omega) hE) (m_spread (d := d) (K := K) (si := si) (ks := ks) (x := v0 (r_c h s a)) hP hK hks h42 hK64 hsi hi hh hs6 ha (by rw [← ec]; omega) hv hS hF) rfl (Nat.le_of_ble_eq_true rfl) ?_
    rintro _ J1 _ ⟨rfl, rfl, f1, Q2, v2, g1, e1⟩
    have hO1 : OQ (i % 2) Q0 v0 J1 := by
      have hq : ∀ k, k < 8192 → J1 95 (8192 * (i % 2) + k) = J 95 (8192 * (i % 2) + k) ∧ J1 96 (8192 * (i % 2) + k) = J 96 (8192 * (i % 2) + k) := fun k hk => f1.2.2 _ (by omega)
      refine ⟨fun k hk => ?_, fun c hc2 => ?_⟩
      · rw [(hq k (by omega)).1]; exact hO.1 k hk
      · obtain ⟨h', s', a', r', hR', ec', hh', hs6', ha', hy'⟩ := RC.d hP (r_p_le hP) (by omega) (h0.1 _ hc2)
        rw [(hq c (by rw [ec']; unfold r_c; omega)).2]; exact hO.2 c hc2
    refine V_inc 93 3 _ [(0, _), (1, _), (2, _), (3, _)] dX8_tellFare_93 rfl rfl rfl (by decide) rfl ?_
    refine V_goto 96 66 dX8_tellFare_96 (by decide) ?_
    refine ih (k + 1) Q2 v2 J1 (by omega) (f1.kf hK) (by rw [f1.2.1 42 (by decide)]; exact h42) (by rw [f1.2.1 50 (by decide)]; exact h50) (by rw [f1.2.1 52 (by decide)]; exact hS) hO1 g1 (fun c hc2 => ?_) (fun t ht h' s' a' q1 q2 q3 c y hn => ?_) (fun Q' v' J' a b e => hkk Q' v' J' (f1.trans a) b e)
    · rcases e1.1 c hc2 with ⟨k1, k2⟩ | k1
      · rw [k2]; exact hs c k1
      · refine RC.step hR ?_
        rw [ec]
        exact k1
    · by_cases e : t = k
      · subst e
        rw [ec] at q1 hn
        obtain ⟨rfl, rfl, rfl⟩ := r_c_inj hs6 ha q2 q3 q1
        exact e1.2.2 c y hn
      · obtain ⟨k1, k2⟩ := hc t (by omega) h' s' a' q1 q2 q3 c y hn
        obtain ⟨k3, k4⟩ := e1.2.1 c k1
        exact ⟨k3, by omega⟩
theorem tf_out {K si ks : Nat} (hE : w_fit (d + 2) E) (hP : s_POK P) (hks : ks = 0 ∨ ks = 1) (hK64 : K < 64) (hsi : si < 64) : ∀ (n i : Nat) (Q : List Nat) (vl : Nat → Nat) (J : w_I), i + n = P 2 0 → KF P si ks J → J 63 42 = K → J 63 50 = Q.length → J 63 52 + n < 2000000000 → OQ (i % 2) Q vl J → Q.length ≤ 8192 → MS J → FS P K si (r_p P ks) i Q vl →
    (∀ Q' v' J', KF P si ks J' → J' 63 50 = Q'.length → J' 63 52 = J 63 52 + n → OQ (P 2 0 % 2) Q' v' J' → Q'.length ≤ 8192 → MS J' → FS P K si (r_p P ks) (P 2 0) Q' v' → FrK J J' → J' 93 = J 93 → J' 94 = J 94 → V mX8_tellFare E Ω 0 0 (SH u v) J' L 113 [(0, .ref (Ω.1 + 63)), (1, .int (nI K)), (2, .int (nI (P 2 0)))] []) →
    V mX8_tellFare E Ω 0 0 (SH u v) J L 39 [(0, .ref (Ω.1 + 63)), (1, .int (nI K)), (2, .int (nI i))] [] := by
  have h12 := hP.2.2.1
  intro n
  induction n with
  | zero =>
    intro i Q vl J hi hK h42 h50 hS hO hn hM hFS hk
    have e : i = P 2 0 := by omega
    subst e
    refine V_iload_n 39 2 dX8_tellFare_39 rfl ?_
    refine V_aload_n 40 0 dX8_tellFare_40 rfl ?_
    refine V_getR 41 flX8_7 dX8_tellFare_41 rfl ?_
    refine V_cst 44 1 dX8_tellFare_44 rfl ?_
    refine V_iald 45 dX8_tellFare_45 rfl (by omega) (by omega) ?_
    rw [hK.1.2.1]
    refine V_cN_ge 46 113 dX8_tellFare_46 (by decide) (by omega) (by omega) (fun c => ?_) (fun c => ?_)
    · exact hk Q vl J hK h50 rfl hO hn hM hFS FrK.rf rfl rfl
    · omega
  | succ n ih =>
    intro i Q vl J hi hK h42 h50 hS hO hn hM hFS hk
    refine V_iload_n 39 2 dX8_tellFare_39 rfl ?_
    refine V_aload_n 40 0 dX8_tellFare_40 rfl ?_
    refine V_getR 41 flX8_7 dX8_tellFare_41 rfl ?_
    refine V_cst 44 1 dX8_tellFare_44 rfl ?_
    refine V_iald 45 dX8_tellFare_45 rfl (by omega) (by omega) ?_
    rw [hK.1.2.1]
    refine V_cN_ge 46 113 dX8_tellFare_46 (by decide) (by omega) (by omega) (fun c => ?_) (fun c => ?_)
    · omega
    refine V_aload_n 49 0 dX8_tellFare_49 rfl ?_
    refine V_dup 50 dX8_tellFare_50 rfl ?_
    refine V_getI 51 flX8_309 dX8_tellFare_51 rfl ?_
    refine V_cst 54 1 dX8_tellFare_54 rfl ?_
    refine V_add 55 dX8_tellFare_55 ?_
    refine V_putI 56 flX8_309 ft_8_52 dX8_tellFare_56 rfl ?_
    refine V_aload_n 59 0 dX8_tellFare_59 rfl ?_
    refine V_cst 60 0 dX8_tellFare_60 rfl ?_
    refine V_putI 61 flX8_312 ft_8_51 dX8_tellFare_61 rfl ?_
    refine V_cst 64 0 dX8_tellFare_64 rfl ?_
    refine V_istore_n 65 [(0, _), (1, _), (2, _), (3, _)] dX8_tellFare_65 (by decide) rfl ?_
    have fr : FrK J (w_put (w_put J 63 52 (J 63 52 + 1)) 63 51 0) := (FrK.rf.put (Or.inr ⟨rfl, by decide⟩)).put (Or.inr ⟨rfl, by decide⟩)
    have fo : ∀ i, i ≠ 63 → w_put (w_put J 63 52 (J 63 52 + 1)) 63 51 0 i = J i := fun i hi => by rw [w_put_ne _ _ hi, w_put_ne _ _ hi]
    have f66 : ∀ j, j ≠ 51 → j ≠ 52 → w_put (w_put J 63 52 (J 63 52 + 1)) 63 51 0 63 j = J 63 j := fun j a b => by rw [w_put_other _ (Or.inr a), w_put_other _ (Or.inr b)]
    have f52 : w_put (w_put J 63 52 (J 63 52 + 1)) 63 51 0 63 52 = J 63 52 + 1 := by rw [w_put_other _ (Or.inr (by decide)), w_put_same]
    have hQ1 := FQ.fresh (sd := (i + 1) % 2) (vl := fun _ => 0) (Nat.mod_lt _ (by decide)) hM
    generalize w_put (w_put J 63 52 (J 63 52 + 1)) 63 51 0 = J1 at fr fo f66 f52 hQ1 ⊢
    have hK1 : KF P si ks J1 := ⟨fr.mp hK.1, by rw [f66 43 (by decide) (by decide)]; exact hK.2.1, by rw [f66 44 (by decide) (by decide)]; exact hK.2.2.1, fun j hj => by rw [fo 87 (by decide)]; exact hK.2.2.2 j hj⟩
    have hO1 : OQ (i % 2) Q vl J1 := by unfold OQ; rw [fo 95 (by decide), fo 96 (by decide)]; exact hO
    refine tf_in (K := K) (si := si) (ks := ks) hE hP hks hK64 hsi (by omega) hFS hn Q.length 0 [] (fun _ => 0) J1 (by omega) hK1 (by rw [f66 42 (by decide) (by decide)]; exact h42) (by rw [f66 50 (by decide) (by decide)]; exact h50) (by rw [f52]; omega) hO1 hQ1 (fun c hc => absurd hc (List.not_mem_nil)) (fun t ht => absurd ht (Nat.not_lt_zero _)) (fun Q' v' J2 g1 g2 g3 => ?_)
    refine V_aload_n 99 0 dX8_tellFare_99 rfl ?_
    refine V_aload_n 100 0 dX8_tellFare_100 rfl ?_
    refine V_getI 101 flX8_312 dX8_tellFare_101 rfl ?_
    rw [g2.1]
    refine V_putI 104 flX8_319 ft_8_50 dX8_tellFare_104 rfl ?_
    refine V_inc 107 2 _ [(0, _), (1, _), (2, _), (3, _)] dX8_tellFare_107 rfl rfl rfl (by decide) rfl ?_
    refine V_sub [(0, _), (1, _), (2, _)] [0, 1, 2] rfl ?_
    refine V_goto 110 39 dX8_tellFare_110 (by decide) ?_
    refine V_sub [(0, _), (1, _), (2, _)] [0, 1, 2] rfl ?_
    have fr2 : FrK J1 (w_put J2 63 50 Q'.length) := g1.k.put (Or.inr ⟨rfl, by decide⟩)
    have h2 : ∀ j, j ≠ 50 → j ≠ 51 → w_put J2 63 50 Q'.length 63 j = J1 63 j := fun j a b => by rw [w_put_other _ (Or.inr a), g1.2.1 j b]
    have hlen := nodup_len g2.2.1 (fun c hc => (g2.2.2.2.2.1 c hc).1)
    have hK0 := g1.kf hK1
    have hK2 : KF P si ks (w_put J2 63 50 Q'.length) := ⟨(FrK.rf.put (Or.inr ⟨rfl, by decide⟩)).mp hK0.1, by rw [w_put_other _ (Or.inr (by decide))]; exact hK0.2.1, by rw [w_put_other _ (Or.inr (by decide))]; exact hK0.2.2.1, fun j hj => by rw [w_put_ne _ 87 (by decide)]; exact hK0.2.2.2 j hj⟩
    refine ih (i + 1) Q' v' _ (by omega) hK2 (by rw [h2 42 (by decide) (by decide), f66 42 (by decide) (by decide)]; exact h42) (w_put_same _ _ _ _) (by rw [h2 52 (by decide) (by decide), f52]; omega) ?_ hlen ?_ g3 (fun Q3 v3 J3 a1 a2 a3 a4 a5 a6 a7 a8 a9 a10 => hk Q3 v3 J3 a1 a2 ?_ a4 a5 a6 a7 ((fr.trans fr2).trans a8) ?_ ?_)
    · refine ⟨fun k hk => ?_, fun c hc => ?_⟩
      · rw [w_put_ne _ 95 (by decide)]; exact g2.2.2.1 k hk
      · rw [w_put_ne _ 96 (by decide)]; exact (g2.2.2.2.2.1 c hc).2.1
    · exact MS.of g2.2.2.2.2.2 (by rw [w_put_other _ (Or.inr (by decide))]) (w_put_ne _ _ (by decide))
    · rw [a3, h2 52 (by decide) (by decide), f52]; omega
    · rw [a9, w_put_ne _ 93 (by decide), g1.1 93 (by decide) (by decide) (by decide) (by decide), fo 93 (by decide)]
    · rw [a10, w_put_ne _ 94 (by decide), g1.1 94 (by decide) (by decide) (by decide) (by decide), fo 94 (by decide)]
end
