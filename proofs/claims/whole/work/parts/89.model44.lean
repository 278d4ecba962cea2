/-! rows -/
theorem dig_0 {b y i : Nat} (hy : y < 3 ^ (11 - i)) (hb : b < 3) : (b * 3 ^ (11 - i) + y) / 3 ^ (11 - i) % 3 = b := by
  rw [Nat.add_comm, Nat.add_mul_div_right _ _ (Nat.pow_pos (by decide)), Nat.div_eq_of_lt hy, Nat.zero_add, Nat.mod_eq_of_lt hb]
theorem dig_1 {b y i j : Nat} (hij : i < j) (hj : j ≤ 11) : (b * 3 ^ (11 - i) + y) / 3 ^ (11 - j) % 3 = y / 3 ^ (11 - j) % 3 := by
  have e : 3 ^ (11 - i) = 3 ^ (j - i) * 3 ^ (11 - j) := by rw [← Nat.pow_add]; congr 1; omega
  have e2 : 3 ^ (j - i) = 3 ^ (j - i - 1) * 3 := by rw [← Nat.pow_succ]; congr 1; omega
  rw [e, ← Nat.mul_assoc, Nat.add_comm, Nat.add_mul_div_right _ _ (Nat.pow_pos (by decide)), e2, ← Nat.mul_assoc, Nat.add_mul_mod_self_right]
section
variable {Ω : w_O} {d u v : Nat} {L : w_L} {E : w_E} {P : w_R} {K si ks m : Nat} {f : Nat → Nat}
theorem r_m_inj (hP : s_POK P) {i j : Nat} (hi : i < P 2 0) (hj : j < P 2 0) (e : r_m P i = r_m P j) : i = j := by
  have hl := s_ord_len hP
  have hi' : i < (s_ord P).length := by rw [hl]; exact hi
  have hj' : j < (s_ord P).length := by rw [hl]; exact hj
  unfold r_m at e
  rw [List.getD_eq_getElem?_getD, List.getD_eq_getElem?_getD, List.getElem?_eq_getElem hi', List.getElem?_eq_getElem hj'] at e
  have hn := List.pairwise_iff_getElem.mp (s_ord_nodup P)
  rcases Nat.lt_trichotomy i j with q | q | q
  · exact absurd e (hn i j hi' hj' q)
  · exact q
  · exact absurd e.symm (hn j i hj' hi' q)
/-- what stays while the row is laid -/
def FrG (I I' : w_I) : Prop := ∀ i, i ≠ 90 → I' i = I i
theorem lr_w {i h s a : Nat} {J : w_I} (hE : w_fit (d + 1) E) (hP : s_POK P) (hK : KF P si ks J) (hks : ks = 0 ∨ ks = 1) (h42 : J 63 42 = K) (hK64 : K < 64) (hsi : si < 64) (hm : m ≤ 500000) (hf : ∀ h, h < 2 ^ P 0 0 → f h = NVR ∨ f h ≤ m) (hL : Lv P K si (r_p P ks) f 0 J) (hi : i < P 2 0) (hh : h < 2 ^ P 0 0) (hs : s < 2 ^ P 0 0) (ha : a < 2)
    (hk : V mX8_layRow E Ω 0 0 (SH u v) J L 56 [(0, .ref (Ω.1 + 63)), (1, .int (nI h)), (2, .int (nI s)), (3, .int (nI a)), (4, .int (nI i)), (5, .int (nI (rG P K si (r_p P ks) f (P 2 0 - (i + 1)) h s a)))] []) : ∀ (n b : Nat), b + n = rG P K si (r_p P ks) f (P 2 0 - (i + 1)) h s a →
    V mX8_layRow E Ω 0 0 (SH u v) J L 23 [(0, .ref (Ω.1 + 63)), (1, .int (nI h)), (2, .int (nI s)), (3, .int (nI a)), (4, .int (nI i)), (5, .int (nI b))] [] := by
  have h6 := hP.1.2
  have h12 := hP.2.2.1
  have hNV : NVR = 1000000000 := rfl
  have h64 : 2 ^ P 0 0 ≤ 64 := Nat.pow_le_pow_right (n := 2) (j := 6) (by decide) h6
  have hg2 := rG_le (P := P) (K := K) (si := si) (w := r_p P ks) (f := f) (P 2 0 - (i + 1)) h s a
  have hBb := rB_b (K := K) (si := si) (w := r_p P ks) (f := f) hP (r_p_le hP) hm hf (P 2 0 - (i + 1)) (by omega)
  have hB0 := rB_b (K := K) (si := si) (w := r_p P ks) (f := f) hP (r_p_le hP) hm hf (P 2 0 - i) (by omega) h s a hh hs ha
  have h95 : ∀ h s a, h < 2 ^ P 0 0 → s < 2 ^ P 0 0 → a < 2 → J 92 (r_i (i + 1) h s a) = rB P K si (r_p P ks) f (P 2 0 - (i + 1)) h s a := fun h s a q1 q2 q3 => hL (i + 1) (Nat.zero_le _) (by omega) h s a q1 q2 q3
  have h950 := hL i (Nat.zero_le _) (by omega) h s a hh hs ha
  have hx : r_i i h s a < 106496 := by unfold r_i; omega
  have ei : P 2 0 - ((P 2 0 - (i + 1)) + 1) = i := by omega
  have ei2 : (P 2 0 - (i + 1)) + 1 = P 2 0 - i := by omega
  intro n
  induction n with
  | zero =>
    intro b hb
    have e : b = rG P K si (r_p P ks) f (P 2 0 - (i + 1)) h s a := by omega
    have heq := rG_eq (P := P) (K := K) (si := si) (w := r_p P ks) (f := f) (P 2 0 - (i + 1)) h s a
    rw [← e] at heq hk
    rw [ei, ei2] at heq
    refine V_aload_n 23 0 dX8_layRow_23 rfl ?_
    refine V_iload 24 4 dX8_layRow_24 rfl ?_
    refine V_iload_n 26 1 dX8_layRow_26 rfl ?_
    refine V_iload_n 27 2 dX8_layRow_27 rfl ?_
    refine V_iload_n 28 3 dX8_layRow_28 rfl ?_
    refine V_iload 29 5 dX8_layRow_29 rfl ?_
    refine V_vi 31 mvX8_305 dX8_layRow_31 ⟨_, _, _, rfl, rfl, rfl⟩ (w_fit.mono (by omega) hE) (m_byDoing (d := d) (m := m + 99 * (P 2 0 - (i + 1))) (b := b) hP hK hks h42 hK64 hsi hi (by omega) hh hs ha (by omega) hBb h95) rfl (Nat.le_of_ble_eq_true rfl) ?_
    rintro _ _ _ _ ⟨rfl, rfl, rfl, rfl⟩
    rw [heq]
    refine V_aload_n 34 0 dX8_layRow_34 rfl ?_
    refine V_getR 35 flX8_100 dX8_layRow_35 rfl ?_
    refine V_iload 38 4 dX8_layRow_38 rfl ?_
    refine V_iload_n 40 1 dX8_layRow_40 rfl ?_
    refine V_iload_n 41 2 dX8_layRow_41 rfl ?_
    refine V_iload_n 42 3 dX8_layRow_42 rfl ?_
    refine V_si 43 msX8_291 dX8_layRow_43 (w_fit.mono (by omega) hE) (m_cellOf (d := d) (i := i) (h := h) (s := s) (a := a) (by omega) (by omega) (by omega) ha) rfl (Nat.le_of_ble_eq_true rfl) ?_
    rintro _ _ _ _ ⟨rfl, rfl, rfl, rfl⟩
    rw [show ((i * 64 + h) * 64 + s) * 2 + a = r_i i h s a from rfl]
    refine V_iald 46 dX8_layRow_46 rfl (by omega) (by omega) ?_
    rw [h950]
    refine V_cN_eq 47 56 dX8_layRow_47 (by decide) (by omega) (by omega) (fun c => ?_) (fun c => ?_)
    · exact hk
    · exact absurd rfl c
  | succ n ih =>
    intro b hb
    have hne := rG_first (P := P) (K := K) (si := si) (w := r_p P ks) (f := f) (n := P 2 0 - (i + 1)) (h := h) (s := s) (a := a) (b := b) (by omega)
    rw [ei, ei2] at hne
    have hD := rD_b (K := K) (si := si) (w := r_p P ks) hP (r_p_le hP) (b := b) hi hh hs ha hBb
    refine V_aload_n 23 0 dX8_layRow_23 rfl ?_
    refine V_iload 24 4 dX8_layRow_24 rfl ?_
    refine V_iload_n 26 1 dX8_layRow_26 rfl ?_
    refine V_iload_n 27 2 dX8_layRow_27 rfl ?_
    refine V_iload_n 28 3 dX8_layRow_28 rfl ?_
    refine V_iload 29 5 dX8_layRow_29 rfl ?_
    refine V_vi 31 mvX8_305 dX8_layRow_31 ⟨_, _, _, rfl, rfl, rfl⟩ (w_fit.mono (by omega) hE) (m_byDoing (d := d) (m := m + 99 * (P 2 0 - (i + 1))) (b := b) hP hK hks h42 hK64 hsi hi (by omega) hh hs ha (by omega) hBb h95) rfl (Nat.le_of_ble_eq_true rfl) ?_
    rintro _ _ _ _ ⟨rfl, rfl, rfl, rfl⟩
    refine V_aload_n 34 0 dX8_layRow_34 rfl ?_
    refine V_getR 35 flX8_100 dX8_layRow_35 rfl ?_
    refine V_iload 38 4 dX8_layRow_38 rfl ?_
    refine V_iload_n 40 1 dX8_layRow_40 rfl ?_
    refine V_iload_n 41 2 dX8_layRow_41 rfl ?_
    refine V_iload_n 42 3 dX8_layRow_42 rfl ?_
    refine V_si 43 msX8_291 dX8_layRow_43 (w_fit.mono (by omega) hE) (m_cellOf (d := d) (i := i) (h := h) (s := s) (a := a) (by omega) (by omega) (by omega) ha) rfl (Nat.le_of_ble_eq_true rfl) ?_
    rintro _ _ _ _ ⟨rfl, rfl, rfl, rfl⟩
    rw [show ((i * 64 + h) * 64 + s) * 2 + a = r_i i h s a from rfl]
    refine V_iald 46 dX8_layRow_46 rfl (by omega) (by omega) ?_
    rw [h950]
    generalize rD P K si (r_p P ks) i b h s a (rB P K si (r_p P ks) f (P 2 0 - (i + 1))) = x0 at hD hne ⊢
    generalize rB P K si (r_p P ks) f (P 2 0 - i) h s a = x1 at hB0 hne ⊢
    refine V_cN_eq 47 56 dX8_layRow_47 (by decide) (by omega) (by omega) (fun c => ?_) (fun c => ?_)
    · exact absurd c hne
    refine V_inc 50 5 _ [(0, _), (1, _), (2, _), (3, _), (4, _), (5, _)] dX8_layRow_50 rfl rfl rfl (by decide) rfl ?_
    refine V_goto 53 23 dX8_layRow_53 (by decide) ?_
    exact ih (b + 1) (by omega)
theorem lr_c : ∀ (n j : Nat) (J : w_I), j + n = 12 →
    (∀ J' x, (∀ q, q < 12 → J' 91 q = if j ≤ q then J 90 q else J 91 q) → (∀ i, i ≠ 91 → J' i = J i) → ∀ h s a, V mX8_layRow E Ω 0 0 (SH u v) J' L 230 [(0, .ref (Ω.1 + 63)), (1, .int (nI h)), (2, .int (nI s)), (3, .int (nI a)), (4, .int (nI x))] []) →
    ∀ h s a, V mX8_layRow E Ω 0 0 (SH u v) J L 203 [(0, .ref (Ω.1 + 63)), (1, .int (nI h)), (2, .int (nI s)), (3, .int (nI a)), (4, .int (nI j))] [] := by
  intro n
  induction n with
  | zero =>
    intro j J hj hk h s a
    refine V_iload 203 4 dX8_layRow_203 rfl ?_
    refine V_bip 205 12 dX8_layRow_205 rfl ?_
    refine V_cN_ge 207 230 dX8_layRow_207 (by decide) (by omega) (by omega) (fun c => ?_) (fun c => ?_)
    · exact hk J _ (fun q hq => by rw [if_neg (by omega)]) (fun _ _ => rfl) h s a
    · omega
  | succ n ih =>
    intro j J hj hk h s a
    refine V_iload 203 4 dX8_layRow_203 rfl ?_
    refine V_bip 205 12 dX8_layRow_205 rfl ?_
    refine V_cN_ge 207 230 dX8_layRow_207 (by decide) (by omega) (by omega) (fun c => ?_) (fun c => ?_)
    · omega
    refine V_aload_n 210 0 dX8_layRow_210 rfl ?_
    refine V_getR 211 flX8_96 dX8_layRow_211 rfl ?_
    refine V_iload 214 4 dX8_layRow_214 rfl ?_
    refine V_aload_n 216 0 dX8_layRow_216 rfl ?_
    refine V_getR 217 flX8_93 dX8_layRow_217 rfl ?_
    refine V_iload 220 4 dX8_layRow_220 rfl ?_
    refine V_iald 222 dX8_layRow_222 rfl (by omega) (by omega) ?_
    refine V_iast 223 dX8_layRow_223 rfl (by omega) (by omega) ?_
    refine V_inc 224 4 _ [(0, _), (1, _), (2, _), (3, _), (4, _)] dX8_layRow_224 rfl rfl rfl (by decide) rfl ?_
    refine V_goto 227 203 dX8_layRow_227 (by decide) ?_
    refine ih (j + 1) _ (by omega) (fun J' x h1 h2 => hk J' x (fun q hq => ?_) (fun i hi => ?_)) h s a
    · refine lp_if2 ?_ (fun e => ?_) (fun e => ?_) (h1 q hq) rfl
      · rw [w_put_ne _ 90 (by decide)]
      · rw [w_put_other _ (Or.inr e)]
      · rw [e, w_put_same]
    · rw [h2 i hi, w_put_ne _ _ hi]
theorem lr_i {B : w_I} (hE : w_fit (d + 1) E) (hP : s_POK P) (hK : KF P si ks B) (hks : ks = 0 ∨ ks = 1) (h42 : B 63 42 = K) (hK64 : K < 64) (hsi : si < 64) (hm : m ≤ 500000) (hf : ∀ h, h < 2 ^ P 0 0 → f h = NVR ∨ f h ≤ m) (hL : Lv P K si (r_p P ks) f 0 B) {D : Nat → Nat} : ∀ (n i h s a : Nat) (J : w_I), i + n = P 2 0 → FrG B J → h < 2 ^ P 0 0 → s < 2 ^ P 0 0 → a < 2 → (∀ j, j < i → J 90 (r_m P j) = D j) → (∀ j, i ≤ j → j < P 2 0 → D j = rP P K si (r_p P ks) f n h s a / 3 ^ (11 - j) % 3) →
    (∀ J' h s a, FrG B J' → (∀ j, j < P 2 0 → J' 90 (r_m P j) = D j) → V mX8_layRow E Ω 0 0 (SH u v) J' L 200 [(0, .ref (Ω.1 + 63)), (1, .int (nI h)), (2, .int (nI s)), (3, .int (nI a)), (4, .int (nI (P 2 0)))] []) →
    V mX8_layRow E Ω 0 0 (SH u v) J L 9 [(0, .ref (Ω.1 + 63)), (1, .int (nI h)), (2, .int (nI s)), (3, .int (nI a)), (4, .int (nI i))] [] := by
  have h6 := hP.1.2
  have h12 := hP.2.2.1
  have h64 : 2 ^ P 0 0 ≤ 64 := Nat.pow_le_pow_right (n := 2) (j := 6) (by decide) h6
  intro n
  induction n with
  | zero =>
    intro i h s a J hi hF hh hs ha hd hD hk
    have e : i = P 2 0 := by omega
    subst e
    refine V_iload 9 4 dX8_layRow_9 rfl ?_
    refine V_aload_n 11 0 dX8_layRow_11 rfl ?_
    refine V_getR 12 flX8_7 dX8_layRow_12 rfl ?_
    refine V_cst 15 1 dX8_layRow_15 rfl ?_
    refine V_iald 16 dX8_layRow_16 rfl (by omega) (by omega) ?_
    rw [hF 64 (by decide), hK.1.2.1]
    refine V_cN_ge 17 200 dX8_layRow_17 (by decide) (by omega) (by omega) (fun c => ?_) (fun c => ?_)
    · exact hk J h s a hF hd
    · omega
  | succ n ih =>
    intro i h s a J hi hF hh hs ha hd hD hk
    have en : P 2 0 - (i + 1) = n := by omega
    have ei : P 2 0 - (n + 1) = i := by omega
    have hKJ : KF P si ks J := ⟨hK.1.of (fun i _ _ => hF i (by omega)), by rw [hF 63 (by decide)]; exact hK.2.1, by rw [hF 63 (by decide)]; exact hK.2.2.1, fun j hj => by rw [hF 87 (by decide)]; exact hK.2.2.2 j hj⟩
    have hLJ : Lv P K si (r_p P ks) f 0 J := by unfold Lv; rw [hF 92 (by decide)]; exact hL
    have g1 := r_m_lt hP (j := i) (by omega)
    obtain ⟨m3, m4, m5⟩ := hKJ.1.2.2.2.2.1 _ g1
    obtain ⟨q3, q4, -⟩ := hP.2.2.2.1 _ g1
    have hrP : rP P K si (r_p P ks) f (n + 1) h s a = rG P K si (r_p P ks) f n h s a * w_dn i + rP P K si (r_p P ks) f n (n_h P i (rG P K si (r_p P ks) f n h s a) h) (n_s P i (rG P K si (r_p P ks) f n h s a) s) (n_a P i (rG P K si (r_p P ks) f n h s a) h a) := by
      show rG P K si (r_p P ks) f n h s a * w_dn (P 2 0 - (n + 1)) + rP P K si (r_p P ks) f n (n_h P (P 2 0 - (n + 1)) _ h) (n_s P (P 2 0 - (n + 1)) _ s) (n_a P (P 2 0 - (n + 1)) _ h a) = _
      rw [ei]
    have hg2 := rG_le (P := P) (K := K) (si := si) (w := r_p P ks) (f := f) n h s a
    have hrest := rP_lt (P := P) (K := K) (si := si) (w := r_p P ks) (f := f) hP n (by omega) (n_h P i (rG P K si (r_p P ks) f n h s a) h) (n_s P i (rG P K si (r_p P ks) f n h s a) s) (n_a P i (rG P K si (r_p P ks) f n h s a) h a)
    rw [show 12 - (P 2 0 - n) = 11 - i by omega] at hrest
    obtain ⟨nb1, nb2, nb3⟩ := n_b hP (i := i) (b := rG P K si (r_p P ks) f n h s a) (by omega) hh hs ha
    have w56 : V mX8_layRow E Ω 0 0 (SH u v) J L 56 [(0, .ref (Ω.1 + 63)), (1, .int (nI h)), (2, .int (nI s)), (3, .int (nI a)), (4, .int (nI i)), (5, .int (nI (rG P K si (r_p P ks) f n h s a)))] [] := by
      have hDi : ∀ j, i ≤ j → j < P 2 0 → D j = (rG P K si (r_p P ks) f n h s a * 3 ^ (11 - i) + rP P K si (r_p P ks) f n (n_h P i (rG P K si (r_p P ks) f n h s a) h) (n_s P i (rG P K si (r_p P ks) f n h s a) s) (n_a P i (rG P K si (r_p P ks) f n h s a) h a)) / 3 ^ (11 - j) % 3 := fun j q1 q2 => by rw [hD j q1 q2, hrP, w_dn_3 i (by omega)]
      generalize rG P K si (r_p P ks) f n h s a = b at hg2 hrest nb1 nb2 nb3 hDi ⊢
      obtain ⟨w1, w2, w3⟩ := r_wo hP (j := i) (by omega) b
      have hd0 : D i = b := by rw [hDi i (Nat.le_refl _) (by omega)]; exact dig_0 (by omega) (by omega)
      refine V_aload_n 56 0 dX8_layRow_56 rfl ?_
      refine V_getR 57 flX8_93 dX8_layRow_57 rfl ?_
      refine V_aload_n 60 0 dX8_layRow_60 rfl ?_
      refine V_getR 61 flX8_84 dX8_layRow_61 rfl ?_
      refine V_iload 64 4 dX8_layRow_64 rfl ?_
      refine V_iald 66 dX8_layRow_66 rfl (by omega) (by omega) ?_
      rw [hKJ.2.2.2 i (by omega)]
      refine V_iload 67 5 dX8_layRow_67 rfl ?_
      refine V_iast 69 dX8_layRow_69 rfl (by omega) (by omega) ?_
      have hF1 : FrG B (w_put J 90 (r_m P i) b) := fun q hq => by rw [w_put_ne _ _ hq]; exact hF q hq
      have hd1 : ∀ j, j < i + 1 → w_put J 90 (r_m P i) b 90 (r_m P j) = D j := fun j hj => by
        by_cases e : j = i
        · rw [e, w_put_same, hd0]
        · rw [w_put_other _ (Or.inr (fun q => e (r_m_inj hP (by omega) (by omega) q)))]
          exact hd j (by omega)
      have n3 : ∀ i, i ≠ 90 → w_put J 90 (r_m P i) b i = J i := fun i hi => w_put_ne _ _ hi
      have hK1 : KF P si ks (w_put J 90 (r_m P i) b) := ⟨hKJ.1.of (fun i _ _ => w_put_ne _ _ (by omega)), by rw [w_put_ne _ 63 (by decide)]; exact hKJ.2.1, by rw [w_put_ne _ 63 (by decide)]; exact hKJ.2.2.1, fun j hj => by rw [w_put_ne _ 87 (by decide)]; exact hKJ.2.2.2 j hj⟩
      have m31 : w_put J 90 (r_m P i) b 66 (r_m P i) = P 3 (r_m P i) := by rw [w_put_ne _ 66 (by decide)]; exact m3
      have m41 : w_put J 90 (r_m P i) b 67 (r_m P i) = P 4 (r_m P i) := by rw [w_put_ne _ 67 (by decide)]; exact m4
      have o1 : w_put J 90 (r_m P i) b 87 i = r_m P i := hK1.2.2.2 i (by omega)
      clear n3
      generalize w_put J 90 (r_m P i) b = J1 at hF1 hd1 hK1 m31 m41 o1 ⊢
      have k140 : ∀ x y, (b = 1 → x = P 3 (r_m P i) ∧ y = P 4 (r_m P i)) → (b = 2 → x = P 4 (r_m P i) ∧ y = P 3 (r_m P i)) → x < 6 → y < 6 → V mX8_layRow E Ω 0 0 (SH u v) J1 L 140 [(0, .ref (Ω.1 + 63)), (1, .int (nI h)), (2, .int (nI s)), (3, .int (nI a)), (4, .int (nI i)), (5, .int (nI b)), (6, .int (nI x)), (7, .int (nI y))] [] := by
        intro x y hx hy hx6 hy6
        have k184 : ∀ s0, s0 = (if b = 0 then s else s ||| 2 ^ r_w P i b) → V mX8_layRow E Ω 0 0 (SH u v) J1 L 184 [(0, .ref (Ω.1 + 63)), (1, .int (nI (n_h P i b h))), (2, .int (nI s0)), (3, .int (nI (n_a P i b h a))), (4, .int (nI i)), (5, .int (nI b)), (6, .int (nI x)), (7, .int (nI y))] [] := by
          intro s0 hs0
          refine V_aload_n 184 0 dX8_layRow_184 rfl ?_
          refine V_iload 185 4 dX8_layRow_185 rfl ?_
          refine V_cst 187 1 dX8_layRow_187 rfl ?_
          refine V_add 188 dX8_layRow_188 ?_
          refine V_iload_n 189 2 dX8_layRow_189 rfl ?_
          refine V_vi 190 mvX8_288 dX8_layRow_190 ⟨_, _, _, rfl, rfl, rfl⟩ (w_fit.mono (by omega) hE) (m_spokeAt (d := d) (s := s0) hP hK1.1 hK1.2.2.2 (by omega)) rfl (Nat.le_of_ble_eq_true rfl) ?_
          rintro _ _ _ _ ⟨rfl, rfl, rfl, rfl⟩
          refine V_istore_n 193 [(0, _), (1, _), (2, _), (3, _), (4, _), (5, _), (6, _), (7, _)] dX8_layRow_193 (by decide) rfl ?_
          refine V_inc 194 4 _ [(0, _), (1, _), (2, _), (3, _), (4, _), (5, _), (6, _), (7, _)] dX8_layRow_194 rfl rfl rfl (by decide) rfl ?_
          refine V_sub [(0, _), (1, _), (2, _), (3, _), (4, _)] [0, 1, 2, 3, 4] rfl ?_
          refine V_goto 197 9 dX8_layRow_197 (by decide) ?_
          refine V_sub [(0, _), (1, _), (2, _), (3, _), (4, _)] [0, 1, 2, 3, 4] rfl ?_
          rw [hs0]
          refine ih (i + 1) (n_h P i b h) (n_s P i b s) (n_a P i b h a) J1 (by omega) hF1 nb1 nb2 nb3 hd1 (fun j q1 q2 => ?_) hk
          rw [hDi j (by omega) q2, dig_1 (by omega) (by omega)]
        refine V_iload 140 5 dX8_layRow_140 rfl ?_
        by_cases hb0 : b = 0
        · subst hb0
          refine V_zN_le 142 184 dX8_layRow_142 (by decide) (by omega) (fun c1 => ?_) (fun c1 => ?_)
          · exact k184 s (by rw [if_pos rfl])
          · omega
        · have hw : x = r_w P i b ∧ y = r_o P i b := by
            rcases (show b = 1 ∨ b = 2 by omega) with rfl | rfl
            · exact hx rfl
            · exact hy rfl
          obtain ⟨rfl, rfl⟩ := hw
          have eh : n_h P i b h = h ||| (2 ^ r_w P i b ||| 2 ^ r_o P i b) := by unfold n_h r_h; rw [if_neg hb0, Nat.or_assoc]
          have ea : n_a P i b h a = r_a P i b h a := if_neg hb0
          refine V_zN_le 142 184 dX8_layRow_142 (by decide) (by omega) (fun c1 => ?_) (fun c1 => ?_)
          · omega
          have k164 : V mX8_layRow E Ω 0 0 (SH u v) J1 L 164 [(0, .ref (Ω.1 + 63)), (1, .int (nI h)), (2, .int (nI s)), (3, .int (nI a)), (4, .int (nI i)), (5, .int (nI b)), (6, .int (nI (r_w P i b))), (7, .int (nI (r_o P i b)))] [.int (nI (r_a P i b h a))] := by
            refine V_istore_n 164 [(0, _), (1, _), (2, _), (3, _), (4, _), (5, _), (6, _), (7, _)] dX8_layRow_164 (by decide) rfl ?_
            refine V_iload_n 165 1 dX8_layRow_165 rfl ?_
            refine V_cst 166 1 dX8_layRow_166 rfl ?_
            refine V_iload 167 6 dX8_layRow_167 rfl ?_
            refine V_shl 169 dX8_layRow_169 (by omega) ?_
            refine V_cst 170 1 dX8_layRow_170 rfl ?_
            refine V_iload 171 7 dX8_layRow_171 rfl ?_
            refine V_shl 173 dX8_layRow_173 (by omega) ?_
            refine V_or 174 dX8_layRow_174 ?_
            refine V_or 175 dX8_layRow_175 ?_
            refine V_istore_n 176 [(0, _), (1, _), (2, _), (3, _), (4, _), (5, _), (6, _), (7, _)] dX8_layRow_176 (by decide) rfl ?_
            refine V_iload_n 177 2 dX8_layRow_177 rfl ?_
            refine V_cst 178 1 dX8_layRow_178 rfl ?_
            refine V_iload 179 6 dX8_layRow_179 rfl ?_
            refine V_shl 181 dX8_layRow_181 (by omega) ?_
            refine V_or 182 dX8_layRow_182 ?_
            refine V_istore_n 183 [(0, _), (1, _), (2, _), (3, _), (4, _), (5, _), (6, _), (7, _)] dX8_layRow_183 (by decide) rfl ?_
            rw [Nat.one_mul, Nat.one_mul, ← eh, ← ea]
            exact k184 _ (by rw [if_neg hb0])
          refine V_iload_n 145 3 dX8_layRow_145 rfl ?_
          refine V_cst 146 1 dX8_layRow_146 rfl ?_
          refine V_cN_eq 147 159 dX8_layRow_147 (by decide) (by omega) (by omega) (fun c2 => ?_) (fun c2 => ?_)
          · refine V_cst 159 1 dX8_layRow_159 rfl ?_
            refine V_goto 160 164 dX8_layRow_160 (by decide) ?_
            have e : r_a P i b h a = 1 := by unfold r_a; rw [if_pos (Or.inl c2)]
            rw [e] at k164
            exact k164
          refine V_iload_n 150 1 dX8_layRow_150 rfl ?_
          refine V_iload 151 7 dX8_layRow_151 rfl ?_
          refine V_shr 153 dX8_layRow_153 (by omega) (by omega) ?_
          refine V_cst 154 1 dX8_layRow_154 rfl ?_
          refine V_and 155 dX8_layRow_155 ?_
          rw [bit01]
          cases c3 : h.testBit (r_o P i b)
          · rw [if_neg (by decide)]
            refine V_zN_ne 156 163 dX8_layRow_156 (by decide) (by omega) (fun c4 => ?_) (fun c4 => ?_)
            · exact absurd rfl c4
            refine V_cst 159 1 dX8_layRow_159 rfl ?_
            refine V_goto 160 164 dX8_layRow_160 (by decide) ?_
            have e : r_a P i b h a = 1 := by unfold r_a; rw [if_pos (Or.inr c3)]
            rw [e] at k164
            exact k164
          · rw [if_pos rfl]
            refine V_zN_ne 156 163 dX8_layRow_156 (by decide) (by omega) (fun c4 => ?_) (fun c4 => ?_)
            rotate_left
            · exact absurd c4 (by decide)
            refine V_cst 163 0 dX8_layRow_163 rfl ?_
            have e : r_a P i b h a = 0 := by unfold r_a; rw [if_neg (fun q => by rcases q with q | q; exact c2 q; rw [c3] at q; exact absurd q (by decide))]
            rw [e] at k164
            exact k164
      refine V_iload 70 5 dX8_layRow_70 rfl ?_
      refine V_cst 72 1 dX8_layRow_72 rfl ?_
      refine V_cN_ne 73 91 dX8_layRow_73 (by decide) (by omega) (by omega) (fun c1 => ?_) (fun c1 => ?_)
      · refine V_aload_n 91 0 dX8_layRow_91 rfl ?_
        refine V_getR 92 flX8_19 dX8_layRow_92 rfl ?_
        refine V_aload_n 95 0 dX8_layRow_95 rfl ?_
        refine V_getR 96 flX8_84 dX8_layRow_96 rfl ?_
        refine V_iload 99 4 dX8_layRow_99 rfl ?_
        refine V_iald 101 dX8_layRow_101 rfl (by omega) (by omega) ?_
        rw [o1]
        refine V_iald 102 dX8_layRow_102 rfl (by omega) (by omega) ?_
        rw [m41]
        refine V_istore 103 [(0, _), (1, _), (2, _), (3, _), (4, _), (5, _), (6, _)] dX8_layRow_103 (by decide) rfl ?_
        refine V_iload 105 5 dX8_layRow_105 rfl ?_
        refine V_cst 107 1 dX8_layRow_107 rfl ?_
        refine V_cN_ne 108 126 dX8_layRow_108 (by decide) (by omega) (by omega) (fun c2 => ?_) (fun c2 => ?_)
        rotate_left
        · exact absurd c2 c1
        refine V_aload_n 126 0 dX8_layRow_126 rfl ?_
        refine V_getR 127 flX8_16 dX8_layRow_127 rfl ?_
        refine V_aload_n 130 0 dX8_layRow_130 rfl ?_
        refine V_getR 131 flX8_84 dX8_layRow_131 rfl ?_
        refine V_iload 134 4 dX8_layRow_134 rfl ?_
        refine V_iald 136 dX8_layRow_136 rfl (by omega) (by omega) ?_
        rw [o1]
        refine V_iald 137 dX8_layRow_137 rfl (by omega) (by omega) ?_
        rw [m31]
        refine V_istore 138 [(0, _), (1, _), (2, _), (3, _), (4, _), (5, _), (6, _), (7, _)] dX8_layRow_138 (by decide) rfl ?_
        exact k140 _ _ (fun e => absurd e c1) (fun _ => ⟨rfl, rfl⟩) (by omega) (by omega)
      · refine V_aload_n 76 0 dX8_layRow_76 rfl ?_
        refine V_getR 77 flX8_16 dX8_layRow_77 rfl ?_
        refine V_aload_n 80 0 dX8_layRow_80 rfl ?_
        refine V_getR 81 flX8_84 dX8_layRow_81 rfl ?_
        refine V_iload 84 4 dX8_layRow_84 rfl ?_
        refine V_iald 86 dX8_layRow_86 rfl (by omega) (by omega) ?_
        rw [o1]
        refine V_iald 87 dX8_layRow_87 rfl (by omega) (by omega) ?_
        rw [m31]
        refine V_goto 88 103 dX8_layRow_88 (by decide) ?_
        refine V_istore 103 [(0, _), (1, _), (2, _), (3, _), (4, _), (5, _), (6, _)] dX8_layRow_103 (by decide) rfl ?_
        refine V_iload 105 5 dX8_layRow_105 rfl ?_
        refine V_cst 107 1 dX8_layRow_107 rfl ?_
        refine V_cN_ne 108 126 dX8_layRow_108 (by decide) (by omega) (by omega) (fun c2 => ?_) (fun c2 => ?_)
        · exact absurd c1 c2
        refine V_aload_n 111 0 dX8_layRow_111 rfl ?_
        refine V_getR 112 flX8_19 dX8_layRow_112 rfl ?_
        refine V_aload_n 115 0 dX8_layRow_115 rfl ?_
        refine V_getR 116 flX8_84 dX8_layRow_116 rfl ?_
        refine V_iload 119 4 dX8_layRow_119 rfl ?_
        refine V_iald 121 dX8_layRow_121 rfl (by omega) (by omega) ?_
        rw [o1]
        refine V_iald 122 dX8_layRow_122 rfl (by omega) (by omega) ?_
        rw [m41]
        refine V_goto 123 138 dX8_layRow_123 (by decide) ?_
        refine V_istore 138 [(0, _), (1, _), (2, _), (3, _), (4, _), (5, _), (6, _), (7, _)] dX8_layRow_138 (by decide) rfl ?_
        exact k140 _ _ (fun _ => ⟨rfl, rfl⟩) (fun e => by omega) (by omega) (by omega)
    refine V_iload 9 4 dX8_layRow_9 rfl ?_
    refine V_aload_n 11 0 dX8_layRow_11 rfl ?_
    refine V_getR 12 flX8_7 dX8_layRow_12 rfl ?_
    refine V_cst 15 1 dX8_layRow_15 rfl ?_
    refine V_iald 16 dX8_layRow_16 rfl (by omega) (by omega) ?_
    rw [hF 64 (by decide), hK.1.2.1]
    refine V_cN_ge 17 200 dX8_layRow_17 (by decide) (by omega) (by omega) (fun c => ?_) (fun c => ?_)
    · omega
    refine V_cst 20 0 dX8_layRow_20 rfl ?_
    refine V_istore 21 [(0, _), (1, _), (2, _), (3, _), (4, _), (5, _)] dX8_layRow_21 (by decide) rfl ?_
    rw [← en] at w56
    exact lr_w (d := d) hE hP hKJ hks (by rw [hF 63 (by decide)]; exact h42) hK64 hsi hm hf hLJ (by omega) hh hs ha w56 _ 0 (Nat.zero_add _)
theorem m_layRow {I : w_I} (hP : s_POK P) (hK : KF P si ks I) (hks : ks = 0 ∨ ks = 1) (h42 : I 63 42 = K) (hK64 : K < 64) (hsi : si < 64) (hm : m ≤ 500000) (hf : ∀ h, h < 2 ^ P 0 0 → f h = NVR ∨ f h ≤ m) (hL : Lv P K si (r_p P ks) f 0 I) : FnV Ω (d + 2) mX8_layRow [.ref (Ω.1 + 63)] (SH u v) I L (fun S' I' L' => S' = SH u v ∧ L = L' ∧ (∀ j, j < P 2 0 → I' 91 (r_m P j) = rP P K si (r_p P ks) f (P 2 0) 0 0 0 / 3 ^ (11 - j) % 3) ∧ I' 63 41 = 1 ∧ (∀ j, j ≠ 41 → I' 63 j = I 63 j) ∧ ∀ i, i ≠ 63 → i ≠ 90 → i ≠ 91 → I' i = I i) := by
  have h12 := hP.2.2.1
  have hpos : 0 < 2 ^ P 0 0 := Nat.two_pow_pos _
  refine FnR_of1 (d := d + 1) okX8_layRow (Nat.le_of_ble_eq_true rfl) fun l z hE => ?_
  show V _ _ _ _ _ _ _ _ 0 [(0, _)] []
  refine V_cst 0 0 dX8_layRow_0 rfl ?_
  refine V_istore_n 1 [(0, _), (1, _)] dX8_layRow_1 (by decide) rfl ?_
  refine V_cst 2 0 dX8_layRow_2 rfl ?_
  refine V_istore_n 3 [(0, _), (1, _), (2, _)] dX8_layRow_3 (by decide) rfl ?_
  refine V_cst 4 0 dX8_layRow_4 rfl ?_
  refine V_istore_n 5 [(0, _), (1, _), (2, _), (3, _)] dX8_layRow_5 (by decide) rfl ?_
  refine V_cst 6 0 dX8_layRow_6 rfl ?_
  refine V_istore 7 [(0, _), (1, _), (2, _), (3, _), (4, _)] dX8_layRow_7 (by decide) rfl ?_
  refine lr_i (d := d) (B := I) hE hP hK hks h42 hK64 hsi hm hf hL (D := fun j => rP P K si (r_p P ks) f (P 2 0) 0 0 0 / 3 ^ (11 - j) % 3) (P 2 0) 0 0 0 0 I (by omega) (fun _ _ => rfl) hpos hpos (by decide) (fun j hj => absurd hj (Nat.not_lt_zero _)) (fun j _ _ => rfl) (fun J h s a g1 g2 => ?_)
  refine V_cst 200 0 dX8_layRow_200 rfl ?_
  refine V_istore 201 [(0, _), (1, _), (2, _), (3, _), (4, _)] dX8_layRow_201 (by decide) rfl ?_
  refine lr_c 12 0 J (by omega) (fun J2 x e1 e2 h s a => ?_) h s a
  refine V_aload_n 230 0 dX8_layRow_230 rfl ?_
  refine V_cst 231 1 dX8_layRow_231 rfl ?_
  refine V_putZ 232 flX8_245 ft_8_41 dX8_layRow_232 rfl (by first | exact Or.inl rfl | exact Or.inr rfl | assumption) ?_
  refine V_ret 235 dX8_layRow_235 rfl ⟨rfl, rfl, fun j hj => ?_, w_put_same _ _ _ _, fun j hj => ?_, fun i w1 w2 w3 => ?_⟩
  · rw [w_put_ne _ 91 (by decide), e1 _ (by have := r_m_lt hP hj; omega), if_pos (Nat.zero_le _)]
    exact g2 j hj
  · rw [w_put_other _ (Or.inr hj), e2 63 (by decide), g1 63 (by decide)]
  · rw [w_put_ne _ _ w1, e2 i w3, g1 i w2]
end
