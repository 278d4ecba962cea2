section
variable {P : w_R} {K si : Nat} {w f : Nat → Nat}
/-- how a day can go on: n meetings more, to h', for c, with the row r -/
def rT (P : w_R) (K si : Nat) (w : Nat → Nat) : Nat → Nat → Nat → Nat → Nat → Nat → Nat → Prop
  | 0, h, _, a, h', c, r => h' = h ∧ a = 1 ∧ c = 0 ∧ r = 0
  | n + 1, h, s, a, h', c, r => rT P K si w n h (r_s P (P 2 0 - (n + 1) + 1) s) a h' c r ∨ ∃ b c0 r0, (b = 1 ∨ b = 2) ∧ r_ok P K si (P 2 0 - (n + 1)) b h s ∧ rT P K si w n (r_h P (P 2 0 - (n + 1)) b h) (r_s P (P 2 0 - (n + 1) + 1) (s ||| 2 ^ r_w P (P 2 0 - (n + 1)) b)) (r_a P (P 2 0 - (n + 1)) b h a) h' c0 r0 ∧ c = c0 + w (r_w P (P 2 0 - (n + 1)) b) ∧ r = b * w_dn (P 2 0 - (n + 1)) + r0
/-- the first doing that is least -/
def rG (P : w_R) (K si : Nat) (w f : Nat → Nat) (n h s a : Nat) : Nat := if rD P K si w (P 2 0 - (n + 1)) 0 h s a (rB P K si w f n) = rB P K si w f (n + 1) h s a then 0 else if rD P K si w (P 2 0 - (n + 1)) 1 h s a (rB P K si w f n) = rB P K si w f (n + 1) h s a then 1 else 2
def n_h (P : w_R) (i b h : Nat) : Nat := if b = 0 then h else r_h P i b h
def n_s (P : w_R) (i b s : Nat) : Nat := r_s P (i + 1) (if b = 0 then s else s ||| 2 ^ r_w P i b)
def n_a (P : w_R) (i b h a : Nat) : Nat := if b = 0 then a else r_a P i b h a
/-- the row of the first least doings -/
def rP (P : w_R) (K si : Nat) (w f : Nat → Nat) : Nat → Nat → Nat → Nat → Nat
  | 0, _, _, _ => 0
  | n + 1, h, s, a => rG P K si w f n h s a * w_dn (P 2 0 - (n + 1)) + rP P K si w f n (n_h P (P 2 0 - (n + 1)) (rG P K si w f n h s a) h) (n_s P (P 2 0 - (n + 1)) (rG P K si w f n h s a) s) (n_a P (P 2 0 - (n + 1)) (rG P K si w f n h s a) h a)
theorem rG_le (n h s a : Nat) : rG P K si w f n h s a ≤ 2 := by unfold rG; split; decide; split <;> decide
theorem rG_eq (n h s a : Nat) : rD P K si w (P 2 0 - (n + 1)) (rG P K si w f n h s a) h s a (rB P K si w f n) = rB P K si w f (n + 1) h s a := by
  unfold rG
  split
  · assumption
  · rename_i h0
    split
    · assumption
    · rename_i h1
      have e : rB P K si w f (n + 1) h s a = min (rD P K si w (P 2 0 - (n + 1)) 0 h s a (rB P K si w f n)) (min (rD P K si w (P 2 0 - (n + 1)) 1 h s a (rB P K si w f n)) (rD P K si w (P 2 0 - (n + 1)) 2 h s a (rB P K si w f n))) := rfl
      rw [e] at h0 h1 ⊢
      omega
theorem rG_first {n h s a b : Nat} (hb : b < rG P K si w f n h s a) : rD P K si w (P 2 0 - (n + 1)) b h s a (rB P K si w f n) ≠ rB P K si w f (n + 1) h s a := by
  have h2 := rG_le (P := P) (K := K) (si := si) (w := w) (f := f) n h s a
  intro e
  unfold rG at hb
  split at hb
  · omega
  · rename_i h0
    split at hb
    · have : b = 0 := by omega
      subst this
      exact h0 e
    · rename_i h1
      rcases (show b = 0 ∨ b = 1 by omega) with rfl | rfl
      · exact h0 e
      · exact h1 e
theorem rB_min (n h s a b : Nat) (hb : b < 3) : rB P K si w f (n + 1) h s a ≤ rD P K si w (P 2 0 - (n + 1)) b h s a (rB P K si w f n) := by
  show min _ (min _ _) ≤ _
  rcases (show b = 0 ∨ b = 1 ∨ b = 2 by omega) with rfl | rfl | rfl <;> omega
theorem n_b (hP : s_POK P) {i b h s a : Nat} (hi : i < P 2 0) (hh : h < 2 ^ P 0 0) (hs : s < 2 ^ P 0 0) (ha : a < 2) : n_h P i b h < 2 ^ P 0 0 ∧ n_s P i b s < 2 ^ P 0 0 ∧ n_a P i b h a < 2 := by
  obtain ⟨w1, w2, -⟩ := r_wo hP hi b
  refine ⟨?_, ?_, ?_⟩
  · unfold n_h
    split
    · exact hh
    · exact Nat.or_lt_two_pow (Nat.or_lt_two_pow hh (p_lt w1)) (p_lt w2)
  · unfold n_s
    apply r_s_le
    split
    · exact hs
    · exact Nat.or_lt_two_pow hs (p_lt w1)
  · unfold n_a
    split
    · exact ha
    · unfold r_a; split <;> decide
theorem rP_lt (hP : s_POK P) : ∀ n, n ≤ P 2 0 → ∀ h s a, rP P K si w f n h s a + 1 ≤ 3 ^ (12 - (P 2 0 - n)) := by
  have h12 := hP.2.2.1
  intro n
  induction n with
  | zero => intro _ h s a; show 0 + 1 ≤ _; exact Nat.pow_pos (by decide)
  | succ n ih =>
    intro hn h s a
    have h2 := rG_le (P := P) (K := K) (si := si) (w := w) (f := f) n h s a
    have i1 := ih (by omega) (n_h P (P 2 0 - (n + 1)) (rG P K si w f n h s a) h) (n_s P (P 2 0 - (n + 1)) (rG P K si w f n h s a) s) (n_a P (P 2 0 - (n + 1)) (rG P K si w f n h s a) h a)
    show rG P K si w f n h s a * w_dn (P 2 0 - (n + 1)) + rP P K si w f n _ _ _ + 1 ≤ _
    rw [w_dn_3 _ (by omega)]
    have e1 : 11 - (P 2 0 - (n + 1)) = 12 - (P 2 0 - n) := by omega
    have e2 : 12 - (P 2 0 - (n + 1)) = (12 - (P 2 0 - n)) + 1 := by omega
    rw [e1, e2, Nat.pow_succ]
    have : rG P K si w f n h s a * 3 ^ (12 - (P 2 0 - n)) ≤ 2 * 3 ^ (12 - (P 2 0 - n)) := Nat.mul_le_mul_right _ h2
    omega
theorem rT_c (hP : s_POK P) (hw : ∀ x, x < P 0 0 → w x ≤ 99) : ∀ n, n ≤ P 2 0 → ∀ h s a h' c r, rT P K si w n h s a h' c r → c ≤ 99 * n := by
  intro n
  induction n with
  | zero => rintro _ h s a h' c r ⟨-, -, rfl, -⟩; exact Nat.zero_le _
  | succ n ih =>
    rintro hn h s a h' c r (hT | ⟨b, c0, r0, hb, hk, hT, rfl, rfl⟩)
    · have := ih (by omega) _ _ _ _ _ _ hT; omega
    · have := ih (by omega) _ _ _ _ _ _ hT
      have := hw _ (r_wo hP (j := P 2 0 - (n + 1)) (by omega) b).1
      omega
theorem enc_lt {x y p r : Nat} (h : x < y) (hp : p < 1048576) : x * 1048576 + p ≤ y * 1048576 + r := by omega
theorem enc_le {x y p r M : Nat} (h : x ≤ y) (hp : p ≤ r) : x * M + p ≤ y * M + r := Nat.add_le_add (Nat.mul_le_mul_right _ h) hp
theorem enc_add {x y p r g : Nat} (h : x + p ≤ y + r) : x + (g + p) ≤ y + (g + r) := by omega
theorem enc_w {x y p r g M : Nat} (h : x * M + p ≤ y * M + r) : (x + g) * M + p ≤ (y + g) * M + r := by
  rw [Nat.add_mul, Nat.add_mul]
  omega
theorem enc_s {x y r z M : Nat} (h : y * M ≤ z) : (x + y) * M + r ≤ x * M + r + z := by
  rw [Nat.add_mul]
  omega
theorem enc_t {x y p z M : Nat} (h : z ≤ x * M + p) : z + y * M ≤ (x + y) * M + p := by
  rw [Nat.add_mul]
  omega
/-- the greedy day -/
theorem r_g1 (hP : s_POK P) (hw : ∀ x, x < P 0 0 → w x ≤ 99) {m : Nat} (hm : m ≤ 500000) (hf : ∀ h, h < 2 ^ P 0 0 → f h = NVR ∨ f h ≤ m) : ∀ n, n ≤ P 2 0 → ∀ h s a, h < 2 ^ P 0 0 → s < 2 ^ P 0 0 → a < 2 → rB P K si w f n h s a < NVR → ∃ h' c, f h' < NVR ∧ rT P K si w n h s a h' c (rP P K si w f n h s a) ∧ c + f h' = rB P K si w f n h s a := by
  have h12 := hP.2.2.1
  have hNV : NVR = 1000000000 := rfl
  intro n
  induction n with
  | zero =>
    intro _ h s a hh hs ha hlt
    have e : rB P K si w f 0 h s a = if a = 1 then f h else NVR := rfl
    rw [e] at hlt ⊢
    by_cases h1 : a = 1
    · rw [if_pos h1] at hlt ⊢
      exact ⟨h, 0, hlt, ⟨rfl, h1, rfl, rfl⟩, by omega⟩
    · rw [if_neg h1] at hlt
      exact absurd hlt (Nat.lt_irrefl _)
  | succ n ih =>
    intro hn h s a hh hs ha hlt
    have hg := rG_eq (P := P) (K := K) (si := si) (w := w) (f := f) n h s a
    have h2 := rG_le (P := P) (K := K) (si := si) (w := w) (f := f) n h s a
    have eP : rP P K si w f (n + 1) h s a = rG P K si w f n h s a * w_dn (P 2 0 - (n + 1)) + rP P K si w f n (n_h P (P 2 0 - (n + 1)) (rG P K si w f n h s a) h) (n_s P (P 2 0 - (n + 1)) (rG P K si w f n h s a) s) (n_a P (P 2 0 - (n + 1)) (rG P K si w f n h s a) h a) := rfl
    obtain ⟨nb1, nb2, nb3⟩ := n_b hP (i := P 2 0 - (n + 1)) (b := rG P K si w f n h s a) (by omega) hh hs ha
    rw [← hg] at hlt ⊢
    rw [eP]
    generalize rG P K si w f n h s a = b at hg h2 eP nb1 nb2 nb3 hlt ⊢
    by_cases hb : b = 0
    · subst hb
      have e0 : rD P K si w (P 2 0 - (n + 1)) 0 h s a (rB P K si w f n) = rB P K si w f n h (r_s P (P 2 0 - (n + 1) + 1) s) a := by unfold rD; rw [if_pos rfl]
      rw [e0] at hlt ⊢
      have eh : n_h P (P 2 0 - (n + 1)) 0 h = h := rfl
      have es : n_s P (P 2 0 - (n + 1)) 0 s = r_s P (P 2 0 - (n + 1) + 1) s := rfl
      have ea : n_a P (P 2 0 - (n + 1)) 0 h a = a := rfl
      rw [eh] at nb1
      rw [es] at nb2
      rw [eh, es, ea, Nat.zero_mul, Nat.zero_add]
      obtain ⟨h', c, k1, k2, k3⟩ := ih (by omega) h _ a hh nb2 ha hlt
      exact ⟨h', c, k1, Or.inl k2, k3⟩
    · have eh : n_h P (P 2 0 - (n + 1)) b h = r_h P (P 2 0 - (n + 1)) b h := if_neg hb
      have es : n_s P (P 2 0 - (n + 1)) b s = r_s P (P 2 0 - (n + 1) + 1) (s ||| 2 ^ r_w P (P 2 0 - (n + 1)) b) := by unfold n_s; rw [if_neg hb]
      have ea : n_a P (P 2 0 - (n + 1)) b h a = r_a P (P 2 0 - (n + 1)) b h a := if_neg hb
      rw [eh] at nb1
      rw [es] at nb2
      rw [ea] at nb3
      rw [eh, es, ea]
      by_cases hok : (s ||| si).testBit (r_w P (P 2 0 - (n + 1)) b) = false ∧ (K ||| h).testBit (r_w P (P 2 0 - (n + 1)) b) = true
      rotate_left
      · have e0 : rD P K si w (P 2 0 - (n + 1)) b h s a (rB P K si w f n) = NVR := by unfold rD; rw [if_neg hb, if_neg hok]
        rw [e0] at hlt
        exact absurd hlt (Nat.lt_irrefl _)
      have hBb := rB_b (K := K) (si := si) (w := w) (f := f) hP hw hm hf n (by omega) _ _ _ nb1 nb2 nb3
      by_cases hv : rB P K si w f n (r_h P (P 2 0 - (n + 1)) b h) (r_s P (P 2 0 - (n + 1) + 1) (s ||| 2 ^ r_w P (P 2 0 - (n + 1)) b)) (r_a P (P 2 0 - (n + 1)) b h a) = NVR
      · have e0 : rD P K si w (P 2 0 - (n + 1)) b h s a (rB P K si w f n) = NVR := by unfold rD; rw [if_neg hb, if_pos hok, if_pos hv]
        rw [e0] at hlt
        exact absurd hlt (Nat.lt_irrefl _)
      · have e0 : rD P K si w (P 2 0 - (n + 1)) b h s a (rB P K si w f n) = rB P K si w f n (r_h P (P 2 0 - (n + 1)) b h) (r_s P (P 2 0 - (n + 1) + 1) (s ||| 2 ^ r_w P (P 2 0 - (n + 1)) b)) (r_a P (P 2 0 - (n + 1)) b h a) + w (r_w P (P 2 0 - (n + 1)) b) := by unfold rD; rw [if_neg hb, if_pos hok, if_neg hv]
        rw [e0]
        obtain ⟨h', c, k1, k2, k3⟩ := ih (by omega) _ _ _ nb1 nb2 nb3 (by rcases hBb with q | q; exact absurd q hv; omega)
        exact ⟨h', c + w (r_w P (P 2 0 - (n + 1)) b), k1, Or.inr ⟨b, c, _, by omega, hok, k2, rfl, rfl⟩, by omega⟩
/-- is the least -/
theorem r_g2 (hP : s_POK P) (hw : ∀ x, x < P 0 0 → w x ≤ 99) {m : Nat} (hm : m ≤ 500000) (hf : ∀ h, h < 2 ^ P 0 0 → f h = NVR ∨ f h ≤ m) : ∀ n, n ≤ P 2 0 → ∀ h s a h' c r, h < 2 ^ P 0 0 → s < 2 ^ P 0 0 → a < 2 → h' < 2 ^ P 0 0 → rT P K si w n h s a h' c r → f h' < NVR → rB P K si w f n h s a ≤ c + f h' ∧ rB P K si w f n h s a * 1048576 + rP P K si w f n h s a ≤ (c + f h') * 1048576 + r := by
  have h12 := hP.2.2.1
  have hNV : NVR = 1000000000 := rfl
  have p312 : 3 ^ 12 = 531441 := by decide
  intro n
  induction n with
  | zero =>
    rintro _ h s a h' c r hh hs ha hh' ⟨rfl, rfl, rfl, rfl⟩ hfl
    have e : rB P K si w f 0 h' s 1 = f h' := rfl
    rw [e]
    show _ ∧ _ + 0 ≤ _
    rw [Nat.zero_add]
    exact ⟨Nat.le_refl _, Nat.le_refl _⟩
  | succ n ih =>
    intro hn h s a h' c r hh hs ha hh' hT hfl
    have hfm : f h' ≤ m := by
      rcases hf h' hh' with q | q
      · omega
      · exact q
    have hg2 := rG_le (P := P) (K := K) (si := si) (w := w) (f := f) n h s a
    have hge := rG_eq (P := P) (K := K) (si := si) (w := w) (f := f) n h s a
    have eP : rP P K si w f (n + 1) h s a = rG P K si w f n h s a * w_dn (P 2 0 - (n + 1)) + rP P K si w f n (n_h P (P 2 0 - (n + 1)) (rG P K si w f n h s a) h) (n_s P (P 2 0 - (n + 1)) (rG P K si w f n h s a) s) (n_a P (P 2 0 - (n + 1)) (rG P K si w f n h s a) h a) := rfl
    have hPl := rP_lt (P := P) (K := K) (si := si) (w := w) (f := f) hP (n + 1) hn h s a
    have hPl2 : rP P K si w f (n + 1) h s a < 1048576 := by
      have : 3 ^ (12 - (P 2 0 - (n + 1))) ≤ 3 ^ 12 := Nat.pow_le_pow_right (by decide) (by omega)
      rw [p312] at this
      omega
    have hrest := rP_lt (P := P) (K := K) (si := si) (w := w) (f := f) hP n (by omega) (n_h P (P 2 0 - (n + 1)) (rG P K si w f n h s a) h) (n_s P (P 2 0 - (n + 1)) (rG P K si w f n h s a) s) (n_a P (P 2 0 - (n + 1)) (rG P K si w f n h s a) h a)
    have edn : 3 ^ (12 - (P 2 0 - n)) = w_dn (P 2 0 - (n + 1)) := by
      rw [w_dn_3 _ (by omega)]
      congr 1
      omega
    rw [edn] at hrest
    -- by the doing b, on from a state whose least is known
    have key : ∀ b c0 r0, b < 3 → rD P K si w (P 2 0 - (n + 1)) b h s a (rB P K si w f n) ≤ c + f h' → r = b * w_dn (P 2 0 - (n + 1)) + r0 → (rD P K si w (P 2 0 - (n + 1)) b h s a (rB P K si w f n) * 1048576 + rP P K si w f n (n_h P (P 2 0 - (n + 1)) b h) (n_s P (P 2 0 - (n + 1)) b s) (n_a P (P 2 0 - (n + 1)) b h a) ≤ (c + f h') * 1048576 + r0) → c0 = 0 → rB P K si w f (n + 1) h s a ≤ c + f h' ∧ rB P K si w f (n + 1) h s a * 1048576 + rP P K si w f (n + 1) h s a ≤ (c + f h') * 1048576 + r := by
      intro b c0 r0 hb h1 hr h2 _
      have hmin := rB_min (P := P) (K := K) (si := si) (w := w) (f := f) n h s a b hb
      refine ⟨Nat.le_trans hmin h1, ?_⟩
      rcases Nat.lt_or_ge (rB P K si w f (n + 1) h s a) (rD P K si w (P 2 0 - (n + 1)) b h s a (rB P K si w f n)) with q | q
      · exact enc_lt (Nat.lt_of_lt_of_le q h1) hPl2
      · have eq : rD P K si w (P 2 0 - (n + 1)) b h s a (rB P K si w f n) = rB P K si w f (n + 1) h s a := Nat.le_antisymm q hmin
        have hle : rG P K si w f n h s a ≤ b := by
          rcases Nat.lt_or_ge b (rG P K si w f n h s a) with w1 | w1
          · exact absurd eq (rG_first w1)
          · exact w1
        by_cases e : rG P K si w f n h s a = b
        · rw [eP, e, ← eq, hr]
          exact enc_add h2
        · have e2 : (rG P K si w f n h s a + 1) * w_dn (P 2 0 - (n + 1)) ≤ b * w_dn (P 2 0 - (n + 1)) := Nat.mul_le_mul_right _ (by omega)
          rw [Nat.add_mul, Nat.one_mul] at e2
          refine enc_le (Nat.le_trans hmin h1) ?_
          rw [eP, hr]
          refine Nat.le_trans ?_ (Nat.le_add_right _ _)
          refine Nat.le_trans ?_ e2
          exact Nat.add_le_add_left (Nat.le_of_lt (Nat.lt_of_succ_le hrest)) _
    rcases hT with hT | ⟨b, c0, r0, hb, hok, hT, rfl, rfl⟩
    · obtain ⟨nb1, nb2, nb3⟩ := n_b hP (i := P 2 0 - (n + 1)) (b := 0) (by omega) hh hs ha
      obtain ⟨i1, i2⟩ := ih (by omega) _ _ _ _ _ _ nb1 nb2 nb3 hh' hT hfl
      have e0 : rD P K si w (P 2 0 - (n + 1)) 0 h s a (rB P K si w f n) = rB P K si w f n (n_h P (P 2 0 - (n + 1)) 0 h) (n_s P (P 2 0 - (n + 1)) 0 s) (n_a P (P 2 0 - (n + 1)) 0 h a) := by unfold rD; rw [if_pos rfl]; rfl
      exact key 0 0 r (by decide) (by rw [e0]; exact i1) (by omega) (by rw [e0]; exact i2) rfl
    · have hb0 : b ≠ 0 := by omega
      obtain ⟨nb1, nb2, nb3⟩ := n_b hP (i := P 2 0 - (n + 1)) (b := b) (by omega) hh hs ha
      have eh : n_h P (P 2 0 - (n + 1)) b h = r_h P (P 2 0 - (n + 1)) b h := if_neg hb0
      have es : n_s P (P 2 0 - (n + 1)) b s = r_s P (P 2 0 - (n + 1) + 1) (s ||| 2 ^ r_w P (P 2 0 - (n + 1)) b) := by unfold n_s; rw [if_neg hb0]
      have ea : n_a P (P 2 0 - (n + 1)) b h a = r_a P (P 2 0 - (n + 1)) b h a := if_neg hb0
      rw [← eh, ← es, ← ea] at hT
      have hc0 := rT_c hP hw n (by omega) _ _ _ _ _ _ hT
      obtain ⟨i1, i2⟩ := ih (by omega) _ _ _ _ _ _ nb1 nb2 nb3 hh' hT hfl
      have e0 : rD P K si w (P 2 0 - (n + 1)) b h s a (rB P K si w f n) = rB P K si w f n (n_h P (P 2 0 - (n + 1)) b h) (n_s P (P 2 0 - (n + 1)) b s) (n_a P (P 2 0 - (n + 1)) b h a) + w (r_w P (P 2 0 - (n + 1)) b) := by
        unfold rD
        rw [if_neg hb0, if_pos (show (s ||| si).testBit (r_w P (P 2 0 - (n + 1)) b) = false ∧ (K ||| h).testBit (r_w P (P 2 0 - (n + 1)) b) = true from hok), ← eh, ← es, ← ea, if_neg (by omega)]
      refine key b 0 r0 (by omega) (by rw [e0]; omega) rfl ?_ rfl
      rw [e0, show c0 + w (r_w P (P 2 0 - (n + 1)) b) + f h' = c0 + f h' + w (r_w P (P 2 0 - (n + 1)) b) by omega]
      exact enc_w i2
theorem rT_R : ∀ n, n ≤ P 2 0 → ∀ h s a c r h' c' r', rR P K si w (P 2 0 - n) h s a c r → rT P K si w n h s a h' c' r' → ∃ s', rR P K si w (P 2 0) h' s' 1 (c + c') (r + r') := by
  intro n
  induction n with
  | zero =>
    rintro _ h s a c r h' c' r' hR ⟨rfl, rfl, rfl, rfl⟩
    exact ⟨s, hR⟩
  | succ n ih =>
    rintro hn h s a c r h' c' r' hR (hT | ⟨b, c0, r0, hb, hk, hT, rfl, rfl⟩)
    · have h1 := hR.no
      have e : P 2 0 - (n + 1) + 1 = P 2 0 - n := by omega
      rw [e] at h1 hT
      exact ih (by omega) _ _ _ _ _ _ _ _ h1 hT
    · have h1 := hR.yes hb hk
      have e : P 2 0 - (n + 1) + 1 = P 2 0 - n := by omega
      rw [e] at h1 hT
      obtain ⟨s', h2⟩ := ih (by omega) _ _ _ _ _ _ _ _ h1 hT
      refine ⟨s', ?_⟩
      rw [show c + (c0 + w (r_w P (P 2 0 - (n + 1)) b)) = c + w (r_w P (P 2 0 - (n + 1)) b) + c0 by omega, show r + (b * w_dn (P 2 0 - (n + 1)) + r0) = r + b * w_dn (P 2 0 - (n + 1)) + r0 by omega]
      exact h2
theorem R_rT : ∀ j, j ≤ P 2 0 → ∀ h s a c r h' c' r', rR P K si w j h s a c r → rT P K si w (P 2 0 - j) h s a h' c' r' → rT P K si w (P 2 0) 0 0 0 h' (c + c') (r + r') := by
  intro j
  induction j with
  | zero =>
    rintro _ h s a c r h' c' r' ⟨rfl, rfl, rfl, rfl, rfl⟩ hT
    rw [Nat.zero_add, Nat.zero_add]
    exact hT
  | succ j ih =>
    rintro hj h1 s1 a1 c1 r1 h' c' r' ⟨h, s, a, c, r, hR, hs⟩ hT
    have e : P 2 0 - j = (P 2 0 - (j + 1)) + 1 := by omega
    have ej : P 2 0 - ((P 2 0 - (j + 1)) + 1) = j := by omega
    rcases hs with ⟨rfl, rfl, rfl, rfl, rfl⟩ | ⟨b, hb, hk, rfl, rfl, rfl, rfl, rfl⟩
    · refine ih (by omega) _ s _ _ _ h' c' r' hR ?_
      rw [e]
      left
      rw [ej]
      exact hT
    · have : rT P K si w (P 2 0 - j) h s a h' (c' + w (r_w P j b)) (b * w_dn j + r') := by
        rw [e]
        right
        rw [ej]
        exact ⟨b, c', r', hb, hk, hT, rfl, rfl⟩
      have := ih (by omega) h s a c r h' _ _ hR this
      rw [show c + w (r_w P j b) + c' = c + (c' + w (r_w P j b)) by omega, show r + b * w_dn j + r' = r + (b * w_dn j + r') by omega]
      exact this
theorem enc_f {x p : Nat} (h : x ≤ 600000) (hp : p < 531441) : x * 1048576 + p < FAR := by
  show _ < 1125899906842624
  omega
/-- the model's least is the chains' least, row and all -/
theorem keep_eq {W : Nat → Nat} {dd m : Nat} (hP : s_POK P) (hw : ∀ x, x < P 0 0 → w x ≤ 99) (hW : r_W si w W (P 0 0)) (hK : K < 2 ^ P 0 0) (hdd : dd ≤ 400) (hm : m ≤ 500000) (hf : ∀ h, h < 2 ^ P 0 0 → f h = NVR ∨ f h ≤ m) (hRF : ∀ h s c r, h ≠ 0 → rR P K si w (P 2 0) h s 1 c r → RF P W dd h (f h)) : (rB P K si w f (P 2 0) 0 0 0 = NVR ∧ FAR ≤ k_best P W K dd) ∨ (rB P K si w f (P 2 0) 0 0 0 ≤ 600000 ∧ k_best P W K dd < FAR ∧ k_best P W K dd = rB P K si w f (P 2 0) 0 0 0 * 1048576 + rP P K si w f (P 2 0) 0 0 0) := by
  have h12 := hP.2.2.1
  have hNV : NVR = 1000000000 := rfl
  have p312 : 3 ^ 12 = 531441 := by decide
  have hpos : 0 < 2 ^ P 0 0 := Nat.two_pow_pos _
  have hBb := rB_b (K := K) (si := si) (w := w) (f := f) hP hw hm hf (P 2 0) (Nat.le_refl _) 0 0 0 hpos hpos (by decide)
  have hPl : rP P K si w f (P 2 0) 0 0 0 < 531441 := by
    have h1 := rP_lt (P := P) (K := K) (si := si) (w := w) (f := f) hP (P 2 0) (Nat.le_refl _) 0 0 0
    have : 3 ^ (12 - (P 2 0 - P 2 0)) ≤ 3 ^ 12 := Nat.pow_le_pow_right (by decide) (by omega)
    rw [p312] at this
    omega
  have hR0 : rR P K si w (P 2 0 - P 2 0) 0 0 0 0 0 := by rw [Nat.sub_self]; exact ⟨rfl, rfl, rfl, rfl, rfl⟩
  -- a least chain is a day
  have up : k_best P W K dd < FAR → rB P K si w f (P 2 0) 0 0 0 < NVR ∧ rB P K si w f (P 2 0) 0 0 0 * 1048576 + rP P K si w f (P 2 0) 0 0 0 ≤ k_best P W K dd := by
    intro hlt
    obtain ⟨p, hp, e⟩ := k_min_pick (f := fun p => k_heard P W K p + k_some P W dd p) (n := P 0 0) hlt
    have e : k_best P W K dd = k_heard P W K p + k_some P W dd p := e
    rw [e] at hlt ⊢
    have h1 : k_heard P W K p < FAR := Nat.lt_of_le_of_lt (Nat.le_add_right _ _) hlt
    have h2 : k_some P W dd p < FAR := Nat.lt_of_le_of_lt (Nat.le_add_left _ _) hlt
    obtain ⟨h, s, a, c, r, hR, e1, -, e3⟩ := r_high (K := K) hP hw hW (P 2 0) (Nat.le_refl _) 1 p (by decide) h1
    have e3 := e3 rfl
    have e1 : c * 1048576 + r = k_heard P W K p := e1
    obtain ⟨b1, b2, b3, b4, b5, b6⟩ := rR_b hP hw (P 2 0) (Nat.le_refl _) h s a c r hR
    have hne : h ≠ 0 := fun q => by rw [q, Nat.zero_testBit] at e3; exact absurd e3 (by decide)
    have ha : a = 1 := b4.mpr hne
    subst ha
    have hT := R_rT (P 2 0) (Nat.le_refl _) h s 1 c r h 0 0 hR (by rw [Nat.sub_self]; exact ⟨rfl, rfl, rfl, rfl⟩)
    rw [Nat.add_zero, Nat.add_zero] at hT
    rcases hRF h s c r hne hR with ⟨-, q⟩ | ⟨q1, q2, q3⟩
    · exact absurd (q p e3) (Nat.not_le.mpr h2)
    · have hfh : f h < NVR := by omega
      obtain ⟨g1, g2⟩ := r_g2 hP hw hm hf (P 2 0) (Nat.le_refl _) 0 0 0 h c r hpos hpos (by decide) b1 hT hfh
      have hfm : f h ≤ m := by
        rcases hf h b1 with q | q
        · omega
        · exact q
      refine ⟨by omega, Nat.le_trans g2 ?_⟩
      rw [← e1]
      exact enc_s (q3 p e3)
  rcases hBb with hv | hv
  · refine Or.inl ⟨hv, ?_⟩
    rcases Nat.lt_or_ge (k_best P W K dd) FAR with q | q
    · have := (up q).1
      omega
    · exact q
  · obtain ⟨h', c, g1, g2, g3⟩ := r_g1 (K := K) (si := si) hP hw hm hf (P 2 0) (Nat.le_refl _) 0 0 0 hpos hpos (by decide) (by omega)
    obtain ⟨s', hR⟩ := rT_R (P 2 0) (Nat.le_refl _) 0 0 0 0 0 h' c _ hR0 g2
    rw [Nat.zero_add, Nat.zero_add] at hR
    obtain ⟨b1, b2, b3, b4, b5, b6⟩ := rR_b hP hw (P 2 0) (Nat.le_refl _) _ _ _ _ _ hR
    have hne : h' ≠ 0 := b4.mp rfl
    rcases hRF h' s' c _ hne hR with ⟨q, -⟩ | ⟨q1, ⟨t, q2, q3⟩, q4⟩
    · omega
    · have ht := bit_lt b1 q2
      have hl := (r_low hP hW (P 2 0) (Nat.le_refl _) _ _ _ _ _ hR t).2.1 q2
      have hl : k_heard P W K t ≤ c * 1048576 + rP P K si w f (P 2 0) 0 0 0 := hl
      have hbest : k_best P W K dd ≤ rB P K si w f (P 2 0) 0 0 0 * 1048576 + rP P K si w f (P 2 0) 0 0 0 := by
        refine Nat.le_trans (k_min_le_at (f := fun p => k_heard P W K p + k_some P W dd p) ht) ?_
        show k_heard P W K t + k_some P W dd t ≤ _
        rw [q3, ← g3]
        exact enc_t hl
      have hFAR : rB P K si w f (P 2 0) 0 0 0 * 1048576 + rP P K si w f (P 2 0) 0 0 0 < FAR := by
        exact enc_f (by omega) hPl
      exact Or.inr ⟨by omega, Nat.lt_of_le_of_lt hbest hFAR, Nat.le_antisymm hbest (up (Nat.lt_of_le_of_lt hbest hFAR)).2⟩
end
