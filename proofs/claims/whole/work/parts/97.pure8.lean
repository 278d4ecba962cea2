/-! THE KNOWERS ARE PEOPLE, and how far the days go -/
def KQ (n : Nat) (C : w_R) : Prop := (∀ p, C 8 p < 2 ^ n) ∧ ∀ p, C 9 p < 2 ^ n
theorem fold_keep {α β : Type} {Q : α → Prop} {f : α → β → α} : ∀ (l : List β) (a : α), (∀ a b, b ∈ l → Q a → Q (f a b)) → Q a → Q (l.foldl f a)
  | [], _, _, h => h
  | b :: l, a, hf, h => fold_keep l (f a b) (fun a' b' hb => hf a' b' (List.mem_cons_of_mem _ hb)) (hf a b List.mem_cons_self h)
theorem KQ.put {n k j x : Nat} {C : w_R} (h : KQ n C) (hk : k ≠ 8 ∧ k ≠ 9 ∨ x < 2 ^ n) : KQ n (w_put C k j x) := by
  refine ⟨fun p => ?_, fun p => ?_⟩
  · rw [w_put_eq]
    split
    · rename_i e
      rcases hk with w | w
      · exact absurd e.1.symm w.1
      · exact w
    · exact h.1 p
  · rw [w_put_eq]
    split
    · rename_i e
      rcases hk with w | w
      · exact absurd e.1.symm w.2
      · exact w
    · exact h.2 p
theorem KQ.undo {n p : Nat} {C : w_R} (h : KQ n C) : KQ n (s_undo C p) := (((h.put (Or.inl (by decide))).put (Or.inl (by decide))).put (Or.inl (by decide))).put (Or.inl (by decide))
theorem or_n {a b n : Nat} (ha : a < 2 ^ n) (hb : b < 2 ^ n) : a ||| b < 2 ^ n := Nat.or_lt_two_pow ha hb
section
variable {P Y : w_R}
theorem KQ.make1 {h p : Nat} {C : w_R} (hP : s_POK P) (hp : p < P 6 0) (hK : KQ (P 0 0) C) : KQ (P 0 0) (s_make1 P h C p) := by
  unfold s_make1
  split
  · split
    · exact hK.undo
    · obtain ⟨h1, h2, -⟩ := hP.2.2.2.2.2 p hp
      exact (hK.put (Or.inl (by decide))).put (Or.inr (or_n (p_lt h1) (p_lt h2)))
  · exact hK
theorem both_lt {m : Nat} (hP : s_POK P) (hm : m < P 2 0) : s_both P m < 2 ^ P 0 0 := by
  obtain ⟨h1, h2, -⟩ := hP.2.2.2.1 m hm
  exact or_n (p_lt h1) (p_lt h2)
theorem KQ.said {s : Nat} {C : w_R} (hP : s_POK P) (hY : s_YOK P Y) (hs : s < Y 0 0) (hK : KQ (P 0 0) C) : KQ (P 0 0) (s_said P Y C s) := by
  have hm := (hY.2 s hs).2.1
  have k2 : KQ (P 0 0) (w_put (w_put C 6 0 (C 6 0 ||| 2 ^ s_who P Y s)) 1 0 ((w_put C 6 0 (C 6 0 ||| 2 ^ s_who P Y s)) 1 0 + P 1 (s_who P Y s))) := (hK.put (Or.inl (by decide))).put (Or.inl (by decide))
  unfold s_said
  dsimp only
  split
  · have k3 := k2.put (k := 5) (j := 0) (x := (w_put (w_put C 6 0 (C 6 0 ||| 2 ^ s_who P Y s)) 1 0 ((w_put C 6 0 (C 6 0 ||| 2 ^ s_who P Y s)) 1 0 + P 1 (s_who P Y s))) 5 0 ||| 2 ^ Y 4 s) (Or.inl (by decide))
    exact k3.put (Or.inr (or_n (k3.2 _) (both_lt hP hm)))
  · exact k2.put (Or.inr (or_n (k2.2 _) (both_lt hP hm)))
theorem KQ.hour {h : Nat} {C : w_R} (hP : s_POK P) (hY : s_YOK P Y) (hK : KQ (P 0 0) C) : KQ (P 0 0) (s_hour P Y C h) := by
  unfold s_hour
  refine fold_keep _ _ (fun a m _ ha => fold_keep _ _ (fun a' s hs ha' => ?_) ha) (KQ.put ?_ (Or.inl (by decide)))
  · unfold s_say
    split
    · exact ha'.said hP hY (List.mem_range.mp (List.mem_filter.mp hs).1)
    · exact ha'
  · exact fold_keep _ _ (fun a p hp ha => ha.make1 hP (List.mem_range.mp hp)) hK
theorem KQ.dusk {C : w_R} (hK : KQ (P 0 0) C) : KQ (P 0 0) (s_dusk P C) := by
  unfold s_dusk
  dsimp only
  refine KQ.put (KQ.put (fold_keep _ _ (fun a p _ ha => ?_) hK) (Or.inl (by decide))) (Or.inl (by decide))
  unfold s_dusk1
  dsimp only
  split
  · exact (ha.undo.put (Or.inr (ha.undo.2 p))).put (Or.inr (Nat.two_pow_pos _))
  · exact (ha.put (Or.inr (ha.2 p))).put (Or.inr (Nat.two_pow_pos _))
theorem KQ.day {C : w_R} (hP : s_POK P) (hY : s_YOK P Y) (hK : KQ (P 0 0) C) : KQ (P 0 0) (s_day P Y C) := KQ.dusk (fold_keep _ _ (fun _ _ _ ha => ha.hour hP hY) hK)
theorem KQ.days {C : w_R} (hP : s_POK P) (hY : s_YOK P Y) (hK : KQ (P 0 0) C) : ∀ n, KQ (P 0 0) (t_D P Y C n)
  | 0 => hK
  | n + 1 => (KQ.days hP hY hK n).day hP hY
end
/-- what the law's loop keeps of the state alone, after c calls -/
def ZI (c : Nat) (σ : w_Z) : Prop := KPl σ ∧ σ 2 0 0 ≤ 100 * c ∧ (σ 3 5 0 = 0 ∨ σ 5 0 0 ≤ 100 * c)
theorem ZI.mono {c : Nat} {σ : w_Z} (h : ZI c σ) : ZI (c + 1) σ := ⟨h.1, by have := h.2.1; omega, by rcases h.2.2 with e | e; exact Or.inl e; exact Or.inr (by omega)⟩
theorem ZI.r3 {c : Nat} {σ : w_Z} {R : w_R} (h : ZI c σ) (hR : R 5 0 = σ 3 5 0) : ZI (c + 1) (z_put σ 3 R) := by
  obtain ⟨⟨a1, a2⟩, a3, a4⟩ := h.mono
  refine ⟨⟨a1, ?_⟩, a3, ?_⟩
  · show R 5 0 = 0 ∨ _
    rw [hR]; exact a2
  · show R 5 0 = 0 ∨ _
    rw [hR]; exact a4
theorem ZI.r1 {c : Nat} {σ : w_Z} {R : w_R} (h : ZI c σ) : ZI (c + 1) (z_put σ 1 R) := h.mono
theorem ZI.days {c a : Nat} {σ : w_Z} (h : ZI c σ) (hO : SOK σ) (ha : a ≤ 100) : ZI (c + 1) (z_days σ a) := by
  obtain ⟨⟨a1, a2⟩, a3, a4⟩ := h
  obtain ⟨hP, hY, hC, -⟩ := hO
  have hK : KQ (σ 0 0 0) (σ 2) := ⟨a1, fun p => by rw [hC.2.2.2 p]; exact Nat.two_pow_pos _⟩
  have hD := (KQ.days hP hY hK a).1
  have hd := t_D_day (P := σ 0) (Y := σ 1) (C0 := σ 2) a
  refine ⟨⟨fun p => ?_, a2⟩, ?_, ?_⟩
  · show w_put (t_D (σ 0) (σ 1) (σ 2) a) 6 0 0 8 p < 2 ^ σ 0 0 0
    rw [w_put_other _ (Or.inl (by decide))]
    exact hD p
  · show w_put (t_D (σ 0) (σ 1) (σ 2) a) 6 0 0 0 0 ≤ _
    rw [w_put_other _ (Or.inl (by decide)), hd]
    omega
  · rcases a4 with e | e
    · exact Or.inl e
    · exact Or.inr (show σ 5 0 0 ≤ _ by omega)
theorem ZI.town {c : Nat} {σ : w_Z} {P' : w_R} : ZI c (z_town σ P') := by
  have e5 : z_town σ P' 3 5 0 = 0 := by
    show w_put (w_put (w_put (w_put (σ 3) 0 0 0) 2 0 mI) 8 0 0) 5 0 0 5 0 = 0
    exact w_put_same _ _ _ _
  refine ⟨⟨fun p => ?_, Or.inl e5⟩, Nat.zero_le _, Or.inl e5⟩
  show s_new 8 p < _
  exact Nat.two_pow_pos _
theorem ZI.img {c : Nat} {σ : w_Z} (h : ZI c σ) : ZI (c + 1) (z_img σ) := by
  obtain ⟨⟨a1, a2⟩, a3, a4⟩ := h.mono
  exact ⟨⟨a1, Or.inr a1⟩, a3, Or.inr a3⟩
theorem ZI.res {c : Nat} {σ : w_Z} (h : ZI c σ) (h5 : σ 3 5 0 ≠ 0) : ZI (c + 1) (z_res σ) := by
  obtain ⟨⟨a1, a2⟩, a3, a4⟩ := h.mono
  have b2 := a2.resolve_left h5
  have b4 := a4.resolve_left h5
  exact ⟨⟨b2, Or.inr b2⟩, b4, Or.inr b4⟩
theorem z_feed_5 (R : w_R) (a b c d e : Nat) : z_feed R a b c d e 5 0 = R 5 0 := by
  simp only [z_feed, z_word]
  simp only [z_byte_o _ _ (show (5 : Nat) ≠ 0 by decide) (show (5 : Nat) ≠ 1 by decide)]
theorem ZI_0 : ZI 0 z_0 := by
  refine ⟨⟨fun p => ?_, Or.inl rfl⟩, Nat.le_refl _, Or.inl rfl⟩
  show s_new 8 p < _
  exact Nat.two_pow_pos _
