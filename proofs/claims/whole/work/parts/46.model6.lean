section
variable {P Y C : w_R}
/-- who hears a saying -/
def s_oth (P Y : w_R) (s : Nat) : Nat := if Y 3 s = 0 then P 4 (Y 2 s) else P 3 (Y 2 s)
theorem both_wo (s : Nat) : 2 ^ s_who P Y s ||| 2 ^ s_oth P Y s = s_both P (Y 2 s) := by
  unfold s_who s_oth s_both
  split
  · rfl
  · exact Nat.or_comm _ _
theorem wo_ne {s : Nat} (hP : s_POK P) (hm : Y 2 s < P 2 0) : s_who P Y s ≠ s_oth P Y s ∧ s_who P Y s < 6 ∧ s_oth P Y s < 6 := by
  obtain ⟨h1, h2, h3, -⟩ := hP.2.2.2.1 _ hm
  have h6 := hP.1.2
  unfold s_who s_oth
  split
  · exact ⟨h3, by omega, by omega⟩
  · exact ⟨fun e => h3 e.symm, by omega, by omega⟩
theorem can_iff {D : Nat → Prop} {s : Nat} (h : HI P D C) (hw : s_who P Y s < 6) : ((Y 1 s = mI ∨ Y 1 s = C 0 0) ∧ (C 3 0 / 2 ^ Y 4 s) &&& 1 ≠ 0 ∧ (((C 8 (Y 4 s) ||| C 9 (Y 4 s)) &&& (C 6 0 ^^^ mI)) / 2 ^ s_who P Y s) &&& 1 ≠ 0) ↔ ((Y 1 s = mI ∨ Y 1 s = C 0 0) ∧ (C 6 0).testBit (s_who P Y s) = false ∧ q_st C (Y 4 s) = 1 ∧ (C 8 (Y 4 s) ||| C 9 (Y 4 s)).testBit (s_who P Y s) = true) := by
  have e1 : (C 3 0 / 2 ^ Y 4 s) &&& 1 ≠ 0 ↔ q_st C (Y 4 s) = 1 := by
    rw [q_st_1 h]; exact bitN_iff _ _
  have e2 : (((C 8 (Y 4 s) ||| C 9 (Y 4 s)) &&& (C 6 0 ^^^ mI)) / 2 ^ s_who P Y s) &&& 1 ≠ 0 ↔ ((C 8 (Y 4 s) ||| C 9 (Y 4 s)).testBit (s_who P Y s) = true ∧ (C 6 0).testBit (s_who P Y s) = false) := by
    refine (bitN_iff _ _).trans ?_
    rw [Nat.testBit_and, tb_mI (by omega)]
    simp
  rw [e1, e2]
  constructor
  · rintro ⟨a, b, c, d⟩; exact ⟨a, d, b, c⟩
  · rintro ⟨a, b, c, d⟩; exact ⟨a, c, d, b⟩
theorem oth_iff {s : Nat} (hP : s_POK P) (hm : Y 2 s < P 2 0) (x : Nat) : x &&& (s_both P (Y 2 s) &&& (2 ^ s_who P Y s ^^^ mI)) = 0 ↔ x.testBit (s_oth P Y s) = false := by
  obtain ⟨n1, n2, n3⟩ := wo_ne hP hm
  have e : s_both P (Y 2 s) &&& (2 ^ s_who P Y s ^^^ mI) = 2 ^ s_oth P Y s := by
    rw [← both_wo]
    apply Nat.eq_of_testBit_eq
    intro i
    rw [Nat.testBit_and, Nat.testBit_or, tb_p, tb_p]
    by_cases hi : i < 32
    · rw [tb_mI hi, tb_p]
      by_cases a : s_who P Y s = i
      · have : ¬ s_oth P Y s = i := fun b => n1 (a.trans b.symm)
        simp [a, this]
      · simp [a]
    · have a : ¬ s_who P Y s = i := by omega
      have b : ¬ s_oth P Y s = i := by omega
      simp [a, b]
  rw [e]
  constructor
  · intro h
    cases h1 : x.testBit (s_oth P Y s)
    · rfl
    · exact absurd h ((and_tb _ _).mpr h1)
  · intro h
    by_cases h1 : x &&& 2 ^ s_oth P Y s = 0
    · exact h1
    · have := (and_tb _ _).mp h1
      rw [h] at this
      exact absurd this (by decide)
/-- a saying that is said, in the model's cells -/
theorem said_MD {t s : Nat} {I : w_I} (ht : t < 3) (hP : s_POK P) (hm : Y 2 s < P 2 0) (hp : Y 4 s < P 6 0) (hM : MD t P C I) : MD t P (s_said P Y C s) (w_put (w_put (w_put I 81 t (C 1 0 + P 1 (s_who P Y s))) 86 (Y 4 s) (if (C 5 0).testBit (Y 4 s) = true ∨ (C 9 (Y 4 s)).testBit (s_oth P Y s) = false then 1 else 0)) 85 (12 * t + Y 4 s) (C 9 (Y 4 s) ||| s_both P (Y 2 s))) := by
  have h12 := hP.2.2.2.2.1
  obtain ⟨m0, m1, m2⟩ := hM
  have ho := oth_iff (Y := Y) (s := s) hP hm (C 9 (Y 4 s))
  have e0 : s_said P Y C s 0 0 = C 0 0 := by unfold s_said; (try dsimp only); split <;> simp [w_put_eq]
  have e1 : s_said P Y C s 1 0 = C 1 0 + P 1 (s_who P Y s) := by unfold s_said; (try dsimp only); split <;> simp [w_put_eq]
  have e3 : s_said P Y C s 3 0 = C 3 0 := by unfold s_said; (try dsimp only); split <;> simp [w_put_eq]
  have e4 : s_said P Y C s 4 0 = C 4 0 := by unfold s_said; (try dsimp only); split <;> simp [w_put_eq]
  have e7 : ∀ q, s_said P Y C s 7 q = C 7 q := by intro q; unfold s_said; (try dsimp only); split <;> simp [w_put_eq]
  have e8 : ∀ q, s_said P Y C s 8 q = C 8 q := by intro q; unfold s_said; (try dsimp only); split <;> simp [w_put_eq]
  have e9 : ∀ q, s_said P Y C s 9 q = if q = Y 4 s then C 9 (Y 4 s) ||| s_both P (Y 2 s) else C 9 q := by
    intro q; unfold s_said; (try dsimp only)
    by_cases e : q = Y 4 s <;> split <;> simp [w_put_eq, e]
  have e5 : ∀ q, (s_said P Y C s 5 0).testBit q = ((C 5 0).testBit q || (decide (Y 4 s = q) && !(C 9 (Y 4 s)).testBit (s_oth P Y s))) := by
    intro q
    have hC2 : (w_put (w_put C 6 0 (C 6 0 ||| 2 ^ s_who P Y s)) 1 0 (w_put C 6 0 (C 6 0 ||| 2 ^ s_who P Y s) 1 0 + P 1 (s_who P Y s))) 9 (Y 4 s) = C 9 (Y 4 s) := by simp [w_put_eq]
    unfold s_said
    (try dsimp only)
    rw [hC2]
    by_cases hb : (C 9 (Y 4 s)).testBit (s_oth P Y s) = false
    · rw [if_pos (ho.mpr hb), hb]
      simp [w_put_eq, Nat.testBit_or, tb_p]
    · rw [if_neg (fun h => hb (ho.mp h))]
      have : (C 9 (Y 4 s)).testBit (s_oth P Y s) = true := by simpa using hb
      rw [this]
      simp [w_put_eq]
  refine ⟨?_, ?_, fun q hq => ?_⟩
  · rw [w_put_ne _ _ (by decide), w_put_ne _ _ (by decide), w_put_ne _ _ (by decide), m0, e0]
  · rw [w_put_ne _ _ (by decide), w_put_ne _ _ (by decide), w_put_same, e1]
  · obtain ⟨a1, a2, a3, a4, a5⟩ := m2 q hq
    rw [q_st_of e3 e4, e7, e8, e9, e5]
    by_cases e : q = Y 4 s
    · subst e
      simp [w_put_eq, a1, a2, a3]
    · have e2 : ¬ (12 * t + q = 12 * t + Y 4 s) := by omega
      have e6 : ¬ Y 4 s = q := fun h => e h.symm
      simp [w_put_eq, e, e2, e6, a1, a2, a3, a4, a5]
end
