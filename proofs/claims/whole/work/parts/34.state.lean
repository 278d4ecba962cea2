/-! THE TOWN'S STATE, for both: 0 the plan, 1 the sayings, 2 the course, 3 the rest (0 the tape's length, 1 its bytes, 2 the fault's place, 3 and 4 what was refused, 5 is there an image, 6 and 7 what was refused then, 8 is a row kept, 9 the row), 4 and 5 the image's sayings and course -/
abbrev w_Z : Type := Nat → w_R
def z_put (σ : w_Z) (k : Nat) (R : w_R) : w_Z := fun q => if q = k then R else σ q
theorem z_at (σ : w_Z) (k : Nat) (R : w_R) : z_put σ k R k = R := by unfold z_put; rw [if_pos rfl]
theorem z_ne (σ : w_Z) {k q : Nat} (R : w_R) (h : q ≠ k) : z_put σ k R q = σ q := by unfold z_put; rw [if_neg h]
def CP (P : w_R) (I : w_I) : Prop := s_POK P ∧ PRep 15 P I ∧ ARep P I ∧ I 15 14 = s_met P
def CY (P Y : w_R) (I : w_I) : Prop := s_YOK P Y ∧ YRep 27 Y I
def CC (P C : w_R) (I : w_I) : Prop := CI P C ∧ C 6 0 = 0 ∧ w_put (cv 34 I) 6 0 0 = C ∧ I 34 7 < 64
def CT (σ : w_Z) (I : w_I) : Prop := I 0 1 = σ 3 0 0 ∧ σ 3 0 0 ≤ 700 ∧ (∀ j, σ 3 1 j < 256) ∧ ∀ j, j < σ 3 0 0 → I 1 j = w_b8 (σ 3 1 j)
def CM (σ : w_Z) (I : w_I) : Prop := I 0 3 = σ 3 2 0 ∧ I 0 7 = σ 3 3 0 ∧ I 0 8 = σ 3 4 0
def CR (σ : w_Z) (I : w_I) : Prop := I 0 13 = σ 3 8 0 ∧ (σ 3 8 0 = 0 ∨ (σ 3 8 0 = 1 ∧ ∀ j, j < σ 0 2 0 → I 62 j = σ 3 9 j))
def CA (σ : w_Z) (I : w_I) : Prop := I 38 0 = σ 3 5 0 ∧ (σ 3 5 0 = 0 ∨ (σ 3 5 0 = 1 ∧ s_YOK (σ 0) (σ 4) ∧ YRep 39 (σ 4) I ∧ CI (σ 0) (σ 5) ∧ σ 5 6 0 = 0 ∧ cv 46 I = σ 5 ∧ I 38 3 = σ 3 6 0 ∧ I 38 4 = σ 3 7 0)) ∧ I 46 6 = 0 ∧ I 46 7 = 0 ∧ ∀ j, j < 12 → I 49 j = 0
def CInv (u v : Nat) (σ : w_Z) (I : w_I) : Prop := UV u v ∧ CP (σ 0) I ∧ CY (σ 0) (σ 1) I ∧ CC (σ 0) (σ 2) I ∧ CT σ I ∧ CM σ I ∧ CR σ I ∧ CA σ I ∧ TInv (σ 0) (σ 1) I
theorem cv_fr {c lo hi : Nat} {I I' : w_I} (h : Fr lo hi I I') (hc : c + 4 ≤ lo ∨ hi ≤ c) : cv c I' = cv c I := by
  unfold cv
  rw [h c (by omega), h (c + 1) (by omega), h (c + 2) (by omega), h (c + 3) (by omega)]
theorem TInv.fr {P Y : w_R} {lo hi : Nat} {I I' : w_I} (h : TInv P Y I) (hf : Fr lo hi I I') (hc : 58 ≤ lo ∨ hi ≤ 50) : TInv P Y I' := by
  obtain ⟨h1, h2, h3⟩ := h
  have e52 : I' 52 = I 52 := hf 52 (by omega)
  have e53 : I' 53 = I 53 := hf 53 (by omega)
  have e51 : I' 51 = I 51 := hf 51 (by omega)
  unfold TInv
  rw [hf 54 (by omega), hf 50 (by omega)]
  refine ⟨h1, ?_, ?_⟩
  · rcases h2 with h | ⟨h, m⟩
    · exact Or.inl h
    · exact Or.inr ⟨h, fun p hp w hw => by rw [e52]; exact m p hp w hw⟩
  · rcases h3 with h | ⟨h, x, hx, m⟩
    · exact Or.inl h
    · exact Or.inr ⟨h, x, hx, fun q hq => (m q hq).c57 e53 e51⟩
theorem CP.fr {P : w_R} {lo hi : Nat} {I I' : w_I} (h : CP P I) (hf : Fr lo hi I I') (hc : 27 ≤ lo ∨ hi ≤ 15) : CP P I' := by
  obtain ⟨h1, h2, h3, h4⟩ := h
  exact ⟨h1, h2.fr hf (by omega), h3.fr hf (by omega), by rw [hf 15 (by omega)]; exact h4⟩
theorem CY.fr {P Y : w_R} {lo hi : Nat} {I I' : w_I} (h : CY P Y I) (hf : Fr lo hi I I') (hc : 32 ≤ lo ∨ hi ≤ 27) : CY P Y I' := ⟨h.1, h.2.fr hf (by omega)⟩
theorem CC.fr {P C : w_R} {lo hi : Nat} {I I' : w_I} (h : CC P C I) (hf : Fr lo hi I I') (hc : 38 ≤ lo ∨ hi ≤ 34) : CC P C I' := by
  obtain ⟨h1, h2, h3, h4⟩ := h
  exact ⟨h1, h2, by rw [cv_fr hf (by omega)]; exact h3, by rw [hf 34 (by omega)]; exact h4⟩
theorem CT.fr {σ : w_Z} {lo hi : Nat} {I I' : w_I} (h : CT σ I) (hf : Fr lo hi I I') (hc : 2 ≤ lo) : CT σ I' := by
  unfold CT
  rw [hf 0 (by omega), hf 1 (by omega)]
  exact h
theorem CM.fr {σ : w_Z} {lo hi : Nat} {I I' : w_I} (h : CM σ I) (hf : Fr lo hi I I') (hc : 1 ≤ lo) : CM σ I' := by
  unfold CM
  rw [hf 0 (by omega)]
  exact h
theorem CR.fr {σ : w_Z} {lo hi : Nat} {I I' : w_I} (h : CR σ I) (hf : Fr lo hi I I') (hc : 1 ≤ lo) (hc2 : 63 ≤ lo ∨ hi ≤ 62) : CR σ I' := by
  unfold CR
  rw [hf 0 (by omega), hf 62 (by omega)]
  exact h
theorem CA.fr {σ : w_Z} {lo hi : Nat} {I I' : w_I} (h : CA σ I) (hf : Fr lo hi I I') (hc : 50 ≤ lo ∨ hi ≤ 38) : CA σ I' := by
  obtain ⟨h1, h2, h3, h4, h5⟩ := h
  unfold CA
  rw [hf 38 (by omega), hf 46 (by omega), hf 49 (by omega), cv_fr hf (by omega)]
  refine ⟨h1, ?_, h3, h4, h5⟩
  rcases h2 with h | ⟨a, b, c, e⟩
  · exact Or.inl h
  · exact Or.inr ⟨a, b, c.fr hf (by omega), e⟩
/-- what happens beyond the town's cells does not matter to it -/
theorem CInv.fr {u v : Nat} {σ : w_Z} {lo hi : Nat} {I I' : w_I} (h : CInv u v σ I) (hf : Fr lo hi I I') (hc : 63 ≤ lo) : CInv u v σ I' := by
  obtain ⟨h1, h2, h3, h4, h5, h6, h7, h8, h9⟩ := h
  exact ⟨h1, h2.fr hf (by omega), h3.fr hf (by omega), h4.fr hf (by omega), h5.fr hf (by omega), h6.fr hf (by omega), h7.fr hf (by omega) (by omega), h8.fr hf (by omega), h9.fr hf (by omega)⟩
theorem CC.at {P C : w_R} {I : w_I} (h : CC P C I) (k j : Nat) (hk : k ≠ 6) : cv 34 I k j = C k j := by
  rw [← h.2.2.1, w_put_other _ (Or.inl hk)]
theorem CC.ok {P C : w_R} {I : w_I} (h : CC P C I) : COK (cv 34 I) := by
  obtain ⟨a0, a3, a4, a5, a6, a8, a9⟩ := h.1.1
  refine ⟨?_, ?_, ?_, ?_, h.2.2.2, fun p => ?_, fun p => ?_⟩
  · rw [h.at 0 0 (by decide)]; exact a0
  · rw [h.at 3 0 (by decide)]; exact a3
  · rw [h.at 4 0 (by decide)]; exact a4
  · rw [h.at 5 0 (by decide)]; exact a5
  · rw [h.at 8 p (by decide)]; exact a8 p
  · rw [h.at 9 p (by decide)]; exact a9 p
section
variable {Ω : w_O} {d u v : Nat} {L : w_L} {E : w_E} {P : w_R} {I : w_I} {σ : w_Z}
/-! what is required -/
theorem c_requirePerson {a : Nat} (hR : PRep 15 P I) (hP : s_POK P) (ha : a < P 0 0) : FnV Ω d mX7_requirePerson [.ref (Ω.1 + 0), .int (nI a)] (SH u v) I L (fun S' I' L' => S' = SH u v ∧ I = I' ∧ L = L') := by
  have h6 := hP.1.2
  refine FnR_of okX7_requirePerson (Nat.le_of_ble_eq_true rfl) fun l z => ?_
  show V _ _ _ _ _ _ _ _ 0 [(0, _), (1, _)] []
  refine V_iload_n 0 1 dX7_requirePerson_0 rfl ?_
  refine V_zN_lt 1 15 dX7_requirePerson_1 (by decide) (by omega) (fun c => ?_) (fun c => ?_)
  · omega
  refine V_iload_n 4 1 dX7_requirePerson_4 rfl ?_
  refine V_aload_n 5 0 dX7_requirePerson_5 rfl ?_
  refine V_getR 6 flX7_29 dX7_requirePerson_6 rfl ?_
  refine V_getI 9 flX7_122 dX7_requirePerson_9 rfl ?_
  rw [hR.1]
  refine V_cN_lt 12 26 dX7_requirePerson_12 (by decide) (by omega) (by omega) (fun c1 => ?_) (fun c1 => ?_)
  · exact V_ret 26 dX7_requirePerson_26 rfl ⟨rfl, rfl, rfl⟩
  · omega
theorem t_requirePerson {a : Nat} (h32 : a < 4294967296) (hR : PRep 15 P I) (hP : s_POK P) (ha : ¬ a < P 0 0) : FnT Ω d mX7_requirePerson [.ref (Ω.1 + 0), .int (nI a)] (SH u v) I L "java/util/NoSuchElementException" := by
  have h6 := hP.1.2
  refine FnT_of okX7_requirePerson (Nat.le_of_ble_eq_true rfl) fun l z => ?_
  show V _ _ _ _ _ _ _ _ 0 [(0, _), (1, _)] []
  refine V_iload_n 0 1 dX7_requirePerson_0 rfl ?_
  refine V_zN_lt 1 15 dX7_requirePerson_1 (by decide) (by omega) (fun c => ?_) (fun c => ?_)
  · exact V_throwN 15 3 (tx := "no such person") rfl clX7_140 ini_N (by decide) dX7_requirePerson_15 dX7_requirePerson_18 (Or.inr ⟨rfl, dX7_requirePerson_19⟩) dX7_requirePerson_22 dX7_requirePerson_25
  refine V_iload_n 4 1 dX7_requirePerson_4 rfl ?_
  refine V_aload_n 5 0 dX7_requirePerson_5 rfl ?_
  refine V_getR 6 flX7_29 dX7_requirePerson_6 rfl ?_
  refine V_getI 9 flX7_122 dX7_requirePerson_9 rfl ?_
  rw [hR.1]
  refine V_cN_lt 12 26 dX7_requirePerson_12 (by decide) (by omega) (by omega) (fun c1 => ?_) (fun c1 => ?_)
  · omega
  · exact V_throwN 15 3 (tx := "no such person") rfl clX7_140 ini_N (by decide) dX7_requirePerson_15 dX7_requirePerson_18 (Or.inr ⟨rfl, dX7_requirePerson_19⟩) dX7_requirePerson_22 dX7_requirePerson_25
theorem c_requireMeeting {a : Nat} (hR : PRep 15 P I) (hP : s_POK P) (ha : a < P 2 0) : FnV Ω d mX7_requireMeeting [.ref (Ω.1 + 0), .int (nI a)] (SH u v) I L (fun S' I' L' => S' = SH u v ∧ I = I' ∧ L = L') := by
  have h6 := hP.2.2.1
  refine FnR_of okX7_requireMeeting (Nat.le_of_ble_eq_true rfl) fun l z => ?_
  show V _ _ _ _ _ _ _ _ 0 [(0, _), (1, _)] []
  refine V_iload_n 0 1 dX7_requireMeeting_0 rfl ?_
  refine V_zN_lt 1 15 dX7_requireMeeting_1 (by decide) (by omega) (fun c => ?_) (fun c => ?_)
  · omega
  refine V_iload_n 4 1 dX7_requireMeeting_4 rfl ?_
  refine V_aload_n 5 0 dX7_requireMeeting_5 rfl ?_
  refine V_getR 6 flX7_29 dX7_requireMeeting_6 rfl ?_
  refine V_getI 9 flX7_125 dX7_requireMeeting_9 rfl ?_
  rw [hR.2.2.1]
  refine V_cN_lt 12 26 dX7_requireMeeting_12 (by decide) (by omega) (by omega) (fun c1 => ?_) (fun c1 => ?_)
  · exact V_ret 26 dX7_requireMeeting_26 rfl ⟨rfl, rfl, rfl⟩
  · omega
theorem t_requireMeeting {a : Nat} (h32 : a < 4294967296) (hR : PRep 15 P I) (hP : s_POK P) (ha : ¬ a < P 2 0) : FnT Ω d mX7_requireMeeting [.ref (Ω.1 + 0), .int (nI a)] (SH u v) I L "java/util/NoSuchElementException" := by
  have h6 := hP.2.2.1
  refine FnT_of okX7_requireMeeting (Nat.le_of_ble_eq_true rfl) fun l z => ?_
  show V _ _ _ _ _ _ _ _ 0 [(0, _), (1, _)] []
  refine V_iload_n 0 1 dX7_requireMeeting_0 rfl ?_
  refine V_zN_lt 1 15 dX7_requireMeeting_1 (by decide) (by omega) (fun c => ?_) (fun c => ?_)
  · exact V_throwN 15 3 (tx := "no such meeting") rfl clX7_140 ini_N (by decide) dX7_requireMeeting_15 dX7_requireMeeting_18 (Or.inr ⟨rfl, dX7_requireMeeting_19⟩) dX7_requireMeeting_22 dX7_requireMeeting_25
  refine V_iload_n 4 1 dX7_requireMeeting_4 rfl ?_
  refine V_aload_n 5 0 dX7_requireMeeting_5 rfl ?_
  refine V_getR 6 flX7_29 dX7_requireMeeting_6 rfl ?_
  refine V_getI 9 flX7_125 dX7_requireMeeting_9 rfl ?_
  rw [hR.2.2.1]
  refine V_cN_lt 12 26 dX7_requireMeeting_12 (by decide) (by omega) (by omega) (fun c1 => ?_) (fun c1 => ?_)
  · omega
  · exact V_throwN 15 3 (tx := "no such meeting") rfl clX7_140 ini_N (by decide) dX7_requireMeeting_15 dX7_requireMeeting_18 (Or.inr ⟨rfl, dX7_requireMeeting_19⟩) dX7_requireMeeting_22 dX7_requireMeeting_25
theorem c_requirePromise {a : Nat} (hR : PRep 15 P I) (hP : s_POK P) (ha : a < P 6 0) : FnV Ω d mX7_requirePromise [.ref (Ω.1 + 0), .int (nI a)] (SH u v) I L (fun S' I' L' => S' = SH u v ∧ I = I' ∧ L = L') := by
  have h6 := hP.2.2.2.2.1
  refine FnR_of okX7_requirePromise (Nat.le_of_ble_eq_true rfl) fun l z => ?_
  show V _ _ _ _ _ _ _ _ 0 [(0, _), (1, _)] []
  refine V_iload_n 0 1 dX7_requirePromise_0 rfl ?_
  refine V_zN_lt 1 15 dX7_requirePromise_1 (by decide) (by omega) (fun c => ?_) (fun c => ?_)
  · omega
  refine V_iload_n 4 1 dX7_requirePromise_4 rfl ?_
  refine V_aload_n 5 0 dX7_requirePromise_5 rfl ?_
  refine V_getR 6 flX7_29 dX7_requirePromise_6 rfl ?_
  refine V_getI 9 flX7_128 dX7_requirePromise_9 rfl ?_
  rw [hR.2.2.2.2.1]
  refine V_cN_lt 12 26 dX7_requirePromise_12 (by decide) (by omega) (by omega) (fun c1 => ?_) (fun c1 => ?_)
  · exact V_ret 26 dX7_requirePromise_26 rfl ⟨rfl, rfl, rfl⟩
  · omega
theorem t_requirePromise {a : Nat} (h32 : a < 4294967296) (hR : PRep 15 P I) (hP : s_POK P) (ha : ¬ a < P 6 0) : FnT Ω d mX7_requirePromise [.ref (Ω.1 + 0), .int (nI a)] (SH u v) I L "java/util/NoSuchElementException" := by
  have h6 := hP.2.2.2.2.1
  refine FnT_of okX7_requirePromise (Nat.le_of_ble_eq_true rfl) fun l z => ?_
  show V _ _ _ _ _ _ _ _ 0 [(0, _), (1, _)] []
  refine V_iload_n 0 1 dX7_requirePromise_0 rfl ?_
  refine V_zN_lt 1 15 dX7_requirePromise_1 (by decide) (by omega) (fun c => ?_) (fun c => ?_)
  · exact V_throwN 15 3 (tx := "no such promise") rfl clX7_140 ini_N (by decide) dX7_requirePromise_15 dX7_requirePromise_18 (Or.inr ⟨rfl, dX7_requirePromise_19⟩) dX7_requirePromise_22 dX7_requirePromise_25
  refine V_iload_n 4 1 dX7_requirePromise_4 rfl ?_
  refine V_aload_n 5 0 dX7_requirePromise_5 rfl ?_
  refine V_getR 6 flX7_29 dX7_requirePromise_6 rfl ?_
  refine V_getI 9 flX7_128 dX7_requirePromise_9 rfl ?_
  rw [hR.2.2.2.2.1]
  refine V_cN_lt 12 26 dX7_requirePromise_12 (by decide) (by omega) (by omega) (fun c1 => ?_) (fun c1 => ?_)
  · omega
  · exact V_throwN 15 3 (tx := "no such promise") rfl clX7_140 ini_N (by decide) dX7_requirePromise_15 dX7_requirePromise_18 (Or.inr ⟨rfl, dX7_requirePromise_19⟩) dX7_requirePromise_22 dX7_requirePromise_25
/-- a promise's state: 2 undone, 1 standing, 0 not made -/
def q_st (C : w_R) (p : Nat) : Nat := if (C 4 0).testBit p then 2 else if (C 3 0).testBit p then 1 else 0
theorem and_tb (x p : Nat) : x &&& 2 ^ p ≠ 0 ↔ x.testBit p = true := by
  constructor
  · intro h
    cases e : x.testBit p
    · exfalso
      apply h
      apply Nat.eq_of_testBit_eq
      intro i
      rw [Nat.testBit_and, tb_p, Nat.zero_testBit]
      by_cases e2 : p = i
      · subst e2; rw [e]; rfl
      · simp [e2]
    · rfl
  · intro h e
    have h1 : (x &&& 2 ^ p).testBit p = true := by rw [Nat.testBit_and, tb_p, h]; simp
    rw [e, Nat.zero_testBit] at h1
    exact absurd h1 (by decide)
theorem q_st_eq {C : w_R} (h : CC P C I) (p : Nat) : (if I 34 5 &&& 2 ^ p ≠ 0 then 2 else if I 34 4 &&& 2 ^ p ≠ 0 then 1 else 0) = q_st C p := by
  have e4 : I 34 5 = C 4 0 := h.at 4 0 (by decide)
  have e3 : I 34 4 = C 3 0 := h.at 3 0 (by decide)
  unfold q_st
  simp only [and_tb, e3, e4]
theorem c_requireStanding {a : Nat} (hI : CInv u v σ I) (ha : a < σ 0 6 0) (hs : q_st (σ 2) a = 1) : FnV Ω (d + 1) mX7_requireStanding [.ref (Ω.1 + 0), .int (nI a)] (SH u v) I L (fun S' I' L' => S' = SH u v ∧ I = I' ∧ L = L') := by
  obtain ⟨-, ⟨p1, p2, -, -⟩, -, hC, -⟩ := hI
  have h12 := p1.2.2.2.2.1
  refine FnR_of okX7_requireStanding (Nat.le_of_ble_eq_true rfl) fun l z => ?_
  have hE : w_fit d (w_Er l (d + 1) 0 0 Ω (w_pv (fun S' I' L' => S' = SH u v ∧ I = I' ∧ L = L')) z) := w_fit_r
  show V _ _ _ _ _ _ _ _ 0 [(0, _), (1, _)] []
  refine V_aload_n 0 0 dX7_requireStanding_0 rfl ?_
  refine V_iload_n 1 1 dX7_requireStanding_1 rfl ?_
  refine V_vv 2 mvX7_165 dX7_requireStanding_2 ⟨_, _, _, rfl, rfl, rfl⟩ (w_fit.mono (by omega) hE) (c_requirePromise (d := d) p2 p1 ha) rfl (Nat.le_of_ble_eq_true rfl) ?_
  rintro _ _ _ ⟨rfl, rfl, rfl⟩
  refine V_aload_n 5 0 dX7_requireStanding_5 rfl ?_
  refine V_getR 6 flX7_45 dX7_requireStanding_6 rfl ?_
  refine V_iload_n 9 1 dX7_requireStanding_9 rfl ?_
  refine V_vi 10 mvX7_183 dX7_requireStanding_10 ⟨_, _, _, rfl, rfl, rfl⟩ (w_fit.mono (by omega) hE) (c_stateOf_34 (d := d) (p := a) (by omega) hC.ok) rfl (Nat.le_of_ble_eq_true rfl) ?_
  rintro _ _ _ _ ⟨rfl, rfl, rfl, rfl⟩
  rw [q_st_eq hC, hs]
  refine V_cst 13 1 dX7_requireStanding_13 rfl ?_
  refine V_cN_eq 14 28 dX7_requireStanding_14 (by decide) (by omega) (by omega) (fun c => ?_) (fun c => ?_)
  · exact V_ret 28 dX7_requireStanding_28 rfl ⟨rfl, rfl, rfl⟩
  · exact absurd rfl c
theorem q_st_lt (C : w_R) (p : Nat) : q_st C p < 3 := by unfold q_st; split; decide; split <;> decide
theorem t_requireStanding {a : Nat} (h32 : a < 4294967296) (hI : CInv u v σ I) (ha : ¬ (a < σ 0 6 0 ∧ q_st (σ 2) a = 1)) : FnT Ω (d + 1) mX7_requireStanding [.ref (Ω.1 + 0), .int (nI a)] (SH u v) I L "java/util/NoSuchElementException" := by
  obtain ⟨-, ⟨p1, p2, -, -⟩, -, hC, -⟩ := hI
  have h12 := p1.2.2.2.2.1
  refine FnT_of okX7_requireStanding (Nat.le_of_ble_eq_true rfl) fun l z => ?_
  have hE : w_fit d (w_Et l (d + 1) Ω (SH u v) I L "java/util/NoSuchElementException" z) := w_fit_t
  show V _ _ _ _ _ _ _ _ 0 [(0, _), (1, _)] []
  refine V_aload_n 0 0 dX7_requireStanding_0 rfl ?_
  refine V_iload_n 1 1 dX7_requireStanding_1 rfl ?_
  by_cases hp : a < σ 0 6 0
  · refine V_vv 2 mvX7_165 dX7_requireStanding_2 ⟨_, _, _, rfl, rfl, rfl⟩ (w_fit.mono (by omega) hE) (c_requirePromise (d := d) p2 p1 hp) rfl (Nat.le_of_ble_eq_true rfl) ?_
    rintro _ _ _ ⟨rfl, rfl, rfl⟩
    refine V_aload_n 5 0 dX7_requireStanding_5 rfl ?_
    refine V_getR 6 flX7_45 dX7_requireStanding_6 rfl ?_
    refine V_iload_n 9 1 dX7_requireStanding_9 rfl ?_
    refine V_vi 10 mvX7_183 dX7_requireStanding_10 ⟨_, _, _, rfl, rfl, rfl⟩ (w_fit.mono (by omega) hE) (c_stateOf_34 (d := d) (p := a) (by omega) hC.ok) rfl (Nat.le_of_ble_eq_true rfl) ?_
    rintro _ _ _ _ ⟨rfl, rfl, rfl, rfl⟩
    rw [q_st_eq hC]
    have hl := q_st_lt (σ 2) a
    refine V_cst 13 1 dX7_requireStanding_13 rfl ?_
    refine V_cN_eq 14 28 dX7_requireStanding_14 (by decide) (by omega) (by omega) (fun c => ?_) (fun c => ?_)
    · exact absurd ⟨hp, c⟩ ha
    · exact V_throwN 17 3 (tx := "the promise does not stand") rfl clX7_140 ini_N (by decide) dX7_requireStanding_17 dX7_requireStanding_20 (Or.inr ⟨rfl, dX7_requireStanding_21⟩) dX7_requireStanding_24 dX7_requireStanding_27
  · exact V_thrown 2 mvX7_165 dX7_requireStanding_2 ⟨_, _, _, rfl, rfl, rfl⟩ (t_requirePromise (d := d) h32 p2 p1 hp) rfl (Nat.le_of_ble_eq_true rfl)
end
