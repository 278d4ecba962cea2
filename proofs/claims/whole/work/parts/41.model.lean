/-! THE MODEL: its cells 63 to 99 hold the same state -/
def MP (P : w_R) (I : w_I) : Prop := I 64 0 = P 0 0 ∧ I 64 1 = P 2 0 ∧ I 64 2 = P 6 0 ∧ (∀ j, j < 6 → I 65 j = P 1 j) ∧ (∀ j, j < P 2 0 → I 66 j = P 3 j ∧ I 67 j = P 4 j ∧ I 68 j = P 5 j) ∧ ∀ j, j < P 6 0 → I 69 j = P 7 j ∧ I 70 j = P 8 j ∧ I 71 j = P 9 j ∧ I 72 j = P 10 j ∧ I 73 j = P 11 j
def MY (Y : w_R) (I : w_I) : Prop := I 63 11 = Y 0 0 ∧ ∀ s, s < Y 0 0 → I 74 s = Y 1 s ∧ I 75 s = Y 2 s ∧ I 76 s = Y 3 s ∧ I 77 s = Y 4 s
/-- the t-th course -/
def MC (t : Nat) (P C : w_R) (I : w_I) : Prop := I 80 t = C 0 0 ∧ I 81 t = C 1 0 ∧ ∀ p, p < P 6 0 → I 82 (12 * t + p) = q_st C p ∧ I 83 (12 * t + p) = C 7 p ∧ I 84 (12 * t + p) = C 8 p
def MT (R : w_R) (I : w_I) : Prop := I 63 18 = R 0 0 ∧ ∀ j, j < R 0 0 → I 79 j = R 1 j
def MM (R : w_R) (I : w_I) : Prop := I 63 27 = R 2 0 ∧ I 78 0 = R 3 0 ∧ I 78 1 = R 4 0
def MR (σ : w_Z) (I : w_I) : Prop := I 63 41 = σ 3 8 0 ∧ (σ 3 8 0 = 0 ∨ (σ 3 8 0 = 1 ∧ ∀ j, j < σ 0 2 0 → I 91 j = σ 3 9 j))
def MA (σ : w_Z) (I : w_I) : Prop := I 63 53 = σ 3 5 0 ∧ (σ 3 5 0 = 0 ∨ (σ 3 5 0 = 1 ∧ I 63 54 = σ 4 0 0 ∧ (∀ s, s < σ 4 0 0 → I 98 (4 * s) = σ 4 1 s ∧ I 98 (4 * s + 1) = σ 4 2 s ∧ I 98 (4 * s + 2) = σ 4 3 s ∧ I 98 (4 * s + 3) = σ 4 4 s) ∧ MC 2 (σ 0) (σ 5) I ∧ I 99 0 = σ 3 6 0 ∧ I 99 1 = σ 3 7 0))
/-- no cell has been stamped beyond the last stamp -/
def MS (I : w_I) : Prop := ∀ k, k < 16384 → I 97 k ≤ I 63 52
def MInv (σ : w_Z) (I : w_I) : Prop := MP (σ 0) I ∧ MY (σ 1) I ∧ MC 0 (σ 0) (σ 2) I ∧ MT (σ 3) I ∧ MM (σ 3) I ∧ MR σ I ∧ MA σ I ∧ MS I
/-- the state is as it must be -/
def SOK (σ : w_Z) : Prop := s_POK (σ 0) ∧ s_YOK (σ 0) (σ 1) ∧ CI (σ 0) (σ 2) ∧ (σ 3 0 0 ≤ 700 ∧ ∀ j, σ 3 1 j < 256) ∧ (σ 3 5 0 = 0 ∨ (σ 3 5 0 = 1 ∧ s_YOK (σ 0) (σ 4) ∧ CI (σ 0) (σ 5)))
theorem CInv.sok {u v : Nat} {σ : w_Z} {I : w_I} (h : CInv u v σ I) : SOK σ := by
  obtain ⟨-, ⟨p1, -⟩, ⟨y1, -⟩, ⟨c1, -⟩, ⟨-, t2, t3, -⟩, -, -, ⟨-, a2, -⟩, -⟩ := h
  refine ⟨p1, y1, c1, ⟨t2, t3⟩, ?_⟩
  rcases a2 with e | ⟨e, b, -, c, -⟩
  · exact Or.inl e
  · exact Or.inr ⟨e, b, c⟩
/-- the code of what was thrown does not matter -/
theorem MInv.code {σ : w_Z} {I : w_I} {x : Nat} (h : MInv σ I) : MInv σ (w_put I 63 0 x) := by
  obtain ⟨h1, h2, h3, h4, h5, h6, h7, h8⟩ := h
  have e : ∀ i, i ≠ 63 → w_put I 63 0 x i = I i := fun i hi => w_put_ne I i hi
  have e66 : ∀ j, j ≠ 0 → w_put I 63 0 x 63 j = I 63 j := fun j hj => w_put_other I (Or.inr hj)
  have hm : ∀ t P C, MC t P C I → MC t P C (w_put I 63 0 x) := by
    intro t P C hC
    unfold MC at hC ⊢
    rw [e 80 (by decide), e 81 (by decide), e 82 (by decide), e 83 (by decide), e 84 (by decide)]
    exact hC
  refine ⟨?_, ?_, hm _ _ _ h3, ?_, ?_, ?_, ?_, ?_⟩
  · unfold MP at h1 ⊢
    rw [e 64 (by decide), e 65 (by decide), e 66 (by decide), e 67 (by decide), e 68 (by decide), e 69 (by decide), e 70 (by decide), e 71 (by decide), e 72 (by decide), e 73 (by decide)]
    exact h1
  · unfold MY at h2 ⊢
    rw [e66 11 (by decide), e 74 (by decide), e 75 (by decide), e 76 (by decide), e 77 (by decide)]
    exact h2
  · unfold MT at h4 ⊢
    rw [e66 18 (by decide), e 79 (by decide)]
    exact h4
  · unfold MM at h5 ⊢
    rw [e66 27 (by decide), e 78 (by decide)]
    exact h5
  · unfold MR at h6 ⊢
    rw [e66 41 (by decide), e 91 (by decide)]
    exact h6
  · unfold MA at h7 ⊢
    rw [e66 53 (by decide), e66 54 (by decide), e 98 (by decide), e 99 (by decide)]
    refine ⟨h7.1, ?_⟩
    rcases h7.2 with q | ⟨a, b, c, f, g⟩
    · exact Or.inl q
    · exact Or.inr ⟨a, b, c, hm _ _ _ f, g⟩
  · unfold MS at h8 ⊢
    rw [e66 52 (by decide), e 97 (by decide)]
    exact h8
/-- what happens in the town's cells does not matter to the model -/
theorem MInv.fr {σ : w_Z} {I I' : w_I} (h : MInv σ I) (hf : ∀ i, 63 ≤ i → i < 100 → I' i = I i) : MInv σ I' := by
  obtain ⟨h1, h2, h3, h4, h5, h6, h7, h8⟩ := h
  have hm : ∀ t P C, MC t P C I → MC t P C I' := by
    intro t P C hC
    unfold MC at hC ⊢
    rw [hf 80 (by decide) (by decide), hf 81 (by decide) (by decide), hf 82 (by decide) (by decide), hf 83 (by decide) (by decide), hf 84 (by decide) (by decide)]
    exact hC
  refine ⟨?_, ?_, hm _ _ _ h3, ?_, ?_, ?_, ?_, ?_⟩
  · unfold MP at h1 ⊢
    rw [hf 64 (by decide) (by decide), hf 65 (by decide) (by decide), hf 66 (by decide) (by decide), hf 67 (by decide) (by decide), hf 68 (by decide) (by decide), hf 69 (by decide) (by decide), hf 70 (by decide) (by decide), hf 71 (by decide) (by decide), hf 72 (by decide) (by decide), hf 73 (by decide) (by decide)]
    exact h1
  · unfold MY at h2 ⊢
    rw [hf 63 (by decide) (by decide), hf 74 (by decide) (by decide), hf 75 (by decide) (by decide), hf 76 (by decide) (by decide), hf 77 (by decide) (by decide)]
    exact h2
  · unfold MT at h4 ⊢
    rw [hf 63 (by decide) (by decide), hf 79 (by decide) (by decide)]
    exact h4
  · unfold MM at h5 ⊢
    rw [hf 63 (by decide) (by decide), hf 78 (by decide) (by decide)]
    exact h5
  · unfold MR at h6 ⊢
    rw [hf 63 (by decide) (by decide), hf 91 (by decide) (by decide)]
    exact h6
  · unfold MA at h7 ⊢
    rw [hf 63 (by decide) (by decide), hf 98 (by decide) (by decide), hf 99 (by decide) (by decide)]
    refine ⟨h7.1, ?_⟩
    rcases h7.2 with q | ⟨a, b, c, f, g⟩
    · exact Or.inl q
    · exact Or.inr ⟨a, b, c, hm _ _ _ f, g⟩
  · unfold MS at h8 ⊢
    rw [hf 63 (by decide) (by decide), hf 97 (by decide) (by decide)]
    exact h8
section
variable {Ω : w_O} {d u v : Nat} {L : w_L} {E : w_E} {P Y : w_R} {I : w_I} {σ : w_Z}
theorem m_isIn {a lo hi : Nat} (ha : a < 4294967296) (hl : lo < 4294967296) (hh : hi < 4294967296) : FnI Ω d mX8_isIn [.int (nI a), .int (nI lo), .int (nI hi)] (SH u v) I L (fun r S' I' L' => r = nI (if sgn lo ≤ sgn a ∧ sgn a ≤ sgn hi then 1 else 0) ∧ S' = SH u v ∧ I = I' ∧ L = L') := by
  refine FnR_of okX8_isIn (Nat.le_of_ble_eq_true rfl) fun l z => ?_
  show V _ _ _ _ _ _ _ _ 0 [(0, _), (1, _), (2, _)] []
  refine V_iload_n 0 0 dX8_isIn_0 rfl ?_
  refine V_iload_n 1 1 dX8_isIn_1 rfl ?_
  refine V_cG_lt 2 14 dX8_isIn_2 (by decide) (by omega) (by omega) (fun c => ?_) (fun c => ?_)
  · refine V_cst 14 0 dX8_isIn_14 rfl ?_
    exact V_zret 15 dX8_isIn_15 rfl rfl ⟨by rw [if_neg (fun h => by omega)], rfl, rfl, rfl⟩
  refine V_iload_n 5 0 dX8_isIn_5 rfl ?_
  refine V_iload_n 6 2 dX8_isIn_6 rfl ?_
  refine V_cG_gt 7 14 dX8_isIn_7 (by decide) (by omega) (by omega) (fun c1 => ?_) (fun c1 => ?_)
  · refine V_cst 14 0 dX8_isIn_14 rfl ?_
    exact V_zret 15 dX8_isIn_15 rfl rfl ⟨by rw [if_neg (fun h => by omega)], rfl, rfl, rfl⟩
  · refine V_cst 10 1 dX8_isIn_10 rfl ?_
    refine V_goto 11 15 dX8_isIn_11 (by decide) ?_
    exact V_zret 15 dX8_isIn_15 rfl rfl ⟨by rw [if_pos ⟨c, c1⟩], rfl, rfl, rfl⟩
/-- one less, or -1 -/
def m_1 (n : Nat) : Nat := if n = 0 then mI else n - 1
theorem m_1_nI {n : Nat} (hn : n < 1000) : nI (n + 4294967296 - 1) = nI (m_1 n) := by
  apply n_mod
  unfold m_1
  have : mI = 4294967295 := rfl
  split <;> omega
theorem m_1_lt {n : Nat} (hn : n < 1000) : m_1 n < 4294967296 := by
  unfold m_1
  have : mI = 4294967295 := rfl
  split <;> omega
theorem m_in {a n : Nat} (ha : a < 4294967296) (hn : n < 1000) : (sgn 0 ≤ sgn a ∧ sgn a ≤ sgn (m_1 n)) ↔ a < n := by
  have h0 : sgn 0 = 0 := rfl
  have h1 : sgn (m_1 n) = (n : Int) - 1 := by
    unfold m_1
    split
    · rename_i e; rw [e]; rfl
    · rw [sgn_s (by omega)]; omega
  rw [h0, h1]
  unfold sgn
  split <;> omega
theorem m_isPerson {a : Nat} (ha : a < 4294967296) (hP : s_POK P) (hM : MP P I) : FnI Ω (d + 1) mX8_isPerson [.ref (Ω.1 + 63), .int (nI a)] (SH u v) I L (fun r S' I' L' => r = nI (if a < P 0 0 then 1 else 0) ∧ S' = SH u v ∧ I = I' ∧ L = L') := by
  have h6 := hP.1.2
  refine FnR_of okX8_isPerson (Nat.le_of_ble_eq_true rfl) fun l z => ?_
  have hE : w_fit d (w_Er l (d + 1) 0 0 Ω (w_pi (fun r S' I' L' => r = nI (if a < P 0 0 then 1 else 0) ∧ S' = SH u v ∧ I = I' ∧ L = L')) z) := w_fit_r
  show V _ _ _ _ _ _ _ _ 0 [(0, _), (1, _)] []
  refine V_iload_n 0 1 dX8_isPerson_0 rfl ?_
  refine V_cst 1 0 dX8_isPerson_1 rfl ?_
  refine V_aload_n 2 0 dX8_isPerson_2 rfl ?_
  refine V_getR 3 flX8_7 dX8_isPerson_3 rfl ?_
  refine V_cst 6 0 dX8_isPerson_6 rfl ?_
  refine V_iald 7 dX8_isPerson_7 rfl (by omega) (by omega) ?_
  rw [hM.1]
  refine V_cst 8 1 dX8_isPerson_8 rfl ?_
  refine V_subM 9 dX8_isPerson_9 (by omega) ?_
  rw [m_1_nI (by omega)]
  refine V_si 10 msX8_131 dX8_isPerson_10 (w_fit.mono (by omega) hE) (m_isIn (d := d) (a := a) (lo := 0) (hi := m_1 (P 0 0)) ha (by decide) (m_1_lt (by omega))) rfl (Nat.le_of_ble_eq_true rfl) ?_
  rintro _ _ _ _ ⟨rfl, rfl, rfl, rfl⟩
  simp only [m_in ha (show P 0 0 < 1000 by omega)]
  exact V_zret 13 dX8_isPerson_13 rfl (by split <;> rfl) ⟨rfl, rfl, rfl, rfl⟩
theorem m_isMeeting {a : Nat} (ha : a < 4294967296) (hP : s_POK P) (hM : MP P I) : FnI Ω (d + 1) mX8_isMeeting [.ref (Ω.1 + 63), .int (nI a)] (SH u v) I L (fun r S' I' L' => r = nI (if a < P 2 0 then 1 else 0) ∧ S' = SH u v ∧ I = I' ∧ L = L') := by
  have h6 := hP.2.2.1
  refine FnR_of okX8_isMeeting (Nat.le_of_ble_eq_true rfl) fun l z => ?_
  have hE : w_fit d (w_Er l (d + 1) 0 0 Ω (w_pi (fun r S' I' L' => r = nI (if a < P 2 0 then 1 else 0) ∧ S' = SH u v ∧ I = I' ∧ L = L')) z) := w_fit_r
  show V _ _ _ _ _ _ _ _ 0 [(0, _), (1, _)] []
  refine V_iload_n 0 1 dX8_isMeeting_0 rfl ?_
  refine V_cst 1 0 dX8_isMeeting_1 rfl ?_
  refine V_aload_n 2 0 dX8_isMeeting_2 rfl ?_
  refine V_getR 3 flX8_7 dX8_isMeeting_3 rfl ?_
  refine V_cst 6 1 dX8_isMeeting_6 rfl ?_
  refine V_iald 7 dX8_isMeeting_7 rfl (by omega) (by omega) ?_
  rw [hM.2.1]
  refine V_cst 8 1 dX8_isMeeting_8 rfl ?_
  refine V_subM 9 dX8_isMeeting_9 (by omega) ?_
  rw [m_1_nI (by omega)]
  refine V_si 10 msX8_131 dX8_isMeeting_10 (w_fit.mono (by omega) hE) (m_isIn (d := d) (a := a) (lo := 0) (hi := m_1 (P 2 0)) ha (by decide) (m_1_lt (by omega))) rfl (Nat.le_of_ble_eq_true rfl) ?_
  rintro _ _ _ _ ⟨rfl, rfl, rfl, rfl⟩
  simp only [m_in ha (show P 2 0 < 1000 by omega)]
  exact V_zret 13 dX8_isMeeting_13 rfl (by split <;> rfl) ⟨rfl, rfl, rfl, rfl⟩
theorem m_isPromise {a : Nat} (ha : a < 4294967296) (hP : s_POK P) (hM : MP P I) : FnI Ω (d + 1) mX8_isPromise [.ref (Ω.1 + 63), .int (nI a)] (SH u v) I L (fun r S' I' L' => r = nI (if a < P 6 0 then 1 else 0) ∧ S' = SH u v ∧ I = I' ∧ L = L') := by
  have h6 := hP.2.2.2.2.1
  refine FnR_of okX8_isPromise (Nat.le_of_ble_eq_true rfl) fun l z => ?_
  have hE : w_fit d (w_Er l (d + 1) 0 0 Ω (w_pi (fun r S' I' L' => r = nI (if a < P 6 0 then 1 else 0) ∧ S' = SH u v ∧ I = I' ∧ L = L')) z) := w_fit_r
  show V _ _ _ _ _ _ _ _ 0 [(0, _), (1, _)] []
  refine V_iload_n 0 1 dX8_isPromise_0 rfl ?_
  refine V_cst 1 0 dX8_isPromise_1 rfl ?_
  refine V_aload_n 2 0 dX8_isPromise_2 rfl ?_
  refine V_getR 3 flX8_7 dX8_isPromise_3 rfl ?_
  refine V_cst 6 2 dX8_isPromise_6 rfl ?_
  refine V_iald 7 dX8_isPromise_7 rfl (by omega) (by omega) ?_
  rw [hM.2.2.1]
  refine V_cst 8 1 dX8_isPromise_8 rfl ?_
  refine V_subM 9 dX8_isPromise_9 (by omega) ?_
  rw [m_1_nI (by omega)]
  refine V_si 10 msX8_131 dX8_isPromise_10 (w_fit.mono (by omega) hE) (m_isIn (d := d) (a := a) (lo := 0) (hi := m_1 (P 6 0)) ha (by decide) (m_1_lt (by omega))) rfl (Nat.le_of_ble_eq_true rfl) ?_
  rintro _ _ _ _ ⟨rfl, rfl, rfl, rfl⟩
  simp only [m_in ha (show P 6 0 < 1000 by omega)]
  exact V_zret 13 dX8_isPromise_13 rfl (by split <;> rfl) ⟨rfl, rfl, rfl, rfl⟩
theorem m_fail {x : Nat} : FnI Ω d mX8_fail [.ref (Ω.1 + 63), .int (nI x)] (SH u v) I L (fun r S' I' L' => r = nI 0 ∧ S' = SH u v ∧ I' = w_put I 63 0 x ∧ L = L') := by
  refine FnR_of okX8_fail (Nat.le_of_ble_eq_true rfl) fun l z => ?_
  show V _ _ _ _ _ _ _ _ 0 [(0, _), (1, _)] []
  refine V_aload_n 0 0 dX8_fail_0 rfl ?_
  refine V_iload_n 1 1 dX8_fail_1 rfl ?_
  refine V_putI 2 flX8_128 ft_8_0 dX8_fail_2 rfl ?_
  refine V_cst 5 0 dX8_fail_5 rfl ?_
  exact V_iret 6 dX8_fail_6 rfl ⟨rfl, rfl, rfl, rfl⟩
theorem m_thrown : FnI Ω d mX8_thrown [.ref (Ω.1 + 63)] (SH u v) I L (fun r S' I' L' => r = nI (I 63 0) ∧ S' = SH u v ∧ I = I' ∧ L = L') := by
  refine FnR_of okX8_thrown (Nat.le_of_ble_eq_true rfl) fun l z => ?_
  show V _ _ _ _ _ _ _ _ 0 [(0, _)] []
  refine V_aload_n 0 0 dX8_thrown_0 rfl ?_
  refine V_getI 1 flX8_128 dX8_thrown_1 rfl ?_
  exact V_iret 4 dX8_thrown_4 rfl ⟨rfl, rfl, rfl, rfl⟩
/-- only the model's cells have changed, and few stamps were used -/
def FrM (I I' : w_I) : Prop := Fr 63 100 I I' ∧ I' 63 52 ≤ I 63 52 + 1000000
theorem FrM.rf {I : w_I} : FrM I I := ⟨Fr.rf, Nat.le_add_right _ _⟩
theorem FrM.put {a j x : Nat} {I I' : w_I} (h : FrM I I') (h1 : 63 ≤ a) (h2 : a < 100) (h3 : a ≠ 63 ∨ j ≠ 52 := by first | decide | exact Or.inl (by decide)) : FrM I (w_put I' a j x) := ⟨h.1.put h1 h2, by rw [w_put_other _ (by rcases h3 with e | e; exact Or.inl (fun q => e q.symm); exact Or.inr (fun q => e q.symm))]; exact h.2⟩
/-- what the model answers: a number and no code, or a code -/
abbrev MO (u v : Nat) (L : w_L) (I : w_I) (σ' : w_Z) (x : Nat) (ans : Nat) : Int32 → List w_SC → w_I → w_L → Prop := fun r S' I' L' => S' = SH u v ∧ L = L' ∧ I' 63 0 = x ∧ (x = 0 → r = nI ans) ∧ MInv σ' I' ∧ FrM I I'
theorem m_fault (hM : MInv σ I) : FnI Ω d mX8_fault [.ref (Ω.1 + 63)] (SH u v) I L (MO u v L I σ 0 (σ 3 2 0)) := by
  refine FnR_of okX8_fault (Nat.le_of_ble_eq_true rfl) fun l z => ?_
  show V _ _ _ _ _ _ _ _ 0 [(0, _)] []
  refine V_aload_n 0 0 dX8_fault_0 rfl ?_
  refine V_cst 1 0 dX8_fault_1 rfl ?_
  refine V_putI 2 flX8_128 ft_8_0 dX8_fault_2 rfl ?_
  refine V_aload_n 5 0 dX8_fault_5 rfl ?_
  refine V_getI 6 flX8_58 dX8_fault_6 rfl ?_
  exact V_iret 9 dX8_fault_9 rfl ⟨rfl, rfl, w_put_same _ _ _ _, fun _ => by rw [w_put_other _ (Or.inr (by decide)), hM.2.2.2.2.1.1], hM.code, FrM.rf.put (by decide) (by decide)⟩
theorem m_price {a : Nat} (ha : a < 4294967296) (hO : SOK σ) (hM : MInv σ I) : FnI Ω (d + 2) mX8_price [.ref (Ω.1 + 63), .int (nI a)] (SH u v) I L (MO u v L I σ (if a < σ 0 0 0 then 0 else 1) (σ 0 1 a)) := by
  have h6 := hO.1.1.2
  have hM1 : MInv σ (w_put I 63 0 0) := hM.code
  refine FnR_of okX8_price (Nat.le_of_ble_eq_true rfl) fun l z => ?_
  have hE : w_fit (d + 1) (w_Er l (d + 2) 0 0 Ω (w_pi (MO u v L I σ (if a < σ 0 0 0 then 0 else 1) (σ 0 1 a))) z) := w_fit_r
  show V _ _ _ _ _ _ _ _ 0 [(0, _), (1, _)] []
  refine V_aload_n 0 0 dX8_price_0 rfl ?_
  refine V_cst 1 0 dX8_price_1 rfl ?_
  refine V_putI 2 flX8_128 ft_8_0 dX8_price_2 rfl ?_
  refine V_aload_n 5 0 dX8_price_5 rfl ?_
  refine V_iload_n 6 1 dX8_price_6 rfl ?_
  refine V_vi 7 mvX8_252 dX8_price_7 ⟨_, _, _, rfl, rfl, rfl⟩ (w_fit.mono (by omega) hE) (m_isPerson (d := d) ha hO.1 hM1.1) rfl (Nat.le_of_ble_eq_true rfl) ?_
  rintro _ _ _ _ ⟨rfl, rfl, rfl, rfl⟩
  by_cases h : a < σ 0 0 0
  · rw [if_pos h, if_pos h]
    refine V_zN_eq 10 22 dX8_price_10 (by decide) (by omega) (fun c => ?_) (fun c => ?_)
    · exact absurd c (by decide)
    refine V_aload_n 13 0 dX8_price_13 rfl ?_
    refine V_getR 14 flX8_13 dX8_price_14 rfl ?_
    refine V_iload_n 17 1 dX8_price_17 rfl ?_
    refine V_iald 18 dX8_price_18 rfl (by omega) (by omega) ?_
    refine V_goto 19 27 dX8_price_19 (by decide) ?_
    refine V_iret 27 dX8_price_27 rfl ⟨rfl, rfl, w_put_same _ _ _ _, fun _ => ?_, hM1, FrM.rf.put (by decide) (by decide)⟩
    rw [hM1.1.2.2.2.1 a (by omega)]
  · rw [if_neg h, if_neg h]
    refine V_zN_eq 10 22 dX8_price_10 (by decide) (by omega) (fun c => ?_) (fun c => ?_)
    · refine V_aload_n 22 0 dX8_price_22 rfl ?_
      refine V_cst 23 1 dX8_price_23 rfl ?_
      refine V_vi 24 mvX8_232 dX8_price_24 ⟨_, _, _, rfl, rfl, rfl⟩ (w_fit.mono (by omega) hE) (m_fail (d := d) (x := 1)) rfl (Nat.le_of_ble_eq_true rfl) ?_
      rintro _ _ _ _ ⟨rfl, rfl, rfl, rfl⟩
      exact V_iret 27 dX8_price_27 rfl ⟨rfl, rfl, w_put_same _ _ _ _, fun e => absurd e (by decide), hM1.code, (FrM.rf.put (by decide) (by decide)).put (by decide) (by decide)⟩
    · exact absurd rfl c
theorem m_kept {a : Nat} (ha : a < 4294967296) (hO : SOK σ) (hM : MInv σ I) : FnI Ω (d + 2) mX8_kept [.ref (Ω.1 + 63), .int (nI a)] (SH u v) I L (MO u v L I σ (if a < σ 0 2 0 ∧ σ 3 8 0 = 1 then 0 else 1) (σ 3 9 a)) := by
  have h12 := hO.1.2.2.1
  have hM1 : MInv σ (w_put I 63 0 0) := hM.code
  obtain ⟨r1, r2⟩ := hM1.2.2.2.2.2.1
  refine FnR_of okX8_kept (Nat.le_of_ble_eq_true rfl) fun l z => ?_
  have hE : w_fit (d + 1) (w_Er l (d + 2) 0 0 Ω (w_pi (MO u v L I σ (if a < σ 0 2 0 ∧ σ 3 8 0 = 1 then 0 else 1) (σ 3 9 a))) z) := w_fit_r
  show V _ _ _ _ _ _ _ _ 0 [(0, _), (1, _)] []
  have k29 : ¬ (a < σ 0 2 0 ∧ σ 3 8 0 = 1) → V mX8_kept (w_Er l (d + 2) 0 0 Ω (w_pi (MO u v L I σ (if a < σ 0 2 0 ∧ σ 3 8 0 = 1 then 0 else 1) (σ 3 9 a))) z) Ω 0 0 (SH u v) (w_put I 63 0 0) L 29 [(0, .ref (Ω.1 + 63)), (1, .int (nI a))] [] := by
    intro h
    rw [if_neg h]
    refine V_aload_n 29 0 dX8_kept_29 rfl ?_
    refine V_cst 30 1 dX8_kept_30 rfl ?_
    refine V_vi 31 mvX8_232 dX8_kept_31 ⟨_, _, _, rfl, rfl, rfl⟩ (w_fit.mono (by omega) hE) (m_fail (d := d) (x := 1)) rfl (Nat.le_of_ble_eq_true rfl) ?_
    rintro _ _ _ _ ⟨rfl, rfl, rfl, rfl⟩
    exact V_iret 34 dX8_kept_34 rfl ⟨rfl, rfl, w_put_same _ _ _ _, fun e => absurd e (by decide), hM1.code, (FrM.rf.put (by decide) (by decide)).put (by decide) (by decide)⟩
  refine V_aload_n 0 0 dX8_kept_0 rfl ?_
  refine V_cst 1 0 dX8_kept_1 rfl ?_
  refine V_putI 2 flX8_128 ft_8_0 dX8_kept_2 rfl ?_
  refine V_aload_n 5 0 dX8_kept_5 rfl ?_
  refine V_getI 6 flX8_245 dX8_kept_6 rfl ?_
  rw [r1]
  have hb : σ 3 8 0 < 2 := by rcases r2 with e | ⟨e, -⟩ <;> omega
  refine V_zN_eq 9 29 dX8_kept_9 (by decide) (by omega) (fun c => ?_) (fun c => ?_)
  · exact k29 (fun h => by omega)
  have h8 : σ 3 8 0 = 1 := by omega
  have hrow : ∀ j, j < σ 0 2 0 → w_put I 63 0 0 91 j = σ 3 9 j := by
    rcases r2 with e | ⟨-, e⟩
    · omega
    · exact e
  refine V_aload_n 12 0 dX8_kept_12 rfl ?_
  refine V_iload_n 13 1 dX8_kept_13 rfl ?_
  refine V_vi 14 mvX8_255 dX8_kept_14 ⟨_, _, _, rfl, rfl, rfl⟩ (w_fit.mono (by omega) hE) (m_isMeeting (d := d) ha hO.1 hM1.1) rfl (Nat.le_of_ble_eq_true rfl) ?_
  rintro _ _ _ _ ⟨rfl, rfl, rfl, rfl⟩
  by_cases h : a < σ 0 2 0
  · rw [if_pos h]
    refine V_zN_eq 17 29 dX8_kept_17 (by decide) (by omega) (fun c1 => ?_) (fun c1 => ?_)
    · exact absurd c1 (by decide)
    rw [if_pos ⟨h, h8⟩]
    refine V_aload_n 20 0 dX8_kept_20 rfl ?_
    refine V_getR 21 flX8_96 dX8_kept_21 rfl ?_
    refine V_iload_n 24 1 dX8_kept_24 rfl ?_
    refine V_iald 25 dX8_kept_25 rfl (by omega) (by omega) ?_
    refine V_goto 26 34 dX8_kept_26 (by decide) ?_
    refine V_iret 34 dX8_kept_34 rfl ⟨rfl, rfl, w_put_same _ _ _ _, fun _ => ?_, hM1, FrM.rf.put (by decide) (by decide)⟩
    rw [hrow a h]
  · rw [if_neg h]
    refine V_zN_eq 17 29 dX8_kept_17 (by decide) (by omega) (fun c1 => ?_) (fun c1 => ?_)
    · exact k29 (fun q => h q.1)
    · exact absurd rfl c1
end
