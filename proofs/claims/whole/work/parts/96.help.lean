/-! THE LAW'S HELPERS: what the town answers lands in the row of one long, and 0 comes back; or the exception's number -/
section
variable {Ω : w_O} {d : Nat} {S : List w_SC} {I : w_I} {L : w_L}
abbrev hhL_town : List (Nat × Nat × Nat × Nat) := [(0, 9, 12, 13)]
theorem mhL_67 : w_MH RL 67 mL_town hhL_town 3 := w_mh (w_in 470 (by decide +kernel) (by decide +kernel)) (w_in 471 (by decide +kernel) (by decide +kernel)) (w_in 54 (by decide +kernel) (by decide +kernel)) (w_in 472 (by decide +kernel) (by decide +kernel)) ⟨by decide +kernel, by decide +kernel, by decide +kernel, by decide⟩
theorem h_town {P : Int32 → List w_SC → w_I → w_L → Prop} {x1 : Int32} (hF : FnI Ω d mX7_town (.ref (Ω.1 + 0) :: [.int x1]) S I L P) (hS : w_is S 0 RX7) (hP : ∀ r S' I' L', P r S' I' L' → S'[100]? = some (.inl (3, 1))) : FnH Ω (d + 1) mL_town hhL_town [.ref (Ω.1 + 0), .int x1, .ref (Ω.1 + 100)] S I L (w_pi fun r S' I' L' => r = nI 0 ∧ ∃ r' L1, P r' S' I' L1 ∧ L' = w_put L1 100 0 (l64 r')) := by
  refine FnH_of okL_town (Nat.le_of_ble_eq_true rfl) fun l z => ?_
  have hE : w_fit d (w_Eh l (d + 1) Ω (w_pi fun r S' I' L' => r = nI 0 ∧ ∃ r' L1, P r' S' I' L1 ∧ L' = w_put L1 100 0 (l64 r')) z hhL_town) := w_fit_h
  refine V_aload_n 0 2 dL_town_0 rfl ?_
  refine V_cst 1 0 dL_town_1 rfl ?_
  refine V_aload_n 2 0 dL_town_2 rfl ?_
  refine V_iload_n 3 1 dL_town_3 rfl ?_
  refine V_vi 4 mvL_7 dL_town_4 hS hE hF rfl (Nat.le_of_ble_eq_true rfl) ?_
  intro r S' I' L' hp
  refine V_i2l 7 dL_town_7 ?_
  rw [← l64_eq]
  refine V_last 8 dL_town_8 (hP _ _ _ _ hp) (by decide) (by decide) ?_
  refine V_goto 9 15 dL_town_9 (by decide) ?_
  refine V_cst 15 0 dL_town_15 rfl ?_
  exact V_hret 16 (Nat.zero_le _) (Nat.zero_le _) dL_town_16 rfl ⟨rfl, r, L', hp, rfl⟩
theorem htI_town {x1 : Int32} (hF : FnT Ω d mX7_town (.ref (Ω.1 + 0) :: [.int x1]) S I L "java/lang/IllegalArgumentException") (hS : w_is S 0 RX7) : FnH Ω (d + 1) mL_town hhL_town [.ref (Ω.1 + 0), .int x1, .ref (Ω.1 + 100)] S I L (w_pi fun r S' I' L' => r = nI 1 ∧ S' = S ∧ I' = I ∧ L' = L) := by
  refine FnH_of okL_town (Nat.le_of_ble_eq_true rfl) fun l z => ?_
  have hE : w_fit d (w_Eh l (d + 1) Ω (w_pi fun r S' I' L' => r = nI 1 ∧ S' = S ∧ I' = I ∧ L' = L) z hhL_town) := w_fit_h
  refine V_aload_n 0 2 dL_town_0 rfl ?_
  refine V_cst 1 0 dL_town_1 rfl ?_
  refine V_aload_n 2 0 dL_town_2 rfl ?_
  refine V_iload_n 3 1 dL_town_3 rfl ?_
  refine V_caught 4 12 mvL_7 dL_town_4 hS hE hF rfl (Nat.le_of_ble_eq_true rfl) ⟨Nat.le_refl _, Nat.le_refl _⟩ rfl (Or.inl ⟨0, 9, 13, [], rfl, by decide, by decide, by decide, clL_13, List.mem_cons_self⟩) fun q => ?_
  refine V_astore_n 12 _ dL_town_12 (by decide) rfl ?_
  refine V_cst 13 1 dL_town_13 rfl ?_
  exact V_hret 14 (Nat.le_refl _) (Nat.le_refl _) dL_town_14 rfl ⟨rfl, rfl, rfl, rfl⟩
abbrev hhL_count : List (Nat × Nat × Nat × Nat) := [(0, 9, 12, 18)]
theorem mhL_81 : w_MH RL 81 mL_count hhL_count 3 := w_mh (w_in 692 (by decide +kernel) (by decide +kernel)) (w_in 693 (by decide +kernel) (by decide +kernel)) (w_in 54 (by decide +kernel) (by decide +kernel)) (w_in 694 (by decide +kernel) (by decide +kernel)) ⟨by decide +kernel, by decide +kernel, by decide +kernel, by decide⟩
theorem h_count {P : Int32 → List w_SC → w_I → w_L → Prop} {x1 : Int32} (hF : FnI Ω d mX7_count (.ref (Ω.1 + 0) :: [.int x1]) S I L P) (hS : w_is S 0 RX7) (hP : ∀ r S' I' L', P r S' I' L' → S'[100]? = some (.inl (3, 1))) : FnH Ω (d + 1) mL_count hhL_count [.ref (Ω.1 + 0), .int x1, .ref (Ω.1 + 100)] S I L (w_pi fun r S' I' L' => r = nI 0 ∧ ∃ r' L1, P r' S' I' L1 ∧ L' = w_put L1 100 0 (l64 r')) := by
  refine FnH_of okL_count (Nat.le_of_ble_eq_true rfl) fun l z => ?_
  have hE : w_fit d (w_Eh l (d + 1) Ω (w_pi fun r S' I' L' => r = nI 0 ∧ ∃ r' L1, P r' S' I' L1 ∧ L' = w_put L1 100 0 (l64 r')) z hhL_count) := w_fit_h
  refine V_aload_n 0 2 dL_count_0 rfl ?_
  refine V_cst 1 0 dL_count_1 rfl ?_
  refine V_aload_n 2 0 dL_count_2 rfl ?_
  refine V_iload_n 3 1 dL_count_3 rfl ?_
  refine V_vi 4 mvL_15 dL_count_4 hS hE hF rfl (Nat.le_of_ble_eq_true rfl) ?_
  intro r S' I' L' hp
  refine V_i2l 7 dL_count_7 ?_
  rw [← l64_eq]
  refine V_last 8 dL_count_8 (hP _ _ _ _ hp) (by decide) (by decide) ?_
  refine V_goto 9 15 dL_count_9 (by decide) ?_
  refine V_cst 15 0 dL_count_15 rfl ?_
  exact V_hret 16 (Nat.zero_le _) (Nat.zero_le _) dL_count_16 rfl ⟨rfl, r, L', hp, rfl⟩
theorem htN_count {x1 : Int32} (hF : FnT Ω d mX7_count (.ref (Ω.1 + 0) :: [.int x1]) S I L "java/util/NoSuchElementException") (hS : w_is S 0 RX7) : FnH Ω (d + 1) mL_count hhL_count [.ref (Ω.1 + 0), .int x1, .ref (Ω.1 + 100)] S I L (w_pi fun r S' I' L' => r = nI 1 ∧ S' = S ∧ I' = I ∧ L' = L) := by
  refine FnH_of okL_count (Nat.le_of_ble_eq_true rfl) fun l z => ?_
  have hE : w_fit d (w_Eh l (d + 1) Ω (w_pi fun r S' I' L' => r = nI 1 ∧ S' = S ∧ I' = I ∧ L' = L) z hhL_count) := w_fit_h
  refine V_aload_n 0 2 dL_count_0 rfl ?_
  refine V_cst 1 0 dL_count_1 rfl ?_
  refine V_aload_n 2 0 dL_count_2 rfl ?_
  refine V_iload_n 3 1 dL_count_3 rfl ?_
  refine V_caught 4 12 mvL_15 dL_count_4 hS hE hF rfl (Nat.le_of_ble_eq_true rfl) ⟨Nat.le_refl _, Nat.le_refl _⟩ rfl (Or.inl ⟨0, 9, 18, [], rfl, by decide, by decide, by decide, clL_18, (List.mem_cons_of_mem _ List.mem_cons_self)⟩) fun q => ?_
  refine V_astore_n 12 _ dL_count_12 (by decide) rfl ?_
  refine V_cst 13 1 dL_count_13 rfl ?_
  exact V_hret 14 (Nat.le_refl _) (Nat.le_refl _) dL_count_14 rfl ⟨rfl, rfl, rfl, rfl⟩
abbrev hhL_price : List (Nat × Nat × Nat × Nat) := [(0, 9, 12, 18)]
theorem mhL_84 : w_MH RL 84 mL_price hhL_price 3 := w_mh (w_in 716 (by decide +kernel) (by decide +kernel)) (w_in 717 (by decide +kernel) (by decide +kernel)) (w_in 54 (by decide +kernel) (by decide +kernel)) (w_in 718 (by decide +kernel) (by decide +kernel)) ⟨by decide +kernel, by decide +kernel, by decide +kernel, by decide⟩
theorem h_price {P : Int32 → List w_SC → w_I → w_L → Prop} {x1 : Int32} (hF : FnI Ω d mX7_price (.ref (Ω.1 + 0) :: [.int x1]) S I L P) (hS : w_is S 0 RX7) (hP : ∀ r S' I' L', P r S' I' L' → S'[100]? = some (.inl (3, 1))) : FnH Ω (d + 1) mL_price hhL_price [.ref (Ω.1 + 0), .int x1, .ref (Ω.1 + 100)] S I L (w_pi fun r S' I' L' => r = nI 0 ∧ ∃ r' L1, P r' S' I' L1 ∧ L' = w_put L1 100 0 (l64 r')) := by
  refine FnH_of okL_price (Nat.le_of_ble_eq_true rfl) fun l z => ?_
  have hE : w_fit d (w_Eh l (d + 1) Ω (w_pi fun r S' I' L' => r = nI 0 ∧ ∃ r' L1, P r' S' I' L1 ∧ L' = w_put L1 100 0 (l64 r')) z hhL_price) := w_fit_h
  refine V_aload_n 0 2 dL_price_0 rfl ?_
  refine V_cst 1 0 dL_price_1 rfl ?_
  refine V_aload_n 2 0 dL_price_2 rfl ?_
  refine V_iload_n 3 1 dL_price_3 rfl ?_
  refine V_vi 4 mvL_20 dL_price_4 hS hE hF rfl (Nat.le_of_ble_eq_true rfl) ?_
  intro r S' I' L' hp
  refine V_i2l 7 dL_price_7 ?_
  rw [← l64_eq]
  refine V_last 8 dL_price_8 (hP _ _ _ _ hp) (by decide) (by decide) ?_
  refine V_goto 9 15 dL_price_9 (by decide) ?_
  refine V_cst 15 0 dL_price_15 rfl ?_
  exact V_hret 16 (Nat.zero_le _) (Nat.zero_le _) dL_price_16 rfl ⟨rfl, r, L', hp, rfl⟩
theorem htN_price {x1 : Int32} (hF : FnT Ω d mX7_price (.ref (Ω.1 + 0) :: [.int x1]) S I L "java/util/NoSuchElementException") (hS : w_is S 0 RX7) : FnH Ω (d + 1) mL_price hhL_price [.ref (Ω.1 + 0), .int x1, .ref (Ω.1 + 100)] S I L (w_pi fun r S' I' L' => r = nI 1 ∧ S' = S ∧ I' = I ∧ L' = L) := by
  refine FnH_of okL_price (Nat.le_of_ble_eq_true rfl) fun l z => ?_
  have hE : w_fit d (w_Eh l (d + 1) Ω (w_pi fun r S' I' L' => r = nI 1 ∧ S' = S ∧ I' = I ∧ L' = L) z hhL_price) := w_fit_h
  refine V_aload_n 0 2 dL_price_0 rfl ?_
  refine V_cst 1 0 dL_price_1 rfl ?_
  refine V_aload_n 2 0 dL_price_2 rfl ?_
  refine V_iload_n 3 1 dL_price_3 rfl ?_
  refine V_caught 4 12 mvL_20 dL_price_4 hS hE hF rfl (Nat.le_of_ble_eq_true rfl) ⟨Nat.le_refl _, Nat.le_refl _⟩ rfl (Or.inl ⟨0, 9, 18, [], rfl, by decide, by decide, by decide, clL_18, (List.mem_cons_of_mem _ List.mem_cons_self)⟩) fun q => ?_
  refine V_astore_n 12 _ dL_price_12 (by decide) rfl ?_
  refine V_cst 13 1 dL_price_13 rfl ?_
  exact V_hret 14 (Nat.le_refl _) (Nat.le_refl _) dL_price_14 rfl ⟨rfl, rfl, rfl, rfl⟩
abbrev hhL_meeting : List (Nat × Nat × Nat × Nat) := [(0, 10, 13, 18)]
theorem mhL_87 : w_MH RL 87 mL_meeting hhL_meeting 4 := w_mh (w_in 728 (by decide +kernel) (by decide +kernel)) (w_in 729 (by decide +kernel) (by decide +kernel)) (w_in 54 (by decide +kernel) (by decide +kernel)) (w_in 730 (by decide +kernel) (by decide +kernel)) ⟨by decide +kernel, by decide +kernel, by decide +kernel, by decide⟩
theorem h_meeting {P : Int32 → List w_SC → w_I → w_L → Prop} {x1 x2 : Int32} (hF : FnI Ω d mX7_meeting (.ref (Ω.1 + 0) :: [.int x1, .int x2]) S I L P) (hS : w_is S 0 RX7) (hP : ∀ r S' I' L', P r S' I' L' → S'[100]? = some (.inl (3, 1))) : FnH Ω (d + 1) mL_meeting hhL_meeting [.ref (Ω.1 + 0), .int x1, .int x2, .ref (Ω.1 + 100)] S I L (w_pi fun r S' I' L' => r = nI 0 ∧ ∃ r' L1, P r' S' I' L1 ∧ L' = w_put L1 100 0 (l64 r')) := by
  refine FnH_of okL_meeting (Nat.le_of_ble_eq_true rfl) fun l z => ?_
  have hE : w_fit d (w_Eh l (d + 1) Ω (w_pi fun r S' I' L' => r = nI 0 ∧ ∃ r' L1, P r' S' I' L1 ∧ L' = w_put L1 100 0 (l64 r')) z hhL_meeting) := w_fit_h
  refine V_aload_n 0 3 dL_meeting_0 rfl ?_
  refine V_cst 1 0 dL_meeting_1 rfl ?_
  refine V_aload_n 2 0 dL_meeting_2 rfl ?_
  refine V_iload_n 3 1 dL_meeting_3 rfl ?_
  refine V_iload_n 4 2 dL_meeting_4 rfl ?_
  refine V_vi 5 mvL_23 dL_meeting_5 hS hE hF rfl (Nat.le_of_ble_eq_true rfl) ?_
  intro r S' I' L' hp
  refine V_i2l 8 dL_meeting_8 ?_
  rw [← l64_eq]
  refine V_last 9 dL_meeting_9 (hP _ _ _ _ hp) (by decide) (by decide) ?_
  refine V_goto 10 17 dL_meeting_10 (by decide) ?_
  refine V_cst 17 0 dL_meeting_17 rfl ?_
  exact V_hret 18 (Nat.zero_le _) (Nat.zero_le _) dL_meeting_18 rfl ⟨rfl, r, L', hp, rfl⟩
theorem htN_meeting {x1 x2 : Int32} (hF : FnT Ω d mX7_meeting (.ref (Ω.1 + 0) :: [.int x1, .int x2]) S I L "java/util/NoSuchElementException") (hS : w_is S 0 RX7) : FnH Ω (d + 1) mL_meeting hhL_meeting [.ref (Ω.1 + 0), .int x1, .int x2, .ref (Ω.1 + 100)] S I L (w_pi fun r S' I' L' => r = nI 1 ∧ S' = S ∧ I' = I ∧ L' = L) := by
  refine FnH_of okL_meeting (Nat.le_of_ble_eq_true rfl) fun l z => ?_
  have hE : w_fit d (w_Eh l (d + 1) Ω (w_pi fun r S' I' L' => r = nI 1 ∧ S' = S ∧ I' = I ∧ L' = L) z hhL_meeting) := w_fit_h
  refine V_aload_n 0 3 dL_meeting_0 rfl ?_
  refine V_cst 1 0 dL_meeting_1 rfl ?_
  refine V_aload_n 2 0 dL_meeting_2 rfl ?_
  refine V_iload_n 3 1 dL_meeting_3 rfl ?_
  refine V_iload_n 4 2 dL_meeting_4 rfl ?_
  refine V_caught 5 13 mvL_23 dL_meeting_5 hS hE hF rfl (Nat.le_of_ble_eq_true rfl) ⟨Nat.le_refl _, Nat.le_refl _⟩ rfl (Or.inl ⟨0, 10, 18, [], rfl, by decide, by decide, by decide, clL_18, (List.mem_cons_of_mem _ List.mem_cons_self)⟩) fun q => ?_
  refine V_astore 13 _ dL_meeting_13 (by decide) rfl ?_
  refine V_cst 15 1 dL_meeting_15 rfl ?_
  exact V_hret 16 (Nat.le_refl _) (Nat.le_refl _) dL_meeting_16 rfl ⟨rfl, rfl, rfl, rfl⟩
abbrev hhL_promise : List (Nat × Nat × Nat × Nat) := [(0, 10, 13, 18)]
theorem mhL_91 : w_MH RL 91 mL_promise hhL_promise 4 := w_mh (w_in 741 (by decide +kernel) (by decide +kernel)) (w_in 742 (by decide +kernel) (by decide +kernel)) (w_in 54 (by decide +kernel) (by decide +kernel)) (w_in 743 (by decide +kernel) (by decide +kernel)) ⟨by decide +kernel, by decide +kernel, by decide +kernel, by decide⟩
theorem h_promise {P : Int32 → List w_SC → w_I → w_L → Prop} {x1 x2 : Int32} (hF : FnI Ω d mX7_promise (.ref (Ω.1 + 0) :: [.int x1, .int x2]) S I L P) (hS : w_is S 0 RX7) (hP : ∀ r S' I' L', P r S' I' L' → S'[100]? = some (.inl (3, 1))) : FnH Ω (d + 1) mL_promise hhL_promise [.ref (Ω.1 + 0), .int x1, .int x2, .ref (Ω.1 + 100)] S I L (w_pi fun r S' I' L' => r = nI 0 ∧ ∃ r' L1, P r' S' I' L1 ∧ L' = w_put L1 100 0 (l64 r')) := by
  refine FnH_of okL_promise (Nat.le_of_ble_eq_true rfl) fun l z => ?_
  have hE : w_fit d (w_Eh l (d + 1) Ω (w_pi fun r S' I' L' => r = nI 0 ∧ ∃ r' L1, P r' S' I' L1 ∧ L' = w_put L1 100 0 (l64 r')) z hhL_promise) := w_fit_h
  refine V_aload_n 0 3 dL_promise_0 rfl ?_
  refine V_cst 1 0 dL_promise_1 rfl ?_
  refine V_aload_n 2 0 dL_promise_2 rfl ?_
  refine V_iload_n 3 1 dL_promise_3 rfl ?_
  refine V_iload_n 4 2 dL_promise_4 rfl ?_
  refine V_vi 5 mvL_27 dL_promise_5 hS hE hF rfl (Nat.le_of_ble_eq_true rfl) ?_
  intro r S' I' L' hp
  refine V_i2l 8 dL_promise_8 ?_
  rw [← l64_eq]
  refine V_last 9 dL_promise_9 (hP _ _ _ _ hp) (by decide) (by decide) ?_
  refine V_goto 10 17 dL_promise_10 (by decide) ?_
  refine V_cst 17 0 dL_promise_17 rfl ?_
  exact V_hret 18 (Nat.zero_le _) (Nat.zero_le _) dL_promise_18 rfl ⟨rfl, r, L', hp, rfl⟩
theorem htN_promise {x1 x2 : Int32} (hF : FnT Ω d mX7_promise (.ref (Ω.1 + 0) :: [.int x1, .int x2]) S I L "java/util/NoSuchElementException") (hS : w_is S 0 RX7) : FnH Ω (d + 1) mL_promise hhL_promise [.ref (Ω.1 + 0), .int x1, .int x2, .ref (Ω.1 + 100)] S I L (w_pi fun r S' I' L' => r = nI 1 ∧ S' = S ∧ I' = I ∧ L' = L) := by
  refine FnH_of okL_promise (Nat.le_of_ble_eq_true rfl) fun l z => ?_
  have hE : w_fit d (w_Eh l (d + 1) Ω (w_pi fun r S' I' L' => r = nI 1 ∧ S' = S ∧ I' = I ∧ L' = L) z hhL_promise) := w_fit_h
  refine V_aload_n 0 3 dL_promise_0 rfl ?_
  refine V_cst 1 0 dL_promise_1 rfl ?_
  refine V_aload_n 2 0 dL_promise_2 rfl ?_
  refine V_iload_n 3 1 dL_promise_3 rfl ?_
  refine V_iload_n 4 2 dL_promise_4 rfl ?_
  refine V_caught 5 13 mvL_27 dL_promise_5 hS hE hF rfl (Nat.le_of_ble_eq_true rfl) ⟨Nat.le_refl _, Nat.le_refl _⟩ rfl (Or.inl ⟨0, 10, 18, [], rfl, by decide, by decide, by decide, clL_18, (List.mem_cons_of_mem _ List.mem_cons_self)⟩) fun q => ?_
  refine V_astore 13 _ dL_promise_13 (by decide) rfl ?_
  refine V_cst 15 1 dL_promise_15 rfl ?_
  exact V_hret 16 (Nat.le_refl _) (Nat.le_refl _) dL_promise_16 rfl ⟨rfl, rfl, rfl, rfl⟩
abbrev hhL_say : List (Nat × Nat × Nat × Nat) := [(0, 14, 17, 18)]
theorem mhL_94 : w_MH RL 94 mL_say hhL_say 6 := w_mh (w_in 758 (by decide +kernel) (by decide +kernel)) (w_in 759 (by decide +kernel) (by decide +kernel)) (w_in 54 (by decide +kernel) (by decide +kernel)) (w_in 760 (by decide +kernel) (by decide +kernel)) ⟨by decide +kernel, by decide +kernel, by decide +kernel, by decide⟩
theorem h_say {P : Int32 → List w_SC → w_I → w_L → Prop} {x1 x2 x3 x4 : Int32} (hF : FnI Ω d mX7_say (.ref (Ω.1 + 0) :: [.int x1, .int x2, .int x3, .int x4]) S I L P) (hS : w_is S 0 RX7) (hP : ∀ r S' I' L', P r S' I' L' → S'[100]? = some (.inl (3, 1))) : FnH Ω (d + 1) mL_say hhL_say [.ref (Ω.1 + 0), .int x1, .int x2, .int x3, .int x4, .ref (Ω.1 + 100)] S I L (w_pi fun r S' I' L' => r = nI 0 ∧ ∃ r' L1, P r' S' I' L1 ∧ L' = w_put L1 100 0 (l64 r')) := by
  refine FnH_of okL_say (Nat.le_of_ble_eq_true rfl) fun l z => ?_
  have hE : w_fit d (w_Eh l (d + 1) Ω (w_pi fun r S' I' L' => r = nI 0 ∧ ∃ r' L1, P r' S' I' L1 ∧ L' = w_put L1 100 0 (l64 r')) z hhL_say) := w_fit_h
  refine V_aload 0 5 dL_say_0 rfl ?_
  refine V_cst 2 0 dL_say_2 rfl ?_
  refine V_aload_n 3 0 dL_say_3 rfl ?_
  refine V_iload_n 4 1 dL_say_4 rfl ?_
  refine V_iload_n 5 2 dL_say_5 rfl ?_
  refine V_iload_n 6 3 dL_say_6 rfl ?_
  refine V_iload 7 4 dL_say_7 rfl ?_
  refine V_vi 9 mvL_30 dL_say_9 hS hE hF rfl (Nat.le_of_ble_eq_true rfl) ?_
  intro r S' I' L' hp
  refine V_i2l 12 dL_say_12 ?_
  rw [← l64_eq]
  refine V_last 13 dL_say_13 (hP _ _ _ _ hp) (by decide) (by decide) ?_
  refine V_goto 14 21 dL_say_14 (by decide) ?_
  refine V_cst 21 0 dL_say_21 rfl ?_
  exact V_hret 22 (Nat.zero_le _) (Nat.zero_le _) dL_say_22 rfl ⟨rfl, r, L', hp, rfl⟩
theorem htN_say {x1 x2 x3 x4 : Int32} (hF : FnT Ω d mX7_say (.ref (Ω.1 + 0) :: [.int x1, .int x2, .int x3, .int x4]) S I L "java/util/NoSuchElementException") (hS : w_is S 0 RX7) : FnH Ω (d + 1) mL_say hhL_say [.ref (Ω.1 + 0), .int x1, .int x2, .int x3, .int x4, .ref (Ω.1 + 100)] S I L (w_pi fun r S' I' L' => r = nI 1 ∧ S' = S ∧ I' = I ∧ L' = L) := by
  refine FnH_of okL_say (Nat.le_of_ble_eq_true rfl) fun l z => ?_
  have hE : w_fit d (w_Eh l (d + 1) Ω (w_pi fun r S' I' L' => r = nI 1 ∧ S' = S ∧ I' = I ∧ L' = L) z hhL_say) := w_fit_h
  refine V_aload 0 5 dL_say_0 rfl ?_
  refine V_cst 2 0 dL_say_2 rfl ?_
  refine V_aload_n 3 0 dL_say_3 rfl ?_
  refine V_iload_n 4 1 dL_say_4 rfl ?_
  refine V_iload_n 5 2 dL_say_5 rfl ?_
  refine V_iload_n 6 3 dL_say_6 rfl ?_
  refine V_iload 7 4 dL_say_7 rfl ?_
  refine V_caught 9 17 mvL_30 dL_say_9 hS hE hF rfl (Nat.le_of_ble_eq_true rfl) ⟨Nat.le_refl _, Nat.le_refl _⟩ rfl (Or.inl ⟨0, 14, 18, [], rfl, by decide, by decide, by decide, clL_18, (List.mem_cons_of_mem _ List.mem_cons_self)⟩) fun q => ?_
  refine V_astore 17 _ dL_say_17 (by decide) rfl ?_
  refine V_cst 19 1 dL_say_19 rfl ?_
  exact V_hret 20 (Nat.le_refl _) (Nat.le_refl _) dL_say_20 rfl ⟨rfl, rfl, rfl, rfl⟩
abbrev hhL_days : List (Nat × Nat × Nat × Nat) := [(0, 9, 12, 13)]
theorem mhL_102 : w_MH RL 102 mL_days hhL_days 3 := w_mh (w_in 769 (by decide +kernel) (by decide +kernel)) (w_in 770 (by decide +kernel) (by decide +kernel)) (w_in 54 (by decide +kernel) (by decide +kernel)) (w_in 771 (by decide +kernel) (by decide +kernel)) ⟨by decide +kernel, by decide +kernel, by decide +kernel, by decide⟩
theorem h_days {P : Int32 → List w_SC → w_I → w_L → Prop} {x1 : Int32} (hF : FnI Ω d mX7_days (.ref (Ω.1 + 0) :: [.int x1]) S I L P) (hS : w_is S 0 RX7) (hP : ∀ r S' I' L', P r S' I' L' → S'[100]? = some (.inl (3, 1))) : FnH Ω (d + 1) mL_days hhL_days [.ref (Ω.1 + 0), .int x1, .ref (Ω.1 + 100)] S I L (w_pi fun r S' I' L' => r = nI 0 ∧ ∃ r' L1, P r' S' I' L1 ∧ L' = w_put L1 100 0 (l64 r')) := by
  refine FnH_of okL_days (Nat.le_of_ble_eq_true rfl) fun l z => ?_
  have hE : w_fit d (w_Eh l (d + 1) Ω (w_pi fun r S' I' L' => r = nI 0 ∧ ∃ r' L1, P r' S' I' L1 ∧ L' = w_put L1 100 0 (l64 r')) z hhL_days) := w_fit_h
  refine V_aload_n 0 2 dL_days_0 rfl ?_
  refine V_cst 1 0 dL_days_1 rfl ?_
  refine V_aload_n 2 0 dL_days_2 rfl ?_
  refine V_iload_n 3 1 dL_days_3 rfl ?_
  refine V_vi 4 mvL_34 dL_days_4 hS hE hF rfl (Nat.le_of_ble_eq_true rfl) ?_
  intro r S' I' L' hp
  refine V_i2l 7 dL_days_7 ?_
  rw [← l64_eq]
  refine V_last 8 dL_days_8 (hP _ _ _ _ hp) (by decide) (by decide) ?_
  refine V_goto 9 15 dL_days_9 (by decide) ?_
  refine V_cst 15 0 dL_days_15 rfl ?_
  exact V_hret 16 (Nat.zero_le _) (Nat.zero_le _) dL_days_16 rfl ⟨rfl, r, L', hp, rfl⟩
theorem htI_days {x1 : Int32} (hF : FnT Ω d mX7_days (.ref (Ω.1 + 0) :: [.int x1]) S I L "java/lang/IllegalArgumentException") (hS : w_is S 0 RX7) : FnH Ω (d + 1) mL_days hhL_days [.ref (Ω.1 + 0), .int x1, .ref (Ω.1 + 100)] S I L (w_pi fun r S' I' L' => r = nI 1 ∧ S' = S ∧ I' = I ∧ L' = L) := by
  refine FnH_of okL_days (Nat.le_of_ble_eq_true rfl) fun l z => ?_
  have hE : w_fit d (w_Eh l (d + 1) Ω (w_pi fun r S' I' L' => r = nI 1 ∧ S' = S ∧ I' = I ∧ L' = L) z hhL_days) := w_fit_h
  refine V_aload_n 0 2 dL_days_0 rfl ?_
  refine V_cst 1 0 dL_days_1 rfl ?_
  refine V_aload_n 2 0 dL_days_2 rfl ?_
  refine V_iload_n 3 1 dL_days_3 rfl ?_
  refine V_caught 4 12 mvL_34 dL_days_4 hS hE hF rfl (Nat.le_of_ble_eq_true rfl) ⟨Nat.le_refl _, Nat.le_refl _⟩ rfl (Or.inl ⟨0, 9, 13, [], rfl, by decide, by decide, by decide, clL_13, List.mem_cons_self⟩) fun q => ?_
  refine V_astore_n 12 _ dL_days_12 (by decide) rfl ?_
  refine V_cst 13 1 dL_days_13 rfl ?_
  exact V_hret 14 (Nat.le_refl _) (Nat.le_refl _) dL_days_14 rfl ⟨rfl, rfl, rfl, rfl⟩
abbrev hhL_keep : List (Nat × Nat × Nat × Nat) := [(0, 14, 17, 18), (0, 14, 21, 13)]
theorem mhL_105 : w_MH RL 105 mL_keep hhL_keep 6 := w_mh (w_in 806 (by decide +kernel) (by decide +kernel)) (w_in 807 (by decide +kernel) (by decide +kernel)) (w_in 54 (by decide +kernel) (by decide +kernel)) (w_in 808 (by decide +kernel) (by decide +kernel)) ⟨by decide +kernel, by decide +kernel, by decide +kernel, by decide⟩
theorem h_keep {P : Int32 → List w_SC → w_I → w_L → Prop} {x1 x2 x3 x4 : Int32} (hF : FnI Ω d mX7_keep (.ref (Ω.1 + 0) :: [.int x1, .int x2, .int x3, .int x4]) S I L P) (hS : w_is S 0 RX7) (hP : ∀ r S' I' L', P r S' I' L' → S'[100]? = some (.inl (3, 1))) : FnH Ω (d + 1) mL_keep hhL_keep [.ref (Ω.1 + 0), .int x1, .int x2, .int x3, .int x4, .ref (Ω.1 + 100)] S I L (w_pi fun r S' I' L' => r = nI 0 ∧ ∃ r' L1, P r' S' I' L1 ∧ L' = w_put L1 100 0 (l64 r')) := by
  refine FnH_of okL_keep (Nat.le_of_ble_eq_true rfl) fun l z => ?_
  have hE : w_fit d (w_Eh l (d + 1) Ω (w_pi fun r S' I' L' => r = nI 0 ∧ ∃ r' L1, P r' S' I' L1 ∧ L' = w_put L1 100 0 (l64 r')) z hhL_keep) := w_fit_h
  refine V_aload 0 5 dL_keep_0 rfl ?_
  refine V_cst 2 0 dL_keep_2 rfl ?_
  refine V_aload_n 3 0 dL_keep_3 rfl ?_
  refine V_iload_n 4 1 dL_keep_4 rfl ?_
  refine V_iload_n 5 2 dL_keep_5 rfl ?_
  refine V_iload_n 6 3 dL_keep_6 rfl ?_
  refine V_iload 7 4 dL_keep_7 rfl ?_
  refine V_vi 9 mvL_37 dL_keep_9 hS hE hF rfl (Nat.le_of_ble_eq_true rfl) ?_
  intro r S' I' L' hp
  refine V_i2l 12 dL_keep_12 ?_
  rw [← l64_eq]
  refine V_last 13 dL_keep_13 (hP _ _ _ _ hp) (by decide) (by decide) ?_
  refine V_goto 14 25 dL_keep_14 (by decide) ?_
  refine V_cst 25 0 dL_keep_25 rfl ?_
  exact V_hret 26 (Nat.zero_le _) (Nat.zero_le _) dL_keep_26 rfl ⟨rfl, r, L', hp, rfl⟩
theorem htN_keep {x1 x2 x3 x4 : Int32} (hF : FnT Ω d mX7_keep (.ref (Ω.1 + 0) :: [.int x1, .int x2, .int x3, .int x4]) S I L "java/util/NoSuchElementException") (hS : w_is S 0 RX7) : FnH Ω (d + 1) mL_keep hhL_keep [.ref (Ω.1 + 0), .int x1, .int x2, .int x3, .int x4, .ref (Ω.1 + 100)] S I L (w_pi fun r S' I' L' => r = nI 1 ∧ S' = S ∧ I' = I ∧ L' = L) := by
  refine FnH_of okL_keep (Nat.le_of_ble_eq_true rfl) fun l z => ?_
  have hE : w_fit d (w_Eh l (d + 1) Ω (w_pi fun r S' I' L' => r = nI 1 ∧ S' = S ∧ I' = I ∧ L' = L) z hhL_keep) := w_fit_h
  refine V_aload 0 5 dL_keep_0 rfl ?_
  refine V_cst 2 0 dL_keep_2 rfl ?_
  refine V_aload_n 3 0 dL_keep_3 rfl ?_
  refine V_iload_n 4 1 dL_keep_4 rfl ?_
  refine V_iload_n 5 2 dL_keep_5 rfl ?_
  refine V_iload_n 6 3 dL_keep_6 rfl ?_
  refine V_iload 7 4 dL_keep_7 rfl ?_
  refine V_caught 9 17 mvL_37 dL_keep_9 hS hE hF rfl (Nat.le_of_ble_eq_true rfl) ⟨Nat.le_refl _, Nat.le_refl _⟩ rfl (Or.inl ⟨0, 14, 18, [(0, 14, 21, 13)], rfl, by decide, by decide, by decide, clL_18, (List.mem_cons_of_mem _ List.mem_cons_self)⟩) fun q => ?_
  refine V_astore 17 _ dL_keep_17 (by decide) rfl ?_
  refine V_cst 19 1 dL_keep_19 rfl ?_
  exact V_hret 20 (Nat.le_refl _) (Nat.le_refl _) dL_keep_20 rfl ⟨rfl, rfl, rfl, rfl⟩
theorem htI_keep {x1 x2 x3 x4 : Int32} (hF : FnT Ω d mX7_keep (.ref (Ω.1 + 0) :: [.int x1, .int x2, .int x3, .int x4]) S I L "java/lang/IllegalArgumentException") (hS : w_is S 0 RX7) : FnH Ω (d + 1) mL_keep hhL_keep [.ref (Ω.1 + 0), .int x1, .int x2, .int x3, .int x4, .ref (Ω.1 + 100)] S I L (w_pi fun r S' I' L' => r = nI 2 ∧ S' = S ∧ I' = I ∧ L' = L) := by
  refine FnH_of okL_keep (Nat.le_of_ble_eq_true rfl) fun l z => ?_
  have hE : w_fit d (w_Eh l (d + 1) Ω (w_pi fun r S' I' L' => r = nI 2 ∧ S' = S ∧ I' = I ∧ L' = L) z hhL_keep) := w_fit_h
  refine V_aload 0 5 dL_keep_0 rfl ?_
  refine V_cst 2 0 dL_keep_2 rfl ?_
  refine V_aload_n 3 0 dL_keep_3 rfl ?_
  refine V_iload_n 4 1 dL_keep_4 rfl ?_
  refine V_iload_n 5 2 dL_keep_5 rfl ?_
  refine V_iload_n 6 3 dL_keep_6 rfl ?_
  refine V_iload 7 4 dL_keep_7 rfl ?_
  refine V_caught 9 21 mvL_37 dL_keep_9 hS hE hF rfl (Nat.le_of_ble_eq_true rfl) ⟨Nat.le_refl _, Nat.le_refl _⟩ rfl (Or.inr ⟨0, 14, 13, 0, 14, 17, 18, [], rfl, by decide, by decide, by decide, clL_18, by decide, by decide, by decide, clL_13, List.mem_cons_self, rfl⟩) fun q => ?_
  refine V_astore 21 _ dL_keep_21 (by decide) rfl ?_
  refine V_cst 23 2 dL_keep_23 rfl ?_
  exact V_hret 24 (Nat.le_refl _) (Nat.le_refl _) dL_keep_24 rfl ⟨rfl, rfl, rfl, rfl⟩
abbrev hhL_kept : List (Nat × Nat × Nat × Nat) := [(0, 9, 12, 18)]
theorem mhL_108 : w_MH RL 108 mL_kept hhL_kept 3 := w_mh (w_in 864 (by decide +kernel) (by decide +kernel)) (w_in 865 (by decide +kernel) (by decide +kernel)) (w_in 54 (by decide +kernel) (by decide +kernel)) (w_in 866 (by decide +kernel) (by decide +kernel)) ⟨by decide +kernel, by decide +kernel, by decide +kernel, by decide⟩
theorem h_kept {P : Int32 → List w_SC → w_I → w_L → Prop} {x1 : Int32} (hF : FnI Ω d mX7_kept (.ref (Ω.1 + 0) :: [.int x1]) S I L P) (hS : w_is S 0 RX7) (hP : ∀ r S' I' L', P r S' I' L' → S'[100]? = some (.inl (3, 1))) : FnH Ω (d + 1) mL_kept hhL_kept [.ref (Ω.1 + 0), .int x1, .ref (Ω.1 + 100)] S I L (w_pi fun r S' I' L' => r = nI 0 ∧ ∃ r' L1, P r' S' I' L1 ∧ L' = w_put L1 100 0 (l64 r')) := by
  refine FnH_of okL_kept (Nat.le_of_ble_eq_true rfl) fun l z => ?_
  have hE : w_fit d (w_Eh l (d + 1) Ω (w_pi fun r S' I' L' => r = nI 0 ∧ ∃ r' L1, P r' S' I' L1 ∧ L' = w_put L1 100 0 (l64 r')) z hhL_kept) := w_fit_h
  refine V_aload_n 0 2 dL_kept_0 rfl ?_
  refine V_cst 1 0 dL_kept_1 rfl ?_
  refine V_aload_n 2 0 dL_kept_2 rfl ?_
  refine V_iload_n 3 1 dL_kept_3 rfl ?_
  refine V_vi 4 mvL_40 dL_kept_4 hS hE hF rfl (Nat.le_of_ble_eq_true rfl) ?_
  intro r S' I' L' hp
  refine V_i2l 7 dL_kept_7 ?_
  rw [← l64_eq]
  refine V_last 8 dL_kept_8 (hP _ _ _ _ hp) (by decide) (by decide) ?_
  refine V_goto 9 15 dL_kept_9 (by decide) ?_
  refine V_cst 15 0 dL_kept_15 rfl ?_
  exact V_hret 16 (Nat.zero_le _) (Nat.zero_le _) dL_kept_16 rfl ⟨rfl, r, L', hp, rfl⟩
theorem htN_kept {x1 : Int32} (hF : FnT Ω d mX7_kept (.ref (Ω.1 + 0) :: [.int x1]) S I L "java/util/NoSuchElementException") (hS : w_is S 0 RX7) : FnH Ω (d + 1) mL_kept hhL_kept [.ref (Ω.1 + 0), .int x1, .ref (Ω.1 + 100)] S I L (w_pi fun r S' I' L' => r = nI 1 ∧ S' = S ∧ I' = I ∧ L' = L) := by
  refine FnH_of okL_kept (Nat.le_of_ble_eq_true rfl) fun l z => ?_
  have hE : w_fit d (w_Eh l (d + 1) Ω (w_pi fun r S' I' L' => r = nI 1 ∧ S' = S ∧ I' = I ∧ L' = L) z hhL_kept) := w_fit_h
  refine V_aload_n 0 2 dL_kept_0 rfl ?_
  refine V_cst 1 0 dL_kept_1 rfl ?_
  refine V_aload_n 2 0 dL_kept_2 rfl ?_
  refine V_iload_n 3 1 dL_kept_3 rfl ?_
  refine V_caught 4 12 mvL_40 dL_kept_4 hS hE hF rfl (Nat.le_of_ble_eq_true rfl) ⟨Nat.le_refl _, Nat.le_refl _⟩ rfl (Or.inl ⟨0, 9, 18, [], rfl, by decide, by decide, by decide, clL_18, (List.mem_cons_of_mem _ List.mem_cons_self)⟩) fun q => ?_
  refine V_astore_n 12 _ dL_kept_12 (by decide) rfl ?_
  refine V_cst 13 1 dL_kept_13 rfl ?_
  exact V_hret 14 (Nat.le_refl _) (Nat.le_refl _) dL_kept_14 rfl ⟨rfl, rfl, rfl, rfl⟩
abbrev hhL_silence : List (Nat × Nat × Nat × Nat) := [(0, 10, 13, 18), (0, 10, 17, 13)]
theorem mhL_111 : w_MH RL 111 mL_silence hhL_silence 4 := w_mh (w_in 872 (by decide +kernel) (by decide +kernel)) (w_in 873 (by decide +kernel) (by decide +kernel)) (w_in 54 (by decide +kernel) (by decide +kernel)) (w_in 874 (by decide +kernel) (by decide +kernel)) ⟨by decide +kernel, by decide +kernel, by decide +kernel, by decide⟩
theorem h_silence {P : Int32 → List w_SC → w_I → w_L → Prop} {x1 x2 : Int32} (hF : FnI Ω d mX7_silence (.ref (Ω.1 + 0) :: [.int x1, .int x2]) S I L P) (hS : w_is S 0 RX7) (hP : ∀ r S' I' L', P r S' I' L' → S'[100]? = some (.inl (3, 1))) : FnH Ω (d + 1) mL_silence hhL_silence [.ref (Ω.1 + 0), .int x1, .int x2, .ref (Ω.1 + 100)] S I L (w_pi fun r S' I' L' => r = nI 0 ∧ ∃ r' L1, P r' S' I' L1 ∧ L' = w_put L1 100 0 (l64 r')) := by
  refine FnH_of okL_silence (Nat.le_of_ble_eq_true rfl) fun l z => ?_
  have hE : w_fit d (w_Eh l (d + 1) Ω (w_pi fun r S' I' L' => r = nI 0 ∧ ∃ r' L1, P r' S' I' L1 ∧ L' = w_put L1 100 0 (l64 r')) z hhL_silence) := w_fit_h
  refine V_aload_n 0 3 dL_silence_0 rfl ?_
  refine V_cst 1 0 dL_silence_1 rfl ?_
  refine V_aload_n 2 0 dL_silence_2 rfl ?_
  refine V_iload_n 3 1 dL_silence_3 rfl ?_
  refine V_iload_n 4 2 dL_silence_4 rfl ?_
  refine V_vi 5 mvL_43 dL_silence_5 hS hE hF rfl (Nat.le_of_ble_eq_true rfl) ?_
  intro r S' I' L' hp
  refine V_i2l 8 dL_silence_8 ?_
  rw [← l64_eq]
  refine V_last 9 dL_silence_9 (hP _ _ _ _ hp) (by decide) (by decide) ?_
  refine V_goto 10 21 dL_silence_10 (by decide) ?_
  refine V_cst 21 0 dL_silence_21 rfl ?_
  exact V_hret 22 (Nat.zero_le _) (Nat.zero_le _) dL_silence_22 rfl ⟨rfl, r, L', hp, rfl⟩
theorem htN_silence {x1 x2 : Int32} (hF : FnT Ω d mX7_silence (.ref (Ω.1 + 0) :: [.int x1, .int x2]) S I L "java/util/NoSuchElementException") (hS : w_is S 0 RX7) : FnH Ω (d + 1) mL_silence hhL_silence [.ref (Ω.1 + 0), .int x1, .int x2, .ref (Ω.1 + 100)] S I L (w_pi fun r S' I' L' => r = nI 1 ∧ S' = S ∧ I' = I ∧ L' = L) := by
  refine FnH_of okL_silence (Nat.le_of_ble_eq_true rfl) fun l z => ?_
  have hE : w_fit d (w_Eh l (d + 1) Ω (w_pi fun r S' I' L' => r = nI 1 ∧ S' = S ∧ I' = I ∧ L' = L) z hhL_silence) := w_fit_h
  refine V_aload_n 0 3 dL_silence_0 rfl ?_
  refine V_cst 1 0 dL_silence_1 rfl ?_
  refine V_aload_n 2 0 dL_silence_2 rfl ?_
  refine V_iload_n 3 1 dL_silence_3 rfl ?_
  refine V_iload_n 4 2 dL_silence_4 rfl ?_
  refine V_caught 5 13 mvL_43 dL_silence_5 hS hE hF rfl (Nat.le_of_ble_eq_true rfl) ⟨Nat.le_refl _, Nat.le_refl _⟩ rfl (Or.inl ⟨0, 10, 18, [(0, 10, 17, 13)], rfl, by decide, by decide, by decide, clL_18, (List.mem_cons_of_mem _ List.mem_cons_self)⟩) fun q => ?_
  refine V_astore 13 _ dL_silence_13 (by decide) rfl ?_
  refine V_cst 15 1 dL_silence_15 rfl ?_
  exact V_hret 16 (Nat.le_refl _) (Nat.le_refl _) dL_silence_16 rfl ⟨rfl, rfl, rfl, rfl⟩
theorem htI_silence {x1 x2 : Int32} (hF : FnT Ω d mX7_silence (.ref (Ω.1 + 0) :: [.int x1, .int x2]) S I L "java/lang/IllegalArgumentException") (hS : w_is S 0 RX7) : FnH Ω (d + 1) mL_silence hhL_silence [.ref (Ω.1 + 0), .int x1, .int x2, .ref (Ω.1 + 100)] S I L (w_pi fun r S' I' L' => r = nI 2 ∧ S' = S ∧ I' = I ∧ L' = L) := by
  refine FnH_of okL_silence (Nat.le_of_ble_eq_true rfl) fun l z => ?_
  have hE : w_fit d (w_Eh l (d + 1) Ω (w_pi fun r S' I' L' => r = nI 2 ∧ S' = S ∧ I' = I ∧ L' = L) z hhL_silence) := w_fit_h
  refine V_aload_n 0 3 dL_silence_0 rfl ?_
  refine V_cst 1 0 dL_silence_1 rfl ?_
  refine V_aload_n 2 0 dL_silence_2 rfl ?_
  refine V_iload_n 3 1 dL_silence_3 rfl ?_
  refine V_iload_n 4 2 dL_silence_4 rfl ?_
  refine V_caught 5 17 mvL_43 dL_silence_5 hS hE hF rfl (Nat.le_of_ble_eq_true rfl) ⟨Nat.le_refl _, Nat.le_refl _⟩ rfl (Or.inr ⟨0, 10, 13, 0, 10, 13, 18, [], rfl, by decide, by decide, by decide, clL_18, by decide, by decide, by decide, clL_13, List.mem_cons_self, rfl⟩) fun q => ?_
  refine V_astore 17 _ dL_silence_17 (by decide) rfl ?_
  refine V_cst 19 2 dL_silence_19 rfl ?_
  exact V_hret 20 (Nat.le_refl _) (Nat.le_refl _) dL_silence_20 rfl ⟨rfl, rfl, rfl, rfl⟩
abbrev hhL_stands : List (Nat × Nat × Nat × Nat) := [(0, 10, 13, 18), (0, 10, 17, 13)]
theorem mhL_114 : w_MH RL 114 mL_stands hhL_stands 4 := w_mh (w_in 883 (by decide +kernel) (by decide +kernel)) (w_in 884 (by decide +kernel) (by decide +kernel)) (w_in 54 (by decide +kernel) (by decide +kernel)) (w_in 885 (by decide +kernel) (by decide +kernel)) ⟨by decide +kernel, by decide +kernel, by decide +kernel, by decide⟩
theorem h_stands {P : Int32 → List w_SC → w_I → w_L → Prop} {x1 x2 : Int32} (hF : FnI Ω d mX7_stands (.ref (Ω.1 + 0) :: [.int x1, .int x2]) S I L P) (hS : w_is S 0 RX7) (hP : ∀ r S' I' L', P r S' I' L' → S'[100]? = some (.inl (3, 1))) : FnH Ω (d + 1) mL_stands hhL_stands [.ref (Ω.1 + 0), .int x1, .int x2, .ref (Ω.1 + 100)] S I L (w_pi fun r S' I' L' => r = nI 0 ∧ ∃ r' L1, P r' S' I' L1 ∧ L' = w_put L1 100 0 (l64 r')) := by
  refine FnH_of okL_stands (Nat.le_of_ble_eq_true rfl) fun l z => ?_
  have hE : w_fit d (w_Eh l (d + 1) Ω (w_pi fun r S' I' L' => r = nI 0 ∧ ∃ r' L1, P r' S' I' L1 ∧ L' = w_put L1 100 0 (l64 r')) z hhL_stands) := w_fit_h
  refine V_aload_n 0 3 dL_stands_0 rfl ?_
  refine V_cst 1 0 dL_stands_1 rfl ?_
  refine V_aload_n 2 0 dL_stands_2 rfl ?_
  refine V_iload_n 3 1 dL_stands_3 rfl ?_
  refine V_iload_n 4 2 dL_stands_4 rfl ?_
  refine V_vi 5 mvL_46 dL_stands_5 hS hE hF rfl (Nat.le_of_ble_eq_true rfl) ?_
  intro r S' I' L' hp
  refine V_i2l 8 dL_stands_8 ?_
  rw [← l64_eq]
  refine V_last 9 dL_stands_9 (hP _ _ _ _ hp) (by decide) (by decide) ?_
  refine V_goto 10 21 dL_stands_10 (by decide) ?_
  refine V_cst 21 0 dL_stands_21 rfl ?_
  exact V_hret 22 (Nat.zero_le _) (Nat.zero_le _) dL_stands_22 rfl ⟨rfl, r, L', hp, rfl⟩
theorem htN_stands {x1 x2 : Int32} (hF : FnT Ω d mX7_stands (.ref (Ω.1 + 0) :: [.int x1, .int x2]) S I L "java/util/NoSuchElementException") (hS : w_is S 0 RX7) : FnH Ω (d + 1) mL_stands hhL_stands [.ref (Ω.1 + 0), .int x1, .int x2, .ref (Ω.1 + 100)] S I L (w_pi fun r S' I' L' => r = nI 1 ∧ S' = S ∧ I' = I ∧ L' = L) := by
  refine FnH_of okL_stands (Nat.le_of_ble_eq_true rfl) fun l z => ?_
  have hE : w_fit d (w_Eh l (d + 1) Ω (w_pi fun r S' I' L' => r = nI 1 ∧ S' = S ∧ I' = I ∧ L' = L) z hhL_stands) := w_fit_h
  refine V_aload_n 0 3 dL_stands_0 rfl ?_
  refine V_cst 1 0 dL_stands_1 rfl ?_
  refine V_aload_n 2 0 dL_stands_2 rfl ?_
  refine V_iload_n 3 1 dL_stands_3 rfl ?_
  refine V_iload_n 4 2 dL_stands_4 rfl ?_
  refine V_caught 5 13 mvL_46 dL_stands_5 hS hE hF rfl (Nat.le_of_ble_eq_true rfl) ⟨Nat.le_refl _, Nat.le_refl _⟩ rfl (Or.inl ⟨0, 10, 18, [(0, 10, 17, 13)], rfl, by decide, by decide, by decide, clL_18, (List.mem_cons_of_mem _ List.mem_cons_self)⟩) fun q => ?_
  refine V_astore 13 _ dL_stands_13 (by decide) rfl ?_
  refine V_cst 15 1 dL_stands_15 rfl ?_
  exact V_hret 16 (Nat.le_refl _) (Nat.le_refl _) dL_stands_16 rfl ⟨rfl, rfl, rfl, rfl⟩
theorem htI_stands {x1 x2 : Int32} (hF : FnT Ω d mX7_stands (.ref (Ω.1 + 0) :: [.int x1, .int x2]) S I L "java/lang/IllegalArgumentException") (hS : w_is S 0 RX7) : FnH Ω (d + 1) mL_stands hhL_stands [.ref (Ω.1 + 0), .int x1, .int x2, .ref (Ω.1 + 100)] S I L (w_pi fun r S' I' L' => r = nI 2 ∧ S' = S ∧ I' = I ∧ L' = L) := by
  refine FnH_of okL_stands (Nat.le_of_ble_eq_true rfl) fun l z => ?_
  have hE : w_fit d (w_Eh l (d + 1) Ω (w_pi fun r S' I' L' => r = nI 2 ∧ S' = S ∧ I' = I ∧ L' = L) z hhL_stands) := w_fit_h
  refine V_aload_n 0 3 dL_stands_0 rfl ?_
  refine V_cst 1 0 dL_stands_1 rfl ?_
  refine V_aload_n 2 0 dL_stands_2 rfl ?_
  refine V_iload_n 3 1 dL_stands_3 rfl ?_
  refine V_iload_n 4 2 dL_stands_4 rfl ?_
  refine V_caught 5 17 mvL_46 dL_stands_5 hS hE hF rfl (Nat.le_of_ble_eq_true rfl) ⟨Nat.le_refl _, Nat.le_refl _⟩ rfl (Or.inr ⟨0, 10, 13, 0, 10, 13, 18, [], rfl, by decide, by decide, by decide, clL_18, by decide, by decide, by decide, clL_13, List.mem_cons_self, rfl⟩) fun q => ?_
  refine V_astore 17 _ dL_stands_17 (by decide) rfl ?_
  refine V_cst 19 2 dL_stands_19 rfl ?_
  exact V_hret 20 (Nat.le_refl _) (Nat.le_refl _) dL_stands_20 rfl ⟨rfl, rfl, rfl, rfl⟩
abbrev hhL_pairs : List (Nat × Nat × Nat × Nat) := [(0, 10, 13, 18), (0, 10, 17, 13)]
theorem mhL_117 : w_MH RL 117 mL_pairs hhL_pairs 4 := w_mh (w_in 890 (by decide +kernel) (by decide +kernel)) (w_in 891 (by decide +kernel) (by decide +kernel)) (w_in 54 (by decide +kernel) (by decide +kernel)) (w_in 892 (by decide +kernel) (by decide +kernel)) ⟨by decide +kernel, by decide +kernel, by decide +kernel, by decide⟩
theorem h_pairs {P : Int32 → List w_SC → w_I → w_L → Prop} {x1 x2 : Int32} (hF : FnI Ω d mX7_pairs (.ref (Ω.1 + 0) :: [.int x1, .int x2]) S I L P) (hS : w_is S 0 RX7) (hP : ∀ r S' I' L', P r S' I' L' → S'[100]? = some (.inl (3, 1))) : FnH Ω (d + 1) mL_pairs hhL_pairs [.ref (Ω.1 + 0), .int x1, .int x2, .ref (Ω.1 + 100)] S I L (w_pi fun r S' I' L' => r = nI 0 ∧ ∃ r' L1, P r' S' I' L1 ∧ L' = w_put L1 100 0 (l64 r')) := by
  refine FnH_of okL_pairs (Nat.le_of_ble_eq_true rfl) fun l z => ?_
  have hE : w_fit d (w_Eh l (d + 1) Ω (w_pi fun r S' I' L' => r = nI 0 ∧ ∃ r' L1, P r' S' I' L1 ∧ L' = w_put L1 100 0 (l64 r')) z hhL_pairs) := w_fit_h
  refine V_aload_n 0 3 dL_pairs_0 rfl ?_
  refine V_cst 1 0 dL_pairs_1 rfl ?_
  refine V_aload_n 2 0 dL_pairs_2 rfl ?_
  refine V_iload_n 3 1 dL_pairs_3 rfl ?_
  refine V_iload_n 4 2 dL_pairs_4 rfl ?_
  refine V_vi 5 mvL_49 dL_pairs_5 hS hE hF rfl (Nat.le_of_ble_eq_true rfl) ?_
  intro r S' I' L' hp
  refine V_i2l 8 dL_pairs_8 ?_
  rw [← l64_eq]
  refine V_last 9 dL_pairs_9 (hP _ _ _ _ hp) (by decide) (by decide) ?_
  refine V_goto 10 21 dL_pairs_10 (by decide) ?_
  refine V_cst 21 0 dL_pairs_21 rfl ?_
  exact V_hret 22 (Nat.zero_le _) (Nat.zero_le _) dL_pairs_22 rfl ⟨rfl, r, L', hp, rfl⟩
theorem htN_pairs {x1 x2 : Int32} (hF : FnT Ω d mX7_pairs (.ref (Ω.1 + 0) :: [.int x1, .int x2]) S I L "java/util/NoSuchElementException") (hS : w_is S 0 RX7) : FnH Ω (d + 1) mL_pairs hhL_pairs [.ref (Ω.1 + 0), .int x1, .int x2, .ref (Ω.1 + 100)] S I L (w_pi fun r S' I' L' => r = nI 1 ∧ S' = S ∧ I' = I ∧ L' = L) := by
  refine FnH_of okL_pairs (Nat.le_of_ble_eq_true rfl) fun l z => ?_
  have hE : w_fit d (w_Eh l (d + 1) Ω (w_pi fun r S' I' L' => r = nI 1 ∧ S' = S ∧ I' = I ∧ L' = L) z hhL_pairs) := w_fit_h
  refine V_aload_n 0 3 dL_pairs_0 rfl ?_
  refine V_cst 1 0 dL_pairs_1 rfl ?_
  refine V_aload_n 2 0 dL_pairs_2 rfl ?_
  refine V_iload_n 3 1 dL_pairs_3 rfl ?_
  refine V_iload_n 4 2 dL_pairs_4 rfl ?_
  refine V_caught 5 13 mvL_49 dL_pairs_5 hS hE hF rfl (Nat.le_of_ble_eq_true rfl) ⟨Nat.le_refl _, Nat.le_refl _⟩ rfl (Or.inl ⟨0, 10, 18, [(0, 10, 17, 13)], rfl, by decide, by decide, by decide, clL_18, (List.mem_cons_of_mem _ List.mem_cons_self)⟩) fun q => ?_
  refine V_astore 13 _ dL_pairs_13 (by decide) rfl ?_
  refine V_cst 15 1 dL_pairs_15 rfl ?_
  exact V_hret 16 (Nat.le_refl _) (Nat.le_refl _) dL_pairs_16 rfl ⟨rfl, rfl, rfl, rfl⟩
theorem htI_pairs {x1 x2 : Int32} (hF : FnT Ω d mX7_pairs (.ref (Ω.1 + 0) :: [.int x1, .int x2]) S I L "java/lang/IllegalArgumentException") (hS : w_is S 0 RX7) : FnH Ω (d + 1) mL_pairs hhL_pairs [.ref (Ω.1 + 0), .int x1, .int x2, .ref (Ω.1 + 100)] S I L (w_pi fun r S' I' L' => r = nI 2 ∧ S' = S ∧ I' = I ∧ L' = L) := by
  refine FnH_of okL_pairs (Nat.le_of_ble_eq_true rfl) fun l z => ?_
  have hE : w_fit d (w_Eh l (d + 1) Ω (w_pi fun r S' I' L' => r = nI 2 ∧ S' = S ∧ I' = I ∧ L' = L) z hhL_pairs) := w_fit_h
  refine V_aload_n 0 3 dL_pairs_0 rfl ?_
  refine V_cst 1 0 dL_pairs_1 rfl ?_
  refine V_aload_n 2 0 dL_pairs_2 rfl ?_
  refine V_iload_n 3 1 dL_pairs_3 rfl ?_
  refine V_iload_n 4 2 dL_pairs_4 rfl ?_
  refine V_caught 5 17 mvL_49 dL_pairs_5 hS hE hF rfl (Nat.le_of_ble_eq_true rfl) ⟨Nat.le_refl _, Nat.le_refl _⟩ rfl (Or.inr ⟨0, 10, 13, 0, 10, 13, 18, [], rfl, by decide, by decide, by decide, clL_18, by decide, by decide, by decide, clL_13, List.mem_cons_self, rfl⟩) fun q => ?_
  refine V_astore 17 _ dL_pairs_17 (by decide) rfl ?_
  refine V_cst 19 2 dL_pairs_19 rfl ?_
  exact V_hret 20 (Nat.le_refl _) (Nat.le_refl _) dL_pairs_20 rfl ⟨rfl, rfl, rfl, rfl⟩
abbrev hhL_tale : List (Nat × Nat × Nat × Nat) := [(0, 14, 17, 18)]
theorem mhL_120 : w_MH RL 120 mL_tale hhL_tale 6 := w_mh (w_in 897 (by decide +kernel) (by decide +kernel)) (w_in 898 (by decide +kernel) (by decide +kernel)) (w_in 54 (by decide +kernel) (by decide +kernel)) (w_in 899 (by decide +kernel) (by decide +kernel)) ⟨by decide +kernel, by decide +kernel, by decide +kernel, by decide⟩
theorem h_tale {P : Int32 → List w_SC → w_I → w_L → Prop} {x1 x2 x3 x4 : Int32} (hF : FnI Ω d mX7_tale (.ref (Ω.1 + 0) :: [.int x1, .int x2, .int x3, .int x4]) S I L P) (hS : w_is S 0 RX7) (hP : ∀ r S' I' L', P r S' I' L' → S'[100]? = some (.inl (3, 1))) : FnH Ω (d + 1) mL_tale hhL_tale [.ref (Ω.1 + 0), .int x1, .int x2, .int x3, .int x4, .ref (Ω.1 + 100)] S I L (w_pi fun r S' I' L' => r = nI 0 ∧ ∃ r' L1, P r' S' I' L1 ∧ L' = w_put L1 100 0 (l64 r')) := by
  refine FnH_of okL_tale (Nat.le_of_ble_eq_true rfl) fun l z => ?_
  have hE : w_fit d (w_Eh l (d + 1) Ω (w_pi fun r S' I' L' => r = nI 0 ∧ ∃ r' L1, P r' S' I' L1 ∧ L' = w_put L1 100 0 (l64 r')) z hhL_tale) := w_fit_h
  refine V_aload 0 5 dL_tale_0 rfl ?_
  refine V_cst 2 0 dL_tale_2 rfl ?_
  refine V_aload_n 3 0 dL_tale_3 rfl ?_
  refine V_iload_n 4 1 dL_tale_4 rfl ?_
  refine V_iload_n 5 2 dL_tale_5 rfl ?_
  refine V_iload_n 6 3 dL_tale_6 rfl ?_
  refine V_iload 7 4 dL_tale_7 rfl ?_
  refine V_vi 9 mvL_52 dL_tale_9 hS hE hF rfl (Nat.le_of_ble_eq_true rfl) ?_
  intro r S' I' L' hp
  refine V_i2l 12 dL_tale_12 ?_
  rw [← l64_eq]
  refine V_last 13 dL_tale_13 (hP _ _ _ _ hp) (by decide) (by decide) ?_
  refine V_goto 14 21 dL_tale_14 (by decide) ?_
  refine V_cst 21 0 dL_tale_21 rfl ?_
  exact V_hret 22 (Nat.zero_le _) (Nat.zero_le _) dL_tale_22 rfl ⟨rfl, r, L', hp, rfl⟩
theorem htN_tale {x1 x2 x3 x4 : Int32} (hF : FnT Ω d mX7_tale (.ref (Ω.1 + 0) :: [.int x1, .int x2, .int x3, .int x4]) S I L "java/util/NoSuchElementException") (hS : w_is S 0 RX7) : FnH Ω (d + 1) mL_tale hhL_tale [.ref (Ω.1 + 0), .int x1, .int x2, .int x3, .int x4, .ref (Ω.1 + 100)] S I L (w_pi fun r S' I' L' => r = nI 1 ∧ S' = S ∧ I' = I ∧ L' = L) := by
  refine FnH_of okL_tale (Nat.le_of_ble_eq_true rfl) fun l z => ?_
  have hE : w_fit d (w_Eh l (d + 1) Ω (w_pi fun r S' I' L' => r = nI 1 ∧ S' = S ∧ I' = I ∧ L' = L) z hhL_tale) := w_fit_h
  refine V_aload 0 5 dL_tale_0 rfl ?_
  refine V_cst 2 0 dL_tale_2 rfl ?_
  refine V_aload_n 3 0 dL_tale_3 rfl ?_
  refine V_iload_n 4 1 dL_tale_4 rfl ?_
  refine V_iload_n 5 2 dL_tale_5 rfl ?_
  refine V_iload_n 6 3 dL_tale_6 rfl ?_
  refine V_iload 7 4 dL_tale_7 rfl ?_
  refine V_caught 9 17 mvL_52 dL_tale_9 hS hE hF rfl (Nat.le_of_ble_eq_true rfl) ⟨Nat.le_refl _, Nat.le_refl _⟩ rfl (Or.inl ⟨0, 14, 18, [], rfl, by decide, by decide, by decide, clL_18, (List.mem_cons_of_mem _ List.mem_cons_self)⟩) fun q => ?_
  refine V_astore 17 _ dL_tale_17 (by decide) rfl ?_
  refine V_cst 19 1 dL_tale_19 rfl ?_
  exact V_hret 20 (Nat.le_refl _) (Nat.le_refl _) dL_tale_20 rfl ⟨rfl, rfl, rfl, rfl⟩
abbrev hhL_lacks : List (Nat × Nat × Nat × Nat) := [(0, 14, 17, 18)]
theorem mhL_123 : w_MH RL 123 mL_lacks hhL_lacks 6 := w_mh (w_in 940 (by decide +kernel) (by decide +kernel)) (w_in 941 (by decide +kernel) (by decide +kernel)) (w_in 54 (by decide +kernel) (by decide +kernel)) (w_in 942 (by decide +kernel) (by decide +kernel)) ⟨by decide +kernel, by decide +kernel, by decide +kernel, by decide⟩
theorem h_lacks {P : Int32 → List w_SC → w_I → w_L → Prop} {x1 x2 x3 x4 : Int32} (hF : FnI Ω d mX7_lacks (.ref (Ω.1 + 0) :: [.int x1, .int x2, .int x3, .int x4]) S I L P) (hS : w_is S 0 RX7) (hP : ∀ r S' I' L', P r S' I' L' → S'[100]? = some (.inl (3, 1))) : FnH Ω (d + 1) mL_lacks hhL_lacks [.ref (Ω.1 + 0), .int x1, .int x2, .int x3, .int x4, .ref (Ω.1 + 100)] S I L (w_pi fun r S' I' L' => r = nI 0 ∧ ∃ r' L1, P r' S' I' L1 ∧ L' = w_put L1 100 0 (l64 r')) := by
  refine FnH_of okL_lacks (Nat.le_of_ble_eq_true rfl) fun l z => ?_
  have hE : w_fit d (w_Eh l (d + 1) Ω (w_pi fun r S' I' L' => r = nI 0 ∧ ∃ r' L1, P r' S' I' L1 ∧ L' = w_put L1 100 0 (l64 r')) z hhL_lacks) := w_fit_h
  refine V_aload 0 5 dL_lacks_0 rfl ?_
  refine V_cst 2 0 dL_lacks_2 rfl ?_
  refine V_aload_n 3 0 dL_lacks_3 rfl ?_
  refine V_iload_n 4 1 dL_lacks_4 rfl ?_
  refine V_iload_n 5 2 dL_lacks_5 rfl ?_
  refine V_iload_n 6 3 dL_lacks_6 rfl ?_
  refine V_iload 7 4 dL_lacks_7 rfl ?_
  refine V_vi 9 mvL_55 dL_lacks_9 hS hE hF rfl (Nat.le_of_ble_eq_true rfl) ?_
  intro r S' I' L' hp
  refine V_i2l 12 dL_lacks_12 ?_
  rw [← l64_eq]
  refine V_last 13 dL_lacks_13 (hP _ _ _ _ hp) (by decide) (by decide) ?_
  refine V_goto 14 21 dL_lacks_14 (by decide) ?_
  refine V_cst 21 0 dL_lacks_21 rfl ?_
  exact V_hret 22 (Nat.zero_le _) (Nat.zero_le _) dL_lacks_22 rfl ⟨rfl, r, L', hp, rfl⟩
theorem htN_lacks {x1 x2 x3 x4 : Int32} (hF : FnT Ω d mX7_lacks (.ref (Ω.1 + 0) :: [.int x1, .int x2, .int x3, .int x4]) S I L "java/util/NoSuchElementException") (hS : w_is S 0 RX7) : FnH Ω (d + 1) mL_lacks hhL_lacks [.ref (Ω.1 + 0), .int x1, .int x2, .int x3, .int x4, .ref (Ω.1 + 100)] S I L (w_pi fun r S' I' L' => r = nI 1 ∧ S' = S ∧ I' = I ∧ L' = L) := by
  refine FnH_of okL_lacks (Nat.le_of_ble_eq_true rfl) fun l z => ?_
  have hE : w_fit d (w_Eh l (d + 1) Ω (w_pi fun r S' I' L' => r = nI 1 ∧ S' = S ∧ I' = I ∧ L' = L) z hhL_lacks) := w_fit_h
  refine V_aload 0 5 dL_lacks_0 rfl ?_
  refine V_cst 2 0 dL_lacks_2 rfl ?_
  refine V_aload_n 3 0 dL_lacks_3 rfl ?_
  refine V_iload_n 4 1 dL_lacks_4 rfl ?_
  refine V_iload_n 5 2 dL_lacks_5 rfl ?_
  refine V_iload_n 6 3 dL_lacks_6 rfl ?_
  refine V_iload 7 4 dL_lacks_7 rfl ?_
  refine V_caught 9 17 mvL_55 dL_lacks_9 hS hE hF rfl (Nat.le_of_ble_eq_true rfl) ⟨Nat.le_refl _, Nat.le_refl _⟩ rfl (Or.inl ⟨0, 14, 18, [], rfl, by decide, by decide, by decide, clL_18, (List.mem_cons_of_mem _ List.mem_cons_self)⟩) fun q => ?_
  refine V_astore 17 _ dL_lacks_17 (by decide) rfl ?_
  refine V_cst 19 1 dL_lacks_19 rfl ?_
  exact V_hret 20 (Nat.le_refl _) (Nat.le_refl _) dL_lacks_20 rfl ⟨rfl, rfl, rfl, rfl⟩
end
