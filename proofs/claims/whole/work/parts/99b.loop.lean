/-! THE LAW'S WALK -/
section
variable {nm : String} {E : w_E} {Ω : w_O}
theorem L_body {c : Nat} (hE : w_fit 90 E) (hr : 600 ≤ E.2.1.cells ∧ 300000 ≤ E.2.1.slots) (hc : c ≤ 64) (hl : 6 * c + 6 ≤ Ω.2.2.2.1.2.1) (h31 : Ω.2.2.2.1.2.1 < 2 ^ 31) (hn : ∀ k n S I L, LJ (c + 1) k n S I → V (mLaw nm) E Ω k n S I L 1243 (ll Ω c []) []) : ∀ k n S I L, LJ c k n S I → V (mLaw nm) E Ω k n S I L 33 (ll Ω c []) [] := by
  intro k n S I L hJ
  refine V_aload_n 33 0 dL_law_33 rfl ?_
  refine V_iload 34 4 dL_law_34 rfl ?_
  refine V_sld 36 dL_law_36 (by omega) h31 ?_
  rw [← nI_back (Ω.2.2.2.1.2.2 (6 * c))]
  refine V_bip 37 31 dL_law_37 rfl ?_
  refine V_and 39 dL_law_39 ?_
  have ht : ((Ω.2.2.2.1.2.2 (6 * c)).toUInt32.toNat &&& 31) < 32 := Nat.lt_succ_of_le Nat.and_le_right
  generalize ((Ω.2.2.2.1.2.2 (6 * c)).toUInt32.toNat &&& 31) = t at ht ⊢
  have hcs : t = 0 ∨ t = 1 ∨ t = 2 ∨ t = 3 ∨ t = 4 ∨ t = 5 ∨ t = 6 ∨ t = 7 ∨ t = 8 ∨ t = 9 ∨ t = 10 ∨ t = 11 ∨ t = 12 ∨ t = 13 ∨ t = 14 ∨ t = 15 ∨ t = 16 ∨ t = 17 ∨ t = 18 ∨ 18 < t := by omega
  rcases hcs with rfl | rfl | rfl | rfl | rfl | rfl | rfl | rfl | rfl | rfl | rfl | rfl | rfl | rfl | rfl | rfl | rfl | rfl | rfl | hcs
  · exact V_tabIn 40 132 dL_law_40 (by decide) (by decide) rfl (by decide) (L_feed hE hr hc hl h31 hn k n S I L hJ)
  · exact V_tabIn 40 205 dL_law_40 (by decide) (by decide) rfl (by decide) (L_town hE hr hc hl h31 hn k n S I L hJ)
  · exact V_tabIn 40 261 dL_law_40 (by decide) (by decide) rfl (by decide) (L_fault hE hr hc hl h31 hn k n S I L hJ)
  · exact V_tabIn 40 274 dL_law_40 (by decide) (by decide) rfl (by decide) (L_count hE hr hc hl h31 hn k n S I L hJ)
  · exact V_tabIn 40 330 dL_law_40 (by decide) (by decide) rfl (by decide) (L_price hE hr hc hl h31 hn k n S I L hJ)
  · exact V_tabIn 40 386 dL_law_40 (by decide) (by decide) rfl (by decide) (L_meeting hE hr hc hl h31 hn k n S I L hJ)
  · exact V_tabIn 40 454 dL_law_40 (by decide) (by decide) rfl (by decide) (L_promise hE hr hc hl h31 hn k n S I L hJ)
  · exact V_tabIn 40 522 dL_law_40 (by decide) (by decide) rfl (by decide) (L_say hE hr hc hl h31 hn k n S I L hJ)
  · exact V_tabIn 40 614 dL_law_40 (by decide) (by decide) rfl (by decide) (L_unsay hE hr hc hl h31 hn k n S I L hJ)
  · exact V_tabIn 40 627 dL_law_40 (by decide) (by decide) rfl (by decide) (L_days hE hr hc hl h31 hn k n S I L hJ)
  · exact V_tabIn 40 683 dL_law_40 (by decide) (by decide) rfl (by decide) (L_keep hE hr hc hl h31 hn k n S I L hJ)
  · exact V_tabIn 40 775 dL_law_40 (by decide) (by decide) rfl (by decide) (L_kept hE hr hc hl h31 hn k n S I L hJ)
  · exact V_tabIn 40 831 dL_law_40 (by decide) (by decide) rfl (by decide) (L_silence hE hr hc hl h31 hn k n S I L hJ)
  · exact V_tabIn 40 899 dL_law_40 (by decide) (by decide) rfl (by decide) (L_stands hE hr hc hl h31 hn k n S I L hJ)
  · exact V_tabIn 40 967 dL_law_40 (by decide) (by decide) rfl (by decide) (L_pairs hE hr hc hl h31 hn k n S I L hJ)
  · exact V_tabIn 40 1035 dL_law_40 (by decide) (by decide) rfl (by decide) (L_tale hE hr hc hl h31 hn k n S I L hJ)
  · exact V_tabIn 40 1127 dL_law_40 (by decide) (by decide) rfl (by decide) (L_lacks hE hr hc hl h31 hn k n S I L hJ)
  · exact V_tabIn 40 1219 dL_law_40 (by decide) (by decide) rfl (by decide) (L_image hE hr hc hl h31 hn k n S I L hJ)
  · exact V_tabIn 40 1230 dL_law_40 (by decide) (by decide) rfl (by decide) (L_restore hE hr hc hl h31 hn k n S I L hJ)
  · refine V_tabOut 40 1243 dL_law_40 (Or.inr ?_) (by decide) ?_
    · have : ∀ t : Nat, t < 32 → 18 < t → (18 : Int) < (nI t).toInt := by decide +kernel
      exact this t ht hcs
    · obtain ⟨u, v, σ, h1, h2, h3, h4, h5, h6, h7⟩ := hJ
      exact hn _ _ _ _ _ ⟨u, v, σ, h1, h2, h3, h4.mono, by omega, by omega, by omega⟩
theorem L_loop (hE : w_fit 90 E) (hr : 600 ≤ E.2.1.cells ∧ 300000 ≤ E.2.1.slots) (hlen : Ω.2.2.2.1.2.1 ≤ 384) (hend : ∀ k n S I L ls, k ≤ 300 → n ≤ 210000 → V (mLaw nm) E Ω k n S I L 1250 ls [.int (nI 1)]) : ∀ m c, Ω.2.2.2.1.2.1 < 6 * c + 6 * m → c ≤ 64 → ∀ k n S I L, LJ c k n S I → V (mLaw nm) E Ω k n S I L 23 (ll Ω c []) [] := by
  have h31 : Ω.2.2.2.1.2.1 < 2 ^ 31 := Nat.lt_of_le_of_lt hlen (by decide)
  have hout : ∀ c, c ≤ 64 → ∀ k n S I L, LJ c k n S I → V (mLaw nm) E Ω k n S I L 1249 (ll Ω c []) [] := by
    rintro c hc k n S I L ⟨-, -, -, -, -, -, -, -, h6, h7⟩
    exact V_cst 1249 1 dL_law_1249 rfl (hend _ _ _ _ _ _ (by omega) (by omega))
  intro m
  induction m with
  | zero =>
    intro c hm hc k n S I L hJ
    refine V_iload 23 4 dL_law_23 rfl ?_
    refine V_aload_n 25 0 dL_law_25 rfl ?_
    refine V_slen 26 dL_law_26 ?_
    refine V_bip 27 6 dL_law_27 rfl ?_
    by_cases h6 : 6 ≤ Ω.2.2.2.1.2.1
    · refine V_sub1 29 dL_law_29 h6 ?_
      refine V_cN_gt 30 1249 dL_law_30 (by decide) (by omega) (by omega) (fun _ => hout c hc _ _ _ _ _ hJ) (fun q => ?_)
      omega
    · refine V_subM 29 dL_law_29 (by decide) ?_
      refine V_cG_gt 30 1249 dL_law_30 (by decide) (by omega) (by omega) (fun _ => hout c hc _ _ _ _ _ hJ) (fun q => ?_)
      unfold sgn at q
      split at q <;> split at q <;> omega
  | succ m ih =>
    intro c hm hc k n S I L hJ
    refine V_iload 23 4 dL_law_23 rfl ?_
    refine V_aload_n 25 0 dL_law_25 rfl ?_
    refine V_slen 26 dL_law_26 ?_
    refine V_bip 27 6 dL_law_27 rfl ?_
    by_cases h6 : 6 ≤ Ω.2.2.2.1.2.1
    · refine V_sub1 29 dL_law_29 h6 ?_
      refine V_cN_gt 30 1249 dL_law_30 (by decide) (by omega) (by omega) (fun _ => hout c hc _ _ _ _ _ hJ) (fun q => ?_)
      refine L_body hE hr hc (by omega) h31 (fun k n S I L hJ => ?_) k n S I L hJ
      refine V_iinc 1243 4 (nI (6 * (c + 1))) (ll Ω (c + 1) []) dL_law_1243 rfl ?_ (Nat.le_of_ble_eq_true rfl) rfl ?_
      · show nI (6 * c) + nI 6 = _
        rw [nI_add]; rfl
      · refine V_goto 1246 23 dL_law_1246 (by decide) ?_
        exact ih (c + 1) (by omega) (by omega) k n S I L hJ
    · refine V_subM 29 dL_law_29 (by decide) ?_
      refine V_cG_gt 30 1249 dL_law_30 (by decide) (by omega) (by omega) (fun _ => hout c hc _ _ _ _ _ hJ) (fun q => ?_)
      unfold sgn at q
      split at q <;> split at q <;> omega
set_option maxRecDepth 8192 in
theorem L_walk (hz : E.2.2.2.1 = Ω.1) (hE : w_fit 90 E) (hr : 600 ≤ E.2.1.cells ∧ 300000 ≤ E.2.1.slots) (hlen : Ω.2.2.2.1.2.1 ≤ 384) (hend : ∀ k n S I L ls, k ≤ 300 → n ≤ 210000 → V (mLaw nm) E Ω k n S I L 1250 ls [.int (nI 1)]) : V (mLaw nm) E Ω 0 0 [] (fun _ _ => 0) (fun _ _ => 0) 0 [(0, .ref Ω.2.2.2.1.1)] [] := by
  obtain ⟨r1, r2⟩ := hr
  refine V_new 0 z1 w_nc7 clL_8 ⟨_, rfl, rfl⟩ dL_law_0 (by rw [hz]; rfl) (fun j => rfl) (fun j => rfl) ⟨by omega, by omega⟩ rfl ?_
  show V _ _ _ 1 14 z1 _ _ 3 _ (.ref (Ω.1 + 0) :: _)
  refine V_dup 3 dL_law_3 rfl ?_
  refine V_ci 4 miL_58 dL_law_4 hE (kt_0 (d := 84) (fun _ _ _ => rfl) (fun _ _ => rfl)) (by rw [hz]; rfl) rfl (Nat.le_of_ble_eq_true rfl) ⟨by omega, by omega⟩ ?_
  rintro _ I1 _ ⟨rfl, rfl, hI1⟩
  have hI1 : I1 = i_c (fun _ _ => 0) := hI1
  subst hI1
  have hb : ∀ i, 63 ≤ i → ∀ j, i_c (fun _ _ => 0) i j = 0 := fun i hi j => by rw [i_c_0, if_neg (Nat.not_lt.mpr hi)]
  show V _ _ _ 63 1993 z131 _ _ 7 _ [.ref (Ω.1 + 0)]
  refine V_astore_n 7 [(0, _), (1, _)] dL_law_7 (Nat.le_of_ble_eq_true rfl) rfl ?_
  refine V_new 8 z132 w_nc8 clL_59 ⟨_, rfl, rfl⟩ dL_law_8 (by rw [hz]; rfl) (fun j => hb 63 (Nat.le_refl _) j) (fun j => rfl) ⟨by omega, by omega⟩ rfl ?_
  show V _ _ _ 64 2050 z132 _ _ 11 _ (.ref (Ω.1 + 63) :: _)
  refine V_dup 11 dL_law_11 rfl ?_
  refine V_ci 12 miL_61 dL_law_12 hE (kt_63 (d := 88) hb (fun _ _ => rfl)) (by rw [hz]; rfl) rfl (Nat.le_of_ble_eq_true rfl) ⟨by omega, by omega⟩ ?_
  rintro _ I2 _ ⟨rfl, rfl, h83, h84, h85, hf⟩
  obtain ⟨hM, h52, hfr⟩ := start_M hb h83 h84 h85 hf
  show V _ _ _ 100 163578 zE _ _ 15 _ [.ref (Ω.1 + 63)]
  refine V_astore_n 15 [(0, _), (1, _), (2, _)] dL_law_15 (Nat.le_of_ble_eq_true rfl) rfl ?_
  refine V_cst 16 1 dL_law_16 rfl ?_
  refine V_newa 17 (SH 60 61) (t := 3) (nn := 1) (at0 := .long) (by decide) rfl w_ar_long dL_law_17 (by decide) (by rw [hz]; rfl) (fun j => by show I2 100 j = 0; rw [hfr 100 (Or.inr (Nat.le_refl _))]; exact hb 100 (by decide) j) (fun j => rfl) ⟨by omega, by omega⟩ rfl ?_
  show V _ _ _ 101 163579 (SH 60 61) _ _ 19 _ [.ref (Ω.1 + 100)]
  refine V_astore_n 19 [(0, _), (1, _), (2, _), (3, _)] dL_law_19 (Nat.le_of_ble_eq_true rfl) rfl ?_
  refine V_cst 20 0 dL_law_20 rfl ?_
  refine V_istore 21 (ll Ω 0 []) dL_law_21 (Nat.le_of_ble_eq_true rfl) rfl ?_
  refine L_loop hE ⟨r1, r2⟩ hlen hend 65 0 (by omega) (by decide) _ _ _ _ _ ⟨60, 61, z_0, rfl, start_C fun i hi => ?_, hM, ZI_0, by omega, by omega, by omega⟩
  rw [hfr i (Or.inl hi), i_c_0, if_pos hi]
end
