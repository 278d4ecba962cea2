/-! WHAT THE TOWN DOES: feed, unsay, say, image, restore -/
def PT (R : w_R) (I : w_I) : Prop := I 0 1 = R 0 0 ∧ R 0 0 ≤ 700 ∧ (∀ j, R 1 j < 256) ∧ ∀ j, j < R 0 0 → I 1 j = w_b8 (R 1 j)
def z_byte (R : w_R) (b : Nat) : w_R := w_put (w_put R 1 (R 0 0) (b % 256)) 0 0 (R 0 0 + 1)
def z_word (R : w_R) (a : Nat) : w_R := z_byte (z_byte (z_byte (z_byte R (a / 2 ^ 24)) (a / 2 ^ 16)) (a / 2 ^ 8)) (a / 2 ^ 0)
def z_feed (R : w_R) (a b c d e : Nat) : w_R := z_word (z_word (z_word (z_word (z_word R a) b) c) d) e
theorem z_byte_0 (R : w_R) (b : Nat) : z_byte R b 0 0 = R 0 0 + 1 := w_put_same _ _ _ _
theorem z_byte_o (R : w_R) (b : Nat) {k j : Nat} (h0 : k ≠ 0) (h1 : k ≠ 1) : z_byte R b k j = R k j := by
  unfold z_byte; rw [w_put_other _ (Or.inl h0), w_put_other _ (Or.inl h1)]
theorem z_word_0 (R : w_R) (b : Nat) : z_word R b 0 0 = R 0 0 + 4 := by unfold z_word; rw [z_byte_0, z_byte_0, z_byte_0, z_byte_0]
theorem z_word_o (R : w_R) (b : Nat) {k j : Nat} (h0 : k ≠ 0) (h1 : k ≠ 1) : z_word R b k j = R k j := by
  unfold z_word; rw [z_byte_o _ _ h0 h1, z_byte_o _ _ h0 h1, z_byte_o _ _ h0 h1, z_byte_o _ _ h0 h1]
theorem z_feed_o (R : w_R) (a b c d e : Nat) {k j : Nat} (h0 : k ≠ 0) (h1 : k ≠ 1) : z_feed R a b c d e k j = R k j := by
  unfold z_feed; rw [z_word_o _ _ h0 h1, z_word_o _ _ h0 h1, z_word_o _ _ h0 h1, z_word_o _ _ h0 h1, z_word_o _ _ h0 h1]
theorem b8_b8 (x : Nat) : w_b8 (w_b8 x) = w_b8 x := by unfold w_b8; split <;> split <;> omega
theorem b8_mod (x : Nat) : w_b8 (x % 256) = w_b8 x := by unfold w_b8; rw [Nat.mod_mod]
/-- only the tape and its length have changed -/
def FrF (I I' : w_I) : Prop := (∀ i, 2 ≤ i → I' i = I i) ∧ ∀ j, j ≠ 1 → I' 0 j = I 0 j
theorem FrF.rf {I : w_I} : FrF I I := ⟨fun _ _ => rfl, fun _ _ => rfl⟩
theorem FrF.trans {I I' I'' : w_I} (h : FrF I I') (h' : FrF I' I'') : FrF I I'' := ⟨fun i hi => (h'.1 i hi).trans (h.1 i hi), fun j hj => (h'.2 j hj).trans (h.2 j hj)⟩
theorem PT.byte {R : w_R} {I : w_I} {b : Nat} (h : PT R I) (hn : R 0 0 < 700) : PT (z_byte R b) (w_put (w_put I 1 (R 0 0) (w_b8 (w_b8 b))) 0 1 (R 0 0 + 1)) ∧ FrF I (w_put (w_put I 1 (R 0 0) (w_b8 (w_b8 b))) 0 1 (R 0 0 + 1)) := by
  obtain ⟨h1, h2, h3, h4⟩ := h
  refine ⟨⟨?_, ?_, fun j => ?_, fun j hj => ?_⟩, fun i hi => ?_, fun j hj => ?_⟩
  · rw [w_put_same, z_byte_0]
  · rw [z_byte_0]; omega
  · unfold z_byte
    rw [w_put_other _ (Or.inl (by decide)), w_put_eq]
    split
    · omega
    · exact h3 j
  · rw [z_byte_0] at hj
    unfold z_byte
    simp only [w_put_eq, show ¬ (1 = 0) by decide, false_and, if_false, true_and]
    by_cases e : j = R 0 0
    · rw [if_pos e, if_pos e, b8_b8, b8_mod]
    · rw [if_neg e, if_neg e]
      exact h4 j (by omega)
  · rw [w_put_ne _ _ (by omega), w_put_ne _ _ (by omega)]
  · rw [w_put_other _ (Or.inr hj), w_put_other _ (Or.inl (by decide))]
/-- a change in the rest alone -/
theorem CInv.m3 {u v : Nat} {σ : w_Z} {R' : w_R} {I I' : w_I} (h : CInv u v σ I) (hf : ∀ i, 2 ≤ i → I' i = I i) (ct : PT R' I') (cm : I' 0 3 = R' 2 0 ∧ I' 0 7 = R' 3 0 ∧ I' 0 8 = R' 4 0) (cr : I' 0 13 = R' 8 0 ∧ R' 8 0 = σ 3 8 0 ∧ ∀ j, R' 9 j = σ 3 9 j) (ca : R' 5 0 = σ 3 5 0 ∧ R' 6 0 = σ 3 6 0 ∧ R' 7 0 = σ 3 7 0) : CInv u v (z_put σ 3 R') I' := by
  obtain ⟨h1, h2, h3, h4, h5, h6, h7, h8, h9⟩ := h
  have fr : Fr 0 2 I I' := fun i hi => hf i (by omega)
  unfold CInv
  rw [z_ne σ R' (show 0 ≠ 3 by decide), z_ne σ R' (show 1 ≠ 3 by decide), z_ne σ R' (show 2 ≠ 3 by decide)]
  refine ⟨h1, h2.fr fr (by decide), h3.fr fr (by decide), h4.fr fr (by decide), ?_, ?_, ?_, ?_, h9.fr fr (by decide)⟩
  · unfold CT; rw [z_at]; exact ct
  · unfold CM; rw [z_at]; exact cm
  · unfold CR
    rw [z_at, z_ne σ R' (show 0 ≠ 3 by decide), hf 62 (by decide)]
    refine ⟨cr.1, ?_⟩
    rw [cr.2.1]
    rcases h7.2 with e | ⟨e, q⟩
    · exact Or.inl e
    · exact Or.inr ⟨e, fun j hj => by rw [cr.2.2]; exact q j hj⟩
  · have h8 := h8.fr fr (by decide)
    unfold CA at h8 ⊢
    rw [z_at, z_ne σ R' (show 0 ≠ 3 by decide), z_ne σ R' (show 4 ≠ 3 by decide), z_ne σ R' (show 5 ≠ 3 by decide), ca.1, ca.2.1, ca.2.2]
    exact h8
/-- a change in the sayings: who has heard is not known any more -/
theorem CInv.y {u v : Nat} {σ : w_Z} {Y' : w_R} {I I' : w_I} (h : CInv u v σ I) (hY : s_YOK (σ 0) Y') (hR : YRep 27 Y' I') (hf : ∀ i, i < 27 ∨ 34 ≤ i → i ≠ 50 → I' i = I i) (h1 : I' 50 1 = 0) (h2 : I' 50 2 = I 50 2) : CInv u v (z_put σ 1 Y') I' := by
  obtain ⟨g1, g2, g3, g4, g5, g6, g7, g8, g9⟩ := h
  have eC : ∀ i, 34 ≤ i → i < 50 → I' i = I i := fun i a b => hf i (by omega) (by omega)
  have fr1 : Fr 27 51 I I' := fun i hi => hf i (by omega) (by omega)
  unfold CInv
  rw [z_ne σ Y' (show 0 ≠ 1 by decide), z_at, z_ne σ Y' (show 2 ≠ 1 by decide)]
  refine ⟨g1, g2.fr fr1 (by decide), ⟨hY, hR⟩, ?_, ?_, ?_, ?_, ?_, ?_⟩
  · obtain ⟨c1, c2, c3, c4⟩ := g4
    have ec : cv 34 I' = cv 34 I := by unfold cv; rw [eC 34 (by decide) (by decide), eC (34 + 1) (by decide) (by decide), eC (34 + 2) (by decide) (by decide), eC (34 + 3) (by decide) (by decide)]
    exact ⟨c1, c2, by rw [ec]; exact c3, by rw [eC 34 (by decide) (by decide)]; exact c4⟩
  · unfold CT; rw [z_ne σ Y' (show 3 ≠ 1 by decide), hf 0 (by decide) (by decide), hf 1 (by decide) (by decide)]; exact g5
  · unfold CM; rw [z_ne σ Y' (show 3 ≠ 1 by decide), hf 0 (by decide) (by decide)]; exact g6
  · unfold CR; rw [z_ne σ Y' (show 3 ≠ 1 by decide), z_ne σ Y' (show 0 ≠ 1 by decide), hf 0 (by decide) (by decide), hf 62 (by decide) (by decide)]; exact g7
  · unfold CA at g8 ⊢
    have ec : cv 46 I' = cv 46 I := by unfold cv; rw [eC 46 (by decide) (by decide), eC (46 + 1) (by decide) (by decide), eC (46 + 2) (by decide) (by decide), eC (46 + 3) (by decide) (by decide)]
    have ey : ∀ Z, YRep 39 Z I → YRep 39 Z I' := by
      intro Z hZ
      unfold YRep at hZ ⊢
      rw [eC 39 (by decide) (by decide), eC (39 + 1) (by decide) (by decide), eC (39 + 2) (by decide) (by decide), eC (39 + 3) (by decide) (by decide), eC (39 + 4) (by decide) (by decide)]
      exact hZ
    rw [z_ne σ Y' (show 3 ≠ 1 by decide), z_ne σ Y' (show 0 ≠ 1 by decide), z_ne σ Y' (show 4 ≠ 1 by decide), z_ne σ Y' (show 5 ≠ 1 by decide), eC 38 (by decide) (by decide), eC 46 (by decide) (by decide), eC 49 (by decide) (by decide), ec]
    refine ⟨g8.1, ?_, g8.2.2⟩
    rcases g8.2.1 with e | ⟨a, b, c, e⟩
    · exact Or.inl e
    · exact Or.inr ⟨a, b, ey _ c, e⟩
  · obtain ⟨t1, t2, t3⟩ := g9
    refine ⟨by rw [hf 54 (by decide) (by decide)]; exact t1, ?_, Or.inl h1⟩
    rw [h2]
    rcases t2 with e | ⟨e, m⟩
    · exact Or.inl e
    · exact Or.inr ⟨e, fun p hp w hw => by rw [hf 52 (by decide) (by decide)]; exact m p hp w hw⟩
section
variable {Ω : w_O} {d u v : Nat} {L : w_L} {E : w_E} {P : w_R} {I : w_I} {σ : w_Z} {R : w_R}
theorem pt_step {a s s' : Nat} (ha : a < 4294967296) (hs : s < 32) (hv : nI s + Int32.ofInt (-8) = nI s') (h : PT R I) (hn : R 0 0 < 700) (hk : ∀ I', PT (z_byte R (a / 2 ^ s)) I' → FrF I I' → V mX7_putOnTape E Ω 0 0 (SH u v) I' L 3 [(0, .ref (Ω.1 + 0)), (1, .int (nI a)), (2, .int (nI s'))] []) :
    V mX7_putOnTape E Ω 0 0 (SH u v) I L 3 [(0, .ref (Ω.1 + 0)), (1, .int (nI a)), (2, .int (nI s))] [] := by
  have h1 := h.1
  obtain ⟨b1, b2⟩ := h.byte (b := a / 2 ^ s) hn
  refine V_iload_n 3 2 dX7_putOnTape_3 rfl ?_
  refine V_zN_lt 4 36 dX7_putOnTape_4 (by decide) (by omega) (fun c => ?_) (fun c => ?_)
  · omega
  refine V_aload_n 7 0 dX7_putOnTape_7 rfl ?_
  refine V_getR 8 flX7_9 dX7_putOnTape_8 rfl ?_
  refine V_aload_n 11 0 dX7_putOnTape_11 rfl ?_
  refine V_getI 12 flX7_74 dX7_putOnTape_12 rfl ?_
  rw [h1]
  refine V_iload_n 15 1 dX7_putOnTape_15 rfl ?_
  refine V_iload_n 16 2 dX7_putOnTape_16 rfl ?_
  refine V_ushr 17 dX7_putOnTape_17 (by omega) (by omega) ?_
  refine V_byte 18 dX7_putOnTape_18 ?_
  refine V_bast 19 dX7_putOnTape_19 rfl (by omega) (by omega) ?_
  refine V_aload_n 20 0 dX7_putOnTape_20 rfl ?_
  refine V_dup 21 dX7_putOnTape_21 rfl ?_
  refine V_getI 22 flX7_74 dX7_putOnTape_22 rfl ?_
  rw [w_put_other _ (Or.inl (by decide)), h1]
  refine V_cst 25 1 dX7_putOnTape_25 rfl ?_
  refine V_add 26 dX7_putOnTape_26 ?_
  refine V_putI 27 flX7_74 ft_7_1 dX7_putOnTape_27 rfl ?_
  refine V_iinc 30 2 (nI s') [(0, _), (1, _), (2, _)] dX7_putOnTape_30 rfl hv (by decide) rfl ?_
  refine V_goto 33 3 dX7_putOnTape_33 (by decide) ?_
  exact hk _ b1 b2
theorem c_putOnTape {a : Nat} (ha : a < 4294967296) (h : PT R I) (hn : R 0 0 + 4 ≤ 700) : FnV Ω d mX7_putOnTape [.ref (Ω.1 + 0), .int (nI a)] (SH u v) I L (fun S' I' L' => S' = SH u v ∧ L = L' ∧ PT (z_word R a) I' ∧ FrF I I') := by
  refine FnR_of okX7_putOnTape (Nat.le_of_ble_eq_true rfl) fun l z => ?_
  show V _ _ _ _ _ _ _ _ 0 [(0, _), (1, _)] []
  refine V_bip 0 24 dX7_putOnTape_0 rfl ?_
  refine V_istore_n 2 [(0, _), (1, _), (2, _)] dX7_putOnTape_2 (by decide) rfl ?_
  refine pt_step (s := 24) (s' := 16) ha (by decide) (by decide) h (by omega) (fun I1 a1 b1 => ?_)
  refine pt_step (s := 16) (s' := 8) ha (by decide) (by decide) a1 (by rw [z_byte_0]; omega) (fun I2 a2 b2 => ?_)
  refine pt_step (s := 8) (s' := 0) ha (by decide) (by decide) a2 (by rw [z_byte_0, z_byte_0]; omega) (fun I3 a3 b3 => ?_)
  refine pt_step (s := 0) (s' := 4294967288) ha (by decide) (by decide) a3 (by rw [z_byte_0, z_byte_0, z_byte_0]; omega) (fun I4 a4 b4 => ?_)
  refine V_iload_n 3 2 dX7_putOnTape_3 rfl ?_
  refine V_zN_lt 4 36 dX7_putOnTape_4 (by decide) (by omega) (fun c => ?_) (fun c => ?_)
  · exact V_ret 36 dX7_putOnTape_36 rfl ⟨rfl, rfl, a4, ((b1.trans b2).trans b3).trans b4⟩
  · exact absurd c (by decide)
theorem c_feed0 {a b c e f : Nat} (hI : CInv u v σ I) (hn : 700 < σ 3 0 0 + 20) : FnI Ω d mX7_feed [.ref (Ω.1 + 0), .int (nI a), .int (nI b), .int (nI c), .int (nI e), .int (nI f)] (SH u v) I L (fun r S' I' L' => r = nI mI ∧ S' = SH u v ∧ I = I' ∧ L = L') := by
  obtain ⟨-, -, -, -, hT, -⟩ := hI
  have h7 := hT.2.1
  refine FnR_of okX7_feed (Nat.le_of_ble_eq_true rfl) fun l z => ?_
  show V _ _ _ _ _ _ _ _ 0 [(0, _), (1, _), (2, _), (3, _), (4, _), (5, _)] []
  refine V_aload_n 0 0 dX7_feed_0 rfl ?_
  refine V_getI 1 flX7_74 dX7_feed_1 rfl ?_
  rw [hT.1]
  refine V_bip 4 20 dX7_feed_4 rfl ?_
  refine V_add 6 dX7_feed_6 ?_
  refine V_sip 7 700 dX7_feed_7 rfl ?_
  refine V_cN_le 10 15 dX7_feed_10 (by decide) (by omega) (by omega) (fun c => ?_) (fun c => ?_)
  · omega
  refine V_cst 13 4294967295 dX7_feed_13 rfl ?_
  exact V_iret 14 dX7_feed_14 rfl ⟨rfl, rfl, rfl, rfl⟩
theorem c_feed1 {a b c e f : Nat} (ha : a < 4294967296) (hb : b < 4294967296) (hc : c < 4294967296) (he : e < 4294967296) (hf : f < 4294967296) (hI : CInv u v σ I) (hn : σ 3 0 0 + 20 ≤ 700) : FnI Ω (d + 1) mX7_feed [.ref (Ω.1 + 0), .int (nI a), .int (nI b), .int (nI c), .int (nI e), .int (nI f)] (SH u v) I L (fun r S' I' L' => r = nI (σ 3 0 0 + 20) ∧ S' = SH u v ∧ L = L' ∧ CInv u v (z_put σ 3 (z_feed (σ 3) a b c e f)) I' ∧ Fr 0 63 I I') := by
  have hI0 := hI
  obtain ⟨-, -, -, -, hT, hM, hR, -⟩ := hI
  have hT : PT (σ 3) I := hT
  refine FnR_of okX7_feed (Nat.le_of_ble_eq_true rfl) fun l z => ?_
  have hE : w_fit d (w_Er l (d + 1) 0 0 Ω (w_pi (fun r S' I' L' => r = nI (σ 3 0 0 + 20) ∧ S' = SH u v ∧ L = L' ∧ CInv u v (z_put σ 3 (z_feed (σ 3) a b c e f)) I' ∧ Fr 0 63 I I')) z) := w_fit_r
  show V _ _ _ _ _ _ _ _ 0 [(0, _), (1, _), (2, _), (3, _), (4, _), (5, _)] []
  refine V_aload_n 0 0 dX7_feed_0 rfl ?_
  refine V_getI 1 flX7_74 dX7_feed_1 rfl ?_
  rw [hT.1]
  refine V_bip 4 20 dX7_feed_4 rfl ?_
  refine V_add 6 dX7_feed_6 ?_
  refine V_sip 7 700 dX7_feed_7 rfl ?_
  refine V_cN_le 10 15 dX7_feed_10 (by decide) (by omega) (by omega) (fun c0 => ?_) (fun c0 => ?_)
  rotate_left
  · omega
  refine V_aload_n 15 0 dX7_feed_15 rfl ?_
  refine V_iload_n 16 1 dX7_feed_16 rfl ?_
  refine V_vv 17 mvX7_77 dX7_feed_17 ⟨_, _, _, rfl, rfl, rfl⟩ (w_fit.mono (by omega) hE) (c_putOnTape (d := d) ha hT (by omega)) rfl (Nat.le_of_ble_eq_true rfl) ?_
  rintro _ I1 _ ⟨rfl, rfl, p1, q1⟩
  refine V_aload_n 20 0 dX7_feed_20 rfl ?_
  refine V_iload_n 21 2 dX7_feed_21 rfl ?_
  refine V_vv 22 mvX7_77 dX7_feed_22 ⟨_, _, _, rfl, rfl, rfl⟩ (w_fit.mono (by omega) hE) (c_putOnTape (d := d) hb p1 (by rw [z_word_0]; omega)) rfl (Nat.le_of_ble_eq_true rfl) ?_
  rintro _ I2 _ ⟨rfl, rfl, p2, q2⟩
  refine V_aload_n 25 0 dX7_feed_25 rfl ?_
  refine V_iload_n 26 3 dX7_feed_26 rfl ?_
  refine V_vv 27 mvX7_77 dX7_feed_27 ⟨_, _, _, rfl, rfl, rfl⟩ (w_fit.mono (by omega) hE) (c_putOnTape (d := d) hc p2 (by rw [z_word_0, z_word_0]; omega)) rfl (Nat.le_of_ble_eq_true rfl) ?_
  rintro _ I3 _ ⟨rfl, rfl, p3, q3⟩
  refine V_aload_n 30 0 dX7_feed_30 rfl ?_
  refine V_iload 31 4 dX7_feed_31 rfl ?_
  refine V_vv 33 mvX7_77 dX7_feed_33 ⟨_, _, _, rfl, rfl, rfl⟩ (w_fit.mono (by omega) hE) (c_putOnTape (d := d) he p3 (by rw [z_word_0, z_word_0, z_word_0]; omega)) rfl (Nat.le_of_ble_eq_true rfl) ?_
  rintro _ I4 _ ⟨rfl, rfl, p4, q4⟩
  refine V_aload_n 36 0 dX7_feed_36 rfl ?_
  refine V_iload 37 5 dX7_feed_37 rfl ?_
  refine V_vv 39 mvX7_77 dX7_feed_39 ⟨_, _, _, rfl, rfl, rfl⟩ (w_fit.mono (by omega) hE) (c_putOnTape (d := d) hf p4 (by rw [z_word_0, z_word_0, z_word_0, z_word_0]; omega)) rfl (Nat.le_of_ble_eq_true rfl) ?_
  rintro _ I5 _ ⟨rfl, rfl, p5, q5⟩
  have hF : FrF I I5 := (((q1.trans q2).trans q3).trans q4).trans q5
  have p5 : PT (z_feed (σ 3) a b c e f) I5 := p5
  refine V_aload_n 42 0 dX7_feed_42 rfl ?_
  refine V_getI 43 flX7_74 dX7_feed_43 rfl ?_
  rw [p5.1]
  refine V_iret 46 dX7_feed_46 rfl ⟨?_, rfl, rfl, hI0.m3 hF.1 p5 ⟨?_, ?_, ?_⟩ ⟨?_, ?_, fun j => ?_⟩ ⟨?_, ?_, ?_⟩, fun i hi => hF.1 i (by omega)⟩
  · unfold z_feed
    rw [z_word_0, z_word_0, z_word_0, z_word_0, z_word_0]
  · rw [hF.2 3 (by decide), z_feed_o _ _ _ _ _ _ (by decide) (by decide)]; exact hM.1
  · rw [hF.2 7 (by decide), z_feed_o _ _ _ _ _ _ (by decide) (by decide)]; exact hM.2.1
  · rw [hF.2 8 (by decide), z_feed_o _ _ _ _ _ _ (by decide) (by decide)]; exact hM.2.2
  · rw [hF.2 13 (by decide), z_feed_o _ _ _ _ _ _ (by decide) (by decide)]; exact hR.1
  · exact z_feed_o _ _ _ _ _ _ (by decide) (by decide)
  · exact z_feed_o _ _ _ _ _ _ (by decide) (by decide)
  · exact z_feed_o _ _ _ _ _ _ (by decide) (by decide)
  · exact z_feed_o _ _ _ _ _ _ (by decide) (by decide)
  · exact z_feed_o _ _ _ _ _ _ (by decide) (by decide)
theorem c_unsay0 (hI : CInv u v σ I) (h : σ 1 0 0 = 0) : FnI Ω d mX7_unsay [.ref (Ω.1 + 0)] (SH u v) I L (fun r S' I' L' => r = nI mI ∧ S' = SH u v ∧ I = I' ∧ L = L') := by
  obtain ⟨-, -, ⟨y1, y2⟩, -⟩ := hI
  refine FnR_of okX7_unsay (Nat.le_of_ble_eq_true rfl) fun l z => ?_
  show V _ _ _ _ _ _ _ _ 0 [(0, _)] []
  refine V_aload_n 0 0 dX7_unsay_0 rfl ?_
  refine V_getR 1 flX7_36 dX7_unsay_1 rfl ?_
  refine V_getI 4 flX7_103 dX7_unsay_4 rfl ?_
  rw [y2.1, h]
  refine V_zN_ne 7 12 dX7_unsay_7 (by decide) (by omega) (fun c => ?_) (fun c => ?_)
  · exact absurd rfl c
  refine V_cst 10 4294967295 dX7_unsay_10 rfl ?_
  exact V_iret 11 dX7_unsay_11 rfl ⟨rfl, rfl, rfl, rfl⟩
theorem c_unsay1 (hI : CInv u v σ I) (h : σ 1 0 0 ≠ 0) : FnI Ω d mX7_unsay [.ref (Ω.1 + 0)] (SH u v) I L (fun r S' I' L' => r = nI (σ 1 0 0 - 1) ∧ S' = SH u v ∧ L = L' ∧ CInv u v (z_put σ 1 (w_put (σ 1) 0 0 (σ 1 0 0 - 1))) I' ∧ Fr 0 63 I I') := by
  have hI0 := hI
  obtain ⟨-, -, ⟨y1, y2⟩, -⟩ := hI
  have h60 := y1.1
  refine FnR_of okX7_unsay (Nat.le_of_ble_eq_true rfl) fun l z => ?_
  show V _ _ _ _ _ _ _ _ 0 [(0, _)] []
  refine V_aload_n 0 0 dX7_unsay_0 rfl ?_
  refine V_getR 1 flX7_36 dX7_unsay_1 rfl ?_
  refine V_getI 4 flX7_103 dX7_unsay_4 rfl ?_
  rw [y2.1]
  refine V_zN_ne 7 12 dX7_unsay_7 (by decide) (by omega) (fun c => ?_) (fun c => ?_)
  rotate_left
  · exact absurd c h
  refine V_aload_n 12 0 dX7_unsay_12 rfl ?_
  refine V_getR 13 flX7_36 dX7_unsay_13 rfl ?_
  refine V_dup 16 dX7_unsay_16 rfl ?_
  refine V_getI 17 flX7_103 dX7_unsay_17 rfl ?_
  rw [y2.1]
  refine V_cst 20 1 dX7_unsay_20 rfl ?_
  refine V_sub1 21 dX7_unsay_21 (by omega) ?_
  refine V_putI 22 flX7_103 ft_5_0 dX7_unsay_22 rfl ?_
  refine V_aload_n 25 0 dX7_unsay_25 rfl ?_
  refine V_getR 26 flX7_59 dX7_unsay_26 rfl ?_
  refine V_cst 29 0 dX7_unsay_29 rfl ?_
  refine V_putZ 30 flX7_119 ft_6_1 dX7_unsay_30 rfl (by first | exact Or.inl rfl | exact Or.inr rfl | assumption) ?_
  refine V_aload_n 33 0 dX7_unsay_33 rfl ?_
  refine V_getR 34 flX7_36 dX7_unsay_34 rfl ?_
  refine V_getI 37 flX7_103 dX7_unsay_37 rfl ?_
  refine V_iret 40 dX7_unsay_40 rfl ⟨?_, rfl, rfl, hI0.y ⟨?_, fun s hs => ?_⟩ ⟨?_, fun s hs => ?_⟩ (fun i h1 h2 => ?_) (w_put_same _ _ _ _) ?_, fun i hi => ?_⟩
  · rw [w_put_other _ (Or.inl (by decide)), w_put_same]
  · rw [w_put_same]; omega
  · rw [w_put_same] at hs
    simpa [w_put_eq] using y1.2 s (by omega)
  · rw [w_put_other _ (Or.inl (by decide)), w_put_same, w_put_same]
  · rw [w_put_same] at hs
    simpa [w_put_eq] using y2.2 s (by omega)
  · rw [w_put_ne _ _ h2, w_put_ne _ _ (by omega)]
  · rw [w_put_other _ (Or.inr (by decide)), w_put_other _ (Or.inl (by decide))]
  · rw [w_put_ne _ _ (by omega), w_put_ne _ _ (by omega)]
end
