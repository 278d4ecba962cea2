theorem n_shr255 {a k : Nat} (hk : k ≤ 24) : (nI a >>> (nI k &&& 31)) &&& nI 255 = nI (a / 2 ^ k % 256) := by
  apply Int32.toBitVec_inj.mp
  have h1 : (nI a >>> (nI k &&& 31)).toBitVec = (BitVec.ofNat 32 a).sshiftRight k := by
    show (BitVec.ofNat 32 a).sshiftRight (((nI k &&& 31).toBitVec.smod 32).toNat) = _
    rw [n_cnt k (by omega)]
  show (nI a >>> (nI k &&& 31)).toBitVec &&& BitVec.ofNat 32 255 = BitVec.ofNat 32 (a / 2 ^ k % 256)
  rw [h1]
  apply BitVec.eq_of_getLsbD_eq
  intro i hi
  rw [BitVec.getLsbD_and, BitVec.getLsbD_sshiftRight, BitVec.getLsbD_ofNat, BitVec.getLsbD_ofNat, BitVec.getLsbD_ofNat, show (256 : Nat) = 2 ^ 8 from rfl, Nat.testBit_mod_two_pow, Nat.testBit_div_two_pow, show (255 : Nat) = 2 ^ 8 - 1 from rfl, Nat.testBit_two_pow_sub_one]
  by_cases h8 : i < 8
  · have e1 : k + i < 32 := by omega
    have e2 : i + k < 32 := by omega
    simp [h8, hi, e1, BitVec.getLsbD_ofNat, Nat.add_comm]
  · simp [h8]
section
variable {Ω : w_O} {d u v : Nat} {L : w_L} {E : w_E} {P Y C R : w_R} {t : Nat} {σ : w_Z}
/-- only the tape has changed -/
def FrQ (I I' : w_I) : Prop := (∀ i, i ≠ 63 → i ≠ 79 → I' i = I i) ∧ ∀ j, j ≠ 18 → I' 63 j = I 63 j
theorem FrQ.rf {I : w_I} : FrQ I I := ⟨fun _ _ _ => rfl, fun _ _ => rfl⟩
theorem FrQ.trans {I I' I'' : w_I} (h : FrQ I I') (h' : FrQ I' I'') : FrQ I I'' := ⟨fun i a b => (h'.1 i a b).trans (h.1 i a b), fun j hj => (h'.2 j hj).trans (h.2 j hj)⟩
theorem MT.byte {I : w_I} {b : Nat} (h : MT R I) : MT (z_byte R b) (w_put (w_put I 79 (R 0 0) (b % 256)) 63 18 (R 0 0 + 1)) ∧ FrQ I (w_put (w_put I 79 (R 0 0) (b % 256)) 63 18 (R 0 0 + 1)) := by
  refine ⟨⟨?_, fun j hj => ?_⟩, fun i a b => ?_, fun j hj => ?_⟩
  · rw [w_put_same, z_byte_0]
  · rw [z_byte_0] at hj
    rw [w_put_ne _ 79 (by decide), w_put_eq]
    unfold z_byte
    rw [w_put_other _ (Or.inl (by decide)), w_put_eq]
    by_cases e : j = R 0 0
    · rw [if_pos ⟨rfl, e⟩, if_pos ⟨rfl, e⟩]
    · rw [if_neg (fun w => e w.2), if_neg (fun w => e w.2)]
      exact h.2 j (by omega)
  · rw [w_put_ne _ _ a, w_put_ne _ _ b]
  · rw [w_put_other _ (Or.inr hj), w_put_ne _ 63 (by decide)]
def f_w (a b c e f k : Nat) : Nat := if k < 4 then a else if k < 8 then b else if k < 12 then c else if k < 16 then e else f
def f_b (a b c e f : Nat) (R : w_R) (k : Nat) : w_R := z_byte R (f_w a b c e f k / 2 ^ (24 - 8 * (k % 4)))
theorem f_all (a b c e f : Nat) : (List.range 20).foldl (f_b a b c e f) R = z_feed R a b c e f := rfl
theorem f_len (a b c e f : Nat) : ∀ k, (List.range k).foldl (f_b a b c e f) R 0 0 = R 0 0 + k := by
  intro k
  induction k with
  | zero => rfl
  | succ k ih =>
    rw [List.range_succ, List.foldl_append]
    show f_b a b c e f ((List.range k).foldl (f_b a b c e f) R) k 0 0 = _
    rw [show f_b a b c e f ((List.range k).foldl (f_b a b c e f) R) k = z_byte ((List.range k).foldl (f_b a b c e f) R) (f_w a b c e f k / 2 ^ (24 - 8 * (k % 4))) from rfl, z_byte_0, ih]
    omega
theorem fd_l {a b c e f : Nat} (hR : R 0 0 + 20 ≤ 700) : ∀ (n k : Nat) (I : w_I), k + n = 20 → MT ((List.range k).foldl (f_b a b c e f) R) I →
    (∀ I', MT (z_feed R a b c e f) I' → FrQ I I' → V mX8_feed E Ω 0 0 (SH u v) I' L 120 [(0, .ref (Ω.1 + 63)), (1, .int (nI a)), (2, .int (nI b)), (3, .int (nI c)), (4, .int (nI e)), (5, .int (nI f)), (6, .int (nI 20))] []) →
    V mX8_feed E Ω 0 0 (SH u v) I L 23 [(0, .ref (Ω.1 + 63)), (1, .int (nI a)), (2, .int (nI b)), (3, .int (nI c)), (4, .int (nI e)), (5, .int (nI f)), (6, .int (nI k))] [] := by
  intro n
  induction n with
  | zero =>
    intro k I hk hM hc
    have e : k = 20 := by omega
    subst e
    rw [f_all] at hM
    refine V_iload 23 6 dX8_feed_23 rfl ?_
    refine V_bip 25 20 dX8_feed_25 rfl ?_
    refine V_cN_ge 27 120 dX8_feed_27 (by decide) (by omega) (by omega) (fun c => ?_) (fun c => ?_)
    · exact hc I hM FrQ.rf
    · omega
  | succ n ih =>
    intro k I hk hM hc
    have hlen := f_len (R := R) a b c e f k
    have h76 : V mX8_feed E Ω 0 0 (SH u v) I L 76 [(0, .ref (Ω.1 + 63)), (1, .int (nI a)), (2, .int (nI b)), (3, .int (nI c)), (4, .int (nI e)), (5, .int (nI f)), (6, .int (nI k))] [.int (nI (f_w a b c e f k))] := by
      have hk4 : k % 4 < 4 := Nat.mod_lt _ (by decide)
      refine V_istore 76 [(0, _), (1, _), (2, _), (3, _), (4, _), (5, _), (6, _), (7, _)] dX8_feed_76 (by decide) rfl ?_
      refine V_aload_n 78 0 dX8_feed_78 rfl ?_
      refine V_getR 79 flX8_55 dX8_feed_79 rfl ?_
      refine V_aload_n 82 0 dX8_feed_82 rfl ?_
      refine V_getI 83 flX8_135 dX8_feed_83 rfl ?_
      rw [hM.1, hlen]
      refine V_iload 86 7 dX8_feed_86 rfl ?_
      refine V_bip 88 24 dX8_feed_88 rfl ?_
      refine V_bip 90 8 dX8_feed_90 rfl ?_
      refine V_iload 92 6 dX8_feed_92 rfl ?_
      refine V_cst 94 4 dX8_feed_94 rfl ?_
      refine V_rem 95 dX8_feed_95 (by omega) (by omega) (by omega) ?_
      refine V_mul 96 dX8_feed_96 ?_
      refine V_sub1 97 dX8_feed_97 (by omega) ?_
      refine V_ishr 98 dX8_feed_98 ?_
      refine V_sipush 99 255 dX8_feed_99 rfl ?_
      refine V_iand 102 dX8_feed_102 ?_
      rw [show (255 : Int32) = nI 255 from rfl, n_shr255 (k := 24 - 8 * (k % 4)) (by omega)]
      refine V_iast 103 dX8_feed_103 rfl (by omega) (by omega) ?_
      refine V_aload_n 104 0 dX8_feed_104 rfl ?_
      refine V_dup 105 dX8_feed_105 rfl ?_
      refine V_getI 106 flX8_135 dX8_feed_106 rfl ?_
      rw [w_put_ne _ 63 (by decide), hM.1, hlen]
      refine V_cst 109 1 dX8_feed_109 rfl ?_
      refine V_add 110 dX8_feed_110 ?_
      refine V_putI 111 flX8_135 ft_8_18 dX8_feed_111 rfl ?_
      refine V_inc 114 6 _ [(0, _), (1, _), (2, _), (3, _), (4, _), (5, _), (6, _), (7, _)] dX8_feed_114 rfl rfl rfl (by decide) rfl ?_
      refine V_sub [(0, _), (1, _), (2, _), (3, _), (4, _), (5, _), (6, _)] [0, 1, 2, 3, 4, 5, 6] rfl ?_
      refine V_goto 117 23 dX8_feed_117 (by decide) ?_
      refine V_sub [(0, _), (1, _), (2, _), (3, _), (4, _), (5, _), (6, _)] [0, 1, 2, 3, 4, 5, 6] rfl ?_
      obtain ⟨b1, b2⟩ := hM.byte (b := f_w a b c e f k / 2 ^ (24 - 8 * (k % 4)))
      rw [hlen] at b1 b2
      refine ih (k + 1) _ (by omega) ?_ (fun I' h1 h2 => hc I' h1 (b2.trans h2))
      rw [List.range_succ, List.foldl_append]
      exact b1
    refine V_iload 23 6 dX8_feed_23 rfl ?_
    refine V_bip 25 20 dX8_feed_25 rfl ?_
    refine V_cN_ge 27 120 dX8_feed_27 (by decide) (by omega) (by omega) (fun c0 => ?_) (fun c0 => ?_)
    · omega
    refine V_iload 30 6 dX8_feed_30 rfl ?_
    refine V_cst 32 4 dX8_feed_32 rfl ?_
    refine V_cN_ge 33 40 dX8_feed_33 (by decide) (by omega) (by omega) (fun c1 => ?_) (fun c1 => ?_)
    rotate_left
    · refine V_iload_n 36 1 dX8_feed_36 rfl ?_
      refine V_goto 37 76 dX8_feed_37 (by decide) ?_
      have e : f_w a b c e f k = a := by unfold f_w; rw [if_pos (by omega)]
      rw [e] at h76
      exact h76
    refine V_iload 40 6 dX8_feed_40 rfl ?_
    refine V_bip 42 8 dX8_feed_42 rfl ?_
    refine V_cN_ge 44 51 dX8_feed_44 (by decide) (by omega) (by omega) (fun c2 => ?_) (fun c2 => ?_)
    rotate_left
    · refine V_iload_n 47 2 dX8_feed_47 rfl ?_
      refine V_goto 48 76 dX8_feed_48 (by decide) ?_
      have e : f_w a b c e f k = b := by unfold f_w; rw [if_neg (by omega), if_pos (by omega)]
      rw [e] at h76
      exact h76
    refine V_iload 51 6 dX8_feed_51 rfl ?_
    refine V_bip 53 12 dX8_feed_53 rfl ?_
    refine V_cN_ge 55 62 dX8_feed_55 (by decide) (by omega) (by omega) (fun c3 => ?_) (fun c3 => ?_)
    rotate_left
    · refine V_iload_n 58 3 dX8_feed_58 rfl ?_
      refine V_goto 59 76 dX8_feed_59 (by decide) ?_
      have e : f_w a b c e f k = c := by unfold f_w; rw [if_neg (by omega), if_neg (by omega), if_pos (by omega)]
      rw [e] at h76
      exact h76
    refine V_iload 62 6 dX8_feed_62 rfl ?_
    refine V_bip 64 16 dX8_feed_64 rfl ?_
    refine V_cN_ge 66 74 dX8_feed_66 (by decide) (by omega) (by omega) (fun c4 => ?_) (fun c4 => ?_)
    rotate_left
    · refine V_iload 69 4 dX8_feed_69 rfl ?_
      refine V_goto 71 76 dX8_feed_71 (by decide) ?_
      have e : f_w a b c e f k = e := by unfold f_w; rw [if_neg (by omega), if_neg (by omega), if_neg (by omega), if_pos (by omega)]
      rw [e] at h76
      exact h76
    · refine V_iload 74 5 dX8_feed_74 rfl ?_
      have e : f_w a b c e f k = f := by unfold f_w; rw [if_neg (by omega), if_neg (by omega), if_neg (by omega), if_neg (by omega)]
      rw [e] at h76
      exact h76
theorem MInv.m3 {R' : w_R} {I I' : w_I} (h : MInv σ I) (hf : ∀ i, 64 ≤ i → i ≠ 78 → i ≠ 79 → I' i = I i) (h11 : I' 63 11 = I 63 11) (h52 : I' 63 52 = I 63 52) (h53 : I' 63 53 = I 63 53) (h54 : I' 63 54 = I 63 54) (h41 : I' 63 41 = I 63 41) (mt : MT R' I') (mm : MM R' I') (mr : R' 8 0 = σ 3 8 0 ∧ ∀ j, R' 9 j = σ 3 9 j) (ma : R' 5 0 = σ 3 5 0 ∧ R' 6 0 = σ 3 6 0 ∧ R' 7 0 = σ 3 7 0) : MInv (z_put σ 3 R') I' := by
  obtain ⟨h1, h2, h3, h4, h5, h6, h7, h8⟩ := h
  refine ⟨h1.of (fun i a b => hf i a (by omega) (by omega)), h2.of h11 (fun i a b => hf i (by omega) (by omega) (by omega)), h3.of (fun i a b => hf i (by omega) (by omega) (by omega)), mt, mm, ?_, ?_, h8.of h52 (hf 97 (by decide) (by decide) (by decide))⟩
  · show I' 63 41 = R' 8 0 ∧ (R' 8 0 = 0 ∨ (R' 8 0 = 1 ∧ ∀ j, j < σ 0 2 0 → I' 91 j = R' 9 j))
    rw [mr.1, h41, hf 91 (by decide) (by decide) (by decide)]
    refine ⟨h6.1, ?_⟩
    rcases h6.2 with q | ⟨q, r⟩
    · exact Or.inl q
    · exact Or.inr ⟨q, fun j hj => by rw [mr.2]; exact r j hj⟩
  · have := h7.of (I' := I') h53 h54 (fun i hi => hf i (by omega) (by omega) (by omega))
    show I' 63 53 = R' 5 0 ∧ (R' 5 0 = 0 ∨ (R' 5 0 = 1 ∧ I' 63 54 = σ 4 0 0 ∧ _ ∧ MC 2 (σ 0) (σ 5) I' ∧ I' 99 0 = R' 6 0 ∧ I' 99 1 = R' 7 0))
    rw [ma.1, ma.2.1, ma.2.2]
    exact this
theorem m_feed0 {I : w_I} {a b c e f : Nat} (hO : SOK σ) (hM : MInv σ I) (hn : 700 < σ 3 0 0 + 20) : FnI Ω d mX8_feed [.ref (Ω.1 + 63), .int (nI a), .int (nI b), .int (nI c), .int (nI e), .int (nI f)] (SH u v) I L (MO u v L I σ 0 mI) := by
  have hM1 : MInv σ (w_put I 63 0 0) := hM.code
  have h7 := hO.2.2.2.1.1
  refine FnR_of okX8_feed (Nat.le_of_ble_eq_true rfl) fun l z => ?_
  show V _ _ _ _ _ _ _ _ 0 [(0, _), (1, _), (2, _), (3, _), (4, _), (5, _)] []
  refine V_aload_n 0 0 dX8_feed_0 rfl ?_
  refine V_cst 1 0 dX8_feed_1 rfl ?_
  refine V_putI 2 flX8_128 ft_8_0 dX8_feed_2 rfl ?_
  refine V_aload_n 5 0 dX8_feed_5 rfl ?_
  refine V_getI 6 flX8_135 dX8_feed_6 rfl ?_
  rw [hM1.2.2.2.1.1]
  refine V_bip 9 20 dX8_feed_9 rfl ?_
  refine V_add 11 dX8_feed_11 ?_
  refine V_sip 12 700 dX8_feed_12 rfl ?_
  refine V_cN_le 15 20 dX8_feed_15 (by decide) (by omega) (by omega) (fun c0 => ?_) (fun c0 => ?_)
  · omega
  refine V_cst 18 4294967295 dX8_feed_18 rfl ?_
  exact V_iret 19 dX8_feed_19 rfl ⟨rfl, rfl, w_put_same _ _ _ _, fun _ => rfl, hM1, FrM.rf.put (by decide) (by decide)⟩
theorem m_feed1 {I : w_I} {a b c e f : Nat} (hO : SOK σ) (hM : MInv σ I) (hn : σ 3 0 0 + 20 ≤ 700) : FnI Ω d mX8_feed [.ref (Ω.1 + 63), .int (nI a), .int (nI b), .int (nI c), .int (nI e), .int (nI f)] (SH u v) I L (MO u v L I (z_put σ 3 (z_feed (σ 3) a b c e f)) 0 (σ 3 0 0 + 20)) := by
  have hM1 : MInv σ (w_put I 63 0 0) := hM.code
  refine FnR_of okX8_feed (Nat.le_of_ble_eq_true rfl) fun l z => ?_
  show V _ _ _ _ _ _ _ _ 0 [(0, _), (1, _), (2, _), (3, _), (4, _), (5, _)] []
  refine V_aload_n 0 0 dX8_feed_0 rfl ?_
  refine V_cst 1 0 dX8_feed_1 rfl ?_
  refine V_putI 2 flX8_128 ft_8_0 dX8_feed_2 rfl ?_
  refine V_aload_n 5 0 dX8_feed_5 rfl ?_
  refine V_getI 6 flX8_135 dX8_feed_6 rfl ?_
  rw [hM1.2.2.2.1.1]
  refine V_bip 9 20 dX8_feed_9 rfl ?_
  refine V_add 11 dX8_feed_11 ?_
  refine V_sip 12 700 dX8_feed_12 rfl ?_
  refine V_cN_le 15 20 dX8_feed_15 (by decide) (by omega) (by omega) (fun c0 => ?_) (fun c0 => ?_)
  rotate_left
  · omega
  refine V_cst 20 0 dX8_feed_20 rfl ?_
  refine V_istore 21 [(0, _), (1, _), (2, _), (3, _), (4, _), (5, _), (6, _)] dX8_feed_21 (by decide) rfl ?_
  refine fd_l (R := σ 3) hn 20 0 _ (by omega) hM1.2.2.2.1 (fun I' h1 h2 => ?_)
  refine V_aload_n 120 0 dX8_feed_120 rfl ?_
  refine V_getI 121 flX8_135 dX8_feed_121 rfl ?_
  have hlen : z_feed (σ 3) a b c e f 0 0 = σ 3 0 0 + 20 := by rw [← f_all, f_len]
  refine V_iret 124 dX8_feed_124 rfl ⟨rfl, rfl, ?_, fun _ => ?_, hM1.m3 (fun i a b c => h2.1 i (by omega) c) (h2.2 _ (by decide)) (h2.2 _ (by decide)) (h2.2 _ (by decide)) (h2.2 _ (by decide)) (h2.2 _ (by decide)) h1 ?_ ⟨z_feed_o _ _ _ _ _ _ (by decide) (by decide), fun j => z_feed_o _ _ _ _ _ _ (by decide) (by decide)⟩ ⟨z_feed_o _ _ _ _ _ _ (by decide) (by decide), z_feed_o _ _ _ _ _ _ (by decide) (by decide), z_feed_o _ _ _ _ _ _ (by decide) (by decide)⟩, (FrM.rf.put (by decide) (by decide)).trans0 (fun i hi => h2.1 i (by omega) (by omega)) (h2.2 _ (by decide))⟩
  · rw [h2.2 0 (by decide), w_put_same]
  · rw [h1.1, hlen]
  · obtain ⟨g1, g2, g3⟩ := hM1.2.2.2.2.1
    refine ⟨?_, ?_, ?_⟩
    · rw [h2.2 27 (by decide), z_feed_o _ _ _ _ _ _ (by decide) (by decide)]; exact g1
    · rw [h2.1 78 (by decide) (by decide), z_feed_o _ _ _ _ _ _ (by decide) (by decide)]; exact g2
    · rw [h2.1 78 (by decide) (by decide), z_feed_o _ _ _ _ _ _ (by decide) (by decide)]; exact g3
end
