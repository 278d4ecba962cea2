/-! THE WORDS OF A TEXT AS STRINGS -/
def x_w (w : Nat) : List Nat := [[112, 101, 111, 112, 108, 101], [112, 114, 105, 99, 101], [109, 101, 101, 116], [112, 114, 111, 109, 105, 115, 101], [100, 97, 121], [97, 116], [111, 110]].getD w []
def x_wl (w : Nat) : Nat := (x_w w).length
def x_wc (w j : Nat) : Nat := (x_w w).getD j 0
theorem x_w_all : ∀ w, w < 7 → (w_txt.getD w []).length = x_wl w ∧ x_wl w < 8 ∧ ∀ j, j < 8 → (w_txt.getD w []).getD j 0 = nI (x_wc w j) ∧ x_wc w j < 128 := by decide +kernel
theorem x_c16 : ∀ q, q < 256 → ((nI q).toUInt32 % 65536).toInt32 = nI q := by decide +kernel
abbrev w_sa (Ω : w_O) (w : Nat) : Nat := Ω.2.2.2.2.1.1 w
abbrev w_sb (Ω : w_O) (w : Nat) : Nat := Ω.2.2.2.2.1.2 w
section
variable {M : w_M} {E : w_E} {Ω : w_O} {k n : Nat} {S : List w_SC} {I : w_I} {L : w_L} {ls : List (Nat × Value)} {st : List Value}
theorem V_cmp (pc : Nat) {idx : Nat} (hw : Cond.fieldLink M.1 idx "java/lang/String" "COMPACT_STRINGS" "Z" ∈ w_tb) (d : decode M.2.2.1 pc = .ok (.getstatic idx, 3)) (h : V M E Ω k n S I L (pc + 3) ls (.int (nI 1) :: st)) : V M E Ω k n S I L pc ls st := by
  intro p e s m args below meth c H lr locs C hm hn hc hR hS hl
  exact va_gets C.1 C.2.1 hc.2.2.2.2.2.2.2.1.1 hS C.2.2.2.1 (C.2.2.2.2 _ hw) (fun _ q => q) d (h p e s m args below meth c H lr locs C hm hn hc hR hS hl)
theorem V_sio (pc : Nat) {idx : Nat} (hw : Cond.fieldLink M.1 idx "jdk/internal/util/Preconditions" "SIOOBE_FORMATTER" "Ljava/util/function/BiFunction;" ∈ w_tb) (d : decode M.2.2.1 pc = .ok (.getstatic idx, 3)) (h : V M E Ω k n S I L (pc + 3) ls (.null :: st)) (h' : ∀ t, V M E Ω k n S I L (pc + 3) ls (.ref t :: st)) : V M E Ω k n S I L pc ls st := by
  intro p e s m args below meth c H lr locs C hm hn hc hR hS hl
  rcases hc.2.2.2.2.2.2.2.1.2 with hz | ⟨t, hz⟩
  · exact va_gets C.1 C.2.1 hz hS C.2.2.2.1 (C.2.2.2.2 _ hw) (fun _ q => q) d (h p e s m args below meth c H lr locs C hm hn hc hR hS hl)
  · exact va_gets C.1 C.2.1 hz hS C.2.2.2.1 (C.2.2.2.2 _ hw) (fun _ q => q) d (h' t p e s m args below meth c H lr locs C hm hn hc hR hS hl)
theorem V_scod (pc : Nat) {idx w : Nat} (hi : w < 7) (hw : Cond.fieldLink M.1 idx "java/lang/String" "coder" "B" ∈ w_tb) (d : decode M.2.2.1 pc = .ok (.getfield idx, 3)) (h : V M E Ω k n S I L (pc + 3) ls (.int (nI 0) :: st)) : V M E Ω k n S I L pc ls (.ref (w_sa Ω w) :: st) := by
  intro p e s m args below meth c H lr locs C hm hn hc hR hS hl
  exact vk_getf C.1 C.2.1 (hc.2.2.1 w hi).2.1 hS C.2.2.2.1 (C.2.2.2.2 _ hw) (fun _ q => q) d (h p e s m args below meth c H lr locs C hm hn hc hR hS hl)
theorem V_sval (pc : Nat) {idx w : Nat} (hi : w < 7) (hw : Cond.fieldLink M.1 idx "java/lang/String" "value" "[B" ∈ w_tb) (d : decode M.2.2.1 pc = .ok (.getfield idx, 3)) (h : V M E Ω k n S I L (pc + 3) ls (.ref (w_sb Ω w) :: st)) : V M E Ω k n S I L pc ls (.ref (w_sa Ω w) :: st) := by
  intro p e s m args below meth c H lr locs C hm hn hc hR hS hl
  exact vk_getf C.1 C.2.1 (hc.2.2.1 w hi).2.2.1 hS C.2.2.2.1 (C.2.2.2.2 _ hw) (fun _ q => q) d (h p e s m args below meth c H lr locs C hm hn hc hR hS hl)
theorem V_wlen (pc : Nat) {w : Nat} (hi : w < 7) (d : decode M.2.2.1 pc = .ok (.arraylength, 1)) (h : V M E Ω k n S I L (pc + 1) ls (.int (nI (x_wl w)) :: st)) : V M E Ω k n S I L pc ls (.ref (w_sb Ω w) :: st) := by
  intro p e s m args below meth c H lr locs C hm hn hc hR hS hl
  refine va_tlen C.1 C.2.1 (hc.2.2.1 w hi).2.2.2 hS ?_ d (h p e s m args below meth c H lr locs C hm hn hc hR hS hl)
  rw [(x_w_all w hi).1]
  rfl
theorem V_wld (pc : Nat) {w i : Nat} (hi : w < 7) (hin : i < x_wl w) (d : decode M.2.2.1 pc = .ok (.baload, 1)) (h : V M E Ω k n S I L (pc + 1) ls (.int (nI (x_wc w i)) :: st)) : V M E Ω k n S I L pc ls (.int (nI i) :: .ref (w_sb Ω w) :: st) := by
  intro p e s m args below meth c H lr locs C hm hn hc hR hS hl
  obtain ⟨a1, a2, a3⟩ := x_w_all w hi
  have hcl := nI_clamp (show i < 2 ^ 31 by omega)
  refine va_tb (v := .int (nI (x_wc w i))) C.1 C.2.1 (hc.2.2.1 w hi).2.2.2 hS (vp_in_nI (by omega) (by omega)) ?_ d (h p e s m args below meth c H lr locs C hm hn hc hR hS hl)
  rw [hcl]
  show Value.int ((w_txt.getD w []).getD i 0) = _
  rw [(a3 i (by omega)).1]
theorem V_chr (pc : Nat) {x : Nat} (d : decode M.2.2.1 pc = .ok (.i2c, 1)) (hx : x < 256) (h : V M E Ω k n S I L (pc + 1) ls (.int (nI x) :: st)) : V M E Ω k n S I L pc ls (.int (nI x) :: st) := V_i2c pc d (by rw [x_c16 x hx]; exact h)
theorem V_wi (pc : Nat) {idx w dd : Nat} {Mc : w_M} {As : List Value} {st0 : List Value} {P : Int32 → List w_SC → w_I → w_L → Prop} (hi : w < 7) (hs : w_MV M.1 idx Mc As.length) (hN : Mc.1 = "java/lang/String") (d : decode M.2.2.1 pc = .ok (.invokevirtual idx, 3)) (hE : w_fit dd E) (hF : FnI Ω dd Mc (.ref (w_sa Ω w) :: As) S I L P) (hst : st0 = As.reverse ++ .ref (w_sa Ω w) :: st) (hw : (st.map fun v => v.category).sum ≤ 8)
    (h : ∀ r S' I' L', P r S' I' L' → V M E Ω k n S' I' L' (pc + 3) ls (.int r :: st)) : V M E Ω k n S I L pc ls st0 := by
  intro p e s m args below meth c H lr locs C hm hn hc hR hS hl
  obtain ⟨s1, s2, s3, s4, s5, s6⟩ := hs
  have hrec : ∃ cell : Cell, H[w_sa Ω w]? = some cell ∧ cell.vm.isStatics = false ∧ s.vm.findClass Mc.1 = some cell.cls := by
    obtain ⟨cell, b1, b2, b3, b4⟩ := (hc.2.2.1 w hi).1
    have hlt : w_sa Ω w < s.heap.size := by
      rcases Nat.lt_or_ge (w_sa Ω w) s.heap.size with q | q
      · exact q
      · rw [Array.getElem?_eq_none q] at b1; cases b1
    exact ⟨cell, by rw [hS.2.1 _ hlt b4]; exact b1, b2, by rw [hN]; exact b3⟩
  exact w_run (va_runV C (hF E.1 H.size hm.2.2.2.2.1) (cwV As.length C.2.2.2.2 s1 rfl rfl rfl ⟨s2, s3, s4, s5⟩ ⟨hE.1, by have := hE.2; show 8 + (Mc.2.2.2.1 + 11) + (40 * dd + 200) ≤ E.2.1.locals; omega⟩)
    ⟨w_blind Ω _ S I L _, hrec, fun U hU hW => ⟨rfl, by rw [hU], hc.next hS hU hW, by rw [hU]; exact hR.moved hW.alike⟩⟩ rfl rfl hl.1 hst (lv_room hw) d ⟨hn.1, hn.2⟩) hS
    (fun v S' I' L' H1 locs1 hp hR' hS' => by
      obtain ⟨r, rfl, hp⟩ := hp
      exact h r S' I' L' hp p e s m args below meth c H1 lr locs1 C hm hn hc hR' hS' hl)
end
theorem sw_38 : Cond.fieldLink RJ0 38 "java/lang/String" "COMPACT_STRINGS" "Z" ∈ w_tb := w_in 573 (by decide +kernel) (by decide +kernel)
theorem sw_1053 : Cond.fieldLink RJ0 1053 "jdk/internal/util/Preconditions" "SIOOBE_FORMATTER" "Ljava/util/function/BiFunction;" ∈ w_tb := w_in 589 (by decide +kernel) (by decide +kernel)
theorem sw_9 : Cond.fieldLink RJ0 9 "java/lang/String" "value" "[B" ∈ w_tb := w_in 1428 (by decide +kernel) (by decide +kernel)
theorem sw_15 : Cond.fieldLink RJ0 15 "java/lang/String" "coder" "B" ∈ w_tb := w_in 1429 (by decide +kernel) (by decide +kernel)
section
variable {Ω : w_O} {d : Nat} {S : List w_SC} {I : w_I} {L : w_L} {E : w_E}
theorem c_coder {w : Nat} (hi : w < 7) : FnI Ω d mJ0_coder_7d493 [.ref (w_sa Ω w)] S I L (fun r S' I' L' => r = nI 0 ∧ S = S' ∧ I = I' ∧ L = L') := by
  refine FnR_of okJ0_coder_7d493 (Nat.le_of_ble_eq_true rfl) fun l z => ?_
  show V _ _ _ _ _ _ _ _ 0 [(0, _)] []
  refine V_cmp 0 sw_38 dJ0_coder_7d493_0 ?_
  refine V_zN_eq 3 13 dJ0_coder_7d493_3 (by decide) (by omega) (fun c => ?_) (fun c => ?_)
  · exact absurd c (by decide)
  refine V_aload_n 6 0 dJ0_coder_7d493_6 rfl ?_
  refine V_scod 7 hi sw_15 dJ0_coder_7d493_7 ?_
  refine V_goto 10 14 dJ0_coder_7d493_10 (by decide) ?_
  exact V_zret 14 dJ0_coder_7d493_14 rfl rfl ⟨rfl, rfl, rfl, rfl⟩
theorem c_length {w : Nat} (hi : w < 7) : FnI Ω (d + 1) mJ0_length_8abf5 [.ref (w_sa Ω w)] S I L (fun r S' I' L' => r = nI (x_wl w) ∧ S = S' ∧ I = I' ∧ L = L') := by
  obtain ⟨-, a2, -⟩ := x_w_all w hi
  refine FnR_of okJ0_length_8abf5 (Nat.le_of_ble_eq_true rfl) fun l z => ?_
  show V _ _ _ _ _ _ _ _ 0 [(0, _)] []
  refine V_aload_n 0 0 dJ0_length_8abf5_0 rfl ?_
  refine V_sval 1 hi sw_9 dJ0_length_8abf5_1 ?_
  refine V_wlen 4 hi dJ0_length_8abf5_4 ?_
  refine V_aload_n 5 0 dJ0_length_8abf5_5 rfl ?_
  refine V_wi 6 hi mvJ0_335 rfl dJ0_length_8abf5_6 (w_fit_r (d := d)) (c_coder (d := d) hi) rfl (Nat.le_of_ble_eq_true rfl) ?_
  rintro _ _ _ _ ⟨rfl, rfl, rfl, rfl⟩
  refine V_shr 9 dJ0_length_8abf5_9 (by omega) (by omega) ?_
  rw [Nat.pow_zero, Nat.div_one]
  exact V_iret 10 dJ0_length_8abf5_10 rfl ⟨rfl, rfl, rfl, rfl⟩
theorem c_isLatin1 {w : Nat} (hi : w < 7) : FnI Ω d mJ0_isLatin1_aae02 [.ref (w_sa Ω w)] S I L (fun r S' I' L' => r = nI 1 ∧ S = S' ∧ I = I' ∧ L = L') := by
  refine FnR_of okJ0_isLatin1_aae02 (Nat.le_of_ble_eq_true rfl) fun l z => ?_
  show V _ _ _ _ _ _ _ _ 0 [(0, _)] []
  refine V_cmp 0 sw_38 dJ0_isLatin1_aae02_0 ?_
  refine V_zN_eq 3 17 dJ0_isLatin1_aae02_3 (by decide) (by omega) (fun c => ?_) (fun c => ?_)
  · exact absurd c (by decide)
  refine V_aload_n 6 0 dJ0_isLatin1_aae02_6 rfl ?_
  refine V_scod 7 hi sw_15 dJ0_isLatin1_aae02_7 ?_
  refine V_zN_ne 10 17 dJ0_isLatin1_aae02_10 (by decide) (by omega) (fun c1 => ?_) (fun c1 => ?_)
  · exact absurd rfl c1
  refine V_cst 13 1 dJ0_isLatin1_aae02_13 rfl ?_
  refine V_goto 14 18 dJ0_isLatin1_aae02_14 (by decide) ?_
  exact V_zret 18 dJ0_isLatin1_aae02_18 rfl rfl ⟨rfl, rfl, rfl, rfl⟩
theorem c_chk0 {i m : Nat} (h : i < m) (hm : m < 2147483648) : FnI Ω d mJ3_checkIndex_8e157 [.int (nI i), .int (nI m), .null] S I L (fun r S' I' L' => r = nI i ∧ S = S' ∧ I = I' ∧ L = L') := by
  refine FnR_of okJ3_checkIndex_8e157 (Nat.le_of_ble_eq_true rfl) fun l z => ?_
  show V _ _ _ _ _ _ _ _ 0 [(0, _), (1, _), (2, _)] []
  refine V_iload_n 0 0 dJ3_checkIndex_8e157_0 rfl ?_
  refine V_zN_lt 1 9 dJ3_checkIndex_8e157_1 (by decide) (by omega) (fun c => ?_) (fun c => ?_)
  · exact absurd c (by omega)
  refine V_iload_n 4 0 dJ3_checkIndex_8e157_4 rfl ?_
  refine V_iload_n 5 1 dJ3_checkIndex_8e157_5 rfl ?_
  refine V_cN_lt 6 16 dJ3_checkIndex_8e157_6 (by decide) (by omega) (by omega) (fun c1 => ?_) (fun c1 => ?_)
  · refine V_iload_n 16 0 dJ3_checkIndex_8e157_16 rfl ?_
    exact V_iret 17 dJ3_checkIndex_8e157_17 rfl ⟨rfl, rfl, rfl, rfl⟩
  · omega
theorem c_chk1 {i m t : Nat} (h : i < m) (hm : m < 2147483648) : FnI Ω d mJ3_checkIndex_8e157 [.int (nI i), .int (nI m), .ref t] S I L (fun r S' I' L' => r = nI i ∧ S = S' ∧ I = I' ∧ L = L') := by
  refine FnR_of okJ3_checkIndex_8e157 (Nat.le_of_ble_eq_true rfl) fun l z => ?_
  show V _ _ _ _ _ _ _ _ 0 [(0, _), (1, _), (2, _)] []
  refine V_iload_n 0 0 dJ3_checkIndex_8e157_0 rfl ?_
  refine V_zN_lt 1 9 dJ3_checkIndex_8e157_1 (by decide) (by omega) (fun c => ?_) (fun c => ?_)
  · exact absurd c (by omega)
  refine V_iload_n 4 0 dJ3_checkIndex_8e157_4 rfl ?_
  refine V_iload_n 5 1 dJ3_checkIndex_8e157_5 rfl ?_
  refine V_cN_lt 6 16 dJ3_checkIndex_8e157_6 (by decide) (by omega) (by omega) (fun c1 => ?_) (fun c1 => ?_)
  · refine V_iload_n 16 0 dJ3_checkIndex_8e157_16 rfl ?_
    exact V_iret 17 dJ3_checkIndex_8e157_17 rfl ⟨rfl, rfl, rfl, rfl⟩
  · omega
theorem c_check {i m : Nat} (h : i < m) (hm : m < 2147483648) : FnV Ω (d + 1) mJ0_checkIndex_df160 [.int (nI i), .int (nI m)] S I L (fun S' I' L' => S = S' ∧ I = I' ∧ L = L') := by
  refine FnR_of okJ0_checkIndex_df160 (Nat.le_of_ble_eq_true rfl) fun l z => ?_
  have hE : w_fit d (w_Er l (d + 1) 0 0 Ω (w_pv (fun S' I' L' => S = S' ∧ I = I' ∧ L = L')) z) := w_fit_r
  show V _ _ _ _ _ _ _ _ 0 [(0, _), (1, _)] []
  refine V_iload_n 0 0 dJ0_checkIndex_df160_0 rfl ?_
  refine V_iload_n 1 1 dJ0_checkIndex_df160_1 rfl ?_
  refine V_sio 2 sw_1053 dJ0_checkIndex_df160_2 ?_ (fun t => ?_)
  · refine V_si 5 msJ0_1059 dJ0_checkIndex_df160_5 (w_fit.mono (by omega) hE) (c_chk0 (d := d) h hm) rfl (Nat.le_of_ble_eq_true rfl) ?_
    rintro _ _ _ _ ⟨rfl, rfl, rfl, rfl⟩
    refine V_pop 8 dJ0_checkIndex_df160_8 rfl ?_
    exact V_ret 9 dJ0_checkIndex_df160_9 rfl ⟨rfl, rfl, rfl⟩
  · refine V_si 5 msJ0_1059 dJ0_checkIndex_df160_5 (w_fit.mono (by omega) hE) (c_chk1 (d := d) (t := t) h hm) rfl (Nat.le_of_ble_eq_true rfl) ?_
    rintro _ _ _ _ ⟨rfl, rfl, rfl, rfl⟩
    refine V_pop 8 dJ0_checkIndex_df160_8 rfl ?_
    exact V_ret 9 dJ0_checkIndex_df160_9 rfl ⟨rfl, rfl, rfl⟩
theorem c_l1charAt {w i : Nat} (hi : w < 7) (hin : i < x_wl w) : FnI Ω (d + 2) mJ1_charAt_3b067 [.ref (w_sb Ω w), .int (nI i)] S I L (fun r S' I' L' => r = nI (x_wc w i) ∧ S = S' ∧ I = I' ∧ L = L') := by
  obtain ⟨-, a2, a3⟩ := x_w_all w hi
  have hc := (a3 i (by omega)).2
  refine FnR_of okJ1_charAt_3b067 (Nat.le_of_ble_eq_true rfl) fun l z => ?_
  have hE : w_fit (d + 1) (w_Er l (d + 2) 0 0 Ω (w_pi (fun r S' I' L' => r = nI (x_wc w i) ∧ S = S' ∧ I = I' ∧ L = L')) z) := w_fit_r
  show V _ _ _ _ _ _ _ _ 0 [(0, _), (1, _)] []
  refine V_iload_n 0 1 dJ1_charAt_3b067_0 rfl ?_
  refine V_aload_n 1 0 dJ1_charAt_3b067_1 rfl ?_
  refine V_wlen 2 hi dJ1_charAt_3b067_2 ?_
  refine V_sv 3 msJ1_9 dJ1_charAt_3b067_3 (w_fit.mono (by omega) hE) (c_check (d := d) hin (by omega)) rfl (Nat.le_of_ble_eq_true rfl) ?_
  rintro _ _ _ ⟨rfl, rfl, rfl⟩
  refine V_aload_n 6 0 dJ1_charAt_3b067_6 rfl ?_
  refine V_iload_n 7 1 dJ1_charAt_3b067_7 rfl ?_
  refine V_wld 8 hi hin dJ1_charAt_3b067_8 ?_
  refine V_sip 9 255 dJ1_charAt_3b067_9 rfl ?_
  refine V_and 12 dJ1_charAt_3b067_12 ?_
  rw [show x_wc w i &&& 255 = x_wc w i by rw [show (255 : Nat) = 2 ^ 8 - 1 from rfl, Nat.and_two_pow_sub_one_eq_mod]; omega]
  refine V_chr 13 dJ1_charAt_3b067_13 (by omega) ?_
  exact V_zret 14 dJ1_charAt_3b067_14 rfl (by show Value.int ((nI (x_wc w i)).toUInt32 % 65536).toInt32 = _; rw [x_c16 _ (by omega)]) ⟨rfl, rfl, rfl, rfl⟩
theorem c_charAt {w i : Nat} (hi : w < 7) (hin : i < x_wl w) : FnI Ω (d + 3) mJ0_charAt_5068e [.ref (w_sa Ω w), .int (nI i)] S I L (fun r S' I' L' => r = nI (x_wc w i) ∧ S = S' ∧ I = I' ∧ L = L') := by
  obtain ⟨-, a2, a3⟩ := x_w_all w hi
  have hc := (a3 i (by omega)).2
  refine FnR_of okJ0_charAt_5068e (Nat.le_of_ble_eq_true rfl) fun l z => ?_
  have hE : w_fit (d + 2) (w_Er l (d + 3) 0 0 Ω (w_pi (fun r S' I' L' => r = nI (x_wc w i) ∧ S = S' ∧ I = I' ∧ L = L')) z) := w_fit_r
  show V _ _ _ _ _ _ _ _ 0 [(0, _), (1, _)] []
  refine V_aload_n 0 0 dJ0_charAt_5068e_0 rfl ?_
  refine V_wi 1 hi mvJ0_492 rfl dJ0_charAt_5068e_1 (w_fit.mono (by omega) hE) (c_isLatin1 (d := d) hi) rfl (Nat.le_of_ble_eq_true rfl) ?_
  rintro _ _ _ _ ⟨rfl, rfl, rfl, rfl⟩
  refine V_zN_eq 4 16 dJ0_charAt_5068e_4 (by decide) (by omega) (fun c => ?_) (fun c => ?_)
  · exact absurd c (by decide)
  refine V_aload_n 7 0 dJ0_charAt_5068e_7 rfl ?_
  refine V_sval 8 hi sw_9 dJ0_charAt_5068e_8 ?_
  refine V_iload_n 11 1 dJ0_charAt_5068e_11 rfl ?_
  refine V_si 12 msJ0_495 dJ0_charAt_5068e_12 (w_fit.mono (by omega) hE) (c_l1charAt (d := d) hi hin) rfl (Nat.le_of_ble_eq_true rfl) ?_
  rintro _ _ _ _ ⟨rfl, rfl, rfl, rfl⟩
  exact V_zret 15 dJ0_charAt_5068e_15 rfl (by show Value.int ((nI (x_wc w i)).toUInt32 % 65536).toInt32 = _; rw [x_c16 _ (by omega)]) ⟨rfl, rfl, rfl, rfl⟩
end
