section
variable {P Y : w_R}
theorem t_D_spS (C : w_R) (x n : Nat) : t_D P Y (w_put C 6 0 x) (n + 1) = t_D P Y C (n + 1) := by
  rw [← t_D_front, day_sp, t_D_front]
theorem t_h_sp (C : w_R) (x t p : Nat) : t_h P Y (w_put C 6 0 x) t p = t_h P Y C t p := by
  unfold t_h t_H
  cases h : t / 12 with
  | zero => show (List.range (t % 12 + 1)).foldl (s_hour P Y) (w_put C 6 0 x) 9 p = _; rw [hours_sp]; rfl
  | succ n => rw [t_D_spS]
theorem t_F_sp (C : w_R) (x : Nat) : ∀ t p w, t_F P Y (w_put C 6 0 x) t p w = t_F P Y C t p w := by
  intro t
  induction t with
  | zero => intro p w; rfl
  | succ t ih =>
    intro p w
    show (if t_F P Y (w_put C 6 0 x) t p w < 1200 then t_F P Y (w_put C 6 0 x) t p w else if (t_h P Y (w_put C 6 0 x) t p).testBit w then t else 1200) = (if t_F P Y C t p w < 1200 then t_F P Y C t p w else if (t_h P Y C t p).testBit w then t else 1200)
    rw [ih, t_h_sp]
theorem y_F_le {p w : Nat} (hP : s_POK P) (hp : p < P 6 0) : ∀ t, t ≤ y_N P p → y_F P p t w ≤ 1200 := by
  have hfr := y_fr_lt hP hp
  intro t
  induction t with
  | zero => intro _; show (if (y_0 P p).testBit w then y_fr P p else 1200) ≤ 1200; split <;> omega
  | succ t ih =>
    intro ht
    have := ih (by omega)
    have hN : y_N P p = min 1200 (y_fr P p + 72) - y_fr P p := rfl
    show (if (y_S P p t).testBit w then y_F P p t w else if (y_S P p (t + 1)).testBit w then y_fr P p + t else 1200) ≤ 1200
    split
    · exact this
    · split <;> omega
end
/-! answers -/
def q_tale (σ : w_Z) (w p m : Nat) : Nat := if t_F (σ 0) (σ 1) s_new 1200 p w ≤ m then 2 else if y_F (σ 0) p (y_N (σ 0) p) w ≤ m then 1 else 0
def q_lacks (σ : w_Z) (w p m : Nat) : Nat := if q_tale σ w p m ≠ 0 then mI else y_first (fun w => decide (y_F (σ 0) p (y_N (σ 0) p) w ≤ m)) 0 (σ 0 0 0)
def q_ks (σ : w_Z) (p : Nat) : Nat := σ 2 8 p &&& s_met (σ 0)
def q_pin (K one : Nat) : Nat → Nat
  | 0 => 0
  | o + 1 => q_pin K one o + (if K &&& (2 ^ one ||| 2 ^ o) ≠ 0 then 1 else 0)
def q_prs (K : Nat) : Nat → Nat
  | 0 => 0
  | n + 1 => q_prs K n + q_pin K n n
def q_W (P : w_R) (si what : Nat) : Nat → Nat := fun i => if i < 6 then k_W P si (what == 0) i else 0
def q_best (σ : w_Z) (p days si what : Nat) : Nat := k_best (σ 0) (q_W (σ 0) si what) (σ 2 8 p) (days - 1)
def q_row (P : w_R) (B m : Nat) : Nat := B % 1048576 / 3 ^ (11 - (s_ord P).idxOf m) % 3
def z_kept (σ : w_Z) (B : Nat) : w_Z := z_put σ 3 (w_row (w_put (σ 3) 8 0 1) 9 (q_row (σ 0) B))
section
variable {Ω : w_O} {d u v : Nat} {L : w_L} {E : w_E} {P Y : w_R} {I : w_I} {σ : w_Z} {R : w_R}
theorem CInv.t {I' : w_I} (h : CInv u v σ I) (hf : ∀ i, i < 32 ∨ 34 ≤ i → i < 50 ∨ 58 ≤ i → I' i = I i) (hT : TInv (σ 0) (σ 1) I') : CInv u v σ I' := by
  obtain ⟨g1, g2, g3, g4, g5, g6, g7, g8, g9⟩ := h
  have fr0 : Fr 32 34 I (fun i => if i < 32 ∨ 34 ≤ i then I i else I' i) := fun i hi => if_pos hi
  have fr : Fr 50 58 (fun i => if i < 32 ∨ 34 ≤ i then I i else I' i) I' := by
    intro i hi
    show I' i = if i < 32 ∨ 34 ≤ i then I i else I' i
    by_cases q : i < 32 ∨ 34 ≤ i
    · rw [if_pos q]; exact hf i q hi
    · rw [if_neg q]
  exact ⟨g1, (g2.fr fr0 (by decide)).fr fr (by decide), (g3.fr fr0 (by decide)).fr fr (by decide), (g4.fr fr0 (by decide)).fr fr (by decide), (g5.fr fr0 (by decide)).fr fr (by decide), (g6.fr fr0 (by decide)).fr fr (by decide), (g7.fr fr0 (by decide) (by decide)).fr fr (by decide) (by decide), (g8.fr fr0 (by decide)).fr fr (by decide), hT⟩
theorem c_keepersOf {a : Nat} (hI : CInv u v σ I) (ha : a < σ 0 6 0) : FnI Ω d mX7_keepersOf [.ref (Ω.1 + 0), .int (nI a)] (SH u v) I L (fun r S' I' L' => r = nI (q_ks σ a) ∧ S' = SH u v ∧ I = I' ∧ L = L') := by
  obtain ⟨-, ⟨p1, p2, -, p4⟩, -, hC, -⟩ := hI
  have h12 := p1.2.2.2.2.1
  have e8 : I 36 a = σ 2 8 a := by rw [← hC.at 8 a (by decide)]; show I 36 a = if a < 12 then I 36 a else 0; rw [if_pos (by omega)]
  refine FnR_of okX7_keepersOf (Nat.le_of_ble_eq_true rfl) fun l z => ?_
  show V _ _ _ _ _ _ _ _ 0 [(0, _), (1, _)] []
  refine V_aload_n 0 0 dX7_keepersOf_0 rfl ?_
  refine V_getR 1 flX7_45 dX7_keepersOf_1 rfl ?_
  refine V_getR 4 flX7_189 dX7_keepersOf_4 rfl ?_
  refine V_iload_n 7 1 dX7_keepersOf_7 rfl ?_
  refine V_iald 8 dX7_keepersOf_8 rfl (by omega) (by omega) ?_
  refine V_aload_n 9 0 dX7_keepersOf_9 rfl ?_
  refine V_getR 10 flX7_29 dX7_keepersOf_10 rfl ?_
  refine V_getI 13 flX7_264 dX7_keepersOf_13 rfl ?_
  refine V_and 16 dX7_keepersOf_16 ?_
  rw [e8, p4]
  exact V_iret 17 dX7_keepersOf_17 rfl ⟨rfl, rfl, rfl, rfl⟩
theorem c_silence {a b : Nat} (hI : CInv u v σ I) (ha : a < σ 0 6 0) (hs : q_st (σ 2) a = 1) (h1 : 1 ≤ b) (h2 : b ≤ 60) : FnI Ω (d + 2) mX7_silence [.ref (Ω.1 + 0), .int (nI a), .int (nI b)] (SH u v) I L (fun r S' I' L' => r = nI (q_ks σ a) ∧ S' = SH u v ∧ I = I' ∧ L = L') := by
  refine FnR_of okX7_silence (Nat.le_of_ble_eq_true rfl) fun l z => ?_
  have hE : w_fit (d + 1) (w_Er l (d + 2) 0 0 Ω (w_pi (fun r S' I' L' => r = nI (q_ks σ a) ∧ S' = SH u v ∧ I = I' ∧ L = L')) z) := w_fit_r
  show V _ _ _ _ _ _ _ _ 0 [(0, _), (1, _), (2, _)] []
  refine V_aload_n 0 0 dX7_silence_0 rfl ?_
  refine V_iload_n 1 1 dX7_silence_1 rfl ?_
  refine V_vv 2 mvX7_212 dX7_silence_2 ⟨_, _, _, rfl, rfl, rfl⟩ (w_fit.mono (by omega) hE) (c_requireStanding (d := d) hI ha hs) rfl (Nat.le_of_ble_eq_true rfl) ?_
  rintro _ _ _ ⟨rfl, rfl, rfl⟩
  refine V_aload_n 5 0 dX7_silence_5 rfl ?_
  refine V_iload_n 6 2 dX7_silence_6 rfl ?_
  refine V_bip 7 60 dX7_silence_7 rfl ?_
  refine V_vv 9 mvX7_217 dX7_silence_9 ⟨_, _, _, rfl, rfl, rfl⟩ (w_fit.mono (by omega) hE) (c_requireDays (d := d) h1 h2 (by decide)) rfl (Nat.le_of_ble_eq_true rfl) ?_
  rintro _ _ _ ⟨rfl, rfl, rfl⟩
  refine V_aload_n 12 0 dX7_silence_12 rfl ?_
  refine V_iload_n 13 1 dX7_silence_13 rfl ?_
  refine V_vi 14 mvX7_238 dX7_silence_14 ⟨_, _, _, rfl, rfl, rfl⟩ (w_fit.mono (by omega) hE) (c_keepersOf (d := d) hI ha) rfl (Nat.le_of_ble_eq_true rfl) ?_
  rintro _ _ _ _ ⟨rfl, rfl, rfl, rfl⟩
  exact V_iret 17 dX7_silence_17 rfl ⟨rfl, rfl, rfl, rfl⟩
theorem t_silenceN {a b : Nat} (h32 : a < 4294967296) (hI : CInv u v σ I) (ha : ¬ (a < σ 0 6 0 ∧ q_st (σ 2) a = 1)) : FnT Ω (d + 2) mX7_silence [.ref (Ω.1 + 0), .int (nI a), .int (nI b)] (SH u v) I L "java/util/NoSuchElementException" := by
  refine FnT_of okX7_silence (Nat.le_of_ble_eq_true rfl) fun l z => ?_
  show V _ _ _ _ _ _ _ _ 0 [(0, _), (1, _), (2, _)] []
  refine V_aload_n 0 0 dX7_silence_0 rfl ?_
  refine V_iload_n 1 1 dX7_silence_1 rfl ?_
  exact V_thrown 2 mvX7_212 dX7_silence_2 ⟨_, _, _, rfl, rfl, rfl⟩ (t_requireStanding (d := d) h32 hI ha) rfl (Nat.le_of_ble_eq_true rfl)
theorem t_silenceI {a b : Nat} (h32 : b < 4294967296) (hI : CInv u v σ I) (ha : a < σ 0 6 0) (hs : q_st (σ 2) a = 1) (hb : ¬ (1 ≤ b ∧ b ≤ 60)) : FnT Ω (d + 2) mX7_silence [.ref (Ω.1 + 0), .int (nI a), .int (nI b)] (SH u v) I L "java/lang/IllegalArgumentException" := by
  refine FnT_of okX7_silence (Nat.le_of_ble_eq_true rfl) fun l z => ?_
  have hE : w_fit (d + 1) (w_Et l (d + 2) Ω (SH u v) I L "java/lang/IllegalArgumentException" z) := w_fit_t
  show V _ _ _ _ _ _ _ _ 0 [(0, _), (1, _), (2, _)] []
  refine V_aload_n 0 0 dX7_silence_0 rfl ?_
  refine V_iload_n 1 1 dX7_silence_1 rfl ?_
  refine V_vv 2 mvX7_212 dX7_silence_2 ⟨_, _, _, rfl, rfl, rfl⟩ (w_fit.mono (by omega) hE) (c_requireStanding (d := d) hI ha hs) rfl (Nat.le_of_ble_eq_true rfl) ?_
  rintro _ _ _ ⟨rfl, rfl, rfl⟩
  refine V_aload_n 5 0 dX7_silence_5 rfl ?_
  refine V_iload_n 6 2 dX7_silence_6 rfl ?_
  refine V_bip 7 60 dX7_silence_7 rfl ?_
  exact V_thrown 9 mvX7_217 dX7_silence_9 ⟨_, _, _, rfl, rfl, rfl⟩ (t_requireDays (d := d + 1) h32 hb (by decide)) rfl (Nat.le_of_ble_eq_true rfl)
theorem q_ks_lt {a : Nat} (hI : CInv u v σ I) : q_ks σ a < 64 := and_lt1 (hI.2.2.2.1.1.1.2.2.2.2.2.1 a)
theorem c_stands {a b : Nat} (hI : CInv u v σ I) (ha : a < σ 0 6 0) (hs : q_st (σ 2) a = 1) (hb : b < 2 ^ σ 0 0 0) : FnI Ω (d + 2) mX7_stands [.ref (Ω.1 + 0), .int (nI a), .int (nI b)] (SH u v) I L (fun r S' I' L' => r = nI (if q_ks σ a &&& (b ^^^ mI) ≠ 0 then 60 else 0) ∧ S' = SH u v ∧ I = I' ∧ L = L') := by
  have hk := q_ks_lt (a := a) hI
  refine FnR_of okX7_stands (Nat.le_of_ble_eq_true rfl) fun l z => ?_
  have hE : w_fit (d + 1) (w_Er l (d + 2) 0 0 Ω (w_pi (fun r S' I' L' => r = nI (if q_ks σ a &&& (b ^^^ mI) ≠ 0 then 60 else 0) ∧ S' = SH u v ∧ I = I' ∧ L = L')) z) := w_fit_r
  show V _ _ _ _ _ _ _ _ 0 [(0, _), (1, _), (2, _)] []
  refine V_aload_n 0 0 dX7_stands_0 rfl ?_
  refine V_iload_n 1 1 dX7_stands_1 rfl ?_
  refine V_vv 2 mvX7_212 dX7_stands_2 ⟨_, _, _, rfl, rfl, rfl⟩ (w_fit.mono (by omega) hE) (c_requireStanding (d := d) hI ha hs) rfl (Nat.le_of_ble_eq_true rfl) ?_
  rintro _ _ _ ⟨rfl, rfl, rfl⟩
  refine V_aload_n 5 0 dX7_stands_5 rfl ?_
  refine V_iload_n 6 2 dX7_stands_6 rfl ?_
  refine V_vv 7 mvX7_221 dX7_stands_7 ⟨_, _, _, rfl, rfl, rfl⟩ (w_fit.mono (by omega) hE) (c_requireSilent (d := d) hI.2.1.2.1 hI.2.1.1 hb) rfl (Nat.le_of_ble_eq_true rfl) ?_
  rintro _ _ _ ⟨rfl, rfl, rfl⟩
  refine V_aload_n 10 0 dX7_stands_10 rfl ?_
  refine V_iload_n 11 1 dX7_stands_11 rfl ?_
  refine V_vi 12 mvX7_238 dX7_stands_12 ⟨_, _, _, rfl, rfl, rfl⟩ (w_fit.mono (by omega) hE) (c_keepersOf (d := d) hI ha) rfl (Nat.le_of_ble_eq_true rfl) ?_
  rintro _ _ _ _ ⟨rfl, rfl, rfl, rfl⟩
  refine V_iload_n 15 2 dX7_stands_15 rfl ?_
  refine V_cst 16 4294967295 dX7_stands_16 rfl ?_
  refine V_xor 17 dX7_stands_17 ?_
  refine V_and 18 dX7_stands_18 ?_
  refine V_zN_eq 19 27 dX7_stands_19 (by decide) (and_lt1 (by omega)) (fun c => ?_) (fun c => ?_)
  · refine V_cst 27 0 dX7_stands_27 rfl ?_
    exact V_iret 28 dX7_stands_28 rfl ⟨by rw [if_neg (fun e => e c)], rfl, rfl, rfl⟩
  · refine V_bip 22 60 dX7_stands_22 rfl ?_
    refine V_goto 24 28 dX7_stands_24 (by decide) ?_
    exact V_iret 28 dX7_stands_28 rfl ⟨by rw [if_pos c], rfl, rfl, rfl⟩
theorem t_standsN {a b : Nat} (h32 : a < 4294967296) (hI : CInv u v σ I) (ha : ¬ (a < σ 0 6 0 ∧ q_st (σ 2) a = 1)) : FnT Ω (d + 2) mX7_stands [.ref (Ω.1 + 0), .int (nI a), .int (nI b)] (SH u v) I L "java/util/NoSuchElementException" := by
  refine FnT_of okX7_stands (Nat.le_of_ble_eq_true rfl) fun l z => ?_
  show V _ _ _ _ _ _ _ _ 0 [(0, _), (1, _), (2, _)] []
  refine V_aload_n 0 0 dX7_stands_0 rfl ?_
  refine V_iload_n 1 1 dX7_stands_1 rfl ?_
  exact V_thrown 2 mvX7_212 dX7_stands_2 ⟨_, _, _, rfl, rfl, rfl⟩ (t_requireStanding (d := d) h32 hI ha) rfl (Nat.le_of_ble_eq_true rfl)
theorem t_standsI {a b : Nat} (h32 : b < 4294967296) (hI : CInv u v σ I) (ha : a < σ 0 6 0) (hs : q_st (σ 2) a = 1) (hb : ¬ b < 2 ^ σ 0 0 0) : FnT Ω (d + 2) mX7_stands [.ref (Ω.1 + 0), .int (nI a), .int (nI b)] (SH u v) I L "java/lang/IllegalArgumentException" := by
  refine FnT_of okX7_stands (Nat.le_of_ble_eq_true rfl) fun l z => ?_
  have hE : w_fit (d + 1) (w_Et l (d + 2) Ω (SH u v) I L "java/lang/IllegalArgumentException" z) := w_fit_t
  show V _ _ _ _ _ _ _ _ 0 [(0, _), (1, _), (2, _)] []
  refine V_aload_n 0 0 dX7_stands_0 rfl ?_
  refine V_iload_n 1 1 dX7_stands_1 rfl ?_
  refine V_vv 2 mvX7_212 dX7_stands_2 ⟨_, _, _, rfl, rfl, rfl⟩ (w_fit.mono (by omega) hE) (c_requireStanding (d := d) hI ha hs) rfl (Nat.le_of_ble_eq_true rfl) ?_
  rintro _ _ _ ⟨rfl, rfl, rfl⟩
  refine V_aload_n 5 0 dX7_stands_5 rfl ?_
  refine V_iload_n 6 2 dX7_stands_6 rfl ?_
  exact V_thrown 7 mvX7_221 dX7_stands_7 ⟨_, _, _, rfl, rfl, rfl⟩ (t_requireSilent (d := d) h32 hI.2.1.2.1 hI.2.1.1 hb) rfl (Nat.le_of_ble_eq_true rfl)
theorem pr_in {a b K o1 : Nat} (hK : K < 64) (ho : o1 < 6) : ∀ (n o f : Nat), o + n = o1 → (∀ x, V mX7_pairs E Ω 0 0 (SH u v) I L 73 [(0, .ref (Ω.1 + 0)), (1, .int (nI a)), (2, .int (nI b)), (3, .int (nI K)), (4, .int (nI (f + q_pin K o1 o1 - q_pin K o1 o))), (5, .int (nI o1)), (6, .int (nI x))] []) →
    V mX7_pairs E Ω 0 0 (SH u v) I L 39 [(0, .ref (Ω.1 + 0)), (1, .int (nI a)), (2, .int (nI b)), (3, .int (nI K)), (4, .int (nI f)), (5, .int (nI o1)), (6, .int (nI o))] [] := by
  intro n
  induction n with
  | zero =>
    intro o f hn hk
    have e : o = o1 := by omega
    subst e
    have hk := hk o
    rw [Nat.add_sub_cancel] at hk
    refine V_iload 39 6 dX7_pairs_39 rfl ?_
    refine V_iload 41 5 dX7_pairs_41 rfl ?_
    refine V_cN_ge 43 73 dX7_pairs_43 (by decide) (by omega) (by omega) (fun c => ?_) (fun c => ?_)
    · exact hk
    · omega
  | succ n ih =>
    intro o f hn hk
    refine V_iload 39 6 dX7_pairs_39 rfl ?_
    refine V_iload 41 5 dX7_pairs_41 rfl ?_
    refine V_cN_ge 43 73 dX7_pairs_43 (by decide) (by omega) (by omega) (fun c => ?_) (fun c => ?_)
    · omega
    refine V_cst 46 1 dX7_pairs_46 rfl ?_
    refine V_iload 47 5 dX7_pairs_47 rfl ?_
    refine V_shl 49 dX7_pairs_49 (by omega) ?_
    refine V_cst 50 1 dX7_pairs_50 rfl ?_
    refine V_iload 51 6 dX7_pairs_51 rfl ?_
    refine V_shl 53 dX7_pairs_53 (by omega) ?_
    refine V_or 54 dX7_pairs_54 ?_
    refine V_istore 55 [(0, _), (1, _), (2, _), (3, _), (4, _), (5, _), (6, _), (7, _)] dX7_pairs_55 (by decide) rfl ?_
    refine V_iload_n 57 3 dX7_pairs_57 rfl ?_
    refine V_iload 58 7 dX7_pairs_58 rfl ?_
    refine V_and 60 dX7_pairs_60 ?_
    rw [Nat.one_mul, Nat.one_mul]
    have e1 : q_pin K o1 (o + 1) = q_pin K o1 o + (if K &&& (2 ^ o1 ||| 2 ^ o) ≠ 0 then 1 else 0) := rfl
    refine V_zN_eq 61 67 dX7_pairs_61 (by decide) (and_lt1 (by omega)) (fun c1 => ?_) (fun c1 => ?_)
    · rw [if_neg (fun e => e c1), Nat.add_zero] at e1
      refine V_inc 67 6 _ [(0, _), (1, _), (2, _), (3, _), (4, _), (5, _), (6, _), (7, _)] dX7_pairs_67 rfl rfl rfl (by decide) rfl ?_
      refine V_goto 70 39 dX7_pairs_70 (by decide) ?_
      refine V_sub [(0, _), (1, _), (2, _), (3, _), (4, _), (5, _), (6, _)] [0, 1, 2, 3, 4, 5, 6] rfl ?_
      refine ih (o + 1) f (by omega) (fun x => ?_)
      rw [e1]
      exact hk x
    · rw [if_pos c1] at e1
      refine V_inc 64 4 _ [(0, _), (1, _), (2, _), (3, _), (4, _), (5, _), (6, _), (7, _)] dX7_pairs_64 rfl rfl rfl (by decide) rfl ?_
      refine V_inc 67 6 _ [(0, _), (1, _), (2, _), (3, _), (4, _), (5, _), (6, _), (7, _)] dX7_pairs_67 rfl rfl rfl (by decide) rfl ?_
      refine V_goto 70 39 dX7_pairs_70 (by decide) ?_
      refine V_sub [(0, _), (1, _), (2, _), (3, _), (4, _), (5, _), (6, _)] [0, 1, 2, 3, 4, 5, 6] rfl ?_
      refine ih (o + 1) (f + 1) (by omega) (fun x => ?_)
      rw [e1, show f + 1 + q_pin K o1 o1 - (q_pin K o1 o + 1) = f + q_pin K o1 o1 - q_pin K o1 o by omega]
      exact hk x
theorem pr_out {a b K : Nat} (hP : s_POK P) (hR : PRep 15 P I) (hK : K < 64) : ∀ (n o : Nat), o + n = P 0 0 → (∀ x, V mX7_pairs E Ω 0 0 (SH u v) I L 79 [(0, .ref (Ω.1 + 0)), (1, .int (nI a)), (2, .int (nI b)), (3, .int (nI K)), (4, .int (nI (q_prs K (P 0 0)))), (5, .int (nI x))] []) →
    V mX7_pairs E Ω 0 0 (SH u v) I L 24 [(0, .ref (Ω.1 + 0)), (1, .int (nI a)), (2, .int (nI b)), (3, .int (nI K)), (4, .int (nI (q_prs K o))), (5, .int (nI o))] [] := by
  have h6 := hP.1.2
  intro n
  induction n with
  | zero =>
    intro o hn hk
    have e : o = P 0 0 := by omega
    refine V_iload 24 5 dX7_pairs_24 rfl ?_
    refine V_aload_n 26 0 dX7_pairs_26 rfl ?_
    refine V_getR 27 flX7_29 dX7_pairs_27 rfl ?_
    refine V_getI 30 flX7_122 dX7_pairs_30 rfl ?_
    rw [hR.1]
    refine V_cN_ge 33 79 dX7_pairs_33 (by decide) (by omega) (by omega) (fun c => ?_) (fun c => ?_)
    · rw [e]; exact hk _
    · omega
  | succ n ih =>
    intro o hn hk
    refine V_iload 24 5 dX7_pairs_24 rfl ?_
    refine V_aload_n 26 0 dX7_pairs_26 rfl ?_
    refine V_getR 27 flX7_29 dX7_pairs_27 rfl ?_
    refine V_getI 30 flX7_122 dX7_pairs_30 rfl ?_
    rw [hR.1]
    refine V_cN_ge 33 79 dX7_pairs_33 (by decide) (by omega) (by omega) (fun c => ?_) (fun c => ?_)
    · omega
    refine V_cst 36 0 dX7_pairs_36 rfl ?_
    refine V_istore 37 [(0, _), (1, _), (2, _), (3, _), (4, _), (5, _), (6, _)] dX7_pairs_37 (by decide) rfl ?_
    refine pr_in hK (by omega) o 0 (q_prs K o) (by omega) (fun x => ?_)
    rw [show q_prs K o + q_pin K o o - q_pin K o 0 = q_prs K (o + 1) from rfl]
    refine V_inc 73 5 _ [(0, _), (1, _), (2, _), (3, _), (4, _), (5, _), (6, _)] dX7_pairs_73 rfl rfl rfl (by decide) rfl ?_
    refine V_goto 76 24 dX7_pairs_76 (by decide) ?_
    refine V_sub [(0, _), (1, _), (2, _), (3, _), (4, _), (5, _)] [0, 1, 2, 3, 4, 5] rfl ?_
    exact ih (o + 1) (by omega) hk
theorem c_pairs {a b : Nat} (hI : CInv u v σ I) (ha : a < σ 0 6 0) (hs : q_st (σ 2) a = 1) (h1 : 1 ≤ b) (h2 : b ≤ 60) : FnI Ω (d + 2) mX7_pairs [.ref (Ω.1 + 0), .int (nI a), .int (nI b)] (SH u v) I L (fun r S' I' L' => r = nI (q_prs (q_ks σ a) (σ 0 0 0)) ∧ S' = SH u v ∧ I = I' ∧ L = L') := by
  refine FnR_of okX7_pairs (Nat.le_of_ble_eq_true rfl) fun l z => ?_
  have hE : w_fit (d + 1) (w_Er l (d + 2) 0 0 Ω (w_pi (fun r S' I' L' => r = nI (q_prs (q_ks σ a) (σ 0 0 0)) ∧ S' = SH u v ∧ I = I' ∧ L = L')) z) := w_fit_r
  show V _ _ _ _ _ _ _ _ 0 [(0, _), (1, _), (2, _)] []
  refine V_aload_n 0 0 dX7_pairs_0 rfl ?_
  refine V_iload_n 1 1 dX7_pairs_1 rfl ?_
  refine V_vv 2 mvX7_212 dX7_pairs_2 ⟨_, _, _, rfl, rfl, rfl⟩ (w_fit.mono (by omega) hE) (c_requireStanding (d := d) hI ha hs) rfl (Nat.le_of_ble_eq_true rfl) ?_
  rintro _ _ _ ⟨rfl, rfl, rfl⟩
  refine V_aload_n 5 0 dX7_pairs_5 rfl ?_
  refine V_iload_n 6 2 dX7_pairs_6 rfl ?_
  refine V_bip 7 60 dX7_pairs_7 rfl ?_
  refine V_vv 9 mvX7_217 dX7_pairs_9 ⟨_, _, _, rfl, rfl, rfl⟩ (w_fit.mono (by omega) hE) (c_requireDays (d := d) h1 h2 (by decide)) rfl (Nat.le_of_ble_eq_true rfl) ?_
  rintro _ _ _ ⟨rfl, rfl, rfl⟩
  refine V_aload_n 12 0 dX7_pairs_12 rfl ?_
  refine V_iload_n 13 1 dX7_pairs_13 rfl ?_
  refine V_vi 14 mvX7_238 dX7_pairs_14 ⟨_, _, _, rfl, rfl, rfl⟩ (w_fit.mono (by omega) hE) (c_keepersOf (d := d) hI ha) rfl (Nat.le_of_ble_eq_true rfl) ?_
  rintro _ _ _ _ ⟨rfl, rfl, rfl, rfl⟩
  refine V_istore_n 17 [(0, _), (1, _), (2, _), (3, _)] dX7_pairs_17 (by decide) rfl ?_
  refine V_cst 18 0 dX7_pairs_18 rfl ?_
  refine V_istore 19 [(0, _), (1, _), (2, _), (3, _), (4, _)] dX7_pairs_19 (by decide) rfl ?_
  refine V_cst 21 0 dX7_pairs_21 rfl ?_
  refine V_istore 22 [(0, _), (1, _), (2, _), (3, _), (4, _), (5, _)] dX7_pairs_22 (by decide) rfl ?_
  refine pr_out hI.2.1.1 hI.2.1.2.1 (q_ks_lt hI) (σ 0 0 0) 0 (by omega) (fun x => ?_)
  refine V_iload 79 4 dX7_pairs_79 rfl ?_
  exact V_iret 81 dX7_pairs_81 rfl ⟨rfl, rfl, rfl, rfl⟩
theorem t_pairsN {a b : Nat} (h32 : a < 4294967296) (hI : CInv u v σ I) (ha : ¬ (a < σ 0 6 0 ∧ q_st (σ 2) a = 1)) : FnT Ω (d + 2) mX7_pairs [.ref (Ω.1 + 0), .int (nI a), .int (nI b)] (SH u v) I L "java/util/NoSuchElementException" := by
  refine FnT_of okX7_pairs (Nat.le_of_ble_eq_true rfl) fun l z => ?_
  show V _ _ _ _ _ _ _ _ 0 [(0, _), (1, _), (2, _)] []
  refine V_aload_n 0 0 dX7_pairs_0 rfl ?_
  refine V_iload_n 1 1 dX7_pairs_1 rfl ?_
  exact V_thrown 2 mvX7_212 dX7_pairs_2 ⟨_, _, _, rfl, rfl, rfl⟩ (t_requireStanding (d := d) h32 hI ha) rfl (Nat.le_of_ble_eq_true rfl)
theorem t_pairsI {a b : Nat} (h32 : b < 4294967296) (hI : CInv u v σ I) (ha : a < σ 0 6 0) (hs : q_st (σ 2) a = 1) (hb : ¬ (1 ≤ b ∧ b ≤ 60)) : FnT Ω (d + 2) mX7_pairs [.ref (Ω.1 + 0), .int (nI a), .int (nI b)] (SH u v) I L "java/lang/IllegalArgumentException" := by
  refine FnT_of okX7_pairs (Nat.le_of_ble_eq_true rfl) fun l z => ?_
  have hE : w_fit (d + 1) (w_Et l (d + 2) Ω (SH u v) I L "java/lang/IllegalArgumentException" z) := w_fit_t
  show V _ _ _ _ _ _ _ _ 0 [(0, _), (1, _), (2, _)] []
  refine V_aload_n 0 0 dX7_pairs_0 rfl ?_
  refine V_iload_n 1 1 dX7_pairs_1 rfl ?_
  refine V_vv 2 mvX7_212 dX7_pairs_2 ⟨_, _, _, rfl, rfl, rfl⟩ (w_fit.mono (by omega) hE) (c_requireStanding (d := d) hI ha hs) rfl (Nat.le_of_ble_eq_true rfl) ?_
  rintro _ _ _ ⟨rfl, rfl, rfl⟩
  refine V_aload_n 5 0 dX7_pairs_5 rfl ?_
  refine V_iload_n 6 2 dX7_pairs_6 rfl ?_
  refine V_bip 7 60 dX7_pairs_7 rfl ?_
  exact V_thrown 9 mvX7_217 dX7_pairs_9 ⟨_, _, _, rfl, rfl, rfl⟩ (t_requireDays (d := d + 1) h32 hb (by decide)) rfl (Nat.le_of_ble_eq_true rfl)
/-! tale, lacks -/
theorem c_requireTale {w p dd h : Nat} (hP : s_POK P) (hR : PRep 15 P I) (hw : w < P 0 0) (hp : p < P 6 0) (hd : dd < 100) (hh : h < 12) : FnV Ω (d + 1) mX7_requireTale [.ref (Ω.1 + 0), .int (nI w), .int (nI p), .int (nI dd), .int (nI h)] (SH u v) I L (fun S' I' L' => S' = SH u v ∧ I = I' ∧ L = L') := by
  refine FnR_of okX7_requireTale (Nat.le_of_ble_eq_true rfl) fun l z => ?_
  have hE : w_fit d (w_Er l (d + 1) 0 0 Ω (w_pv (fun S' I' L' => S' = SH u v ∧ I = I' ∧ L = L')) z) := w_fit_r
  show V _ _ _ _ _ _ _ _ 0 [(0, _), (1, _), (2, _), (3, _), (4, _)] []
  refine V_aload_n 0 0 dX7_requireTale_0 rfl ?_
  refine V_iload_n 1 1 dX7_requireTale_1 rfl ?_
  refine V_vv 2 mvX7_145 dX7_requireTale_2 ⟨_, _, _, rfl, rfl, rfl⟩ (w_fit.mono (by omega) hE) (c_requirePerson (d := d) hR hP hw) rfl (Nat.le_of_ble_eq_true rfl) ?_
  rintro _ _ _ ⟨rfl, rfl, rfl⟩
  refine V_aload_n 5 0 dX7_requireTale_5 rfl ?_
  refine V_iload_n 6 2 dX7_requireTale_6 rfl ?_
  refine V_vv 7 mvX7_165 dX7_requireTale_7 ⟨_, _, _, rfl, rfl, rfl⟩ (w_fit.mono (by omega) hE) (c_requirePromise (d := d) hR hP hp) rfl (Nat.le_of_ble_eq_true rfl) ?_
  rintro _ _ _ ⟨rfl, rfl, rfl⟩
  refine V_iload_n 10 3 dX7_requireTale_10 rfl ?_
  refine V_zN_lt 11 20 dX7_requireTale_11 (by decide) (by omega) (fun c => ?_) (fun c => ?_)
  · omega
  refine V_iload_n 14 3 dX7_requireTale_14 rfl ?_
  refine V_bip 15 100 dX7_requireTale_15 rfl ?_
  refine V_cN_lt 17 31 dX7_requireTale_17 (by decide) (by omega) (by omega) (fun c1 => ?_) (fun c1 => ?_)
  rotate_left
  · omega
  refine V_iload 31 4 dX7_requireTale_31 rfl ?_
  refine V_zN_lt 33 43 dX7_requireTale_33 (by decide) (by omega) (fun c2 => ?_) (fun c2 => ?_)
  · omega
  refine V_iload 36 4 dX7_requireTale_36 rfl ?_
  refine V_bip 38 12 dX7_requireTale_38 rfl ?_
  refine V_cN_lt 40 54 dX7_requireTale_40 (by decide) (by omega) (by omega) (fun c3 => ?_) (fun c3 => ?_)
  · exact V_ret 54 dX7_requireTale_54 rfl ⟨rfl, rfl, rfl⟩
  · omega
theorem t_requireTale {w p dd h : Nat} (h1 : w < 4294967296) (h2 : p < 4294967296) (h3 : dd < 4294967296) (h4 : h < 4294967296) (hP : s_POK P) (hR : PRep 15 P I) (hn : ¬ (w < P 0 0 ∧ p < P 6 0 ∧ dd < 100 ∧ h < 12)) : FnT Ω (d + 1) mX7_requireTale [.ref (Ω.1 + 0), .int (nI w), .int (nI p), .int (nI dd), .int (nI h)] (SH u v) I L "java/util/NoSuchElementException" := by
  refine FnT_of okX7_requireTale (Nat.le_of_ble_eq_true rfl) fun l z => ?_
  have hE : w_fit d (w_Et l (d + 1) Ω (SH u v) I L "java/util/NoSuchElementException" z) := w_fit_t
  show V _ _ _ _ _ _ _ _ 0 [(0, _), (1, _), (2, _), (3, _), (4, _)] []
  refine V_aload_n 0 0 dX7_requireTale_0 rfl ?_
  refine V_iload_n 1 1 dX7_requireTale_1 rfl ?_
  by_cases hw : w < P 0 0
  rotate_left
  · exact V_thrown 2 mvX7_145 dX7_requireTale_2 ⟨_, _, _, rfl, rfl, rfl⟩ (t_requirePerson (d := d) h1 hR hP hw) rfl (Nat.le_of_ble_eq_true rfl)
  refine V_vv 2 mvX7_145 dX7_requireTale_2 ⟨_, _, _, rfl, rfl, rfl⟩ (w_fit.mono (by omega) hE) (c_requirePerson (d := d) hR hP hw) rfl (Nat.le_of_ble_eq_true rfl) ?_
  rintro _ _ _ ⟨rfl, rfl, rfl⟩
  refine V_aload_n 5 0 dX7_requireTale_5 rfl ?_
  refine V_iload_n 6 2 dX7_requireTale_6 rfl ?_
  by_cases hp : p < P 6 0
  rotate_left
  · exact V_thrown 7 mvX7_165 dX7_requireTale_7 ⟨_, _, _, rfl, rfl, rfl⟩ (t_requirePromise (d := d) h2 hR hP hp) rfl (Nat.le_of_ble_eq_true rfl)
  refine V_vv 7 mvX7_165 dX7_requireTale_7 ⟨_, _, _, rfl, rfl, rfl⟩ (w_fit.mono (by omega) hE) (c_requirePromise (d := d) hR hP hp) rfl (Nat.le_of_ble_eq_true rfl) ?_
  rintro _ _ _ ⟨rfl, rfl, rfl⟩
  refine V_iload_n 10 3 dX7_requireTale_10 rfl ?_
  refine V_zN_lt 11 20 dX7_requireTale_11 (by decide) (by omega) (fun c => ?_) (fun c => ?_)
  · exact V_throwN 20 3 (tx := "no such day") rfl clX7_140 ini_N (by decide) dX7_requireTale_20 dX7_requireTale_23 (Or.inr ⟨rfl, dX7_requireTale_24⟩) dX7_requireTale_27 dX7_requireTale_30
  refine V_iload_n 14 3 dX7_requireTale_14 rfl ?_
  refine V_bip 15 100 dX7_requireTale_15 rfl ?_
  refine V_cN_lt 17 31 dX7_requireTale_17 (by decide) (by omega) (by omega) (fun c1 => ?_) (fun c1 => ?_)
  rotate_left
  · exact V_throwN 20 3 (tx := "no such day") rfl clX7_140 ini_N (by decide) dX7_requireTale_20 dX7_requireTale_23 (Or.inr ⟨rfl, dX7_requireTale_24⟩) dX7_requireTale_27 dX7_requireTale_30
  refine V_iload 31 4 dX7_requireTale_31 rfl ?_
  refine V_zN_lt 33 43 dX7_requireTale_33 (by decide) (by omega) (fun c2 => ?_) (fun c2 => ?_)
  · exact V_throwN 43 3 (tx := "no such hour") rfl clX7_140 ini_N (by decide) dX7_requireTale_43 dX7_requireTale_46 (Or.inr ⟨rfl, dX7_requireTale_47⟩) dX7_requireTale_50 dX7_requireTale_53
  refine V_iload 36 4 dX7_requireTale_36 rfl ?_
  refine V_bip 38 12 dX7_requireTale_38 rfl ?_
  refine V_cN_lt 40 54 dX7_requireTale_40 (by decide) (by omega) (by omega) (fun c3 => ?_) (fun c3 => ?_)
  · exact absurd ⟨hw, hp, c1, c3⟩ hn
  · exact V_throwN 43 3 (tx := "no such hour") rfl clX7_140 ini_N (by decide) dX7_requireTale_43 dX7_requireTale_46 (Or.inr ⟨rfl, dX7_requireTale_47⟩) dX7_requireTale_50 dX7_requireTale_53
theorem HRep.at {w p : Nat} (h : HRep P Y I) (hp : p < P 6 0) (hw : w < 6) : I 51 (p * 6 + w) = t_F P Y s_new 1200 p w := by
  obtain ⟨x, hx, h⟩ := h
  rw [((h p hp).2 w hw).1, t_F_sp]
theorem c_tale {w p dd h : Nat} (hI : CInv u v σ I) (hw : w < σ 0 0 0) (hp : p < σ 0 6 0) (hd : dd < 100) (hh : h < 12) : FnI Ω (d + 5) mX7_tale [.ref (Ω.1 + 0), .int (nI w), .int (nI p), .int (nI dd), .int (nI h)] (SH u v) I L (fun r S' I' L' => r = nI (q_tale σ w p (dd * 12 + h)) ∧ S' = SH u v ∧ L = L' ∧ CInv u v σ I' ∧ Fr 0 63 I I') := by
  have hI0 := hI
  obtain ⟨g1, ⟨p1, p2, p3, p4⟩, ⟨y1, y2⟩, g4, g5, g6, g7, g8, g9⟩ := hI
  have h6 := p1.1.2
  have h12 := p1.2.2.2.2.1
  refine FnR_of okX7_tale (Nat.le_of_ble_eq_true rfl) fun l z => ?_
  have hE : w_fit (d + 4) (w_Er l (d + 5) 0 0 Ω (w_pi (fun r S' I' L' => r = nI (q_tale σ w p (dd * 12 + h)) ∧ S' = SH u v ∧ L = L' ∧ CInv u v σ I' ∧ Fr 0 63 I I')) z) := w_fit_r
  show V _ _ _ _ _ _ _ _ 0 [(0, _), (1, _), (2, _), (3, _), (4, _)] []
  refine V_aload_n 0 0 dX7_tale_0 rfl ?_
  refine V_iload_n 1 1 dX7_tale_1 rfl ?_
  refine V_iload_n 2 2 dX7_tale_2 rfl ?_
  refine V_iload_n 3 3 dX7_tale_3 rfl ?_
  refine V_iload 4 4 dX7_tale_4 rfl ?_
  refine V_vv 6 mvX7_241 dX7_tale_6 ⟨_, _, _, rfl, rfl, rfl⟩ (w_fit.mono (by omega) hE) (c_requireTale (d := d) p1 p2 hw hp hd hh) rfl (Nat.le_of_ble_eq_true rfl) ?_
  rintro _ _ _ ⟨rfl, rfl, rfl⟩
  refine V_aload_n 9 0 dX7_tale_9 rfl ?_
  refine V_getR 10 flX7_59 dX7_tale_10 rfl ?_
  refine V_aload_n 13 0 dX7_tale_13 rfl ?_
  refine V_getR 14 flX7_36 dX7_tale_14 rfl ?_
  refine V_vv 17 mvX7_244 dX7_tale_17 ⟨_, _, _, rfl, rfl, rfl⟩ (w_fit.mono (by omega) hE) (c_refresh (d := d) p1 y1 p2 y2 p3 g9) rfl (Nat.le_of_ble_eq_true rfl) ?_
  rintro _ I1 _ ⟨rfl, rfl, k1, k2, k3, k4, k5, k6⟩
  have e51 := k5.at hp (show w < 6 by omega)
  have e52 := k4 p hp w (by omega)
  have l51 : I1 51 (p * 6 + w) ≤ 1200 := by rw [e51]; rcases t_F_le (P := σ 0) (Y := σ 1) (C0 := s_new) (p := p) (w := w) 1200 (Nat.le_refl _) with e | e <;> omega
  have l52 : I1 52 (p * 6 + w) ≤ 1200 := by rw [e52]; exact y_F_le p1 hp _ (Nat.le_refl _)
  refine V_aload_n 20 0 dX7_tale_20 rfl ?_
  refine V_getR 21 flX7_59 dX7_tale_21 rfl ?_
  refine V_iload_n 24 1 dX7_tale_24 rfl ?_
  refine V_iload_n 25 2 dX7_tale_25 rfl ?_
  refine V_iload_n 26 3 dX7_tale_26 rfl ?_
  refine V_bip 27 12 dX7_tale_27 rfl ?_
  refine V_mul 29 dX7_tale_29 ?_
  refine V_iload 30 4 dX7_tale_30 rfl ?_
  refine V_add 32 dX7_tale_32 ?_
  refine V_vi 33 mvX7_248 dX7_tale_33 ⟨_, _, _, rfl, rfl, rfl⟩ (w_fit.mono (by omega) hE) (c_truthOf (d := d) (w := w) (p := p) (m := dd * 12 + h) (by omega) (by omega) (by omega) l51 l52) rfl (Nat.le_of_ble_eq_true rfl) ?_
  rintro _ _ _ _ ⟨rfl, rfl, rfl, rfl⟩
  refine V_iret 36 dX7_tale_36 rfl ⟨?_, rfl, rfl, hI0.t k6 ⟨k1, Or.inr ⟨k2, k4⟩, Or.inr ⟨k3, k5⟩⟩, fun i hi => k6 i (by omega) (by omega)⟩
  rw [e51, e52]
  rfl
theorem t_tale {w p dd h : Nat} (h1 : w < 4294967296) (h2 : p < 4294967296) (h3 : dd < 4294967296) (h4 : h < 4294967296) (hI : CInv u v σ I) (hn : ¬ (w < σ 0 0 0 ∧ p < σ 0 6 0 ∧ dd < 100 ∧ h < 12)) : FnT Ω (d + 2) mX7_tale [.ref (Ω.1 + 0), .int (nI w), .int (nI p), .int (nI dd), .int (nI h)] (SH u v) I L "java/util/NoSuchElementException" := by
  refine FnT_of okX7_tale (Nat.le_of_ble_eq_true rfl) fun l z => ?_
  show V _ _ _ _ _ _ _ _ 0 [(0, _), (1, _), (2, _), (3, _), (4, _)] []
  refine V_aload_n 0 0 dX7_tale_0 rfl ?_
  refine V_iload_n 1 1 dX7_tale_1 rfl ?_
  refine V_iload_n 2 2 dX7_tale_2 rfl ?_
  refine V_iload_n 3 3 dX7_tale_3 rfl ?_
  refine V_iload 4 4 dX7_tale_4 rfl ?_
  exact V_thrown 6 mvX7_241 dX7_tale_6 ⟨_, _, _, rfl, rfl, rfl⟩ (t_requireTale (d := d) h1 h2 h3 h4 hI.2.1.1 hI.2.1.2.1 hn) rfl (Nat.le_of_ble_eq_true rfl)
theorem y_first_lt (f : Nat → Bool) : ∀ n w, y_first f w n < 4294967296 ∨ 4294967296 ≤ w + n := by
  intro n
  induction n with
  | zero => intro w; left; show mI < 4294967296; decide
  | succ n ih =>
    intro w
    unfold y_first
    split
    · omega
    · rcases ih (w + 1) with h | h <;> omega
theorem c_lacks {w p dd h : Nat} (hI : CInv u v σ I) (hw : w < σ 0 0 0) (hp : p < σ 0 6 0) (hd : dd < 100) (hh : h < 12) : FnI Ω (d + 5) mX7_lacks [.ref (Ω.1 + 0), .int (nI w), .int (nI p), .int (nI dd), .int (nI h)] (SH u v) I L (fun r S' I' L' => r = nI (q_lacks σ w p (dd * 12 + h)) ∧ S' = SH u v ∧ L = L' ∧ CInv u v σ I' ∧ Fr 0 63 I I') := by
  have hI0 := hI
  obtain ⟨g1, ⟨p1, p2, p3, p4⟩, ⟨y1, y2⟩, g4, g5, g6, g7, g8, g9⟩ := hI
  have h6 := p1.1.2
  have h12 := p1.2.2.2.2.1
  refine FnR_of okX7_lacks (Nat.le_of_ble_eq_true rfl) fun l z => ?_
  have hE : w_fit (d + 4) (w_Er l (d + 5) 0 0 Ω (w_pi (fun r S' I' L' => r = nI (q_lacks σ w p (dd * 12 + h)) ∧ S' = SH u v ∧ L = L' ∧ CInv u v σ I' ∧ Fr 0 63 I I')) z) := w_fit_r
  show V _ _ _ _ _ _ _ _ 0 [(0, _), (1, _), (2, _), (3, _), (4, _)] []
  refine V_aload_n 0 0 dX7_lacks_0 rfl ?_
  refine V_iload_n 1 1 dX7_lacks_1 rfl ?_
  refine V_iload_n 2 2 dX7_lacks_2 rfl ?_
  refine V_iload_n 3 3 dX7_lacks_3 rfl ?_
  refine V_iload 4 4 dX7_lacks_4 rfl ?_
  refine V_vv 6 mvX7_241 dX7_lacks_6 ⟨_, _, _, rfl, rfl, rfl⟩ (w_fit.mono (by omega) hE) (c_requireTale (d := d) p1 p2 hw hp hd hh) rfl (Nat.le_of_ble_eq_true rfl) ?_
  rintro _ _ _ ⟨rfl, rfl, rfl⟩
  refine V_aload_n 9 0 dX7_lacks_9 rfl ?_
  refine V_getR 10 flX7_59 dX7_lacks_10 rfl ?_
  refine V_aload_n 13 0 dX7_lacks_13 rfl ?_
  refine V_getR 14 flX7_36 dX7_lacks_14 rfl ?_
  refine V_vv 17 mvX7_244 dX7_lacks_17 ⟨_, _, _, rfl, rfl, rfl⟩ (w_fit.mono (by omega) hE) (c_refresh (d := d) p1 y1 p2 y2 p3 g9) rfl (Nat.le_of_ble_eq_true rfl) ?_
  rintro _ I1 _ ⟨rfl, rfl, k1, k2, k3, k4, k5, k6⟩
  have e51 := k5.at hp (show w < 6 by omega)
  have e52 := k4 p hp
  have l51 : I1 51 (p * 6 + w) ≤ 1200 := by rw [e51]; rcases t_F_le (P := σ 0) (Y := σ 1) (C0 := s_new) (p := p) (w := w) 1200 (Nat.le_refl _) with e | e <;> omega
  have l52 : ∀ w, w < 6 → I1 52 (p * 6 + w) ≤ 1200 := fun w hw => by rw [e52 w hw]; exact y_F_le p1 hp _ (Nat.le_refl _)
  have hfin : CInv u v σ I1 := hI0.t k6 ⟨k1, Or.inr ⟨k2, k4⟩, Or.inr ⟨k3, k5⟩⟩
  refine V_iload_n 20 3 dX7_lacks_20 rfl ?_
  refine V_bip 21 12 dX7_lacks_21 rfl ?_
  refine V_mul 23 dX7_lacks_23 ?_
  refine V_iload 24 4 dX7_lacks_24 rfl ?_
  refine V_add 26 dX7_lacks_26 ?_
  refine V_istore 27 [(0, _), (1, _), (2, _), (3, _), (4, _), (5, _)] dX7_lacks_27 (by decide) rfl ?_
  refine V_aload_n 29 0 dX7_lacks_29 rfl ?_
  refine V_getR 30 flX7_59 dX7_lacks_30 rfl ?_
  refine V_iload_n 33 1 dX7_lacks_33 rfl ?_
  refine V_iload_n 34 2 dX7_lacks_34 rfl ?_
  refine V_iload 35 5 dX7_lacks_35 rfl ?_
  refine V_vi 37 mvX7_248 dX7_lacks_37 ⟨_, _, _, rfl, rfl, rfl⟩ (w_fit.mono (by omega) hE) (c_truthOf (d := d) (w := w) (p := p) (m := dd * 12 + h) (by omega) (by omega) (by omega) l51 (l52 w (by omega))) rfl (Nat.le_of_ble_eq_true rfl) ?_
  rintro _ _ _ _ ⟨rfl, rfl, rfl, rfl⟩
  rw [e51, e52 w (by omega)]
  rw [show (if t_F (σ 0) (σ 1) s_new 1200 p w ≤ dd * 12 + h then 2 else if y_F (σ 0) p (y_N (σ 0) p) w ≤ dd * 12 + h then 1 else 0) = q_tale σ w p (dd * 12 + h) from rfl]
  have hq : q_tale σ w p (dd * 12 + h) < 3 := by unfold q_tale; split; decide; split <;> decide
  refine V_zN_eq 40 45 dX7_lacks_40 (by decide) (by omega) (fun c => ?_) (fun c => ?_)
  · refine V_aload_n 45 0 dX7_lacks_45 rfl ?_
    refine V_getR 46 flX7_59 dX7_lacks_46 rfl ?_
    refine V_iload_n 49 2 dX7_lacks_49 rfl ?_
    refine V_iload 50 5 dX7_lacks_50 rfl ?_
    refine V_vi 52 mvX7_252 dX7_lacks_52 ⟨_, _, _, rfl, rfl, rfl⟩ (w_fit.mono (by omega) hE) (c_leastWhoMay (d := d) (p := p) (m := dd * 12 + h) p1 (p2.fr (lo := 32) (hi := 58) (fun i hi => k6 i (by omega) (by omega)) (by decide)) (by omega) (by omega) l52) rfl (Nat.le_of_ble_eq_true rfl) ?_
    rintro _ _ _ _ ⟨rfl, rfl, rfl, rfl⟩
    refine V_iret 55 dX7_lacks_55 rfl ⟨?_, rfl, rfl, hfin, fun i hi => k6 i (by omega) (by omega)⟩
    unfold q_lacks
    rw [if_neg (fun e => e c)]
    have key : ∀ n w0, w0 + n ≤ 6 → y_first (fun w => decide (I1 52 (p * 6 + w) ≤ dd * 12 + h)) w0 n = y_first (fun w => decide (y_F (σ 0) p (y_N (σ 0) p) w ≤ dd * 12 + h)) w0 n := by
      intro n
      induction n with
      | zero => intro w0 _; rfl
      | succ n ih =>
        intro w0 hw0
        unfold y_first
        rw [e52 w0 (by omega), ih (w0 + 1) (by omega)]
    rw [key _ 0 (by omega)]
  · refine V_cst 43 4294967295 dX7_lacks_43 rfl ?_
    refine V_iret 44 dX7_lacks_44 rfl ⟨?_, rfl, rfl, hfin, fun i hi => k6 i (by omega) (by omega)⟩
    unfold q_lacks
    rw [if_pos c]
theorem t_lacks {w p dd h : Nat} (h1 : w < 4294967296) (h2 : p < 4294967296) (h3 : dd < 4294967296) (h4 : h < 4294967296) (hI : CInv u v σ I) (hn : ¬ (w < σ 0 0 0 ∧ p < σ 0 6 0 ∧ dd < 100 ∧ h < 12)) : FnT Ω (d + 2) mX7_lacks [.ref (Ω.1 + 0), .int (nI w), .int (nI p), .int (nI dd), .int (nI h)] (SH u v) I L "java/util/NoSuchElementException" := by
  refine FnT_of okX7_lacks (Nat.le_of_ble_eq_true rfl) fun l z => ?_
  show V _ _ _ _ _ _ _ _ 0 [(0, _), (1, _), (2, _), (3, _), (4, _)] []
  refine V_aload_n 0 0 dX7_lacks_0 rfl ?_
  refine V_iload_n 1 1 dX7_lacks_1 rfl ?_
  refine V_iload_n 2 2 dX7_lacks_2 rfl ?_
  refine V_iload_n 3 3 dX7_lacks_3 rfl ?_
  refine V_iload 4 4 dX7_lacks_4 rfl ?_
  exact V_thrown 6 mvX7_241 dX7_lacks_6 ⟨_, _, _, rfl, rfl, rfl⟩ (t_requireTale (d := d) h1 h2 h3 h4 hI.2.1.1 hI.2.1.2.1 hn) rfl (Nat.le_of_ble_eq_true rfl)
end
