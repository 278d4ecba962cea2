section
variable {Ω : w_O} {d u v : Nat} {L : w_L} {E : w_E} {T : Nat → Nat} {n : Nat} {P : w_R}
/-- a piece of a line, then its semicolon -/
def x_sm (T : Nat → Nat) (n : Nat) (x : x_E (w_R × Nat)) : x_E (w_R × Nat) := x >>= fun q => x_semi T n q.2 >>= fun e' => .ok (q.1, e')
theorem x_people_2 (e : Nat) : x_people T n P e = x_sm T n (x_num T n (x_en T n e) 2 7 2 >>= fun a => .ok (w_put P 0 0 a.1, a.2)) := by
  unfold x_people x_sm
  cases x_num T n (x_en T n e) 2 7 2 <;> rfl
theorem x_price_2 (e : Nat) : x_price T n P e = x_sm T n (x_num T n (x_en T n e) 0 (P 0 0) 3 >>= fun a => x_num T n a.2 0 100 2 >>= fun b => .ok (w_put P 1 a.1 b.1, b.2)) := by
  unfold x_price x_sm
  cases x_num T n (x_en T n e) 0 (P 0 0) 3 with
  | error q => rfl
  | ok a =>
    show (x_num T n a.2 0 100 2 >>= _) = ((x_num T n a.2 0 100 2 >>= _) >>= _)
    cases x_num T n a.2 0 100 2 <;> rfl
theorem x_meet_2 (e : Nat) : x_meet T n P e = x_sm T n (x_meet1 T n P e) := by
  unfold x_meet x_meet1 x_sm
  cases x_num T n (x_en T n e) 0 (P 0 0) 3 with
  | error q => rfl
  | ok a =>
    show (x_oth T n a.2 a.1 (P 0 0) >>= _) = ((x_oth T n a.2 a.1 (P 0 0) >>= _) >>= _)
    cases x_oth T n a.2 a.1 (P 0 0) with
    | error q => rfl
    | ok b =>
      show (x_hr T n b.2 >>= _) = ((x_hr T n b.2 >>= _) >>= _)
      cases x_hr T n b.2 <;> rfl
theorem x_prom_2 (e : Nat) : x_prom T n P e = x_sm T n (x_prom1 T n P e) := by
  unfold x_prom x_prom1 x_sm
  cases x_num T n (x_en T n e) 0 (P 0 0) 3 with
  | error q => rfl
  | ok a =>
    show (x_oth T n a.2 a.1 (P 0 0) >>= _) = ((x_oth T n a.2 a.1 (P 0 0) >>= _) >>= _)
    cases x_oth T n a.2 a.1 (P 0 0) with
    | error q => rfl
    | ok b =>
      show (x_day T n b.2 >>= _) = ((x_day T n b.2 >>= _) >>= _)
      cases x_day T n b.2 with
      | error q => rfl
      | ok c =>
        show (x_hr T n c.2 >>= _) = ((x_hr T n c.2 >>= _) >>= _)
        cases x_hr T n c.2 with
        | error q => rfl
        | ok h =>
          show (x_on T n (P 6 0) h.2 >>= _) = ((x_on T n (P 6 0) h.2 >>= _) >>= _)
          cases x_on T n (P 6 0) h.2 <;> rfl
theorem MPX.people {I : w_I} {x : Nat} (h : MPX P I) : MPX (w_put P 0 0 x) (w_put I 64 3 x) := by
  obtain ⟨h0, h1, h2, h3, h4, h5⟩ := h
  refine ⟨?_, ?_, ?_, fun q hq => ?_, fun q hq => ?_, fun q hq => ?_⟩
  · simp [w_put_eq]
  · simp [w_put_eq, h1]
  · simp [w_put_eq, h2]
  · simp [w_put_eq, h3 q hq]
  · simp [w_put_eq] at hq
    simp [w_put_eq]
    exact h4 q hq
  · simp [w_put_eq] at hq
    simp [w_put_eq]
    exact h5 q hq
theorem MPX.price {I : w_I} {a x : Nat} (h : MPX P I) : MPX (w_put P 1 a x) (w_put I 65 (6 + a) x) := by
  obtain ⟨h0, h1, h2, h3, h4, h5⟩ := h
  refine ⟨?_, ?_, ?_, fun q hq => ?_, fun q hq => ?_, fun q hq => ?_⟩
  · simp [w_put_eq, h0]
  · simp [w_put_eq, h1]
  · simp [w_put_eq, h2]
  · simp [w_put_eq]
    by_cases e : q = a
    · simp [e]
    · simp [e]; exact h3 q hq
  · simp [w_put_eq] at hq
    simp [w_put_eq]
    exact h4 q hq
  · simp [w_put_eq] at hq
    simp [w_put_eq]
    exact h5 q hq
theorem m_readLine {I : w_I} {e k f : Nat} (hf : f = if k = 0 then 1 else 0) (h256 : ∀ j, T j < 256) (hP : s_POK P) (hM : MPX P I) (hG : GD T n e I) (hT : MTX T n I) : FnV Ω (d + 8) mX8_readLine [.ref (Ω.1 + 63), .int (nI f)] (SH u v) I L (LM u v T n L I (x_line T n P k e)) := by
  have h6 := hP.1.2
  have hm12 := hP.2.2.1
  have hp12 := hP.2.2.2.2.1
  refine FnR_of1 okX8_readLine (Nat.le_of_ble_eq_true rfl) fun l z hE => ?_
  show V _ _ _ _ _ _ _ _ 0 [(0, _), (1, _)] []
  have s131 : ∀ x1 J, x_line T n P k e = x_sm T n x1 → FrU I J → MTX T n J → ((∃ q, x1 = .error q ∧ BD q J) ∨ ∃ q, x1 = .ok q ∧ GD T n q.2 J ∧ MPX q.1 J) → V mX8_readLine (w_Er l (d + 8) 0 0 Ω (w_pv (LM u v T n L I (x_line T n P k e))) z) Ω 0 0 (SH u v) J L 131 [(0, .ref (Ω.1 + 63)), (1, .int (nI f))] [] := by
    intro x1 J hx hF hTJ hS
    rw [hx]
    refine V_aload_n 131 0 dX8_readLine_131 rfl ?_
    rcases hS with ⟨q, y1, hB⟩ | ⟨q, y1, hG1, hM1⟩
    · refine V_vv 132 mvX8_229 dX8_readLine_132 ⟨_, _, _, rfl, rfl, rfl⟩ (w_fit.mono (by omega) hE) (m_semi0 (d := d) hB) rfl (Nat.le_of_ble_eq_true rfl) ?_
      rintro _ _ _ ⟨rfl, rfl, rfl⟩
      exact V_ret 135 dX8_readLine_135 rfl ⟨rfl, rfl, hF, Or.inl ⟨q, xb_err y1, hB⟩⟩
    · refine V_vv 132 mvX8_229 dX8_readLine_132 ⟨_, _, _, rfl, rfl, rfl⟩ (w_fit.mono (by omega) hE) (m_semi1 (d := d) hG1 hTJ) rfl (Nat.le_of_ble_eq_true rfl) ?_
      rintro _ I2 _ ⟨rfl, rfl, g1, g2⟩
      rcases g2 with ⟨e', y2, hG2⟩ | ⟨q2, y2, hB⟩
      · exact V_ret 135 dX8_readLine_135 rfl ⟨rfl, rfl, hF.trans g1.u, Or.inr ⟨(q.1, e'), by unfold x_sm; rw [xb_ok y1, xb_ok y2], hG2, hM1.x g1⟩⟩
      · exact V_ret 135 dX8_readLine_135 rfl ⟨rfl, rfl, hF.trans g1.u, Or.inl ⟨q2, by unfold x_sm; rw [xb_ok y1, xb_err y2], hB⟩⟩
  have bad : ∀ f p, x_line T n P k e = .error (f, p) → x_line T n P k e = x_sm T n (.error (f, p)) := fun f p h => by rw [h]; rfl
  refine V_aload_n 0 0 dX8_readLine_0 rfl ?_
  refine V_lit 1 (w := 0) "people" (by decide) dX8_readLine_1 ?_
  refine V_vi 3 mvX8_189 dX8_readLine_3 ⟨_, _, _, rfl, rfl, rfl⟩ (w_fit.mono (by omega) hE) (m_is1 (d := d + 3) (w := 0) (by decide) hG hT) rfl (Nat.le_of_ble_eq_true rfl) ?_
  rintro _ _ _ _ ⟨rfl, rfl, rfl, rfl⟩
  cases i0 : x_is T n e 0
  rotate_left
  · rw [if_pos rfl]
    refine V_zN_eq 6 45 dX8_readLine_6 (by decide) (by omega) (fun c => ?_) (fun c => ?_)
    · exact absurd c (by decide)
    refine V_iload_n 9 1 dX8_readLine_9 rfl ?_
    by_cases hk : k = 0
    rotate_left
    · have ex : x_line T n P k e = .error (5, x_st T n e) := by unfold x_line; rw [i0, if_pos rfl, if_neg hk]
      rw [if_neg hk] at hf
      subst hf
      refine V_zN_ne 10 18 dX8_readLine_10 (by decide) (by omega) (fun c1 => ?_) (fun c1 => ?_)
      · exact absurd rfl c1
      refine V_aload_n 13 0 dX8_readLine_13 rfl ?_
      refine V_cst 14 5 dX8_readLine_14 rfl ?_
      refine V_vv 15 mvX8_196 dX8_readLine_15 ⟨_, _, _, rfl, rfl, rfl⟩ (w_fit.mono (by omega) hE) (m_wrong (d := d) (f := 5) hG.1) rfl (Nat.le_of_ble_eq_true rfl) ?_
      rintro _ I1 _ ⟨rfl, rfl, k1⟩
      obtain ⟨b1, b2⟩ := BD.wrong hG (f := 5) (by decide) (by decide)
      rw [← k1] at b1 b2
      refine V_aload_n 18 0 dX8_readLine_18 rfl ?_
      refine V_getI 19 flX8_173 dX8_readLine_19 rfl ?_
      rw [b1.1]
      refine V_zN_ne 22 29 dX8_readLine_22 (by decide) (by omega) (fun c2 => ?_) (fun c2 => ?_)
      rotate_left
      · exact absurd c2 (by show (5 : Nat) ≠ 0; decide)
      refine V_aload_n 29 0 dX8_readLine_29 rfl ?_
      refine V_getR 30 flX8_7 dX8_readLine_30 rfl ?_
      refine V_cst 33 3 dX8_readLine_33 rfl ?_
      refine V_aload_n 34 0 dX8_readLine_34 rfl ?_
      refine V_cst 35 2 dX8_readLine_35 rfl ?_
      refine V_bip 36 6 dX8_readLine_36 rfl ?_
      refine V_vi 38 mvX8_207 dX8_readLine_38 ⟨_, _, _, rfl, rfl, rfl⟩ (w_fit.mono (by omega) hE) (m_readNumber0 (d := d) b1) rfl (Nat.le_of_ble_eq_true rfl) ?_
      rintro _ _ _ _ ⟨rfl, rfl, rfl, rfl⟩
      refine V_iast 41 dX8_readLine_41 rfl (by omega) (by omega) ?_
      refine V_goto 42 131 dX8_readLine_42 (by decide) ?_
      exact s131 _ _ (bad _ _ ex) (b2.u.put (Or.inl ⟨rfl, by decide⟩)) ((hT.frx b2).u (by decide) (by decide)) (Or.inl ⟨_, rfl, b1.u (by decide)⟩)
    · have ex : x_line T n P k e = x_people T n P e := by unfold x_line; rw [i0, if_pos rfl, if_pos hk]
      rw [if_pos hk] at hf
      subst hf
      refine V_zN_ne 10 18 dX8_readLine_10 (by decide) (by omega) (fun c1 => ?_) (fun c1 => ?_)
      rotate_left
      · exact absurd c1 (by decide)
      refine V_aload_n 18 0 dX8_readLine_18 rfl ?_
      refine V_getI 19 flX8_173 dX8_readLine_19 rfl ?_
      rw [hG.1]
      refine V_zN_ne 22 29 dX8_readLine_22 (by decide) (by omega) (fun c2 => ?_) (fun c2 => ?_)
      · exact absurd rfl c2
      refine V_aload_n 25 0 dX8_readLine_25 rfl ?_
      refine V_vv 26 mvX8_193 dX8_readLine_26 ⟨_, _, _, rfl, rfl, rfl⟩ (w_fit.mono (by omega) hE) (m_stepOn (d := d + 6) hG.2.1.2.2.2.1 (x_en_le hG.2.2).2.2 hT) rfl (Nat.le_of_ble_eq_true rfl) ?_
      rintro _ I1 _ ⟨rfl, rfl, k1, k2⟩
      have hG1 := hG.step k1 k2
      have hT1 := hT.frx k2.x
      refine V_aload_n 29 0 dX8_readLine_29 rfl ?_
      refine V_getR 30 flX8_7 dX8_readLine_30 rfl ?_
      refine V_cst 33 3 dX8_readLine_33 rfl ?_
      refine V_aload_n 34 0 dX8_readLine_34 rfl ?_
      refine V_cst 35 2 dX8_readLine_35 rfl ?_
      refine V_bip 36 6 dX8_readLine_36 rfl ?_
      refine V_vi 38 mvX8_207 dX8_readLine_38 ⟨_, _, _, rfl, rfl, rfl⟩ (w_fit.mono (by omega) hE) (m_readNumber1 (d := d + 5) (lo := 2) (top := 6) h256 (by decide) (by decide) hG1 hT1) rfl (Nat.le_of_ble_eq_true rfl) ?_
      rintro _ _ I2 _ ⟨rfl, rfl, g1, g2⟩
      have g2 : (∃ q, x_num T n (x_en T n e) 2 7 2 = .ok q ∧ _ = nI q.1 ∧ GD T n q.2 I2) ∨ (∃ q, x_num T n (x_en T n e) 2 7 2 = .error q ∧ BD q I2 ∧ ∃ y, _ = nI y) := g2
      rcases g2 with ⟨q, y1, rfl, hG2⟩ | ⟨q, y1, hB, y, rfl⟩
      · refine V_iast 41 dX8_readLine_41 rfl (by omega) (by omega) ?_
        refine V_goto 42 131 dX8_readLine_42 (by decide) ?_
        exact s131 _ _ (ex.trans (x_people_2 e)) ((k2.x.u.trans g1.u).put (Or.inl ⟨rfl, by decide⟩)) ((hT1.frx g1).u (by decide) (by decide)) (Or.inr ⟨_, xb_ok y1, hG2.u (by decide), ((hM.x k2.x).x g1).people⟩)
      · refine V_iast 41 dX8_readLine_41 rfl (by omega) (by omega) ?_
        refine V_goto 42 131 dX8_readLine_42 (by decide) ?_
        exact s131 _ _ (ex.trans (x_people_2 e)) ((k2.x.u.trans g1.u).put (Or.inl ⟨rfl, by decide⟩)) ((hT1.frx g1).u (by decide) (by decide)) (Or.inl ⟨_, xb_err y1, hB.u (by decide)⟩)
  rw [if_neg (by decide)]
  refine V_zN_eq 6 45 dX8_readLine_6 (by decide) (by omega) (fun c => ?_) (fun c => ?_)
  rotate_left
  · exact absurd rfl c
  refine V_aload_n 45 0 dX8_readLine_45 rfl ?_
  refine V_lit 46 (w := 1) "price" (by decide) dX8_readLine_46 ?_
  refine V_vi 48 mvX8_211 dX8_readLine_48 ⟨_, _, _, rfl, rfl, rfl⟩ (w_fit.mono (by omega) hE) (m_passes1 (d := d + 2) (w := 1) (by decide) hG hT) rfl (Nat.le_of_ble_eq_true rfl) ?_
  rintro _ _ I1 _ ⟨rfl, rfl, rfl, g1, g2⟩
  have hM1 := hM.x g2
  have hT1 := hT.frx g2
  have hF1 : FrU I I1 := g2.u
  cases i1 : x_is T n e 1
  rotate_left
  · have ex : x_line T n P k e = x_price T n P e := by unfold x_line; rw [i0, if_neg (by decide), i1, if_pos rfl]
    rw [i1, if_pos rfl] at g1
    rw [if_pos rfl]
    refine V_zN_eq 51 94 dX8_readLine_51 (by decide) (by omega) (fun c1 => ?_) (fun c1 => ?_)
    · exact absurd c1 (by decide)
    refine V_aload_n 54 0 dX8_readLine_54 rfl ?_
    refine V_aload_n 55 0 dX8_readLine_55 rfl ?_
    refine V_getR 56 flX8_7 dX8_readLine_56 rfl ?_
    refine V_cst 59 3 dX8_readLine_59 rfl ?_
    refine V_iald 60 dX8_readLine_60 rfl (by omega) (by omega) ?_
    rw [hM1.1]
    refine V_cst 61 0 dX8_readLine_61 rfl ?_
    refine V_vi 62 mvX8_199 dX8_readLine_62 ⟨_, _, _, rfl, rfl, rfl⟩ (w_fit.mono (by omega) hE) (m_readOne1 (d := d + 5) (b := 0) h256 (by omega) (by decide) g1 hT1) rfl (Nat.le_of_ble_eq_true rfl) ?_
    rintro _ _ I2 _ ⟨rfl, rfl, g3, g4⟩
    rw [x_l1_0] at g4
    have hM2 := hM1.x g3
    have hT2 := hT1.frx g3
    have hF2 : FrU I I2 := hF1.trans g3.u
    rcases g4 with ⟨⟨a, ea⟩, y1, rfl, hG2⟩ | ⟨q, y1, hB, y, rfl⟩
    · have hG2 : GD T n ea I2 := hG2
      have ha : a < P 0 0 := (x_num_ok y1).2.1
      refine V_istore_n 65 [(0, _), (1, _), (2, _)] dX8_readLine_65 (by decide) rfl ?_
      refine V_aload_n 66 0 dX8_readLine_66 rfl ?_
      refine V_cst 67 0 dX8_readLine_67 rfl ?_
      refine V_bip 68 99 dX8_readLine_68 rfl ?_
      refine V_vi 70 mvX8_207 dX8_readLine_70 ⟨_, _, _, rfl, rfl, rfl⟩ (w_fit.mono (by omega) hE) (m_readNumber1 (d := d + 5) (lo := 0) (top := 99) h256 (by decide) (by decide) hG2 hT2) rfl (Nat.le_of_ble_eq_true rfl) ?_
      rintro _ _ I3 _ ⟨rfl, rfl, g5, g6⟩
      have g6 : (∃ q, x_num T n ea 0 100 2 = .ok q ∧ _ = nI q.1 ∧ GD T n q.2 I3) ∨ (∃ q, x_num T n ea 0 100 2 = .error q ∧ BD q I3 ∧ ∃ y, _ = nI y) := g6
      have hM3 := hM2.x g5
      have hT3 := hT2.frx g5
      have hF3 : FrU I I3 := hF2.trans g5.u
      rcases g6 with ⟨q, y2, rfl, hG3⟩ | ⟨q, y2, hB, y, rfl⟩
      · refine V_istore_n 73 [(0, _), (1, _), (2, _), (3, _)] dX8_readLine_73 (by decide) rfl ?_
        refine V_aload_n 74 0 dX8_readLine_74 rfl ?_
        refine V_getI 75 flX8_173 dX8_readLine_75 rfl ?_
        rw [hG3.1]
        refine V_zN_ne 78 91 dX8_readLine_78 (by decide) (by omega) (fun c2 => ?_) (fun c2 => ?_)
        · exact absurd rfl c2
        refine V_aload_n 81 0 dX8_readLine_81 rfl ?_
        refine V_getR 82 flX8_13 dX8_readLine_82 rfl ?_
        refine V_bip 85 6 dX8_readLine_85 rfl ?_
        refine V_iload_n 87 2 dX8_readLine_87 rfl ?_
        refine V_add 88 dX8_readLine_88 ?_
        refine V_iload_n 89 3 dX8_readLine_89 rfl ?_
        refine V_iast 90 dX8_readLine_90 rfl (by omega) (by omega) ?_
        refine V_goto 91 131 dX8_readLine_91 (by decide) ?_
        refine V_sub [(0, _), (1, _)] [0, 1] rfl ?_
        refine V_sub [(0, _), (1, _)] [0, 1] rfl ?_
        refine s131 _ _ (ex.trans (x_price_2 e)) (hF3.put (Or.inr (Or.inl ⟨rfl, by omega⟩))) (hT3.u (by decide) (by decide)) (Or.inr ⟨(w_put P 1 a q.1, q.2), ?_, hG3.u (by decide), hM3.price⟩)
        rw [xb_ok y1, xb_ok y2]
      · refine V_istore_n 73 [(0, _), (1, _), (2, _), (3, _)] dX8_readLine_73 (by decide) rfl ?_
        refine V_aload_n 74 0 dX8_readLine_74 rfl ?_
        refine V_getI 75 flX8_173 dX8_readLine_75 rfl ?_
        rw [hB.1]
        have hq5 := hB.2.2.2.1
        refine V_zN_ne 78 91 dX8_readLine_78 (by decide) (by omega) (fun c2 => ?_) (fun c2 => ?_)
        rotate_left
        · exact absurd c2 (by have := hB.2.2.1; omega)
        refine V_goto 91 131 dX8_readLine_91 (by decide) ?_
        refine V_sub [(0, _), (1, _)] [0, 1] rfl ?_
        refine V_sub [(0, _), (1, _)] [0, 1] rfl ?_
        refine s131 _ _ (ex.trans (x_price_2 e)) hF3 hT3 (Or.inl ⟨q, ?_, hB⟩)
        rw [xb_ok y1, xb_err y2]
    · refine V_istore_n 65 [(0, _), (1, _), (2, _)] dX8_readLine_65 (by decide) rfl ?_
      refine V_aload_n 66 0 dX8_readLine_66 rfl ?_
      refine V_cst 67 0 dX8_readLine_67 rfl ?_
      refine V_bip 68 99 dX8_readLine_68 rfl ?_
      refine V_vi 70 mvX8_207 dX8_readLine_70 ⟨_, _, _, rfl, rfl, rfl⟩ (w_fit.mono (by omega) hE) (m_readNumber0 (d := d) hB) rfl (Nat.le_of_ble_eq_true rfl) ?_
      rintro _ _ _ _ ⟨rfl, rfl, rfl, rfl⟩
      refine V_istore_n 73 [(0, _), (1, _), (2, _), (3, _)] dX8_readLine_73 (by decide) rfl ?_
      refine V_aload_n 74 0 dX8_readLine_74 rfl ?_
      refine V_getI 75 flX8_173 dX8_readLine_75 rfl ?_
      rw [hB.1]
      have hq5 := hB.2.2.2.1
      refine V_zN_ne 78 91 dX8_readLine_78 (by decide) (by omega) (fun c2 => ?_) (fun c2 => ?_)
      rotate_left
      · exact absurd c2 (by have := hB.2.2.1; omega)
      refine V_goto 91 131 dX8_readLine_91 (by decide) ?_
      refine V_sub [(0, _), (1, _)] [0, 1] rfl ?_
      refine V_sub [(0, _), (1, _)] [0, 1] rfl ?_
      exact s131 _ _ (ex.trans (x_price_2 e)) hF2 hT2 (Or.inl ⟨q, xb_err y1, hB⟩)
  rw [i1, if_neg (by decide)] at g1
  rw [if_neg (by decide)]
  refine V_zN_eq 51 94 dX8_readLine_51 (by decide) (by omega) (fun c1 => ?_) (fun c1 => ?_)
  rotate_left
  · exact absurd rfl c1
  refine V_aload_n 94 0 dX8_readLine_94 rfl ?_
  refine V_lit 95 (w := 2) "meet" (by decide) dX8_readLine_95 ?_
  refine V_vi 97 mvX8_189 dX8_readLine_97 ⟨_, _, _, rfl, rfl, rfl⟩ (w_fit.mono (by omega) hE) (m_is1 (d := d + 3) (w := 2) (by decide) g1 hT1) rfl (Nat.le_of_ble_eq_true rfl) ?_
  rintro _ _ _ _ ⟨rfl, rfl, rfl, rfl⟩
  cases i2 : x_is T n e 2
  rotate_left
  · rw [if_pos rfl]
    refine V_zN_eq 100 110 dX8_readLine_100 (by decide) (by omega) (fun c2 => ?_) (fun c2 => ?_)
    · exact absurd c2 (by decide)
    refine V_aload_n 103 0 dX8_readLine_103 rfl ?_
    by_cases h12 : P 2 0 < 12
    · have ex : x_line T n P k e = x_meet T n P e := by unfold x_line; rw [i0, if_neg (by decide), i1, if_neg (by decide), i2, if_pos rfl, if_pos h12]
      refine V_vv 104 mvX8_221 dX8_readLine_104 ⟨_, _, _, rfl, rfl, rfl⟩ (w_fit.mono (by omega) hE) (m_readMeeting1 (d := d + 1) h256 hP h12 hM1 g1 hT1) rfl (Nat.le_of_ble_eq_true rfl) ?_
      rintro _ I2 _ ⟨rfl, rfl, g3, g4⟩
      refine V_goto 107 131 dX8_readLine_107 (by decide) ?_
      exact s131 _ _ (ex.trans (x_meet_2 e)) (hF1.trans g3) (hT1.fru g3) g4
    · have ex : x_line T n P k e = .error (2, x_st T n e) := by unfold x_line; rw [i0, if_neg (by decide), i1, if_neg (by decide), i2, if_pos rfl, if_neg h12]
      refine V_vv 104 mvX8_221 dX8_readLine_104 ⟨_, _, _, rfl, rfl, rfl⟩ (w_fit.mono (by omega) hE) (m_readMeeting0 (d := d) (by omega) hM1 g1) rfl (Nat.le_of_ble_eq_true rfl) ?_
      rintro _ I2 _ ⟨rfl, rfl, g3, g4⟩
      refine V_goto 107 131 dX8_readLine_107 (by decide) ?_
      exact s131 _ _ (bad _ _ ex) (hF1.trans g3) (hT1.fru g3) (Or.inl ⟨_, rfl, g4⟩)
  rw [if_neg (by decide)]
  refine V_zN_eq 100 110 dX8_readLine_100 (by decide) (by omega) (fun c2 => ?_) (fun c2 => ?_)
  rotate_left
  · exact absurd rfl c2
  refine V_aload_n 110 0 dX8_readLine_110 rfl ?_
  refine V_lit 111 (w := 3) "promise" (by decide) dX8_readLine_111 ?_
  refine V_vi 113 mvX8_189 dX8_readLine_113 ⟨_, _, _, rfl, rfl, rfl⟩ (w_fit.mono (by omega) hE) (m_is1 (d := d + 3) (w := 3) (by decide) g1 hT1) rfl (Nat.le_of_ble_eq_true rfl) ?_
  rintro _ _ _ _ ⟨rfl, rfl, rfl, rfl⟩
  cases i3 : x_is T n e 3
  rotate_left
  · rw [if_pos rfl]
    refine V_zN_eq 116 126 dX8_readLine_116 (by decide) (by omega) (fun c3 => ?_) (fun c3 => ?_)
    · exact absurd c3 (by decide)
    refine V_aload_n 119 0 dX8_readLine_119 rfl ?_
    by_cases h12 : P 6 0 < 12
    · have ex : x_line T n P k e = x_prom T n P e := by unfold x_line; rw [i0, if_neg (by decide), i1, if_neg (by decide), i2, if_neg (by decide), i3, if_pos rfl, if_pos h12]
      refine V_vv 120 mvX8_226 dX8_readLine_120 ⟨_, _, _, rfl, rfl, rfl⟩ (w_fit.mono (by omega) hE) (m_readPromise1 (d := d) h256 hP h12 hM1 g1 hT1) rfl (Nat.le_of_ble_eq_true rfl) ?_
      rintro _ I2 _ ⟨rfl, rfl, g3, g4⟩
      refine V_goto 123 131 dX8_readLine_123 (by decide) ?_
      exact s131 _ _ (ex.trans (x_prom_2 e)) (hF1.trans g3) (hT1.fru g3) g4
    · have ex : x_line T n P k e = .error (2, x_st T n e) := by unfold x_line; rw [i0, if_neg (by decide), i1, if_neg (by decide), i2, if_neg (by decide), i3, if_pos rfl, if_neg h12]
      refine V_vv 120 mvX8_226 dX8_readLine_120 ⟨_, _, _, rfl, rfl, rfl⟩ (w_fit.mono (by omega) hE) (m_readPromise0 (d := d) (by omega) hM1 g1) rfl (Nat.le_of_ble_eq_true rfl) ?_
      rintro _ I2 _ ⟨rfl, rfl, g3, g4⟩
      refine V_goto 123 131 dX8_readLine_123 (by decide) ?_
      exact s131 _ _ (bad _ _ ex) (hF1.trans g3) (hT1.fru g3) (Or.inl ⟨_, rfl, g4⟩)
  rw [if_neg (by decide)]
  refine V_zN_eq 116 126 dX8_readLine_116 (by decide) (by omega) (fun c3 => ?_) (fun c3 => ?_)
  rotate_left
  · exact absurd rfl c3
  have ex : x_line T n P k e = .error (1, x_st T n e) := by unfold x_line; rw [i0, if_neg (by decide), i1, if_neg (by decide), i2, if_neg (by decide), i3, if_neg (by decide)]
  refine V_aload_n 126 0 dX8_readLine_126 rfl ?_
  refine V_cst 127 1 dX8_readLine_127 rfl ?_
  refine V_vv 128 mvX8_196 dX8_readLine_128 ⟨_, _, _, rfl, rfl, rfl⟩ (w_fit.mono (by omega) hE) (m_wrong (d := d) (f := 1) g1.1) rfl (Nat.le_of_ble_eq_true rfl) ?_
  rintro _ I2 _ ⟨rfl, rfl, k1⟩
  obtain ⟨b1, b2⟩ := BD.wrong g1 (f := 1) (by decide) (by decide)
  rw [← k1] at b1 b2
  exact s131 _ _ (bad _ _ ex) (hF1.trans b2.u) (hT1.frx b2) (Or.inl ⟨_, rfl, b1⟩)
end
