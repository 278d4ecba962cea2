/-! BOTH SIDES AGREE: the class answers what the model answers, or both refuse with the same number -/
/-- what a helper of the law leaves -/
abbrev HO (I : w_I) (σ' : w_Z) (x ans : Nat) : Int32 → List w_SC → w_I → w_L → Prop := fun r S' I' L' => r = nI x ∧ (∃ u' v', S' = SH u' v' ∧ CInv u' v' σ' I') ∧ Fr 0 63 I I' ∧ (x = 0 → L' 100 0 = l64 (nI ans))
/-- what a call of the class itself leaves -/
abbrev DO (I : w_I) (σ' : w_Z) (ans : Nat) : Int32 → List w_SC → w_I → w_L → Prop := fun r S' I' _ => r = nI ans ∧ (∃ u' v', S' = SH u' v' ∧ CInv u' v' σ' I') ∧ Fr 0 63 I I'
abbrev w_PP : Type := Int32 → List w_SC → w_I → w_L → Prop
/-- a call with a helper: a new state, a code and an answer, on which both sides agree -/
def Ag (c : Nat) (σ : w_Z) (I : w_I) (Fc : w_PP → Prop) (Fm : Nat → Nat → w_I → w_L → w_PP → Prop) : Prop :=
  ∃ (σ' : w_Z) (x ans : Nat), x < 3 ∧ ZI (c + 1) σ' ∧ (∃ P, Fc P ∧ ∀ r S' I' L', P r S' I' L' → HO I σ' x ans r S' I' L') ∧ ∀ u v I1 L1, MInv σ I1 → I1 63 52 < 1000000000 → ∃ Q, Fm u v I1 L1 Q ∧ ∀ r S' I' L', Q r S' I' L' → MO u v L1 I1 σ' x ans r S' I' L'
/-- a call without one -/
def Ad (c : Nat) (σ : w_Z) (I : w_I) (Fc : w_PP → Prop) (Fm : Nat → Nat → w_I → w_L → w_PP → Prop) : Prop :=
  ∃ (σ' : w_Z) (ans : Nat), ZI (c + 1) σ' ∧ (∃ P, Fc P ∧ ∀ r S' I' L', P r S' I' L' → DO I σ' ans r S' I' L') ∧ ∀ u v I1 L1, MInv σ I1 → ∃ Q, Fm u v I1 L1 Q ∧ ∀ r S' I' L', Q r S' I' L' → MO u v L1 I1 σ' 0 ans r S' I' L'
section
variable {Ω : w_O} {u v c : Nat} {σ σ' : w_Z} {S' : List w_SC} {I I' : w_I} {L L' : w_L} {r : Int32} {x ans : Nat}
theorem hoQ (hI : CInv u v σ I) (q : r = nI 0 ∧ ∃ r' L1, (r' = nI ans ∧ S' = SH u v ∧ I = I' ∧ L = L1) ∧ L' = w_put L1 100 0 (l64 r')) : HO I σ 0 ans r S' I' L' := by
  obtain ⟨q1, r', L1, ⟨rfl, rfl, rfl, rfl⟩, rfl⟩ := q
  exact ⟨q1, ⟨u, v, rfl, hI⟩, Fr.rf, fun _ => w_put_same _ _ _ _⟩
theorem hoC (q : r = nI 0 ∧ ∃ r' L1, (r' = nI ans ∧ S' = SH u v ∧ L = L1 ∧ CInv u v σ' I' ∧ Fr 0 63 I I') ∧ L' = w_put L1 100 0 (l64 r')) : HO I σ' 0 ans r S' I' L' := by
  obtain ⟨q1, r', L1, ⟨rfl, rfl, rfl, q2, q3⟩, rfl⟩ := q
  exact ⟨q1, ⟨u, v, rfl, q2⟩, q3, fun _ => w_put_same _ _ _ _⟩
theorem hoT (hx : x ≠ 0) (hI : CInv u v σ I) (q : r = nI x ∧ S' = SH u v ∧ I' = I ∧ L' = L) : HO I σ x ans r S' I' L' := by
  obtain ⟨q1, rfl, rfl, rfl⟩ := q
  exact ⟨q1, ⟨u, v, rfl, hI⟩, Fr.rf, fun q => absurd q hx⟩
theorem doQ (hI : CInv u v σ I) (q : r = nI ans ∧ S' = SH u v ∧ I = I' ∧ L = L') : DO I σ ans r S' I' L' := by
  obtain ⟨q1, rfl, rfl, rfl⟩ := q
  exact ⟨q1, ⟨u, v, rfl, hI⟩, Fr.rf⟩
theorem doC (q : r = nI ans ∧ S' = SH u v ∧ L = L' ∧ CInv u v σ' I' ∧ Fr 0 63 I I') : DO I σ' ans r S' I' L' := by
  obtain ⟨q1, rfl, rfl, q2, q3⟩ := q
  exact ⟨q1, ⟨u, v, rfl, q2⟩, q3⟩
theorem SH_7 : w_is (SH u v) 0 RX7 := ⟨_, _, _, rfl, rfl, rfl⟩
theorem SH_8 : w_is (SH u v) 63 RX8 := ⟨_, _, _, rfl, rfl, rfl⟩
theorem SH_103 : (SH u v)[100]? = some (.inl (3, 1)) := rfl
theorem z_put_5 {R : w_R} {k j y : Nat} (hk : k ≠ 5) : w_put R k j y 5 0 = R 5 0 := w_put_other _ (Or.inl (fun q => hk q.symm))
theorem a_feed {a b e f g : Nat} (ha : a < 4294967296) (hb : b < 4294967296) (he : e < 4294967296) (hf : f < 4294967296) (hg : g < 4294967296) (hI : CInv u v σ I) (hZ : ZI c σ) :
    Ad c σ I (fun P => FnI Ω 90 mX7_feed [.ref (Ω.1 + 0), .int (nI a), .int (nI b), .int (nI e), .int (nI f), .int (nI g)] (SH u v) I L P) (fun u v I1 L1 Q => FnI Ω 90 mX8_feed [.ref (Ω.1 + 63), .int (nI a), .int (nI b), .int (nI e), .int (nI f), .int (nI g)] (SH u v) I1 L1 Q) := by
  by_cases h : σ 3 0 0 + 20 ≤ 700
  · exact ⟨_, _, hZ.r3 (z_feed_5 _ _ _ _ _ _), ⟨_, c_feed1 ha hb he hf hg hI h, fun _ _ _ _ => doC⟩, fun _ _ _ _ hM => ⟨_, m_feed1 hI.sok hM h, fun _ _ _ _ q => q⟩⟩
  · exact ⟨σ, _, hZ.mono, ⟨_, c_feed0 hI (by omega), fun _ _ _ _ => doQ hI⟩, fun _ _ _ _ hM => ⟨_, m_feed0 hI.sok hM (by omega), fun _ _ _ _ q => q⟩⟩
theorem a_fault (hI : CInv u v σ I) (hZ : ZI c σ) : Ad c σ I (fun P => FnI Ω 90 mX7_fault [.ref (Ω.1 + 0)] (SH u v) I L P) (fun u v I1 L1 Q => FnI Ω 90 mX8_fault [.ref (Ω.1 + 63)] (SH u v) I1 L1 Q) :=
  ⟨σ, _, hZ.mono, ⟨_, c_faultQ hI, fun _ _ _ _ => doQ hI⟩, fun _ _ _ _ hM => ⟨_, m_fault hM, fun _ _ _ _ q => q⟩⟩
theorem a_unsay (hI : CInv u v σ I) (hZ : ZI c σ) : Ad c σ I (fun P => FnI Ω 90 mX7_unsay [.ref (Ω.1 + 0)] (SH u v) I L P) (fun u v I1 L1 Q => FnI Ω 90 mX8_unsay [.ref (Ω.1 + 63)] (SH u v) I1 L1 Q) := by
  by_cases h : σ 1 0 0 = 0
  · exact ⟨σ, _, hZ.mono, ⟨_, c_unsay0 hI h, fun _ _ _ _ => doQ hI⟩, fun _ _ _ _ hM => ⟨_, m_unsay0 hI.sok hM h, fun _ _ _ _ q => q⟩⟩
  · exact ⟨_, _, hZ.r1, ⟨_, c_unsay1 hI h, fun _ _ _ _ => doC⟩, fun _ _ _ _ hM => ⟨_, m_unsay1 hI.sok hM h, fun _ _ _ _ q => q⟩⟩
theorem a_restore (hI : CInv u v σ I) (hZ : ZI c σ) : Ad c σ I (fun P => FnI Ω 90 mX7_restore [.ref (Ω.1 + 0)] (SH u v) I L P) (fun u v I1 L1 Q => FnI Ω 90 mX8_restore [.ref (Ω.1 + 63)] (SH u v) I1 L1 Q) := by
  by_cases h : σ 3 5 0 = 0
  · exact ⟨σ, _, hZ.mono, ⟨_, c_restore0 hI h, fun _ _ _ _ => doQ hI⟩, fun _ _ _ _ hM => ⟨_, m_restore0 hM h, fun _ _ _ _ q => q⟩⟩
  · exact ⟨_, _, hZ.res h, ⟨_, c_restore1 hI h, fun _ _ _ _ => doC⟩, fun _ _ _ _ hM => ⟨_, m_restore1 hI.sok hM h, fun _ _ _ _ q => q⟩⟩
theorem a_town {a : Nat} (ha : a < 4294967296) (hI : CInv u v σ I) (hZ : ZI c σ) :
    Ag c σ I (fun P => FnH Ω 90 mL_town hhL_town [.ref (Ω.1 + 0), .int (nI a), .ref (Ω.1 + 100)] (SH u v) I L (w_pi P)) (fun u v I1 L1 Q => FnI Ω 90 mX8_town [.ref (Ω.1 + 63), .int (nI a)] (SH u v) I1 L1 Q) := by
  by_cases h : a ≤ σ 3 0 0
  · cases hx : x_text (σ 3 1) a with
    | error q =>
      obtain ⟨f, p⟩ := q
      refine ⟨z_bad σ p, 0, f, by decide, hZ.r3 ?_, ⟨_, h_town (d := 89) (c_town hI h) SH_7 (fun r S' I' L' q => by rw [q.1]; exact SH_103), ?_⟩, fun u v I1 L1 hM _ => ⟨_, m_town1 hI.sok hM h, ?_⟩⟩
      · rw [z_put_5 (by decide), z_put_5 (by decide), z_put_5 (by decide)]
      · intro r S' I' L' q
        obtain ⟨q1, r', L1, ⟨rfl, rfl, q4, q5⟩, rfl⟩ := q
        rcases q4 with ⟨f', p', e1, rfl, e2⟩ | ⟨P', e', e1, -⟩
        · rw [hx] at e1
          cases e1
          exact ⟨q1, ⟨_, _, rfl, e2⟩, q5, fun _ => w_put_same _ _ _ _⟩
        · rw [hx] at e1
          cases e1
      · intro r S' I' L' q
        obtain ⟨q1, q2, q3, q4, q5⟩ := q
        rcases q5 with ⟨f', p', e1, rfl, e2⟩ | ⟨P', e', e1, -⟩
        · rw [hx] at e1
          cases e1
          exact ⟨q1, q2, q3, fun _ => rfl, e2, q4⟩
        · rw [hx] at e1
          cases e1
    | ok q =>
      obtain ⟨P0, e0⟩ := q
      refine ⟨z_town σ P0, 0, 0, by decide, ZI.town, ⟨_, h_town (d := 89) (c_town hI h) SH_7 (fun r S' I' L' q => by rw [q.1]; exact SH_103), ?_⟩, fun u v I1 L1 hM _ => ⟨_, m_town1 hI.sok hM h, ?_⟩⟩
      · intro r S' I' L' q
        obtain ⟨q1, r', L1, ⟨rfl, rfl, q4, q5⟩, rfl⟩ := q
        rcases q4 with ⟨f', p', e1, -⟩ | ⟨P', e', e1, -, rfl, e2⟩
        · rw [hx] at e1
          cases e1
        · rw [hx] at e1
          cases e1
          exact ⟨q1, ⟨_, _, rfl, e2⟩, q5, fun _ => w_put_same _ _ _ _⟩
      · intro r S' I' L' q
        obtain ⟨q1, q2, q3, q4, q5⟩ := q
        rcases q5 with ⟨f', p', e1, -⟩ | ⟨P', e', e1, rfl, e2⟩
        · rw [hx] at e1
          cases e1
        · rw [hx] at e1
          cases e1
          exact ⟨q1, q2, q3, fun _ => rfl, e2, q4⟩
  · exact ⟨σ, 1, 0, by decide, hZ.mono, ⟨_, htI_town (d := 89) (t_town ha hI h) SH_7, fun _ _ _ _ => hoT (by decide) hI⟩, fun _ _ _ _ hM _ => ⟨_, m_town0 ha hI.sok hM h, fun _ _ _ _ q => q⟩⟩
theorem a_days {a : Nat} (hc : c ≤ 64) (ha : a < 4294967296) (hI : CInv u v σ I) (hZ : ZI c σ) :
    Ag c σ I (fun P => FnH Ω 90 mL_days hhL_days [.ref (Ω.1 + 0), .int (nI a), .ref (Ω.1 + 100)] (SH u v) I L (w_pi P)) (fun u v I1 L1 Q => FnI Ω 90 mX8_days [.ref (Ω.1 + 63), .int (nI a)] (SH u v) I1 L1 Q) := by
  by_cases h : a ≤ 100
  · have hd : σ 2 0 0 + 100 < 1000000 := by have := hZ.2.1; omega
    exact ⟨_, 0, _, by decide, hZ.days hI.sok h, ⟨_, h_days (d := 89) (c_days hI h hd) SH_7 (fun r S' I' L' q => by rw [q.2.1]; exact SH_103), fun _ _ _ _ => hoC⟩, fun _ _ _ _ hM _ => ⟨_, m_days1 hI.sok hM h hd, fun _ _ _ _ q => q⟩⟩
  · exact ⟨σ, 1, 0, by decide, hZ.mono, ⟨_, htI_days (d := 89) (t_days ha h) SH_7, fun _ _ _ _ => hoT (by decide) hI⟩, fun _ _ _ _ hM _ => ⟨_, m_days0 ha hM h, fun _ _ _ _ q => q⟩⟩
theorem a_say {dd m w p : Nat} (hd : dd < 4294967296) (hm : m < 4294967296) (hw : w < 4294967296) (hp : p < 4294967296) (hI : CInv u v σ I) (hZ : ZI c σ) :
    Ag c σ I (fun P => FnH Ω 90 mL_say hhL_say [.ref (Ω.1 + 0), .int (nI dd), .int (nI m), .int (nI w), .int (nI p), .ref (Ω.1 + 100)] (SH u v) I L (w_pi P)) (fun u v I1 L1 Q => FnI Ω 90 mX8_say [.ref (Ω.1 + 63), .int (nI dd), .int (nI m), .int (nI w), .int (nI p)] (SH u v) I1 L1 Q) := by
  by_cases h : m < σ 0 2 0 ∧ p < σ 0 6 0
  · by_cases hq : q_says σ dd w
    · exact ⟨_, 0, _, by decide, hZ.r1, ⟨_, h_say (d := 89) (c_say1 hd hw hI h.1 h.2 hq) SH_7 (fun r S' I' L' q => by rw [q.2.1]; exact SH_103), fun _ _ _ _ => hoC⟩, fun _ _ _ _ hM _ => ⟨_, m_say1 hd hw hm hp hI.sok hM h hq, fun _ _ _ _ q => q⟩⟩
    · exact ⟨_, 0, _, by decide, hZ.r3 (z_put_5 (by decide)), ⟨_, h_say (d := 89) (c_say0 hd hw hI h.1 h.2 hq) SH_7 (fun r S' I' L' q => by rw [q.2.1]; exact SH_103), fun _ _ _ _ => hoC⟩, fun _ _ _ _ hM _ => ⟨_, m_say0 hd hw hm hp hI.sok hM h hq, fun _ _ _ _ q => q⟩⟩
  · exact ⟨σ, 1, 0, by decide, hZ.mono, ⟨_, htN_say (d := 89) (t_say hm hp hI h) SH_7, fun _ _ _ _ => hoT (by decide) hI⟩, fun _ _ _ _ hM _ => ⟨_, m_sayT hm hp hI.sok hM h, fun _ _ _ _ q => q⟩⟩
theorem a_keep {a b e f : Nat} (ha : a < 4294967296) (hb : b < 4294967296) (he : e < 4294967296) (hf : f < 4294967296) (hI : CInv u v σ I) (hZ : ZI c σ) :
    Ag c σ I (fun P => FnH Ω 90 mL_keep hhL_keep [.ref (Ω.1 + 0), .int (nI a), .int (nI b), .int (nI e), .int (nI f), .ref (Ω.1 + 100)] (SH u v) I L (w_pi P)) (fun u v I1 L1 Q => FnI Ω 90 mX8_keep [.ref (Ω.1 + 63), .int (nI a), .int (nI b), .int (nI e), .int (nI f)] (SH u v) I1 L1 Q) := by
  by_cases h : a < σ 0 6 0 ∧ q_st (σ 2) a = 1 ∧ f < 2
  · by_cases h2 : (1 ≤ b ∧ b ≤ 400) ∧ e < 2 ^ σ 0 0 0
    · by_cases hB : FAR ≤ q_best σ a b e f
      · refine ⟨σ, 0, mI, by decide, hZ.mono, ⟨_, h_keep (d := 89) (c_keep hI h.1 h.2.1 h.2.2 h2.1.1 h2.1.2 h2.2) SH_7 (fun r S' I' L' q => by obtain ⟨u', v', e1, -⟩ := q; rw [e1]; exact SH_103), ?_⟩, fun u v I1 L1 hM hS => ⟨_, m_keep ha hI.sok hZ.1 hM hS h.1 h.2.1 h.2.2 h2.1 h2.2, ?_⟩⟩
        · intro r S' I' L' q
          obtain ⟨q1, r', L1, ⟨u', v', rfl, q4, q5⟩, rfl⟩ := q
          rcases q4 with ⟨-, rfl, e2⟩ | ⟨e1, -⟩
          · exact ⟨q1, ⟨_, _, rfl, e2⟩, q5, fun _ => w_put_same _ _ _ _⟩
          · exact absurd hB (Nat.not_le.mpr e1)
        · intro r S' I' L' q
          obtain ⟨q1, q2, q3, q4, q5⟩ := q
          rcases q5 with ⟨-, rfl, e2⟩ | ⟨e1, -⟩
          · exact ⟨q1, q2, q3, fun _ => rfl, e2, q4⟩
          · exact absurd hB (Nat.not_le.mpr e1)
      · refine ⟨z_kept σ (q_best σ a b e f), 0, q_best σ a b e f / 1048576, by decide, hZ.r3 ?_, ⟨_, h_keep (d := 89) (c_keep hI h.1 h.2.1 h.2.2 h2.1.1 h2.1.2 h2.2) SH_7 (fun r S' I' L' q => by obtain ⟨u', v', e1, -⟩ := q; rw [e1]; exact SH_103), ?_⟩, fun u v I1 L1 hM hS => ⟨_, m_keep ha hI.sok hZ.1 hM hS h.1 h.2.1 h.2.2 h2.1 h2.2, ?_⟩⟩
        · rw [w_row_ne _ _ (by decide), z_put_5 (by decide)]
        · intro r S' I' L' q
          obtain ⟨q1, r', L1, ⟨u', v', rfl, q4, q5⟩, rfl⟩ := q
          rcases q4 with ⟨e1, -⟩ | ⟨-, rfl, e2⟩
          · exact absurd e1 hB
          · exact ⟨q1, ⟨_, _, rfl, e2⟩, q5, fun _ => w_put_same _ _ _ _⟩
        · intro r S' I' L' q
          obtain ⟨q1, q2, q3, q4, q5⟩ := q
          rcases q5 with ⟨e1, -⟩ | ⟨-, rfl, e2⟩
          · exact absurd e1 hB
          · exact ⟨q1, q2, q3, fun _ => rfl, e2, q4⟩
    · exact ⟨σ, 2, 0, by decide, hZ.mono, ⟨_, htI_keep (d := 89) (t_keepI hb he hI h.1 h.2.1 h.2.2 h2) SH_7, fun _ _ _ _ => hoT (by decide) hI⟩, fun _ _ _ _ hM _ => ⟨_, m_keepI ha hb he hI.sok hM h.1 h.2.1 h.2.2 h2, fun _ _ _ _ q => q⟩⟩
  · exact ⟨σ, 1, 0, by decide, hZ.mono, ⟨_, htN_keep (d := 89) (t_keepN ha hf hI h) SH_7, fun _ _ _ _ => hoT (by decide) hI⟩, fun _ _ _ _ hM _ => ⟨_, m_keepN ha hf hI.sok hM h, fun _ _ _ _ q => q⟩⟩
theorem a_count {a : Nat} (ha : a < 4294967296) (hI : CInv u v σ I) (hZ : ZI c σ) :
    Ag c σ I (fun P => FnH Ω 90 mL_count hhL_count [.ref (Ω.1 + 0), .int (nI a), .ref (Ω.1 + 100)] (SH u v) I L (w_pi P)) (fun u v I1 L1 Q => FnI Ω 90 mX8_count [.ref (Ω.1 + 63), .int (nI a)] (SH u v) I1 L1 Q) := by
  by_cases h : a < 9
  · exact ⟨σ, 0, q_count σ a, by decide, hZ.mono, ⟨_, h_count (d := 89) (c_count hI h) SH_7 (fun r S' I' L' q => by rw [q.2.1]; exact SH_103), fun _ _ _ _ => hoQ hI⟩, fun u1 v1 I1 L1 hM _ => ⟨_, by have q0 := m_count (Ω := Ω) (u := u1) (v := v1) (L := L1) (d := 88) ha hI.sok hM; rw [if_pos h] at q0; exact q0, fun _ _ _ _ q => q⟩⟩
  · exact ⟨σ, 1, q_count σ a, by decide, hZ.mono, ⟨_, htN_count (d := 89) (t_count ha h) SH_7, fun _ _ _ _ => hoT (by decide) hI⟩, fun u1 v1 I1 L1 hM _ => ⟨_, by have q0 := m_count (Ω := Ω) (u := u1) (v := v1) (L := L1) (d := 88) ha hI.sok hM; rw [if_neg h] at q0; exact q0, fun _ _ _ _ q => q⟩⟩
theorem a_price {a : Nat} (ha : a < 4294967296) (hI : CInv u v σ I) (hZ : ZI c σ) :
    Ag c σ I (fun P => FnH Ω 90 mL_price hhL_price [.ref (Ω.1 + 0), .int (nI a), .ref (Ω.1 + 100)] (SH u v) I L (w_pi P)) (fun u v I1 L1 Q => FnI Ω 90 mX8_price [.ref (Ω.1 + 63), .int (nI a)] (SH u v) I1 L1 Q) := by
  by_cases h : a < σ 0 0 0
  · exact ⟨σ, 0, σ 0 1 a, by decide, hZ.mono, ⟨_, h_price (d := 89) (c_price hI h) SH_7 (fun r S' I' L' q => by rw [q.2.1]; exact SH_103), fun _ _ _ _ => hoQ hI⟩, fun u1 v1 I1 L1 hM _ => ⟨_, by have q0 := m_price (Ω := Ω) (u := u1) (v := v1) (L := L1) (d := 88) ha hI.sok hM; rw [if_pos h] at q0; exact q0, fun _ _ _ _ q => q⟩⟩
  · exact ⟨σ, 1, σ 0 1 a, by decide, hZ.mono, ⟨_, htN_price (d := 89) (t_price ha hI h) SH_7, fun _ _ _ _ => hoT (by decide) hI⟩, fun u1 v1 I1 L1 hM _ => ⟨_, by have q0 := m_price (Ω := Ω) (u := u1) (v := v1) (L := L1) (d := 88) ha hI.sok hM; rw [if_neg h] at q0; exact q0, fun _ _ _ _ q => q⟩⟩
theorem a_meeting {a b : Nat} (ha : a < 4294967296) (hb : b < 4294967296) (hI : CInv u v σ I) (hZ : ZI c σ) :
    Ag c σ I (fun P => FnH Ω 90 mL_meeting hhL_meeting [.ref (Ω.1 + 0), .int (nI a), .int (nI b), .ref (Ω.1 + 100)] (SH u v) I L (w_pi P)) (fun u v I1 L1 Q => FnI Ω 90 mX8_meeting [.ref (Ω.1 + 63), .int (nI a), .int (nI b)] (SH u v) I1 L1 Q) := by
  by_cases h : a < σ 0 2 0 ∧ b < 3
  · exact ⟨σ, 0, σ 0 (3 + b) a, by decide, hZ.mono, ⟨_, h_meeting (d := 89) (c_meeting hI h.1 h.2) SH_7 (fun r S' I' L' q => by rw [q.2.1]; exact SH_103), fun _ _ _ _ => hoQ hI⟩, fun u1 v1 I1 L1 hM _ => ⟨_, by have q0 := m_meeting (Ω := Ω) (u := u1) (v := v1) (L := L1) (d := 88) ha hb hI.sok hM; rw [if_pos h] at q0; exact q0, fun _ _ _ _ q => q⟩⟩
  · exact ⟨σ, 1, σ 0 (3 + b) a, by decide, hZ.mono, ⟨_, htN_meeting (d := 89) (t_meeting ha hb hI h) SH_7, fun _ _ _ _ => hoT (by decide) hI⟩, fun u1 v1 I1 L1 hM _ => ⟨_, by have q0 := m_meeting (Ω := Ω) (u := u1) (v := v1) (L := L1) (d := 88) ha hb hI.sok hM; rw [if_neg h] at q0; exact q0, fun _ _ _ _ q => q⟩⟩
theorem a_promise {a b : Nat} (ha : a < 4294967296) (hb : b < 4294967296) (hI : CInv u v σ I) (hZ : ZI c σ) :
    Ag c σ I (fun P => FnH Ω 90 mL_promise hhL_promise [.ref (Ω.1 + 0), .int (nI a), .int (nI b), .ref (Ω.1 + 100)] (SH u v) I L (w_pi P)) (fun u v I1 L1 Q => FnI Ω 90 mX8_promise [.ref (Ω.1 + 63), .int (nI a), .int (nI b)] (SH u v) I1 L1 Q) := by
  by_cases h : a < σ 0 6 0 ∧ b < 8
  · exact ⟨σ, 0, q_prom σ a b, by decide, hZ.mono, ⟨_, h_promise (d := 89) (c_promise hI h.1 h.2) SH_7 (fun r S' I' L' q => by rw [q.2.1]; exact SH_103), fun _ _ _ _ => hoQ hI⟩, fun u1 v1 I1 L1 hM _ => ⟨_, by have q0 := m_promise (Ω := Ω) (u := u1) (v := v1) (L := L1) (d := 88) ha hb hI.sok hM; rw [if_pos h] at q0; exact q0, fun _ _ _ _ q => q⟩⟩
  · exact ⟨σ, 1, q_prom σ a b, by decide, hZ.mono, ⟨_, htN_promise (d := 89) (t_promise ha hb hI h) SH_7, fun _ _ _ _ => hoT (by decide) hI⟩, fun u1 v1 I1 L1 hM _ => ⟨_, by have q0 := m_promise (Ω := Ω) (u := u1) (v := v1) (L := L1) (d := 88) ha hb hI.sok hM; rw [if_neg h] at q0; exact q0, fun _ _ _ _ q => q⟩⟩
theorem a_kept {a : Nat} (ha : a < 4294967296) (hI : CInv u v σ I) (hZ : ZI c σ) :
    Ag c σ I (fun P => FnH Ω 90 mL_kept hhL_kept [.ref (Ω.1 + 0), .int (nI a), .ref (Ω.1 + 100)] (SH u v) I L (w_pi P)) (fun u v I1 L1 Q => FnI Ω 90 mX8_kept [.ref (Ω.1 + 63), .int (nI a)] (SH u v) I1 L1 Q) := by
  by_cases h : a < σ 0 2 0 ∧ σ 3 8 0 = 1
  · exact ⟨σ, 0, σ 3 9 a, by decide, hZ.mono, ⟨_, h_kept (d := 89) (c_kept hI h.1 h.2) SH_7 (fun r S' I' L' q => by rw [q.2.1]; exact SH_103), fun _ _ _ _ => hoQ hI⟩, fun u1 v1 I1 L1 hM _ => ⟨_, by have q0 := m_kept (Ω := Ω) (u := u1) (v := v1) (L := L1) (d := 88) ha hI.sok hM; rw [if_pos h] at q0; exact q0, fun _ _ _ _ q => q⟩⟩
  · exact ⟨σ, 1, σ 3 9 a, by decide, hZ.mono, ⟨_, htN_kept (d := 89) (t_kept ha hI h) SH_7, fun _ _ _ _ => hoT (by decide) hI⟩, fun u1 v1 I1 L1 hM _ => ⟨_, by have q0 := m_kept (Ω := Ω) (u := u1) (v := v1) (L := L1) (d := 88) ha hI.sok hM; rw [if_neg h] at q0; exact q0, fun _ _ _ _ q => q⟩⟩
theorem a_tale {a b e f : Nat} (ha : a < 4294967296) (hb : b < 4294967296) (he : e < 4294967296) (hf : f < 4294967296) (hI : CInv u v σ I) (hZ : ZI c σ) :
    Ag c σ I (fun P => FnH Ω 90 mL_tale hhL_tale [.ref (Ω.1 + 0), .int (nI a), .int (nI b), .int (nI e), .int (nI f), .ref (Ω.1 + 100)] (SH u v) I L (w_pi P)) (fun u v I1 L1 Q => FnI Ω 90 mX8_tale [.ref (Ω.1 + 63), .int (nI a), .int (nI b), .int (nI e), .int (nI f)] (SH u v) I1 L1 Q) := by
  by_cases h : a < σ 0 0 0 ∧ b < σ 0 6 0 ∧ e < 100 ∧ f < 12
  · exact ⟨σ, 0, q_tale σ a b (e * 12 + f), by decide, hZ.mono, ⟨_, h_tale (d := 89) (c_tale hI h.1 h.2.1 h.2.2.1 h.2.2.2) SH_7 (fun r S' I' L' q => by rw [q.2.1]; exact SH_103), fun _ _ _ _ => hoC⟩, fun u1 v1 I1 L1 hM _ => ⟨_, by have q0 := m_tale (Ω := Ω) (u := u1) (v := v1) (L := L1) (d := 86) ha hb he hf hI.sok hM; rw [if_pos h] at q0; exact q0, fun _ _ _ _ q => q⟩⟩
  · exact ⟨σ, 1, q_tale σ a b (e * 12 + f), by decide, hZ.mono, ⟨_, htN_tale (d := 89) (t_tale ha hb he hf hI h) SH_7, fun _ _ _ _ => hoT (by decide) hI⟩, fun u1 v1 I1 L1 hM _ => ⟨_, by have q0 := m_tale (Ω := Ω) (u := u1) (v := v1) (L := L1) (d := 86) ha hb he hf hI.sok hM; rw [if_neg h] at q0; exact q0, fun _ _ _ _ q => q⟩⟩
theorem a_lacks {a b e f : Nat} (ha : a < 4294967296) (hb : b < 4294967296) (he : e < 4294967296) (hf : f < 4294967296) (hI : CInv u v σ I) (hZ : ZI c σ) :
    Ag c σ I (fun P => FnH Ω 90 mL_lacks hhL_lacks [.ref (Ω.1 + 0), .int (nI a), .int (nI b), .int (nI e), .int (nI f), .ref (Ω.1 + 100)] (SH u v) I L (w_pi P)) (fun u v I1 L1 Q => FnI Ω 90 mX8_lacks [.ref (Ω.1 + 63), .int (nI a), .int (nI b), .int (nI e), .int (nI f)] (SH u v) I1 L1 Q) := by
  by_cases h : a < σ 0 0 0 ∧ b < σ 0 6 0 ∧ e < 100 ∧ f < 12
  · exact ⟨σ, 0, q_lacks σ a b (e * 12 + f), by decide, hZ.mono, ⟨_, h_lacks (d := 89) (c_lacks hI h.1 h.2.1 h.2.2.1 h.2.2.2) SH_7 (fun r S' I' L' q => by rw [q.2.1]; exact SH_103), fun _ _ _ _ => hoC⟩, fun u1 v1 I1 L1 hM _ => ⟨_, by have q0 := m_lacks (Ω := Ω) (u := u1) (v := v1) (L := L1) (d := 86) ha hb he hf hI.sok hM; rw [if_pos h] at q0; exact q0, fun _ _ _ _ q => q⟩⟩
  · exact ⟨σ, 1, q_lacks σ a b (e * 12 + f), by decide, hZ.mono, ⟨_, htN_lacks (d := 89) (t_lacks ha hb he hf hI h) SH_7, fun _ _ _ _ => hoT (by decide) hI⟩, fun u1 v1 I1 L1 hM _ => ⟨_, by have q0 := m_lacks (Ω := Ω) (u := u1) (v := v1) (L := L1) (d := 86) ha hb he hf hI.sok hM; rw [if_neg h] at q0; exact q0, fun _ _ _ _ q => q⟩⟩
theorem a_silence {a b : Nat} (ha : a < 4294967296) (hb : b < 4294967296) (hI : CInv u v σ I) (hZ : ZI c σ) :
    Ag c σ I (fun P => FnH Ω 90 mL_silence hhL_silence [.ref (Ω.1 + 0), .int (nI a), .int (nI b), .ref (Ω.1 + 100)] (SH u v) I L (w_pi P)) (fun u v I1 L1 Q => FnI Ω 90 mX8_silence [.ref (Ω.1 + 63), .int (nI a), .int (nI b)] (SH u v) I1 L1 Q) := by
  by_cases h : a < σ 0 6 0 ∧ q_st (σ 2) a = 1
  · by_cases h2 : 1 ≤ b ∧ b ≤ 60
    · exact ⟨σ, 0, q_ks σ a, by decide, hZ.mono, ⟨_, h_silence (d := 89) (c_silence hI h.1 h.2 h2.1 h2.2) SH_7 (fun r S' I' L' q => by rw [q.2.1]; exact SH_103), fun _ _ _ _ => hoQ hI⟩, fun u1 v1 I1 L1 hM hS => ⟨_, by have q0 := m_silence (Ω := Ω) (u := u1) (v := v1) (L := L1) (d := 21) ha hb hI.sok hZ.1 hM hS; unfold q_code at q0; rw [if_pos h, if_pos (decide_eq_true h2)] at q0; exact q0, fun _ _ _ _ q => q⟩⟩
    · exact ⟨σ, 2, q_ks σ a, by decide, hZ.mono, ⟨_, htI_silence (d := 89) (t_silenceI hb hI h.1 h.2 h2) SH_7, fun _ _ _ _ => hoT (by decide) hI⟩, fun u1 v1 I1 L1 hM hS => ⟨_, by have q0 := m_silence (Ω := Ω) (u := u1) (v := v1) (L := L1) (d := 21) ha hb hI.sok hZ.1 hM hS; unfold q_code at q0; rw [if_pos h, if_neg (fun q => h2 (of_decide_eq_true q))] at q0; exact q0, fun _ _ _ _ q => q⟩⟩
  · exact ⟨σ, 1, q_ks σ a, by decide, hZ.mono, ⟨_, htN_silence (d := 89) (t_silenceN ha hI h) SH_7, fun _ _ _ _ => hoT (by decide) hI⟩, fun u1 v1 I1 L1 hM hS => ⟨_, by have q0 := m_silence (Ω := Ω) (u := u1) (v := v1) (L := L1) (d := 21) ha hb hI.sok hZ.1 hM hS; unfold q_code at q0; rw [if_neg h] at q0; exact q0, fun _ _ _ _ q => q⟩⟩
theorem a_stands {a b : Nat} (ha : a < 4294967296) (hb : b < 4294967296) (hI : CInv u v σ I) (hZ : ZI c σ) :
    Ag c σ I (fun P => FnH Ω 90 mL_stands hhL_stands [.ref (Ω.1 + 0), .int (nI a), .int (nI b), .ref (Ω.1 + 100)] (SH u v) I L (w_pi P)) (fun u v I1 L1 Q => FnI Ω 90 mX8_stands [.ref (Ω.1 + 63), .int (nI a), .int (nI b)] (SH u v) I1 L1 Q) := by
  by_cases h : a < σ 0 6 0 ∧ q_st (σ 2) a = 1
  · by_cases h2 : b < 2 ^ σ 0 0 0
    · exact ⟨σ, 0, if q_ks σ a &&& (b ^^^ mI) ≠ 0 then 60 else 0, by decide, hZ.mono, ⟨_, h_stands (d := 89) (c_stands hI h.1 h.2 h2) SH_7 (fun r S' I' L' q => by rw [q.2.1]; exact SH_103), fun _ _ _ _ => hoQ hI⟩, fun u1 v1 I1 L1 hM hS => ⟨_, by have q0 := m_stands (Ω := Ω) (u := u1) (v := v1) (L := L1) (d := 21) ha hb hI.sok hZ.1 hM hS; unfold q_code at q0; rw [if_pos h, if_pos (decide_eq_true h2)] at q0; exact q0, fun _ _ _ _ q => q⟩⟩
    · exact ⟨σ, 2, if q_ks σ a &&& (b ^^^ mI) ≠ 0 then 60 else 0, by decide, hZ.mono, ⟨_, htI_stands (d := 89) (t_standsI hb hI h.1 h.2 h2) SH_7, fun _ _ _ _ => hoT (by decide) hI⟩, fun u1 v1 I1 L1 hM hS => ⟨_, by have q0 := m_stands (Ω := Ω) (u := u1) (v := v1) (L := L1) (d := 21) ha hb hI.sok hZ.1 hM hS; unfold q_code at q0; rw [if_pos h, if_neg (fun q => h2 (of_decide_eq_true q))] at q0; exact q0, fun _ _ _ _ q => q⟩⟩
  · exact ⟨σ, 1, if q_ks σ a &&& (b ^^^ mI) ≠ 0 then 60 else 0, by decide, hZ.mono, ⟨_, htN_stands (d := 89) (t_standsN ha hI h) SH_7, fun _ _ _ _ => hoT (by decide) hI⟩, fun u1 v1 I1 L1 hM hS => ⟨_, by have q0 := m_stands (Ω := Ω) (u := u1) (v := v1) (L := L1) (d := 21) ha hb hI.sok hZ.1 hM hS; unfold q_code at q0; rw [if_neg h] at q0; exact q0, fun _ _ _ _ q => q⟩⟩
theorem a_pairs {a b : Nat} (ha : a < 4294967296) (hb : b < 4294967296) (hI : CInv u v σ I) (hZ : ZI c σ) :
    Ag c σ I (fun P => FnH Ω 90 mL_pairs hhL_pairs [.ref (Ω.1 + 0), .int (nI a), .int (nI b), .ref (Ω.1 + 100)] (SH u v) I L (w_pi P)) (fun u v I1 L1 Q => FnI Ω 90 mX8_pairs [.ref (Ω.1 + 63), .int (nI a), .int (nI b)] (SH u v) I1 L1 Q) := by
  by_cases h : a < σ 0 6 0 ∧ q_st (σ 2) a = 1
  · by_cases h2 : 1 ≤ b ∧ b ≤ 60
    · exact ⟨σ, 0, q_prs (q_ks σ a) (σ 0 0 0), by decide, hZ.mono, ⟨_, h_pairs (d := 89) (c_pairs hI h.1 h.2 h2.1 h2.2) SH_7 (fun r S' I' L' q => by rw [q.2.1]; exact SH_103), fun _ _ _ _ => hoQ hI⟩, fun u1 v1 I1 L1 hM hS => ⟨_, by have q0 := m_pairs (Ω := Ω) (u := u1) (v := v1) (L := L1) (d := 21) ha hb hI.sok hZ.1 hM hS; unfold q_code at q0; rw [if_pos h, if_pos (decide_eq_true h2)] at q0; exact q0, fun _ _ _ _ q => q⟩⟩
    · exact ⟨σ, 2, q_prs (q_ks σ a) (σ 0 0 0), by decide, hZ.mono, ⟨_, htI_pairs (d := 89) (t_pairsI hb hI h.1 h.2 h2) SH_7, fun _ _ _ _ => hoT (by decide) hI⟩, fun u1 v1 I1 L1 hM hS => ⟨_, by have q0 := m_pairs (Ω := Ω) (u := u1) (v := v1) (L := L1) (d := 21) ha hb hI.sok hZ.1 hM hS; unfold q_code at q0; rw [if_pos h, if_neg (fun q => h2 (of_decide_eq_true q))] at q0; exact q0, fun _ _ _ _ q => q⟩⟩
  · exact ⟨σ, 1, q_prs (q_ks σ a) (σ 0 0 0), by decide, hZ.mono, ⟨_, htN_pairs (d := 89) (t_pairsN ha hI h) SH_7, fun _ _ _ _ => hoT (by decide) hI⟩, fun u1 v1 I1 L1 hM hS => ⟨_, by have q0 := m_pairs (Ω := Ω) (u := u1) (v := v1) (L := L1) (d := 21) ha hb hI.sok hZ.1 hM hS; unfold q_code at q0; rw [if_neg h] at q0; exact q0, fun _ _ _ _ q => q⟩⟩
end
