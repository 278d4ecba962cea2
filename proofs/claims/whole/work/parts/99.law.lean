/-! THE LAW'S LOOP -/
abbrev mLaw (nm : String) : w_M := (RL, ⟨RL, nm, ""⟩, cL_law, 7, ret)
/-- the script's number i -/
def sx (Ω : w_O) (i : Nat) : Nat := (Ω.2.2.2.1.2.2 i).toUInt32.toNat
theorem nI_back (x : Int32) : nI x.toUInt32.toNat = x := by
  unfold nI
  apply Int32.toBitVec_inj.mp
  show BitVec.ofNat 32 x.toBitVec.toNat = x.toBitVec
  simp
theorem sx_lt {Ω : w_O} {i : Nat} : sx Ω i < 4294967296 := UInt32.toNat_lt _
abbrev ll (Ω : w_O) (c : Nat) (tl : List (Nat × Value)) : List (Nat × Value) := (0, .ref Ω.2.2.2.1.1) :: (1, .ref (Ω.1 + 0)) :: (2, .ref (Ω.1 + 63)) :: (3, .ref (Ω.1 + 100)) :: (4, .int (nI (6 * c))) :: tl
/-- what the loop keeps -/
def LJ (c k n : Nat) (S : List w_SC) (I : w_I) : Prop := ∃ u v σ, S = SH u v ∧ CInv u v σ I ∧ MInv σ I ∧ ZI c σ ∧ I 63 52 ≤ 1000000 * c ∧ k ≤ 200 + c ∧ n ≤ 200000 + 6 * c
/-- the rows behind a call with a helper -/
def LT (pc : Nat) : Prop := decode cL_law pc = .ok (.aload_n 2, 1) ∧ decode cL_law (pc + 1) = .ok (.invokevirtual 73, 3) ∧ decode cL_law (pc + 4) = .ok (.iload 5, 2) ∧ decode cL_law (pc + 6) = .ok (.if_icmp .eq 5, 3) ∧ decode cL_law (pc + 11) = .ok (.iload 5, 2) ∧ decode cL_law (pc + 13) = .ok (.ifCond .ne 15, 3) ∧ decode cL_law (pc + 16) = .ok (.aload_n 3, 1) ∧ decode cL_law (pc + 17) = .ok (.iconst 0, 1) ∧ decode cL_law (pc + 18) = .ok (.laload, 1) ∧ decode cL_law (pc + 19) = .ok (.iload 6, 2) ∧ decode cL_law (pc + 21) = .ok (.i2l, 1) ∧ decode cL_law (pc + 22) = .ok (.lcmp, 1) ∧ decode cL_law (pc + 23) = .ok (.ifCond .eq 5, 3) ∧ ∃ off, decode cL_law (pc + 28) = .ok (.goto off, 3) ∧ ((pc + 28 : Nat) : Int) + off = ((1243 : Nat) : Int)
/-- the rows of an argument -/
def LA (pc j : Nat) : Prop := decode cL_law pc = .ok (.aload_n 0, 1) ∧ decode cL_law (pc + 1) = .ok (.iload 4, 2) ∧ (∃ q, decode cL_law (pc + 3) = .ok (.iconst q, 1) ∧ Int32.ofInt q = nI j) ∧ decode cL_law (pc + 4) = .ok (.iadd, 1) ∧ decode cL_law (pc + 5) = .ok (.iaload, 1)
section
variable {nm : String} {E : w_E} {Ω : w_O} {k n c : Nat} {S : List w_SC} {I : w_I} {L : w_L} {st : List Value} {tl : List (Nat × Value)}
theorem L_arg (pc : Nat) {j : Nat} (d : LA pc j) (hj : 6 * c + j < Ω.2.2.2.1.2.1) (hl : Ω.2.2.2.1.2.1 < 2 ^ 31) (h : V (mLaw nm) E Ω k n S I L (pc + 6) (ll Ω c tl) (.int (nI (sx Ω (6 * c + j))) :: st)) : V (mLaw nm) E Ω k n S I L pc (ll Ω c tl) st := by
  obtain ⟨d0, d1, ⟨q, d3, hq⟩, d4, d5⟩ := d
  refine V_aload_n pc 0 d0 rfl ?_
  refine V_iload (pc + 1) 4 d1 rfl ?_
  refine V_cst (pc + 3) j d3 hq ?_
  refine V_add (pc + 4) d4 ?_
  refine V_sld (pc + 5) d5 hj hl ?_
  unfold sx at h
  rw [nI_back] at h
  exact h
theorem L_tail (pc : Nat) (d : LT pc) (hE : w_fit 90 E) {u v x : Nat} {r : Int32} (hx : x < 3) (h0 : I 63 0 = x) (hr : x = 0 → L 100 0 = l64 r) (h : V (mLaw nm) E Ω k n (SH u v) I L 1243 (ll Ω c []) []) : V (mLaw nm) E Ω k n (SH u v) I L pc (ll Ω c [(5, .int (nI x)), (6, .int r)]) [] := by
  obtain ⟨d0, d1, d4, d6, d11, d13, d16, d17, d18, d19, d21, d22, d23, off, d28, ho⟩ := d
  have hend : V (mLaw nm) E Ω k n (SH u v) I L (pc + 28) (ll Ω c [(5, .int (nI x)), (6, .int r)]) [] := by
    refine V_goto (pc + 28) 1243 d28 ho ?_
    exact V_sub (ll Ω c []) [0, 1, 2, 3, 4] rfl h
  refine V_aload_n pc 2 d0 rfl ?_
  refine V_vi (pc + 1) mvL_73 d1 SH_8 hE (m_thrown (d := 90)) rfl (Nat.le_of_ble_eq_true rfl) ?_
  rintro _ _ _ _ ⟨rfl, rfl, rfl, rfl⟩
  rw [h0]
  refine V_iload (pc + 4) 5 d4 rfl ?_
  refine V_cN_eq (pc + 6) (pc + 11) d6 (by omega) (by omega) (by omega) (fun _ => ?_) (fun q => absurd rfl q)
  refine V_iload (pc + 11) 5 d11 rfl ?_
  refine V_zN_ne (pc + 13) (pc + 28) d13 (by omega) (by omega) (fun _ => hend) (fun q => ?_)
  refine V_aload_n (pc + 16) 3 d16 rfl ?_
  refine V_cst (pc + 17) 0 d17 rfl ?_
  refine V_lald (pc + 18) d18 SH_103 (by decide) (by decide) ?_
  refine V_iload (pc + 19) 6 d19 rfl ?_
  refine V_i2l (pc + 21) d21 ?_
  refine V_lcmp (pc + 22) d22 ?_
  rw [hr q, l64_eq]
  refine V_if_eq (pc + 23) (pc + 28) d23 (by omega) (fun _ => hend) (fun q2 => absurd ?_ q2)
  simp [lg_cmp]
end
section
variable {nm : String} {E : w_E} {Ω : w_O} {k n c u v u' v' x ans : Nat} {σ σ' : w_Z} {I I' I2 : w_I}
theorem LJ.next {r : Int32} {S2 : List w_SC} {L' L2 : w_L} (hZ : ZI (c + 1) σ') (hI : CInv u' v' σ' I') (hs : I 63 52 ≤ 1000000 * c) (hk : k ≤ 200 + c) (hn : n ≤ 200000 + 6 * c) (hf : Fr 0 63 I I') (q : MO u' v' L' I' σ' x ans r S2 I2 L2) {k' n' : Nat} (hk' : k' ≤ k + 1) (hn' : n' ≤ n + 6) : LJ (c + 1) k' n' S2 I2 := by
  obtain ⟨q1, q2, q3, q4, q5, q6, q7⟩ := q
  refine ⟨u', v', σ', q1, hI.fr q6 (Nat.le_refl _), q5, hZ, ?_, by omega, by omega⟩
  have e1 : I' 63 = I 63 := hf 63 (Or.inr (Nat.le_refl _))
  rw [e1] at q7
  omega
theorem L_feed (hE : w_fit 90 E) (hr : 600 ≤ E.2.1.cells ∧ 300000 ≤ E.2.1.slots) (hc : c ≤ 64) (hl : 6 * c + 6 ≤ Ω.2.2.2.1.2.1) (h31 : Ω.2.2.2.1.2.1 < 2 ^ 31) (hn : ∀ k n S I L, LJ (c + 1) k n S I → V (mLaw nm) E Ω k n S I L 1243 (ll Ω c []) []) : ∀ k n S I L, LJ c k n S I → V (mLaw nm) E Ω k n S I L 132 (ll Ω c []) [] := by
  rintro k n _ I L ⟨u, v, σ, rfl, hI, hM, hZ, hs, hk, hm⟩
  obtain ⟨σ', ans, hZ', ⟨P, hF, hP⟩, hMo⟩ := a_feed (Ω := Ω) (L := L) (sx_lt (Ω := Ω) (i := 6 * c + 1)) (sx_lt (Ω := Ω) (i := 6 * c + 2)) (sx_lt (Ω := Ω) (i := 6 * c + 3)) (sx_lt (Ω := Ω) (i := 6 * c + 4)) (sx_lt (Ω := Ω) (i := 6 * c + 5)) hI hZ
  refine V_aload_n 132 1 dL_law_132 rfl ?_
  refine L_arg 133 (j := 1) ⟨dL_law_133, dL_law_134, ⟨_, dL_law_136, rfl⟩, dL_law_137, dL_law_138⟩ (by omega) h31 ?_
  refine L_arg 139 (j := 2) ⟨dL_law_139, dL_law_140, ⟨_, dL_law_142, rfl⟩, dL_law_143, dL_law_144⟩ (by omega) h31 ?_
  refine L_arg 145 (j := 3) ⟨dL_law_145, dL_law_146, ⟨_, dL_law_148, rfl⟩, dL_law_149, dL_law_150⟩ (by omega) h31 ?_
  refine L_arg 151 (j := 4) ⟨dL_law_151, dL_law_152, ⟨_, dL_law_154, rfl⟩, dL_law_155, dL_law_156⟩ (by omega) h31 ?_
  refine L_arg 157 (j := 5) ⟨dL_law_157, dL_law_158, ⟨_, dL_law_160, rfl⟩, dL_law_161, dL_law_162⟩ (by omega) h31 ?_
  refine V_vi 163 mvL_62 dL_law_163 SH_7 hE hF rfl (Nat.le_of_ble_eq_true rfl) ?_
  intro r S' I' L' hp
  obtain ⟨rfl, ⟨u', v', rfl, hI'⟩, hf⟩ := hP _ _ _ _ hp
  refine V_aload_n 166 2 dL_law_166 rfl ?_
  refine L_arg 167 (j := 1) ⟨dL_law_167, dL_law_168, ⟨_, dL_law_170, rfl⟩, dL_law_171, dL_law_172⟩ (by omega) h31 ?_
  refine L_arg 173 (j := 2) ⟨dL_law_173, dL_law_174, ⟨_, dL_law_176, rfl⟩, dL_law_177, dL_law_178⟩ (by omega) h31 ?_
  refine L_arg 179 (j := 3) ⟨dL_law_179, dL_law_180, ⟨_, dL_law_182, rfl⟩, dL_law_183, dL_law_184⟩ (by omega) h31 ?_
  refine L_arg 185 (j := 4) ⟨dL_law_185, dL_law_186, ⟨_, dL_law_188, rfl⟩, dL_law_189, dL_law_190⟩ (by omega) h31 ?_
  refine L_arg 191 (j := 5) ⟨dL_law_191, dL_law_192, ⟨_, dL_law_194, rfl⟩, dL_law_195, dL_law_196⟩ (by omega) h31 ?_
  obtain ⟨Q, hG, hQ⟩ := hMo u' v' I' L' (hM.fr fun i h1 _ => hf i (Or.inr h1))
  refine V_vi 197 mvL_66 dL_law_197 SH_8 hE hG rfl (Nat.le_of_ble_eq_true rfl) ?_
  intro r2 S2 I2 L2 hq
  have hq2 := hQ _ _ _ _ hq
  rw [hq2.2.2.2.1 rfl]
  refine V_icmp_eq 200 1243 dL_law_200 (by decide) (fun _ => ?_) (fun q => absurd rfl q)
  exact hn _ _ _ _ _ (LJ.next hZ' hI' hs hk hm hf hq2 (by omega) (by omega))
theorem L_town (hE : w_fit 90 E) (hr : 600 ≤ E.2.1.cells ∧ 300000 ≤ E.2.1.slots) (hc : c ≤ 64) (hl : 6 * c + 6 ≤ Ω.2.2.2.1.2.1) (h31 : Ω.2.2.2.1.2.1 < 2 ^ 31) (hn : ∀ k n S I L, LJ (c + 1) k n S I → V (mLaw nm) E Ω k n S I L 1243 (ll Ω c []) []) : ∀ k n S I L, LJ c k n S I → V (mLaw nm) E Ω k n S I L 205 (ll Ω c []) [] := by
  rintro k n _ I L ⟨u, v, σ, rfl, hI, hM, hZ, hs, hk, hm⟩
  obtain ⟨σ', x, ans, hx, hZ', ⟨P, hF, hP⟩, hMo⟩ := a_town (Ω := Ω) (L := L) (sx_lt (Ω := Ω) (i := 6 * c + 1)) hI hZ
  refine V_aload_n 205 1 dL_law_205 rfl ?_
  refine L_arg 206 (j := 1) ⟨dL_law_206, dL_law_207, ⟨_, dL_law_209, rfl⟩, dL_law_210, dL_law_211⟩ (by omega) h31 ?_
  refine V_aload_n 212 3 dL_law_212 rfl ?_
  refine V_hi 213 mhL_67 dL_law_213 hE hF rfl (Nat.le_of_ble_eq_true rfl) ⟨by omega, by omega⟩ ?_
  intro r S' I' L' hp
  obtain ⟨rfl, ⟨u', v', rfl, hI'⟩, hf, hL'⟩ := hP _ _ _ _ hp
  refine V_istore 216 (ll Ω c [(5, _)]) dL_law_216 (Nat.le_of_ble_eq_true rfl) rfl ?_
  refine V_aload_n 218 2 dL_law_218 rfl ?_
  refine L_arg 219 (j := 1) ⟨dL_law_219, dL_law_220, ⟨_, dL_law_222, rfl⟩, dL_law_223, dL_law_224⟩ (by omega) h31 ?_
  obtain ⟨Q, hG, hQ⟩ := hMo u' v' I' L' (hM.fr fun i h1 _ => hf i (Or.inr h1)) (by rw [hf 63 (Or.inr (Nat.le_refl _))]; omega)
  refine V_vi 225 mvL_72 dL_law_225 SH_8 hE hG rfl (Nat.le_of_ble_eq_true rfl) ?_
  intro r2 S2 I2 L2 hq
  have hq2 := hQ _ _ _ _ hq
  refine V_istore 228 (ll Ω c [(5, _), (6, _)]) dL_law_228 (Nat.le_of_ble_eq_true rfl) rfl ?_
  obtain ⟨rfl, rfl, q3, q4, -⟩ := id hq2
  exact L_tail 230 ⟨dL_law_230, dL_law_231, dL_law_234, dL_law_236, dL_law_241, dL_law_243, dL_law_246, dL_law_247, dL_law_248, dL_law_249, dL_law_251, dL_law_252, dL_law_253, _, dL_law_258, by decide⟩ hE hx q3 (fun q => by rw [hL' q, q4 q]) (hn _ _ _ _ _ (LJ.next hZ' hI' hs hk hm hf hq2 (by omega) (by omega)))
theorem L_fault (hE : w_fit 90 E) (hr : 600 ≤ E.2.1.cells ∧ 300000 ≤ E.2.1.slots) (hc : c ≤ 64) (hl : 6 * c + 6 ≤ Ω.2.2.2.1.2.1) (h31 : Ω.2.2.2.1.2.1 < 2 ^ 31) (hn : ∀ k n S I L, LJ (c + 1) k n S I → V (mLaw nm) E Ω k n S I L 1243 (ll Ω c []) []) : ∀ k n S I L, LJ c k n S I → V (mLaw nm) E Ω k n S I L 261 (ll Ω c []) [] := by
  rintro k n _ I L ⟨u, v, σ, rfl, hI, hM, hZ, hs, hk, hm⟩
  obtain ⟨σ', ans, hZ', ⟨P, hF, hP⟩, hMo⟩ := a_fault (Ω := Ω) (L := L) hI hZ
  refine V_aload_n 261 1 dL_law_261 rfl ?_
  refine V_vi 262 mvL_77 dL_law_262 SH_7 hE hF rfl (Nat.le_of_ble_eq_true rfl) ?_
  intro r S' I' L' hp
  obtain ⟨rfl, ⟨u', v', rfl, hI'⟩, hf⟩ := hP _ _ _ _ hp
  refine V_aload_n 265 2 dL_law_265 rfl ?_
  obtain ⟨Q, hG, hQ⟩ := hMo u' v' I' L' (hM.fr fun i h1 _ => hf i (Or.inr h1))
  refine V_vi 266 mvL_80 dL_law_266 SH_8 hE hG rfl (Nat.le_of_ble_eq_true rfl) ?_
  intro r2 S2 I2 L2 hq
  have hq2 := hQ _ _ _ _ hq
  rw [hq2.2.2.2.1 rfl]
  refine V_icmp_eq 269 1243 dL_law_269 (by decide) (fun _ => ?_) (fun q => absurd rfl q)
  exact hn _ _ _ _ _ (LJ.next hZ' hI' hs hk hm hf hq2 (by omega) (by omega))
theorem L_count (hE : w_fit 90 E) (hr : 600 ≤ E.2.1.cells ∧ 300000 ≤ E.2.1.slots) (hc : c ≤ 64) (hl : 6 * c + 6 ≤ Ω.2.2.2.1.2.1) (h31 : Ω.2.2.2.1.2.1 < 2 ^ 31) (hn : ∀ k n S I L, LJ (c + 1) k n S I → V (mLaw nm) E Ω k n S I L 1243 (ll Ω c []) []) : ∀ k n S I L, LJ c k n S I → V (mLaw nm) E Ω k n S I L 274 (ll Ω c []) [] := by
  rintro k n _ I L ⟨u, v, σ, rfl, hI, hM, hZ, hs, hk, hm⟩
  obtain ⟨σ', x, ans, hx, hZ', ⟨P, hF, hP⟩, hMo⟩ := a_count (Ω := Ω) (L := L) (sx_lt (Ω := Ω) (i := 6 * c + 1)) hI hZ
  refine V_aload_n 274 1 dL_law_274 rfl ?_
  refine L_arg 275 (j := 1) ⟨dL_law_275, dL_law_276, ⟨_, dL_law_278, rfl⟩, dL_law_279, dL_law_280⟩ (by omega) h31 ?_
  refine V_aload_n 281 3 dL_law_281 rfl ?_
  refine V_hi 282 mhL_81 dL_law_282 hE hF rfl (Nat.le_of_ble_eq_true rfl) ⟨by omega, by omega⟩ ?_
  intro r S' I' L' hp
  obtain ⟨rfl, ⟨u', v', rfl, hI'⟩, hf, hL'⟩ := hP _ _ _ _ hp
  refine V_istore 285 (ll Ω c [(5, _)]) dL_law_285 (Nat.le_of_ble_eq_true rfl) rfl ?_
  refine V_aload_n 287 2 dL_law_287 rfl ?_
  refine L_arg 288 (j := 1) ⟨dL_law_288, dL_law_289, ⟨_, dL_law_291, rfl⟩, dL_law_292, dL_law_293⟩ (by omega) h31 ?_
  obtain ⟨Q, hG, hQ⟩ := hMo u' v' I' L' (hM.fr fun i h1 _ => hf i (Or.inr h1)) (by rw [hf 63 (Or.inr (Nat.le_refl _))]; omega)
  refine V_vi 294 mvL_83 dL_law_294 SH_8 hE hG rfl (Nat.le_of_ble_eq_true rfl) ?_
  intro r2 S2 I2 L2 hq
  have hq2 := hQ _ _ _ _ hq
  refine V_istore 297 (ll Ω c [(5, _), (6, _)]) dL_law_297 (Nat.le_of_ble_eq_true rfl) rfl ?_
  obtain ⟨rfl, rfl, q3, q4, -⟩ := id hq2
  exact L_tail 299 ⟨dL_law_299, dL_law_300, dL_law_303, dL_law_305, dL_law_310, dL_law_312, dL_law_315, dL_law_316, dL_law_317, dL_law_318, dL_law_320, dL_law_321, dL_law_322, _, dL_law_327, by decide⟩ hE hx q3 (fun q => by rw [hL' q, q4 q]) (hn _ _ _ _ _ (LJ.next hZ' hI' hs hk hm hf hq2 (by omega) (by omega)))
theorem L_price (hE : w_fit 90 E) (hr : 600 ≤ E.2.1.cells ∧ 300000 ≤ E.2.1.slots) (hc : c ≤ 64) (hl : 6 * c + 6 ≤ Ω.2.2.2.1.2.1) (h31 : Ω.2.2.2.1.2.1 < 2 ^ 31) (hn : ∀ k n S I L, LJ (c + 1) k n S I → V (mLaw nm) E Ω k n S I L 1243 (ll Ω c []) []) : ∀ k n S I L, LJ c k n S I → V (mLaw nm) E Ω k n S I L 330 (ll Ω c []) [] := by
  rintro k n _ I L ⟨u, v, σ, rfl, hI, hM, hZ, hs, hk, hm⟩
  obtain ⟨σ', x, ans, hx, hZ', ⟨P, hF, hP⟩, hMo⟩ := a_price (Ω := Ω) (L := L) (sx_lt (Ω := Ω) (i := 6 * c + 1)) hI hZ
  refine V_aload_n 330 1 dL_law_330 rfl ?_
  refine L_arg 331 (j := 1) ⟨dL_law_331, dL_law_332, ⟨_, dL_law_334, rfl⟩, dL_law_335, dL_law_336⟩ (by omega) h31 ?_
  refine V_aload_n 337 3 dL_law_337 rfl ?_
  refine V_hi 338 mhL_84 dL_law_338 hE hF rfl (Nat.le_of_ble_eq_true rfl) ⟨by omega, by omega⟩ ?_
  intro r S' I' L' hp
  obtain ⟨rfl, ⟨u', v', rfl, hI'⟩, hf, hL'⟩ := hP _ _ _ _ hp
  refine V_istore 341 (ll Ω c [(5, _)]) dL_law_341 (Nat.le_of_ble_eq_true rfl) rfl ?_
  refine V_aload_n 343 2 dL_law_343 rfl ?_
  refine L_arg 344 (j := 1) ⟨dL_law_344, dL_law_345, ⟨_, dL_law_347, rfl⟩, dL_law_348, dL_law_349⟩ (by omega) h31 ?_
  obtain ⟨Q, hG, hQ⟩ := hMo u' v' I' L' (hM.fr fun i h1 _ => hf i (Or.inr h1)) (by rw [hf 63 (Or.inr (Nat.le_refl _))]; omega)
  refine V_vi 350 mvL_86 dL_law_350 SH_8 hE hG rfl (Nat.le_of_ble_eq_true rfl) ?_
  intro r2 S2 I2 L2 hq
  have hq2 := hQ _ _ _ _ hq
  refine V_istore 353 (ll Ω c [(5, _), (6, _)]) dL_law_353 (Nat.le_of_ble_eq_true rfl) rfl ?_
  obtain ⟨rfl, rfl, q3, q4, -⟩ := id hq2
  exact L_tail 355 ⟨dL_law_355, dL_law_356, dL_law_359, dL_law_361, dL_law_366, dL_law_368, dL_law_371, dL_law_372, dL_law_373, dL_law_374, dL_law_376, dL_law_377, dL_law_378, _, dL_law_383, by decide⟩ hE hx q3 (fun q => by rw [hL' q, q4 q]) (hn _ _ _ _ _ (LJ.next hZ' hI' hs hk hm hf hq2 (by omega) (by omega)))
theorem L_meeting (hE : w_fit 90 E) (hr : 600 ≤ E.2.1.cells ∧ 300000 ≤ E.2.1.slots) (hc : c ≤ 64) (hl : 6 * c + 6 ≤ Ω.2.2.2.1.2.1) (h31 : Ω.2.2.2.1.2.1 < 2 ^ 31) (hn : ∀ k n S I L, LJ (c + 1) k n S I → V (mLaw nm) E Ω k n S I L 1243 (ll Ω c []) []) : ∀ k n S I L, LJ c k n S I → V (mLaw nm) E Ω k n S I L 386 (ll Ω c []) [] := by
  rintro k n _ I L ⟨u, v, σ, rfl, hI, hM, hZ, hs, hk, hm⟩
  obtain ⟨σ', x, ans, hx, hZ', ⟨P, hF, hP⟩, hMo⟩ := a_meeting (Ω := Ω) (L := L) (sx_lt (Ω := Ω) (i := 6 * c + 1)) (sx_lt (Ω := Ω) (i := 6 * c + 2)) hI hZ
  refine V_aload_n 386 1 dL_law_386 rfl ?_
  refine L_arg 387 (j := 1) ⟨dL_law_387, dL_law_388, ⟨_, dL_law_390, rfl⟩, dL_law_391, dL_law_392⟩ (by omega) h31 ?_
  refine L_arg 393 (j := 2) ⟨dL_law_393, dL_law_394, ⟨_, dL_law_396, rfl⟩, dL_law_397, dL_law_398⟩ (by omega) h31 ?_
  refine V_aload_n 399 3 dL_law_399 rfl ?_
  refine V_hi 400 mhL_87 dL_law_400 hE hF rfl (Nat.le_of_ble_eq_true rfl) ⟨by omega, by omega⟩ ?_
  intro r S' I' L' hp
  obtain ⟨rfl, ⟨u', v', rfl, hI'⟩, hf, hL'⟩ := hP _ _ _ _ hp
  refine V_istore 403 (ll Ω c [(5, _)]) dL_law_403 (Nat.le_of_ble_eq_true rfl) rfl ?_
  refine V_aload_n 405 2 dL_law_405 rfl ?_
  refine L_arg 406 (j := 1) ⟨dL_law_406, dL_law_407, ⟨_, dL_law_409, rfl⟩, dL_law_410, dL_law_411⟩ (by omega) h31 ?_
  refine L_arg 412 (j := 2) ⟨dL_law_412, dL_law_413, ⟨_, dL_law_415, rfl⟩, dL_law_416, dL_law_417⟩ (by omega) h31 ?_
  obtain ⟨Q, hG, hQ⟩ := hMo u' v' I' L' (hM.fr fun i h1 _ => hf i (Or.inr h1)) (by rw [hf 63 (Or.inr (Nat.le_refl _))]; omega)
  refine V_vi 418 mvL_90 dL_law_418 SH_8 hE hG rfl (Nat.le_of_ble_eq_true rfl) ?_
  intro r2 S2 I2 L2 hq
  have hq2 := hQ _ _ _ _ hq
  refine V_istore 421 (ll Ω c [(5, _), (6, _)]) dL_law_421 (Nat.le_of_ble_eq_true rfl) rfl ?_
  obtain ⟨rfl, rfl, q3, q4, -⟩ := id hq2
  exact L_tail 423 ⟨dL_law_423, dL_law_424, dL_law_427, dL_law_429, dL_law_434, dL_law_436, dL_law_439, dL_law_440, dL_law_441, dL_law_442, dL_law_444, dL_law_445, dL_law_446, _, dL_law_451, by decide⟩ hE hx q3 (fun q => by rw [hL' q, q4 q]) (hn _ _ _ _ _ (LJ.next hZ' hI' hs hk hm hf hq2 (by omega) (by omega)))
theorem L_promise (hE : w_fit 90 E) (hr : 600 ≤ E.2.1.cells ∧ 300000 ≤ E.2.1.slots) (hc : c ≤ 64) (hl : 6 * c + 6 ≤ Ω.2.2.2.1.2.1) (h31 : Ω.2.2.2.1.2.1 < 2 ^ 31) (hn : ∀ k n S I L, LJ (c + 1) k n S I → V (mLaw nm) E Ω k n S I L 1243 (ll Ω c []) []) : ∀ k n S I L, LJ c k n S I → V (mLaw nm) E Ω k n S I L 454 (ll Ω c []) [] := by
  rintro k n _ I L ⟨u, v, σ, rfl, hI, hM, hZ, hs, hk, hm⟩
  obtain ⟨σ', x, ans, hx, hZ', ⟨P, hF, hP⟩, hMo⟩ := a_promise (Ω := Ω) (L := L) (sx_lt (Ω := Ω) (i := 6 * c + 1)) (sx_lt (Ω := Ω) (i := 6 * c + 2)) hI hZ
  refine V_aload_n 454 1 dL_law_454 rfl ?_
  refine L_arg 455 (j := 1) ⟨dL_law_455, dL_law_456, ⟨_, dL_law_458, rfl⟩, dL_law_459, dL_law_460⟩ (by omega) h31 ?_
  refine L_arg 461 (j := 2) ⟨dL_law_461, dL_law_462, ⟨_, dL_law_464, rfl⟩, dL_law_465, dL_law_466⟩ (by omega) h31 ?_
  refine V_aload_n 467 3 dL_law_467 rfl ?_
  refine V_hi 468 mhL_91 dL_law_468 hE hF rfl (Nat.le_of_ble_eq_true rfl) ⟨by omega, by omega⟩ ?_
  intro r S' I' L' hp
  obtain ⟨rfl, ⟨u', v', rfl, hI'⟩, hf, hL'⟩ := hP _ _ _ _ hp
  refine V_istore 471 (ll Ω c [(5, _)]) dL_law_471 (Nat.le_of_ble_eq_true rfl) rfl ?_
  refine V_aload_n 473 2 dL_law_473 rfl ?_
  refine L_arg 474 (j := 1) ⟨dL_law_474, dL_law_475, ⟨_, dL_law_477, rfl⟩, dL_law_478, dL_law_479⟩ (by omega) h31 ?_
  refine L_arg 480 (j := 2) ⟨dL_law_480, dL_law_481, ⟨_, dL_law_483, rfl⟩, dL_law_484, dL_law_485⟩ (by omega) h31 ?_
  obtain ⟨Q, hG, hQ⟩ := hMo u' v' I' L' (hM.fr fun i h1 _ => hf i (Or.inr h1)) (by rw [hf 63 (Or.inr (Nat.le_refl _))]; omega)
  refine V_vi 486 mvL_93 dL_law_486 SH_8 hE hG rfl (Nat.le_of_ble_eq_true rfl) ?_
  intro r2 S2 I2 L2 hq
  have hq2 := hQ _ _ _ _ hq
  refine V_istore 489 (ll Ω c [(5, _), (6, _)]) dL_law_489 (Nat.le_of_ble_eq_true rfl) rfl ?_
  obtain ⟨rfl, rfl, q3, q4, -⟩ := id hq2
  exact L_tail 491 ⟨dL_law_491, dL_law_492, dL_law_495, dL_law_497, dL_law_502, dL_law_504, dL_law_507, dL_law_508, dL_law_509, dL_law_510, dL_law_512, dL_law_513, dL_law_514, _, dL_law_519, by decide⟩ hE hx q3 (fun q => by rw [hL' q, q4 q]) (hn _ _ _ _ _ (LJ.next hZ' hI' hs hk hm hf hq2 (by omega) (by omega)))
theorem L_say (hE : w_fit 90 E) (hr : 600 ≤ E.2.1.cells ∧ 300000 ≤ E.2.1.slots) (hc : c ≤ 64) (hl : 6 * c + 6 ≤ Ω.2.2.2.1.2.1) (h31 : Ω.2.2.2.1.2.1 < 2 ^ 31) (hn : ∀ k n S I L, LJ (c + 1) k n S I → V (mLaw nm) E Ω k n S I L 1243 (ll Ω c []) []) : ∀ k n S I L, LJ c k n S I → V (mLaw nm) E Ω k n S I L 522 (ll Ω c []) [] := by
  rintro k n _ I L ⟨u, v, σ, rfl, hI, hM, hZ, hs, hk, hm⟩
  obtain ⟨σ', x, ans, hx, hZ', ⟨P, hF, hP⟩, hMo⟩ := a_say (Ω := Ω) (L := L) (sx_lt (Ω := Ω) (i := 6 * c + 1)) (sx_lt (Ω := Ω) (i := 6 * c + 2)) (sx_lt (Ω := Ω) (i := 6 * c + 3)) (sx_lt (Ω := Ω) (i := 6 * c + 4)) hI hZ
  refine V_aload_n 522 1 dL_law_522 rfl ?_
  refine L_arg 523 (j := 1) ⟨dL_law_523, dL_law_524, ⟨_, dL_law_526, rfl⟩, dL_law_527, dL_law_528⟩ (by omega) h31 ?_
  refine L_arg 529 (j := 2) ⟨dL_law_529, dL_law_530, ⟨_, dL_law_532, rfl⟩, dL_law_533, dL_law_534⟩ (by omega) h31 ?_
  refine L_arg 535 (j := 3) ⟨dL_law_535, dL_law_536, ⟨_, dL_law_538, rfl⟩, dL_law_539, dL_law_540⟩ (by omega) h31 ?_
  refine L_arg 541 (j := 4) ⟨dL_law_541, dL_law_542, ⟨_, dL_law_544, rfl⟩, dL_law_545, dL_law_546⟩ (by omega) h31 ?_
  refine V_aload_n 547 3 dL_law_547 rfl ?_
  refine V_hi 548 mhL_94 dL_law_548 hE hF rfl (Nat.le_of_ble_eq_true rfl) ⟨by omega, by omega⟩ ?_
  intro r S' I' L' hp
  obtain ⟨rfl, ⟨u', v', rfl, hI'⟩, hf, hL'⟩ := hP _ _ _ _ hp
  refine V_istore 551 (ll Ω c [(5, _)]) dL_law_551 (Nat.le_of_ble_eq_true rfl) rfl ?_
  refine V_aload_n 553 2 dL_law_553 rfl ?_
  refine L_arg 554 (j := 1) ⟨dL_law_554, dL_law_555, ⟨_, dL_law_557, rfl⟩, dL_law_558, dL_law_559⟩ (by omega) h31 ?_
  refine L_arg 560 (j := 2) ⟨dL_law_560, dL_law_561, ⟨_, dL_law_563, rfl⟩, dL_law_564, dL_law_565⟩ (by omega) h31 ?_
  refine L_arg 566 (j := 3) ⟨dL_law_566, dL_law_567, ⟨_, dL_law_569, rfl⟩, dL_law_570, dL_law_571⟩ (by omega) h31 ?_
  refine L_arg 572 (j := 4) ⟨dL_law_572, dL_law_573, ⟨_, dL_law_575, rfl⟩, dL_law_576, dL_law_577⟩ (by omega) h31 ?_
  obtain ⟨Q, hG, hQ⟩ := hMo u' v' I' L' (hM.fr fun i h1 _ => hf i (Or.inr h1)) (by rw [hf 63 (Or.inr (Nat.le_refl _))]; omega)
  refine V_vi 578 mvL_97 dL_law_578 SH_8 hE hG rfl (Nat.le_of_ble_eq_true rfl) ?_
  intro r2 S2 I2 L2 hq
  have hq2 := hQ _ _ _ _ hq
  refine V_istore 581 (ll Ω c [(5, _), (6, _)]) dL_law_581 (Nat.le_of_ble_eq_true rfl) rfl ?_
  obtain ⟨rfl, rfl, q3, q4, -⟩ := id hq2
  exact L_tail 583 ⟨dL_law_583, dL_law_584, dL_law_587, dL_law_589, dL_law_594, dL_law_596, dL_law_599, dL_law_600, dL_law_601, dL_law_602, dL_law_604, dL_law_605, dL_law_606, _, dL_law_611, by decide⟩ hE hx q3 (fun q => by rw [hL' q, q4 q]) (hn _ _ _ _ _ (LJ.next hZ' hI' hs hk hm hf hq2 (by omega) (by omega)))
theorem L_unsay (hE : w_fit 90 E) (hr : 600 ≤ E.2.1.cells ∧ 300000 ≤ E.2.1.slots) (hc : c ≤ 64) (hl : 6 * c + 6 ≤ Ω.2.2.2.1.2.1) (h31 : Ω.2.2.2.1.2.1 < 2 ^ 31) (hn : ∀ k n S I L, LJ (c + 1) k n S I → V (mLaw nm) E Ω k n S I L 1243 (ll Ω c []) []) : ∀ k n S I L, LJ c k n S I → V (mLaw nm) E Ω k n S I L 614 (ll Ω c []) [] := by
  rintro k n _ I L ⟨u, v, σ, rfl, hI, hM, hZ, hs, hk, hm⟩
  obtain ⟨σ', ans, hZ', ⟨P, hF, hP⟩, hMo⟩ := a_unsay (Ω := Ω) (L := L) hI hZ
  refine V_aload_n 614 1 dL_law_614 rfl ?_
  refine V_vi 615 mvL_98 dL_law_615 SH_7 hE hF rfl (Nat.le_of_ble_eq_true rfl) ?_
  intro r S' I' L' hp
  obtain ⟨rfl, ⟨u', v', rfl, hI'⟩, hf⟩ := hP _ _ _ _ hp
  refine V_aload_n 618 2 dL_law_618 rfl ?_
  obtain ⟨Q, hG, hQ⟩ := hMo u' v' I' L' (hM.fr fun i h1 _ => hf i (Or.inr h1))
  refine V_vi 619 mvL_101 dL_law_619 SH_8 hE hG rfl (Nat.le_of_ble_eq_true rfl) ?_
  intro r2 S2 I2 L2 hq
  have hq2 := hQ _ _ _ _ hq
  rw [hq2.2.2.2.1 rfl]
  refine V_icmp_eq 622 1243 dL_law_622 (by decide) (fun _ => ?_) (fun q => absurd rfl q)
  exact hn _ _ _ _ _ (LJ.next hZ' hI' hs hk hm hf hq2 (by omega) (by omega))
theorem L_days (hE : w_fit 90 E) (hr : 600 ≤ E.2.1.cells ∧ 300000 ≤ E.2.1.slots) (hc : c ≤ 64) (hl : 6 * c + 6 ≤ Ω.2.2.2.1.2.1) (h31 : Ω.2.2.2.1.2.1 < 2 ^ 31) (hn : ∀ k n S I L, LJ (c + 1) k n S I → V (mLaw nm) E Ω k n S I L 1243 (ll Ω c []) []) : ∀ k n S I L, LJ c k n S I → V (mLaw nm) E Ω k n S I L 627 (ll Ω c []) [] := by
  rintro k n _ I L ⟨u, v, σ, rfl, hI, hM, hZ, hs, hk, hm⟩
  obtain ⟨σ', x, ans, hx, hZ', ⟨P, hF, hP⟩, hMo⟩ := a_days (Ω := Ω) (L := L) hc (sx_lt (Ω := Ω) (i := 6 * c + 1)) hI hZ
  refine V_aload_n 627 1 dL_law_627 rfl ?_
  refine L_arg 628 (j := 1) ⟨dL_law_628, dL_law_629, ⟨_, dL_law_631, rfl⟩, dL_law_632, dL_law_633⟩ (by omega) h31 ?_
  refine V_aload_n 634 3 dL_law_634 rfl ?_
  refine V_hi 635 mhL_102 dL_law_635 hE hF rfl (Nat.le_of_ble_eq_true rfl) ⟨by omega, by omega⟩ ?_
  intro r S' I' L' hp
  obtain ⟨rfl, ⟨u', v', rfl, hI'⟩, hf, hL'⟩ := hP _ _ _ _ hp
  refine V_istore 638 (ll Ω c [(5, _)]) dL_law_638 (Nat.le_of_ble_eq_true rfl) rfl ?_
  refine V_aload_n 640 2 dL_law_640 rfl ?_
  refine L_arg 641 (j := 1) ⟨dL_law_641, dL_law_642, ⟨_, dL_law_644, rfl⟩, dL_law_645, dL_law_646⟩ (by omega) h31 ?_
  obtain ⟨Q, hG, hQ⟩ := hMo u' v' I' L' (hM.fr fun i h1 _ => hf i (Or.inr h1)) (by rw [hf 63 (Or.inr (Nat.le_refl _))]; omega)
  refine V_vi 647 mvL_104 dL_law_647 SH_8 hE hG rfl (Nat.le_of_ble_eq_true rfl) ?_
  intro r2 S2 I2 L2 hq
  have hq2 := hQ _ _ _ _ hq
  refine V_istore 650 (ll Ω c [(5, _), (6, _)]) dL_law_650 (Nat.le_of_ble_eq_true rfl) rfl ?_
  obtain ⟨rfl, rfl, q3, q4, -⟩ := id hq2
  exact L_tail 652 ⟨dL_law_652, dL_law_653, dL_law_656, dL_law_658, dL_law_663, dL_law_665, dL_law_668, dL_law_669, dL_law_670, dL_law_671, dL_law_673, dL_law_674, dL_law_675, _, dL_law_680, by decide⟩ hE hx q3 (fun q => by rw [hL' q, q4 q]) (hn _ _ _ _ _ (LJ.next hZ' hI' hs hk hm hf hq2 (by omega) (by omega)))
theorem L_keep (hE : w_fit 90 E) (hr : 600 ≤ E.2.1.cells ∧ 300000 ≤ E.2.1.slots) (hc : c ≤ 64) (hl : 6 * c + 6 ≤ Ω.2.2.2.1.2.1) (h31 : Ω.2.2.2.1.2.1 < 2 ^ 31) (hn : ∀ k n S I L, LJ (c + 1) k n S I → V (mLaw nm) E Ω k n S I L 1243 (ll Ω c []) []) : ∀ k n S I L, LJ c k n S I → V (mLaw nm) E Ω k n S I L 683 (ll Ω c []) [] := by
  rintro k n _ I L ⟨u, v, σ, rfl, hI, hM, hZ, hs, hk, hm⟩
  obtain ⟨σ', x, ans, hx, hZ', ⟨P, hF, hP⟩, hMo⟩ := a_keep (Ω := Ω) (L := L) (sx_lt (Ω := Ω) (i := 6 * c + 1)) (sx_lt (Ω := Ω) (i := 6 * c + 2)) (sx_lt (Ω := Ω) (i := 6 * c + 3)) (sx_lt (Ω := Ω) (i := 6 * c + 4)) hI hZ
  refine V_aload_n 683 1 dL_law_683 rfl ?_
  refine L_arg 684 (j := 1) ⟨dL_law_684, dL_law_685, ⟨_, dL_law_687, rfl⟩, dL_law_688, dL_law_689⟩ (by omega) h31 ?_
  refine L_arg 690 (j := 2) ⟨dL_law_690, dL_law_691, ⟨_, dL_law_693, rfl⟩, dL_law_694, dL_law_695⟩ (by omega) h31 ?_
  refine L_arg 696 (j := 3) ⟨dL_law_696, dL_law_697, ⟨_, dL_law_699, rfl⟩, dL_law_700, dL_law_701⟩ (by omega) h31 ?_
  refine L_arg 702 (j := 4) ⟨dL_law_702, dL_law_703, ⟨_, dL_law_705, rfl⟩, dL_law_706, dL_law_707⟩ (by omega) h31 ?_
  refine V_aload_n 708 3 dL_law_708 rfl ?_
  refine V_hi 709 mhL_105 dL_law_709 hE hF rfl (Nat.le_of_ble_eq_true rfl) ⟨by omega, by omega⟩ ?_
  intro r S' I' L' hp
  obtain ⟨rfl, ⟨u', v', rfl, hI'⟩, hf, hL'⟩ := hP _ _ _ _ hp
  refine V_istore 712 (ll Ω c [(5, _)]) dL_law_712 (Nat.le_of_ble_eq_true rfl) rfl ?_
  refine V_aload_n 714 2 dL_law_714 rfl ?_
  refine L_arg 715 (j := 1) ⟨dL_law_715, dL_law_716, ⟨_, dL_law_718, rfl⟩, dL_law_719, dL_law_720⟩ (by omega) h31 ?_
  refine L_arg 721 (j := 2) ⟨dL_law_721, dL_law_722, ⟨_, dL_law_724, rfl⟩, dL_law_725, dL_law_726⟩ (by omega) h31 ?_
  refine L_arg 727 (j := 3) ⟨dL_law_727, dL_law_728, ⟨_, dL_law_730, rfl⟩, dL_law_731, dL_law_732⟩ (by omega) h31 ?_
  refine L_arg 733 (j := 4) ⟨dL_law_733, dL_law_734, ⟨_, dL_law_736, rfl⟩, dL_law_737, dL_law_738⟩ (by omega) h31 ?_
  obtain ⟨Q, hG, hQ⟩ := hMo u' v' I' L' (hM.fr fun i h1 _ => hf i (Or.inr h1)) (by rw [hf 63 (Or.inr (Nat.le_refl _))]; omega)
  refine V_vi 739 mvL_107 dL_law_739 SH_8 hE hG rfl (Nat.le_of_ble_eq_true rfl) ?_
  intro r2 S2 I2 L2 hq
  have hq2 := hQ _ _ _ _ hq
  refine V_istore 742 (ll Ω c [(5, _), (6, _)]) dL_law_742 (Nat.le_of_ble_eq_true rfl) rfl ?_
  obtain ⟨rfl, rfl, q3, q4, -⟩ := id hq2
  exact L_tail 744 ⟨dL_law_744, dL_law_745, dL_law_748, dL_law_750, dL_law_755, dL_law_757, dL_law_760, dL_law_761, dL_law_762, dL_law_763, dL_law_765, dL_law_766, dL_law_767, _, dL_law_772, by decide⟩ hE hx q3 (fun q => by rw [hL' q, q4 q]) (hn _ _ _ _ _ (LJ.next hZ' hI' hs hk hm hf hq2 (by omega) (by omega)))
theorem L_kept (hE : w_fit 90 E) (hr : 600 ≤ E.2.1.cells ∧ 300000 ≤ E.2.1.slots) (hc : c ≤ 64) (hl : 6 * c + 6 ≤ Ω.2.2.2.1.2.1) (h31 : Ω.2.2.2.1.2.1 < 2 ^ 31) (hn : ∀ k n S I L, LJ (c + 1) k n S I → V (mLaw nm) E Ω k n S I L 1243 (ll Ω c []) []) : ∀ k n S I L, LJ c k n S I → V (mLaw nm) E Ω k n S I L 775 (ll Ω c []) [] := by
  rintro k n _ I L ⟨u, v, σ, rfl, hI, hM, hZ, hs, hk, hm⟩
  obtain ⟨σ', x, ans, hx, hZ', ⟨P, hF, hP⟩, hMo⟩ := a_kept (Ω := Ω) (L := L) (sx_lt (Ω := Ω) (i := 6 * c + 1)) hI hZ
  refine V_aload_n 775 1 dL_law_775 rfl ?_
  refine L_arg 776 (j := 1) ⟨dL_law_776, dL_law_777, ⟨_, dL_law_779, rfl⟩, dL_law_780, dL_law_781⟩ (by omega) h31 ?_
  refine V_aload_n 782 3 dL_law_782 rfl ?_
  refine V_hi 783 mhL_108 dL_law_783 hE hF rfl (Nat.le_of_ble_eq_true rfl) ⟨by omega, by omega⟩ ?_
  intro r S' I' L' hp
  obtain ⟨rfl, ⟨u', v', rfl, hI'⟩, hf, hL'⟩ := hP _ _ _ _ hp
  refine V_istore 786 (ll Ω c [(5, _)]) dL_law_786 (Nat.le_of_ble_eq_true rfl) rfl ?_
  refine V_aload_n 788 2 dL_law_788 rfl ?_
  refine L_arg 789 (j := 1) ⟨dL_law_789, dL_law_790, ⟨_, dL_law_792, rfl⟩, dL_law_793, dL_law_794⟩ (by omega) h31 ?_
  obtain ⟨Q, hG, hQ⟩ := hMo u' v' I' L' (hM.fr fun i h1 _ => hf i (Or.inr h1)) (by rw [hf 63 (Or.inr (Nat.le_refl _))]; omega)
  refine V_vi 795 mvL_110 dL_law_795 SH_8 hE hG rfl (Nat.le_of_ble_eq_true rfl) ?_
  intro r2 S2 I2 L2 hq
  have hq2 := hQ _ _ _ _ hq
  refine V_istore 798 (ll Ω c [(5, _), (6, _)]) dL_law_798 (Nat.le_of_ble_eq_true rfl) rfl ?_
  obtain ⟨rfl, rfl, q3, q4, -⟩ := id hq2
  exact L_tail 800 ⟨dL_law_800, dL_law_801, dL_law_804, dL_law_806, dL_law_811, dL_law_813, dL_law_816, dL_law_817, dL_law_818, dL_law_819, dL_law_821, dL_law_822, dL_law_823, _, dL_law_828, by decide⟩ hE hx q3 (fun q => by rw [hL' q, q4 q]) (hn _ _ _ _ _ (LJ.next hZ' hI' hs hk hm hf hq2 (by omega) (by omega)))
theorem L_silence (hE : w_fit 90 E) (hr : 600 ≤ E.2.1.cells ∧ 300000 ≤ E.2.1.slots) (hc : c ≤ 64) (hl : 6 * c + 6 ≤ Ω.2.2.2.1.2.1) (h31 : Ω.2.2.2.1.2.1 < 2 ^ 31) (hn : ∀ k n S I L, LJ (c + 1) k n S I → V (mLaw nm) E Ω k n S I L 1243 (ll Ω c []) []) : ∀ k n S I L, LJ c k n S I → V (mLaw nm) E Ω k n S I L 831 (ll Ω c []) [] := by
  rintro k n _ I L ⟨u, v, σ, rfl, hI, hM, hZ, hs, hk, hm⟩
  obtain ⟨σ', x, ans, hx, hZ', ⟨P, hF, hP⟩, hMo⟩ := a_silence (Ω := Ω) (L := L) (sx_lt (Ω := Ω) (i := 6 * c + 1)) (sx_lt (Ω := Ω) (i := 6 * c + 2)) hI hZ
  refine V_aload_n 831 1 dL_law_831 rfl ?_
  refine L_arg 832 (j := 1) ⟨dL_law_832, dL_law_833, ⟨_, dL_law_835, rfl⟩, dL_law_836, dL_law_837⟩ (by omega) h31 ?_
  refine L_arg 838 (j := 2) ⟨dL_law_838, dL_law_839, ⟨_, dL_law_841, rfl⟩, dL_law_842, dL_law_843⟩ (by omega) h31 ?_
  refine V_aload_n 844 3 dL_law_844 rfl ?_
  refine V_hi 845 mhL_111 dL_law_845 hE hF rfl (Nat.le_of_ble_eq_true rfl) ⟨by omega, by omega⟩ ?_
  intro r S' I' L' hp
  obtain ⟨rfl, ⟨u', v', rfl, hI'⟩, hf, hL'⟩ := hP _ _ _ _ hp
  refine V_istore 848 (ll Ω c [(5, _)]) dL_law_848 (Nat.le_of_ble_eq_true rfl) rfl ?_
  refine V_aload_n 850 2 dL_law_850 rfl ?_
  refine L_arg 851 (j := 1) ⟨dL_law_851, dL_law_852, ⟨_, dL_law_854, rfl⟩, dL_law_855, dL_law_856⟩ (by omega) h31 ?_
  refine L_arg 857 (j := 2) ⟨dL_law_857, dL_law_858, ⟨_, dL_law_860, rfl⟩, dL_law_861, dL_law_862⟩ (by omega) h31 ?_
  obtain ⟨Q, hG, hQ⟩ := hMo u' v' I' L' (hM.fr fun i h1 _ => hf i (Or.inr h1)) (by rw [hf 63 (Or.inr (Nat.le_refl _))]; omega)
  refine V_vi 863 mvL_113 dL_law_863 SH_8 hE hG rfl (Nat.le_of_ble_eq_true rfl) ?_
  intro r2 S2 I2 L2 hq
  have hq2 := hQ _ _ _ _ hq
  refine V_istore 866 (ll Ω c [(5, _), (6, _)]) dL_law_866 (Nat.le_of_ble_eq_true rfl) rfl ?_
  obtain ⟨rfl, rfl, q3, q4, -⟩ := id hq2
  exact L_tail 868 ⟨dL_law_868, dL_law_869, dL_law_872, dL_law_874, dL_law_879, dL_law_881, dL_law_884, dL_law_885, dL_law_886, dL_law_887, dL_law_889, dL_law_890, dL_law_891, _, dL_law_896, by decide⟩ hE hx q3 (fun q => by rw [hL' q, q4 q]) (hn _ _ _ _ _ (LJ.next hZ' hI' hs hk hm hf hq2 (by omega) (by omega)))
theorem L_stands (hE : w_fit 90 E) (hr : 600 ≤ E.2.1.cells ∧ 300000 ≤ E.2.1.slots) (hc : c ≤ 64) (hl : 6 * c + 6 ≤ Ω.2.2.2.1.2.1) (h31 : Ω.2.2.2.1.2.1 < 2 ^ 31) (hn : ∀ k n S I L, LJ (c + 1) k n S I → V (mLaw nm) E Ω k n S I L 1243 (ll Ω c []) []) : ∀ k n S I L, LJ c k n S I → V (mLaw nm) E Ω k n S I L 899 (ll Ω c []) [] := by
  rintro k n _ I L ⟨u, v, σ, rfl, hI, hM, hZ, hs, hk, hm⟩
  obtain ⟨σ', x, ans, hx, hZ', ⟨P, hF, hP⟩, hMo⟩ := a_stands (Ω := Ω) (L := L) (sx_lt (Ω := Ω) (i := 6 * c + 1)) (sx_lt (Ω := Ω) (i := 6 * c + 2)) hI hZ
  refine V_aload_n 899 1 dL_law_899 rfl ?_
  refine L_arg 900 (j := 1) ⟨dL_law_900, dL_law_901, ⟨_, dL_law_903, rfl⟩, dL_law_904, dL_law_905⟩ (by omega) h31 ?_
  refine L_arg 906 (j := 2) ⟨dL_law_906, dL_law_907, ⟨_, dL_law_909, rfl⟩, dL_law_910, dL_law_911⟩ (by omega) h31 ?_
  refine V_aload_n 912 3 dL_law_912 rfl ?_
  refine V_hi 913 mhL_114 dL_law_913 hE hF rfl (Nat.le_of_ble_eq_true rfl) ⟨by omega, by omega⟩ ?_
  intro r S' I' L' hp
  obtain ⟨rfl, ⟨u', v', rfl, hI'⟩, hf, hL'⟩ := hP _ _ _ _ hp
  refine V_istore 916 (ll Ω c [(5, _)]) dL_law_916 (Nat.le_of_ble_eq_true rfl) rfl ?_
  refine V_aload_n 918 2 dL_law_918 rfl ?_
  refine L_arg 919 (j := 1) ⟨dL_law_919, dL_law_920, ⟨_, dL_law_922, rfl⟩, dL_law_923, dL_law_924⟩ (by omega) h31 ?_
  refine L_arg 925 (j := 2) ⟨dL_law_925, dL_law_926, ⟨_, dL_law_928, rfl⟩, dL_law_929, dL_law_930⟩ (by omega) h31 ?_
  obtain ⟨Q, hG, hQ⟩ := hMo u' v' I' L' (hM.fr fun i h1 _ => hf i (Or.inr h1)) (by rw [hf 63 (Or.inr (Nat.le_refl _))]; omega)
  refine V_vi 931 mvL_116 dL_law_931 SH_8 hE hG rfl (Nat.le_of_ble_eq_true rfl) ?_
  intro r2 S2 I2 L2 hq
  have hq2 := hQ _ _ _ _ hq
  refine V_istore 934 (ll Ω c [(5, _), (6, _)]) dL_law_934 (Nat.le_of_ble_eq_true rfl) rfl ?_
  obtain ⟨rfl, rfl, q3, q4, -⟩ := id hq2
  exact L_tail 936 ⟨dL_law_936, dL_law_937, dL_law_940, dL_law_942, dL_law_947, dL_law_949, dL_law_952, dL_law_953, dL_law_954, dL_law_955, dL_law_957, dL_law_958, dL_law_959, _, dL_law_964, by decide⟩ hE hx q3 (fun q => by rw [hL' q, q4 q]) (hn _ _ _ _ _ (LJ.next hZ' hI' hs hk hm hf hq2 (by omega) (by omega)))
theorem L_pairs (hE : w_fit 90 E) (hr : 600 ≤ E.2.1.cells ∧ 300000 ≤ E.2.1.slots) (hc : c ≤ 64) (hl : 6 * c + 6 ≤ Ω.2.2.2.1.2.1) (h31 : Ω.2.2.2.1.2.1 < 2 ^ 31) (hn : ∀ k n S I L, LJ (c + 1) k n S I → V (mLaw nm) E Ω k n S I L 1243 (ll Ω c []) []) : ∀ k n S I L, LJ c k n S I → V (mLaw nm) E Ω k n S I L 967 (ll Ω c []) [] := by
  rintro k n _ I L ⟨u, v, σ, rfl, hI, hM, hZ, hs, hk, hm⟩
  obtain ⟨σ', x, ans, hx, hZ', ⟨P, hF, hP⟩, hMo⟩ := a_pairs (Ω := Ω) (L := L) (sx_lt (Ω := Ω) (i := 6 * c + 1)) (sx_lt (Ω := Ω) (i := 6 * c + 2)) hI hZ
  refine V_aload_n 967 1 dL_law_967 rfl ?_
  refine L_arg 968 (j := 1) ⟨dL_law_968, dL_law_969, ⟨_, dL_law_971, rfl⟩, dL_law_972, dL_law_973⟩ (by omega) h31 ?_
  refine L_arg 974 (j := 2) ⟨dL_law_974, dL_law_975, ⟨_, dL_law_977, rfl⟩, dL_law_978, dL_law_979⟩ (by omega) h31 ?_
  refine V_aload_n 980 3 dL_law_980 rfl ?_
  refine V_hi 981 mhL_117 dL_law_981 hE hF rfl (Nat.le_of_ble_eq_true rfl) ⟨by omega, by omega⟩ ?_
  intro r S' I' L' hp
  obtain ⟨rfl, ⟨u', v', rfl, hI'⟩, hf, hL'⟩ := hP _ _ _ _ hp
  refine V_istore 984 (ll Ω c [(5, _)]) dL_law_984 (Nat.le_of_ble_eq_true rfl) rfl ?_
  refine V_aload_n 986 2 dL_law_986 rfl ?_
  refine L_arg 987 (j := 1) ⟨dL_law_987, dL_law_988, ⟨_, dL_law_990, rfl⟩, dL_law_991, dL_law_992⟩ (by omega) h31 ?_
  refine L_arg 993 (j := 2) ⟨dL_law_993, dL_law_994, ⟨_, dL_law_996, rfl⟩, dL_law_997, dL_law_998⟩ (by omega) h31 ?_
  obtain ⟨Q, hG, hQ⟩ := hMo u' v' I' L' (hM.fr fun i h1 _ => hf i (Or.inr h1)) (by rw [hf 63 (Or.inr (Nat.le_refl _))]; omega)
  refine V_vi 999 mvL_119 dL_law_999 SH_8 hE hG rfl (Nat.le_of_ble_eq_true rfl) ?_
  intro r2 S2 I2 L2 hq
  have hq2 := hQ _ _ _ _ hq
  refine V_istore 1002 (ll Ω c [(5, _), (6, _)]) dL_law_1002 (Nat.le_of_ble_eq_true rfl) rfl ?_
  obtain ⟨rfl, rfl, q3, q4, -⟩ := id hq2
  exact L_tail 1004 ⟨dL_law_1004, dL_law_1005, dL_law_1008, dL_law_1010, dL_law_1015, dL_law_1017, dL_law_1020, dL_law_1021, dL_law_1022, dL_law_1023, dL_law_1025, dL_law_1026, dL_law_1027, _, dL_law_1032, by decide⟩ hE hx q3 (fun q => by rw [hL' q, q4 q]) (hn _ _ _ _ _ (LJ.next hZ' hI' hs hk hm hf hq2 (by omega) (by omega)))
theorem L_tale (hE : w_fit 90 E) (hr : 600 ≤ E.2.1.cells ∧ 300000 ≤ E.2.1.slots) (hc : c ≤ 64) (hl : 6 * c + 6 ≤ Ω.2.2.2.1.2.1) (h31 : Ω.2.2.2.1.2.1 < 2 ^ 31) (hn : ∀ k n S I L, LJ (c + 1) k n S I → V (mLaw nm) E Ω k n S I L 1243 (ll Ω c []) []) : ∀ k n S I L, LJ c k n S I → V (mLaw nm) E Ω k n S I L 1035 (ll Ω c []) [] := by
  rintro k n _ I L ⟨u, v, σ, rfl, hI, hM, hZ, hs, hk, hm⟩
  obtain ⟨σ', x, ans, hx, hZ', ⟨P, hF, hP⟩, hMo⟩ := a_tale (Ω := Ω) (L := L) (sx_lt (Ω := Ω) (i := 6 * c + 1)) (sx_lt (Ω := Ω) (i := 6 * c + 2)) (sx_lt (Ω := Ω) (i := 6 * c + 3)) (sx_lt (Ω := Ω) (i := 6 * c + 4)) hI hZ
  refine V_aload_n 1035 1 dL_law_1035 rfl ?_
  refine L_arg 1036 (j := 1) ⟨dL_law_1036, dL_law_1037, ⟨_, dL_law_1039, rfl⟩, dL_law_1040, dL_law_1041⟩ (by omega) h31 ?_
  refine L_arg 1042 (j := 2) ⟨dL_law_1042, dL_law_1043, ⟨_, dL_law_1045, rfl⟩, dL_law_1046, dL_law_1047⟩ (by omega) h31 ?_
  refine L_arg 1048 (j := 3) ⟨dL_law_1048, dL_law_1049, ⟨_, dL_law_1051, rfl⟩, dL_law_1052, dL_law_1053⟩ (by omega) h31 ?_
  refine L_arg 1054 (j := 4) ⟨dL_law_1054, dL_law_1055, ⟨_, dL_law_1057, rfl⟩, dL_law_1058, dL_law_1059⟩ (by omega) h31 ?_
  refine V_aload_n 1060 3 dL_law_1060 rfl ?_
  refine V_hi 1061 mhL_120 dL_law_1061 hE hF rfl (Nat.le_of_ble_eq_true rfl) ⟨by omega, by omega⟩ ?_
  intro r S' I' L' hp
  obtain ⟨rfl, ⟨u', v', rfl, hI'⟩, hf, hL'⟩ := hP _ _ _ _ hp
  refine V_istore 1064 (ll Ω c [(5, _)]) dL_law_1064 (Nat.le_of_ble_eq_true rfl) rfl ?_
  refine V_aload_n 1066 2 dL_law_1066 rfl ?_
  refine L_arg 1067 (j := 1) ⟨dL_law_1067, dL_law_1068, ⟨_, dL_law_1070, rfl⟩, dL_law_1071, dL_law_1072⟩ (by omega) h31 ?_
  refine L_arg 1073 (j := 2) ⟨dL_law_1073, dL_law_1074, ⟨_, dL_law_1076, rfl⟩, dL_law_1077, dL_law_1078⟩ (by omega) h31 ?_
  refine L_arg 1079 (j := 3) ⟨dL_law_1079, dL_law_1080, ⟨_, dL_law_1082, rfl⟩, dL_law_1083, dL_law_1084⟩ (by omega) h31 ?_
  refine L_arg 1085 (j := 4) ⟨dL_law_1085, dL_law_1086, ⟨_, dL_law_1088, rfl⟩, dL_law_1089, dL_law_1090⟩ (by omega) h31 ?_
  obtain ⟨Q, hG, hQ⟩ := hMo u' v' I' L' (hM.fr fun i h1 _ => hf i (Or.inr h1)) (by rw [hf 63 (Or.inr (Nat.le_refl _))]; omega)
  refine V_vi 1091 mvL_122 dL_law_1091 SH_8 hE hG rfl (Nat.le_of_ble_eq_true rfl) ?_
  intro r2 S2 I2 L2 hq
  have hq2 := hQ _ _ _ _ hq
  refine V_istore 1094 (ll Ω c [(5, _), (6, _)]) dL_law_1094 (Nat.le_of_ble_eq_true rfl) rfl ?_
  obtain ⟨rfl, rfl, q3, q4, -⟩ := id hq2
  exact L_tail 1096 ⟨dL_law_1096, dL_law_1097, dL_law_1100, dL_law_1102, dL_law_1107, dL_law_1109, dL_law_1112, dL_law_1113, dL_law_1114, dL_law_1115, dL_law_1117, dL_law_1118, dL_law_1119, _, dL_law_1124, by decide⟩ hE hx q3 (fun q => by rw [hL' q, q4 q]) (hn _ _ _ _ _ (LJ.next hZ' hI' hs hk hm hf hq2 (by omega) (by omega)))
theorem L_lacks (hE : w_fit 90 E) (hr : 600 ≤ E.2.1.cells ∧ 300000 ≤ E.2.1.slots) (hc : c ≤ 64) (hl : 6 * c + 6 ≤ Ω.2.2.2.1.2.1) (h31 : Ω.2.2.2.1.2.1 < 2 ^ 31) (hn : ∀ k n S I L, LJ (c + 1) k n S I → V (mLaw nm) E Ω k n S I L 1243 (ll Ω c []) []) : ∀ k n S I L, LJ c k n S I → V (mLaw nm) E Ω k n S I L 1127 (ll Ω c []) [] := by
  rintro k n _ I L ⟨u, v, σ, rfl, hI, hM, hZ, hs, hk, hm⟩
  obtain ⟨σ', x, ans, hx, hZ', ⟨P, hF, hP⟩, hMo⟩ := a_lacks (Ω := Ω) (L := L) (sx_lt (Ω := Ω) (i := 6 * c + 1)) (sx_lt (Ω := Ω) (i := 6 * c + 2)) (sx_lt (Ω := Ω) (i := 6 * c + 3)) (sx_lt (Ω := Ω) (i := 6 * c + 4)) hI hZ
  refine V_aload_n 1127 1 dL_law_1127 rfl ?_
  refine L_arg 1128 (j := 1) ⟨dL_law_1128, dL_law_1129, ⟨_, dL_law_1131, rfl⟩, dL_law_1132, dL_law_1133⟩ (by omega) h31 ?_
  refine L_arg 1134 (j := 2) ⟨dL_law_1134, dL_law_1135, ⟨_, dL_law_1137, rfl⟩, dL_law_1138, dL_law_1139⟩ (by omega) h31 ?_
  refine L_arg 1140 (j := 3) ⟨dL_law_1140, dL_law_1141, ⟨_, dL_law_1143, rfl⟩, dL_law_1144, dL_law_1145⟩ (by omega) h31 ?_
  refine L_arg 1146 (j := 4) ⟨dL_law_1146, dL_law_1147, ⟨_, dL_law_1149, rfl⟩, dL_law_1150, dL_law_1151⟩ (by omega) h31 ?_
  refine V_aload_n 1152 3 dL_law_1152 rfl ?_
  refine V_hi 1153 mhL_123 dL_law_1153 hE hF rfl (Nat.le_of_ble_eq_true rfl) ⟨by omega, by omega⟩ ?_
  intro r S' I' L' hp
  obtain ⟨rfl, ⟨u', v', rfl, hI'⟩, hf, hL'⟩ := hP _ _ _ _ hp
  refine V_istore 1156 (ll Ω c [(5, _)]) dL_law_1156 (Nat.le_of_ble_eq_true rfl) rfl ?_
  refine V_aload_n 1158 2 dL_law_1158 rfl ?_
  refine L_arg 1159 (j := 1) ⟨dL_law_1159, dL_law_1160, ⟨_, dL_law_1162, rfl⟩, dL_law_1163, dL_law_1164⟩ (by omega) h31 ?_
  refine L_arg 1165 (j := 2) ⟨dL_law_1165, dL_law_1166, ⟨_, dL_law_1168, rfl⟩, dL_law_1169, dL_law_1170⟩ (by omega) h31 ?_
  refine L_arg 1171 (j := 3) ⟨dL_law_1171, dL_law_1172, ⟨_, dL_law_1174, rfl⟩, dL_law_1175, dL_law_1176⟩ (by omega) h31 ?_
  refine L_arg 1177 (j := 4) ⟨dL_law_1177, dL_law_1178, ⟨_, dL_law_1180, rfl⟩, dL_law_1181, dL_law_1182⟩ (by omega) h31 ?_
  obtain ⟨Q, hG, hQ⟩ := hMo u' v' I' L' (hM.fr fun i h1 _ => hf i (Or.inr h1)) (by rw [hf 63 (Or.inr (Nat.le_refl _))]; omega)
  refine V_vi 1183 mvL_125 dL_law_1183 SH_8 hE hG rfl (Nat.le_of_ble_eq_true rfl) ?_
  intro r2 S2 I2 L2 hq
  have hq2 := hQ _ _ _ _ hq
  refine V_istore 1186 (ll Ω c [(5, _), (6, _)]) dL_law_1186 (Nat.le_of_ble_eq_true rfl) rfl ?_
  obtain ⟨rfl, rfl, q3, q4, -⟩ := id hq2
  exact L_tail 1188 ⟨dL_law_1188, dL_law_1189, dL_law_1192, dL_law_1194, dL_law_1199, dL_law_1201, dL_law_1204, dL_law_1205, dL_law_1206, dL_law_1207, dL_law_1209, dL_law_1210, dL_law_1211, _, dL_law_1216, by decide⟩ hE hx q3 (fun q => by rw [hL' q, q4 q]) (hn _ _ _ _ _ (LJ.next hZ' hI' hs hk hm hf hq2 (by omega) (by omega)))
theorem L_image (hE : w_fit 90 E) (hr : 600 ≤ E.2.1.cells ∧ 300000 ≤ E.2.1.slots) (hc : c ≤ 64) (hl : 6 * c + 6 ≤ Ω.2.2.2.1.2.1) (h31 : Ω.2.2.2.1.2.1 < 2 ^ 31) (hn : ∀ k n S I L, LJ (c + 1) k n S I → V (mLaw nm) E Ω k n S I L 1243 (ll Ω c []) []) : ∀ k n S I L, LJ c k n S I → V (mLaw nm) E Ω k n S I L 1219 (ll Ω c []) [] := by
  rintro k n _ I L ⟨u, v, σ, rfl, hI, hM, hZ, hs, hk, hm⟩
  refine V_aload_n 1219 1 dL_law_1219 rfl ?_
  refine V_vv 1220 mvL_126 dL_law_1220 SH_7 hE (c_image (d := 88) hI) rfl (Nat.le_of_ble_eq_true rfl) ?_
  rintro _ I' L' ⟨rfl, rfl, hI', hf⟩
  refine V_aload_n 1223 2 dL_law_1223 rfl ?_
  refine V_vv 1224 mvL_129 dL_law_1224 SH_8 hE (m_image (d := 89) hI.sok (hM.fr fun i h1 _ => hf i (Or.inr h1))) rfl (Nat.le_of_ble_eq_true rfl) ?_
  rintro _ I2 L2 ⟨rfl, rfl, q3, q4, q5⟩
  refine V_goto 1227 1243 dL_law_1227 (by decide) ?_
  exact hn _ _ _ _ _ (LJ.next (x := 0) (ans := 0) (r := nI 0) (L' := L) (L2 := L) hZ.img hI' hs hk hm hf ⟨rfl, rfl, q3, fun _ => rfl, q4, q5⟩ (by omega) (by omega))
theorem L_restore (hE : w_fit 90 E) (hr : 600 ≤ E.2.1.cells ∧ 300000 ≤ E.2.1.slots) (hc : c ≤ 64) (hl : 6 * c + 6 ≤ Ω.2.2.2.1.2.1) (h31 : Ω.2.2.2.1.2.1 < 2 ^ 31) (hn : ∀ k n S I L, LJ (c + 1) k n S I → V (mLaw nm) E Ω k n S I L 1243 (ll Ω c []) []) : ∀ k n S I L, LJ c k n S I → V (mLaw nm) E Ω k n S I L 1230 (ll Ω c []) [] := by
  rintro k n _ I L ⟨u, v, σ, rfl, hI, hM, hZ, hs, hk, hm⟩
  obtain ⟨σ', ans, hZ', ⟨P, hF, hP⟩, hMo⟩ := a_restore (Ω := Ω) (L := L) hI hZ
  refine V_aload_n 1230 1 dL_law_1230 rfl ?_
  refine V_vi 1231 mvL_130 dL_law_1231 SH_7 hE hF rfl (Nat.le_of_ble_eq_true rfl) ?_
  intro r S' I' L' hp
  obtain ⟨rfl, ⟨u', v', rfl, hI'⟩, hf⟩ := hP _ _ _ _ hp
  refine V_aload_n 1234 2 dL_law_1234 rfl ?_
  obtain ⟨Q, hG, hQ⟩ := hMo u' v' I' L' (hM.fr fun i h1 _ => hf i (Or.inr h1))
  refine V_vi 1235 mvL_134 dL_law_1235 SH_8 hE hG rfl (Nat.le_of_ble_eq_true rfl) ?_
  intro r2 S2 I2 L2 hq
  have hq2 := hQ _ _ _ _ hq
  rw [hq2.2.2.2.1 rfl]
  refine V_icmp_eq 1238 1243 dL_law_1238 (by decide) (fun _ => ?_) (fun q => absurd rfl q)
  exact hn _ _ _ _ _ (LJ.next hZ' hI' hs hk hm hf hq2 (by omega) (by omega))
end
