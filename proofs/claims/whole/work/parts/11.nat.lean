/-! ROWS OVER NATURAL NUMBERS -/
theorem n_inj {a b : Nat} (ha : a < 4294967296) (hb : b < 4294967296) : nI a = nI b ↔ a = b := by
  constructor
  · intro h
    have h1 := congrArg (fun x : Int32 => x.toBitVec.toNat) h
    simpa [pk_tn ha, pk_tn hb] using h1
  · intro h; rw [h]
theorem n_mod {a b : Nat} (h : a % 4294967296 = b % 4294967296) : nI a = nI b := by
  apply Int32.toBitVec_inj.mp
  apply BitVec.eq_of_toNat_eq
  show (BitVec.ofNat 32 a).toNat = (BitVec.ofNat 32 b).toNat
  rw [BitVec.toNat_ofNat, BitVec.toNat_ofNat]
  exact h
theorem n_and (a b : Nat) : nI a &&& nI b = nI (a &&& b) := by
  apply Int32.toBitVec_inj.mp
  show BitVec.ofNat 32 a &&& BitVec.ofNat 32 b = BitVec.ofNat 32 (a &&& b)
  apply BitVec.eq_of_toNat_eq
  rw [BitVec.toNat_and, BitVec.toNat_ofNat, BitVec.toNat_ofNat, BitVec.toNat_ofNat, Nat.and_mod_two_pow]
theorem n_or (a b : Nat) : nI a ||| nI b = nI (a ||| b) := by
  apply Int32.toBitVec_inj.mp
  show BitVec.ofNat 32 a ||| BitVec.ofNat 32 b = BitVec.ofNat 32 (a ||| b)
  apply BitVec.eq_of_toNat_eq
  rw [BitVec.toNat_or, BitVec.toNat_ofNat, BitVec.toNat_ofNat, BitVec.toNat_ofNat, Nat.or_mod_two_pow]
theorem n_xor (a b : Nat) : nI a ^^^ nI b = nI (a ^^^ b) := by
  apply Int32.toBitVec_inj.mp
  show BitVec.ofNat 32 a ^^^ BitVec.ofNat 32 b = BitVec.ofNat 32 (a ^^^ b)
  apply BitVec.eq_of_toNat_eq
  rw [BitVec.toNat_xor, BitVec.toNat_ofNat, BitVec.toNat_ofNat, BitVec.toNat_ofNat, Nat.xor_mod_two_pow]
theorem n_cnt : ∀ k, k < 32 → ((nI k &&& 31).toBitVec.smod 32).toNat = k := by decide +kernel
theorem n_cntU : ∀ k, k < 32 → (((nI k).toUInt32 &&& Int32.toUInt32 31).toBitVec % 32).toNat = k := by decide +kernel
theorem n_shl (a : Nat) {k : Nat} (hk : k < 32) : nI a <<< (nI k &&& 31) = nI (a * 2 ^ k) := by
  apply Int32.toBitVec_inj.mp
  apply BitVec.eq_of_toNat_eq
  rw [pk_shl _ _ k (n_cnt k hk)]
  show (BitVec.ofNat 32 a).toNat * 2 ^ k % 2 ^ 32 = (BitVec.ofNat 32 (a * 2 ^ k)).toNat
  rw [BitVec.toNat_ofNat, BitVec.toNat_ofNat, Nat.mod_mul_mod]
theorem n_shr {a k : Nat} (ha : a < 2147483648) (hk : k < 32) : nI a >>> (nI k &&& 31) = nI (a / 2 ^ k) := pk_shrN ha _ k (n_cnt k hk)
theorem n_ushr {a k : Nat} (ha : a < 4294967296) (hk : k < 32) : ((nI a).toUInt32 >>> ((nI k).toUInt32 &&& Int32.toUInt32 31)).toInt32 = nI (a / 2 ^ k) := pk_ushrN ha _ k (n_cntU k hk)
/-- the number that a pattern of 32 bits is -/
def sgn (a : Nat) : Int := if a < 2147483648 then (a : Int) else (a : Int) - 4294967296
theorem n_toInt {a : Nat} (ha : a < 4294967296) : (nI a).toInt = sgn a := by
  show (BitVec.ofNat 32 a).toInt = sgn a
  rw [BitVec.toInt_eq_toNat_cond, BitVec.toNat_ofNat]
  unfold sgn
  rw [show a % 2 ^ 32 = a from Nat.mod_eq_of_lt ha]
  split <;> split <;> omega
theorem n_le {a b : Nat} (ha : a < 4294967296) (hb : b < 4294967296) : nI a ≤ nI b ↔ sgn a ≤ sgn b := by
  rw [Int32.le_iff_toInt_le, n_toInt ha, n_toInt hb]
theorem n_lt {a b : Nat} (ha : a < 4294967296) (hb : b < 4294967296) : nI a < nI b ↔ sgn a < sgn b := by
  rw [Int32.lt_iff_toInt_lt, n_toInt ha, n_toInt hb]
theorem n_sub {a b : Nat} (hb : b ≤ 4294967296) : nI a - nI b = nI (a + 4294967296 - b) := by
  apply Int32.toBitVec_inj.mp
  apply BitVec.eq_of_toNat_eq
  show (BitVec.ofNat 32 a - BitVec.ofNat 32 b).toNat = (BitVec.ofNat 32 (a + 4294967296 - b)).toNat
  rw [BitVec.toNat_sub, BitVec.toNat_ofNat, BitVec.toNat_ofNat, BitVec.toNat_ofNat]
  omega
theorem l_and (a b : Nat) : lN a &&& lN b = lN (a &&& b) := by
  apply Int64.toBitVec_inj.mp
  show BitVec.ofNat 64 a &&& BitVec.ofNat 64 b = BitVec.ofNat 64 (a &&& b)
  apply BitVec.eq_of_toNat_eq
  rw [BitVec.toNat_and, BitVec.toNat_ofNat, BitVec.toNat_ofNat, BitVec.toNat_ofNat, Nat.and_mod_two_pow]
theorem l_cnt : ∀ k, k < 64 → (((nI k).toInt64 &&& 63).toBitVec.smod 64).toNat = k := by decide +kernel
theorem l_shl (a : Nat) {k : Nat} (hk : k < 64) : lN a <<< ((nI k).toInt64 &&& 63) = lN (a * 2 ^ k) := by
  apply Int64.toBitVec_inj.mp
  apply BitVec.eq_of_toNat_eq
  show (BitVec.ofNat 64 a <<< (((nI k).toInt64 &&& 63).toBitVec.smod 64)).toNat = (BitVec.ofNat 64 (a * 2 ^ k)).toNat
  rw [BitVec.shiftLeft_eq', BitVec.toNat_shiftLeft, l_cnt k hk, BitVec.toNat_ofNat, BitVec.toNat_ofNat, Nat.shiftLeft_eq, Nat.mod_mul_mod]
theorem l_shr {a k : Nat} (ha : a < 2 ^ 63) (hk : k < 64) : lN a >>> ((nI k).toInt64 &&& 63) = lN (a / 2 ^ k) := by
  apply Int64.toBitVec_inj.mp
  apply BitVec.eq_of_toInt_eq
  show ((BitVec.ofNat 64 a).sshiftRight (((nI k).toInt64 &&& 63).toBitVec.smod 64).toNat).toInt = (BitVec.ofNat 64 (a / 2 ^ k)).toInt
  rw [l_cnt k hk, BitVec.toInt_sshiftRight]
  have e1 : (BitVec.ofNat 64 a).toInt = (a : Int) := by
    rw [BitVec.toInt_eq_toNat_cond, BitVec.toNat_ofNat]
    split <;> omega
  have hlt : a / 2 ^ k < 2 ^ 63 := Nat.lt_of_le_of_lt (Nat.div_le_self _ _) ha
  have e2 : ∀ b : Nat, b < 2 ^ 63 → (BitVec.ofNat 64 b).toInt = (b : Int) := by
    intro b hb
    rw [BitVec.toInt_eq_toNat_cond, BitVec.toNat_ofNat]
    split <;> omega
  rw [e1, e2 _ hlt, Int.shiftRight_eq_div_pow]
  simp
section
variable {M : w_M} {E : w_E} {Ω : w_O} {k n : Nat} {S : List w_SC} {I : w_I} {L : w_L} {ls : List (Nat × Value)} {st : List Value}
theorem V_add (pc : Nat) {x y : Nat} (d : decode M.2.2.1 pc = .ok (.iadd, 1)) (h : V M E Ω k n S I L (pc + 1) ls (.int (nI (x + y)) :: st)) : V M E Ω k n S I L pc ls (.int (nI y) :: .int (nI x) :: st) := V_iadd pc d (by rw [nI_add]; exact h)
theorem V_sub1 (pc : Nat) {x y : Nat} (d : decode M.2.2.1 pc = .ok (.isub, 1)) (hy : y ≤ x) (h : V M E Ω k n S I L (pc + 1) ls (.int (nI (x - y)) :: st)) : V M E Ω k n S I L pc ls (.int (nI y) :: .int (nI x) :: st) := V_isub pc d (by rw [pk_sub hy]; exact h)
theorem V_subM (pc : Nat) {x y : Nat} (d : decode M.2.2.1 pc = .ok (.isub, 1)) (hy : y ≤ 4294967296) (h : V M E Ω k n S I L (pc + 1) ls (.int (nI (x + 4294967296 - y)) :: st)) : V M E Ω k n S I L pc ls (.int (nI y) :: .int (nI x) :: st) := V_isub pc d (by rw [n_sub hy]; exact h)
theorem V_mul (pc : Nat) {x y : Nat} (d : decode M.2.2.1 pc = .ok (.imul, 1)) (h : V M E Ω k n S I L (pc + 1) ls (.int (nI (x * y)) :: st)) : V M E Ω k n S I L pc ls (.int (nI y) :: .int (nI x) :: st) := V_imul pc d (by rw [pk_mul]; exact h)
theorem V_and (pc : Nat) {x y : Nat} (d : decode M.2.2.1 pc = .ok (.iand, 1)) (h : V M E Ω k n S I L (pc + 1) ls (.int (nI (x &&& y)) :: st)) : V M E Ω k n S I L pc ls (.int (nI y) :: .int (nI x) :: st) := V_iand pc d (by rw [n_and]; exact h)
theorem V_or (pc : Nat) {x y : Nat} (d : decode M.2.2.1 pc = .ok (.ior, 1)) (h : V M E Ω k n S I L (pc + 1) ls (.int (nI (x ||| y)) :: st)) : V M E Ω k n S I L pc ls (.int (nI y) :: .int (nI x) :: st) := V_ior pc d (by rw [n_or]; exact h)
theorem V_xor (pc : Nat) {x y : Nat} (d : decode M.2.2.1 pc = .ok (.ixor, 1)) (h : V M E Ω k n S I L (pc + 1) ls (.int (nI (x ^^^ y)) :: st)) : V M E Ω k n S I L pc ls (.int (nI y) :: .int (nI x) :: st) := V_ixor pc d (by rw [n_xor]; exact h)
theorem V_shl (pc : Nat) {x y : Nat} (d : decode M.2.2.1 pc = .ok (.ishl, 1)) (hy : y < 32) (h : V M E Ω k n S I L (pc + 1) ls (.int (nI (x * 2 ^ y)) :: st)) : V M E Ω k n S I L pc ls (.int (nI y) :: .int (nI x) :: st) := V_ishl pc d (by rw [n_shl x hy]; exact h)
theorem V_shr (pc : Nat) {x y : Nat} (d : decode M.2.2.1 pc = .ok (.ishr, 1)) (hx : x < 2147483648) (hy : y < 32) (h : V M E Ω k n S I L (pc + 1) ls (.int (nI (x / 2 ^ y)) :: st)) : V M E Ω k n S I L pc ls (.int (nI y) :: .int (nI x) :: st) := V_ishr pc d (by rw [n_shr hx hy]; exact h)
theorem V_ushr (pc : Nat) {x y : Nat} (d : decode M.2.2.1 pc = .ok (.iushr, 1)) (hx : x < 4294967296) (hy : y < 32) (h : V M E Ω k n S I L (pc + 1) ls (.int (nI (x / 2 ^ y)) :: st)) : V M E Ω k n S I L pc ls (.int (nI y) :: .int (nI x) :: st) := V_iushr pc d (by rw [n_ushr hx hy]; exact h)
theorem V_div (pc : Nat) {x y : Nat} (d : decode M.2.2.1 pc = .ok (.idiv, 1)) (hx : x < 2147483648) (h0 : 0 < y) (hy : y < 2147483648) (h : V M E Ω k n S I L (pc + 1) ls (.int (nI (x / y)) :: st)) : V M E Ω k n S I L pc ls (.int (nI y) :: .int (nI x) :: st) := V_idiv pc d (nI_ne0 h0 hy) (by rw [pk_div hx h0 hy]; exact h)
theorem V_rem (pc : Nat) {x y : Nat} (d : decode M.2.2.1 pc = .ok (.irem, 1)) (hx : x < 2147483648) (h0 : 0 < y) (hy : y < 2147483648) (h : V M E Ω k n S I L (pc + 1) ls (.int (nI (x % y)) :: st)) : V M E Ω k n S I L pc ls (.int (nI y) :: .int (nI x) :: st) := V_irem pc d (nI_ne0 h0 hy) (by rw [pk_rem hx h0 hy]; exact h)
theorem V_widen (pc : Nat) {x : Nat} (d : decode M.2.2.1 pc = .ok (.i2l, 1)) (hx : x < 2147483648) (h : V M E Ω k n S I L (pc + 1) ls (.long (lN x) :: st)) : V M E Ω k n S I L pc ls (.int (nI x) :: st) := V_i2l pc d (by rw [nI_l hx]; exact h)
theorem V_narrow (pc : Nat) {x : Nat} (d : decode M.2.2.1 pc = .ok (.l2i, 1)) (h : V M E Ω k n S I L (pc + 1) ls (.int (nI x) :: st)) : V M E Ω k n S I L pc ls (.long (lN x) :: st) := V_l2i pc d (by rw [lN_i]; exact h)
theorem V_byte (pc : Nat) {x : Nat} (d : decode M.2.2.1 pc = .ok (.i2b, 1)) (h : V M E Ω k n S I L (pc + 1) ls (.int (nI (w_b8 x)) :: st)) : V M E Ω k n S I L pc ls (.int (nI x) :: st) := V_i2b pc d (by rw [w_b8_nI]; exact h)
theorem V_addl (pc : Nat) {x y : Nat} (d : decode M.2.2.1 pc = .ok (.ladd, 1)) (h : V M E Ω k n S I L (pc + 1) ls (.long (lN (x + y)) :: st)) : V M E Ω k n S I L pc ls (.long (lN y) :: .long (lN x) :: st) := V_ladd pc d (by rw [lN_add]; exact h)
theorem V_andl (pc : Nat) {x y : Nat} (d : decode M.2.2.1 pc = .ok (.land, 1)) (h : V M E Ω k n S I L (pc + 1) ls (.long (lN (x &&& y)) :: st)) : V M E Ω k n S I L pc ls (.long (lN y) :: .long (lN x) :: st) := V_land pc d (by rw [l_and]; exact h)
theorem V_shll (pc : Nat) {x y : Nat} (d : decode M.2.2.1 pc = .ok (.lshl, 1)) (hy : y < 64) (h : V M E Ω k n S I L (pc + 1) ls (.long (lN (x * 2 ^ y)) :: st)) : V M E Ω k n S I L pc ls (.int (nI y) :: .long (lN x) :: st) := V_lshl pc d (by rw [l_shl x hy]; exact h)
theorem V_shrl (pc : Nat) {x y : Nat} (d : decode M.2.2.1 pc = .ok (.lshr, 1)) (hx : x < 2 ^ 63) (hy : y < 64) (h : V M E Ω k n S I L (pc + 1) ls (.long (lN (x / 2 ^ y)) :: st)) : V M E Ω k n S I L pc ls (.int (nI y) :: .long (lN x) :: st) := V_lshr pc d (by rw [l_shr hx hy]; exact h)
theorem V_inc (pc j v : Nat) (ls' : List (Nat × Value)) {i x : Nat} {q : Int} (d : decode M.2.2.1 pc = .ok (.iinc i q, 3)) (hk : ls[j]? = some (i, .int (nI x))) (hq : q = 1) (hv : x + 1 = v) (hi : i < M.2.2.2.1) (hs : w_st ls i (.int (nI v)) = ls') (h : V M E Ω k n S I L (pc + 3) ls' st) : V M E Ω k n S I L pc ls st := V_iinc pc j (nI v) ls' d hk (by rw [hq, ← hv]; exact nI_1 x) hi hs h
/-- constants -/
theorem V_cst (pc v : Nat) {q : Int} (d : decode M.2.2.1 pc = .ok (.iconst q, 1)) (hv : Int32.ofInt q = nI v) (h : V M E Ω k n S I L (pc + 1) ls (.int (nI v) :: st)) : V M E Ω k n S I L pc ls st := V_iconst pc (nI v) d hv h
theorem V_bip (pc v : Nat) {q : Int} (d : decode M.2.2.1 pc = .ok (.bipush q, 2)) (hv : (Int8.ofInt q).toInt32 = nI v) (h : V M E Ω k n S I L (pc + 2) ls (.int (nI v) :: st)) : V M E Ω k n S I L pc ls st := V_bipush pc (nI v) d hv h
theorem V_sip (pc v : Nat) {q : Int} (d : decode M.2.2.1 pc = .ok (.sipush q, 3)) (hv : (Int16.ofInt q).toInt32 = nI v) (h : V M E Ω k n S I L (pc + 3) ls (.int (nI v) :: st)) : V M E Ω k n S I L pc ls st := V_sipush pc (nI v) d hv h
theorem V_ldcN (pc v : Nat) {index : Nat} {q : Int32} (hw : Cond.constant M.1 index q ∈ w_tb) (d : decode M.2.2.1 pc = .ok (.ldc index, 2)) (hv : q = nI v) (h : V M E Ω k n S I L (pc + 2) ls (.int (nI v) :: st)) : V M E Ω k n S I L pc ls st := V_ldc pc hw d (by rw [hv]; exact h)
theorem V_ldc2N (pc v : Nat) {index : Nat} {q : Int64} (hw : Cond.constantLong M.1 index q ∈ w_tb) (d : decode M.2.2.1 pc = .ok (.ldc2_w index, 3)) (hv : q = lN v) (h : V M E Ω k n S I L (pc + 3) ls (.long (lN v) :: st)) : V M E Ω k n S I L pc ls st := V_ldc2 pc hw d (by rw [hv]; exact h)
theorem V_lcst (pc v : Nat) {q : Fin 2} (d : decode M.2.2.1 pc = .ok (.lconst q, 1)) (hv : Int64.ofNat (q : Nat) = lN v) (h : V M E Ω k n S I L (pc + 1) ls (.long (lN v) :: st)) : V M E Ω k n S I L pc ls st := V_lconst pc (lN v) d hv h
theorem V_cN_lt (pc tgt : Nat) {off : Int} {x y : Nat} (d : decode M.2.2.1 pc = .ok (.if_icmp .lt off, 3)) (ht : (pc : Int) + off = (tgt : Int)) (hx : x < 2147483648) (hy : y < 2147483648) (h1 : x < y → V M E Ω k n S I L tgt ls st) (h2 : y ≤ x → V M E Ω k n S I L (pc + 3) ls st) : V M E Ω k n S I L pc ls (.int (nI y) :: .int (nI x) :: st) := V_icmp_lt pc tgt d ht (fun q => h1 ((nI_ltI hx hy).mp q)) (fun q => h2 (by have := mt (nI_ltI hx hy).mpr q; omega))
theorem V_cG_lt (pc tgt : Nat) {off : Int} {x y : Nat} (d : decode M.2.2.1 pc = .ok (.if_icmp .lt off, 3)) (ht : (pc : Int) + off = (tgt : Int)) (hx : x < 4294967296) (hy : y < 4294967296) (h1 : sgn x < sgn y → V M E Ω k n S I L tgt ls st) (h2 : sgn y ≤ sgn x → V M E Ω k n S I L (pc + 3) ls st) : V M E Ω k n S I L pc ls (.int (nI y) :: .int (nI x) :: st) := V_icmp_lt pc tgt d ht (fun q => h1 ((n_lt hx hy).mp q)) (fun q => h2 (by have := mt (n_lt hx hy).mpr q; omega))
theorem V_cN_ge (pc tgt : Nat) {off : Int} {x y : Nat} (d : decode M.2.2.1 pc = .ok (.if_icmp .ge off, 3)) (ht : (pc : Int) + off = (tgt : Int)) (hx : x < 2147483648) (hy : y < 2147483648) (h1 : y ≤ x → V M E Ω k n S I L tgt ls st) (h2 : x < y → V M E Ω k n S I L (pc + 3) ls st) : V M E Ω k n S I L pc ls (.int (nI y) :: .int (nI x) :: st) := V_icmp_ge pc tgt d ht (fun q => h1 ((nI_leI hy hx).mp q)) (fun q => h2 (by have := mt (nI_leI hy hx).mpr q; omega))
theorem V_cG_ge (pc tgt : Nat) {off : Int} {x y : Nat} (d : decode M.2.2.1 pc = .ok (.if_icmp .ge off, 3)) (ht : (pc : Int) + off = (tgt : Int)) (hx : x < 4294967296) (hy : y < 4294967296) (h1 : sgn y ≤ sgn x → V M E Ω k n S I L tgt ls st) (h2 : sgn x < sgn y → V M E Ω k n S I L (pc + 3) ls st) : V M E Ω k n S I L pc ls (.int (nI y) :: .int (nI x) :: st) := V_icmp_ge pc tgt d ht (fun q => h1 ((n_le hy hx).mp q)) (fun q => h2 (by have := mt (n_le hy hx).mpr q; omega))
theorem V_cN_gt (pc tgt : Nat) {off : Int} {x y : Nat} (d : decode M.2.2.1 pc = .ok (.if_icmp .gt off, 3)) (ht : (pc : Int) + off = (tgt : Int)) (hx : x < 2147483648) (hy : y < 2147483648) (h1 : y < x → V M E Ω k n S I L tgt ls st) (h2 : x ≤ y → V M E Ω k n S I L (pc + 3) ls st) : V M E Ω k n S I L pc ls (.int (nI y) :: .int (nI x) :: st) := V_icmp_gt pc tgt d ht (fun q => h1 ((nI_ltI hy hx).mp q)) (fun q => h2 (by have := mt (nI_ltI hy hx).mpr q; omega))
theorem V_cG_gt (pc tgt : Nat) {off : Int} {x y : Nat} (d : decode M.2.2.1 pc = .ok (.if_icmp .gt off, 3)) (ht : (pc : Int) + off = (tgt : Int)) (hx : x < 4294967296) (hy : y < 4294967296) (h1 : sgn y < sgn x → V M E Ω k n S I L tgt ls st) (h2 : sgn x ≤ sgn y → V M E Ω k n S I L (pc + 3) ls st) : V M E Ω k n S I L pc ls (.int (nI y) :: .int (nI x) :: st) := V_icmp_gt pc tgt d ht (fun q => h1 ((n_lt hy hx).mp q)) (fun q => h2 (by have := mt (n_lt hy hx).mpr q; omega))
theorem V_cN_le (pc tgt : Nat) {off : Int} {x y : Nat} (d : decode M.2.2.1 pc = .ok (.if_icmp .le off, 3)) (ht : (pc : Int) + off = (tgt : Int)) (hx : x < 2147483648) (hy : y < 2147483648) (h1 : x ≤ y → V M E Ω k n S I L tgt ls st) (h2 : y < x → V M E Ω k n S I L (pc + 3) ls st) : V M E Ω k n S I L pc ls (.int (nI y) :: .int (nI x) :: st) := V_icmp_le pc tgt d ht (fun q => h1 ((nI_leI hx hy).mp q)) (fun q => h2 (by have := mt (nI_leI hx hy).mpr q; omega))
theorem V_cG_le (pc tgt : Nat) {off : Int} {x y : Nat} (d : decode M.2.2.1 pc = .ok (.if_icmp .le off, 3)) (ht : (pc : Int) + off = (tgt : Int)) (hx : x < 4294967296) (hy : y < 4294967296) (h1 : sgn x ≤ sgn y → V M E Ω k n S I L tgt ls st) (h2 : sgn y < sgn x → V M E Ω k n S I L (pc + 3) ls st) : V M E Ω k n S I L pc ls (.int (nI y) :: .int (nI x) :: st) := V_icmp_le pc tgt d ht (fun q => h1 ((n_le hx hy).mp q)) (fun q => h2 (by have := mt (n_le hx hy).mpr q; omega))
theorem V_cN_eq (pc tgt : Nat) {off : Int} {x y : Nat} (d : decode M.2.2.1 pc = .ok (.if_icmp .eq off, 3)) (ht : (pc : Int) + off = (tgt : Int)) (hx : x < 4294967296) (hy : y < 4294967296) (h1 : x = y → V M E Ω k n S I L tgt ls st) (h2 : x ≠ y → V M E Ω k n S I L (pc + 3) ls st) : V M E Ω k n S I L pc ls (.int (nI y) :: .int (nI x) :: st) := V_icmp_eq pc tgt d ht (fun q => h1 ((n_inj hx hy).mp q)) (fun q => h2 (fun e => q ((n_inj hx hy).mpr e)))
theorem V_zN_eq (pc tgt : Nat) {off : Int} {x : Nat} (d : decode M.2.2.1 pc = .ok (.ifCond .eq off, 3)) (ht : (pc : Int) + off = (tgt : Int)) (hx : x < 4294967296) (h1 : x = 0 → V M E Ω k n S I L tgt ls st) (h2 : x ≠ 0 → V M E Ω k n S I L (pc + 3) ls st) : V M E Ω k n S I L pc ls (.int (nI x) :: st) := V_if_eq pc tgt d ht (fun q => h1 ((n_inj hx (show 0 < 4294967296 by decide)).mp q)) (fun q => h2 (fun e => q ((n_inj hx (show 0 < 4294967296 by decide)).mpr e)))
theorem V_cN_ne (pc tgt : Nat) {off : Int} {x y : Nat} (d : decode M.2.2.1 pc = .ok (.if_icmp .ne off, 3)) (ht : (pc : Int) + off = (tgt : Int)) (hx : x < 4294967296) (hy : y < 4294967296) (h1 : x ≠ y → V M E Ω k n S I L tgt ls st) (h2 : x = y → V M E Ω k n S I L (pc + 3) ls st) : V M E Ω k n S I L pc ls (.int (nI y) :: .int (nI x) :: st) := V_icmp_ne pc tgt d ht (fun q => h1 (fun e => q ((n_inj hx hy).mpr e))) (fun q => h2 ((n_inj hx hy).mp q))
theorem V_zN_ne (pc tgt : Nat) {off : Int} {x : Nat} (d : decode M.2.2.1 pc = .ok (.ifCond .ne off, 3)) (ht : (pc : Int) + off = (tgt : Int)) (hx : x < 4294967296) (h1 : x ≠ 0 → V M E Ω k n S I L tgt ls st) (h2 : x = 0 → V M E Ω k n S I L (pc + 3) ls st) : V M E Ω k n S I L pc ls (.int (nI x) :: st) := V_if_ne pc tgt d ht (fun q => h1 (fun e => q ((n_inj hx (show 0 < 4294967296 by decide)).mpr e))) (fun q => h2 ((n_inj hx (show 0 < 4294967296 by decide)).mp q))
theorem V_zN_lt (pc tgt : Nat) {off : Int} {x : Nat} (d : decode M.2.2.1 pc = .ok (.ifCond .lt off, 3)) (ht : (pc : Int) + off = (tgt : Int)) (hx : x < 4294967296) (h1 : 2147483648 ≤ x → V M E Ω k n S I L tgt ls st) (h2 : x < 2147483648 → V M E Ω k n S I L (pc + 3) ls st) : V M E Ω k n S I L pc ls (.int (nI x) :: st) := V_if_lt pc tgt d ht (fun q => h1 (by have := (n_lt hx (show 0 < 4294967296 by decide)).mp q; simp only [sgn] at this; split at this <;> omega)) (fun q => h2 (by have := mt (n_lt hx (show 0 < 4294967296 by decide)).mpr q; simp only [sgn] at this; split at this <;> omega))
theorem V_zN_ge (pc tgt : Nat) {off : Int} {x : Nat} (d : decode M.2.2.1 pc = .ok (.ifCond .ge off, 3)) (ht : (pc : Int) + off = (tgt : Int)) (hx : x < 4294967296) (h1 : x < 2147483648 → V M E Ω k n S I L tgt ls st) (h2 : 2147483648 ≤ x → V M E Ω k n S I L (pc + 3) ls st) : V M E Ω k n S I L pc ls (.int (nI x) :: st) := V_if_ge pc tgt d ht (fun q => h1 (by have := (n_le (show 0 < 4294967296 by decide) hx).mp q; simp only [sgn] at this; split at this <;> omega)) (fun q => h2 (by have := mt (n_le (show 0 < 4294967296 by decide) hx).mpr q; simp only [sgn] at this; split at this <;> omega))
theorem V_zN_gt (pc tgt : Nat) {off : Int} {x : Nat} (d : decode M.2.2.1 pc = .ok (.ifCond .gt off, 3)) (ht : (pc : Int) + off = (tgt : Int)) (hx : x < 4294967296) (h1 : 0 < x ∧ x < 2147483648 → V M E Ω k n S I L tgt ls st) (h2 : x = 0 ∨ 2147483648 ≤ x → V M E Ω k n S I L (pc + 3) ls st) : V M E Ω k n S I L pc ls (.int (nI x) :: st) := V_if_gt pc tgt d ht (fun q => h1 (by have := (n_lt (show 0 < 4294967296 by decide) hx).mp q; simp only [sgn] at this; split at this <;> omega)) (fun q => h2 (by have := mt (n_lt (show 0 < 4294967296 by decide) hx).mpr q; simp only [sgn] at this; split at this <;> omega))
theorem V_zN_le (pc tgt : Nat) {off : Int} {x : Nat} (d : decode M.2.2.1 pc = .ok (.ifCond .le off, 3)) (ht : (pc : Int) + off = (tgt : Int)) (hx : x < 4294967296) (h1 : x = 0 ∨ 2147483648 ≤ x → V M E Ω k n S I L tgt ls st) (h2 : 0 < x ∧ x < 2147483648 → V M E Ω k n S I L (pc + 3) ls st) : V M E Ω k n S I L pc ls (.int (nI x) :: st) := V_if_le pc tgt d ht (fun q => h1 (by have := (n_le hx (show 0 < 4294967296 by decide)).mp q; simp only [sgn] at this; split at this <;> omega)) (fun q => h2 (by have := mt (n_le hx (show 0 < 4294967296 by decide)).mpr q; simp only [sgn] at this; split at this <;> omega))
end
