/-! CONTRACTS AND CALLS -/
def w_rm (d mc ms : Nat) : Room := { frames := d + 8, cells := mc, slots := ms, locals := 40 * d + 200 }
/-- an end that returns: the answer and the world behind it -/
abbrev w_Po : Type := Option Value → List w_SC → w_I → w_L → Prop
def w_Qr (Ω : w_O) (Po : w_Po) : Array Value → State → Outcome → State → Prop := fun _ st oc t => ∃ (v : Option Value) (S' : List w_SC) (I' : w_I) (L' : w_L), oc = .returned v ∧ Po v S' I' L' ∧ w_Rel Ω S' I' L' t t.heap ∧ va_F (w_A Ω) st t
def w_Pr (Ω : w_O) (z : Nat) (S : List w_SC) (I : w_I) (L : w_L) (U : State) : Prop := U.heap.size = z ∧ w_cst Ω U ∧ w_Rel Ω S I L U U.heap
/-- METHOD M, from this world, with these arguments, in a room for d calls, returns as Po says; it makes nothing -/
def FnR (Ω : w_O) (d : Nat) (M : w_M) (av : List Value) (S : List w_SC) (I : w_I) (L : w_L) (Po : w_Po) : Prop :=
  ∀ (l : Launch) (z : Nat), l.stackTraces = false → Met l M.2.1 (Cond.code M.2.1 M.2.2.1 M.2.2.2.1 M.2.2.2.2 :: w_tb) (w_rm d 0 0) (va_Pc av (w_Pr Ω z S I L)) (w_Qr Ω Po) 0 0 (w_A Ω)
/-- the same, where it makes mc cells of ms slots, and the heap ends where the picture ends -/
def FnC (Ω : w_O) (d mc ms : Nat) (M : w_M) (av : List Value) (S : List w_SC) (I : w_I) (L : w_L) (Po : w_Po) : Prop :=
  ∀ (l : Launch), l.stackTraces = false → Met l M.2.1 (Cond.code M.2.1 M.2.2.1 M.2.2.2.1 M.2.2.2.2 :: w_tb) (w_rm d mc ms) (va_Pc av (w_Pr Ω (Ω.1 + S.length) S I L)) (w_Qr Ω Po) mc ms (w_A Ω)
def w_XC (Ω : w_O) (S : List w_SC) (I : w_I) (L : w_L) (cls : String) : String → State → State → Prop := fun E st t => E = cls ∧ w_Rel Ω S I L t t.heap ∧ va_F (w_A Ω) st t
/-- METHOD M throws an exception of that class; the world stays -/
def FnT (Ω : w_O) (d : Nat) (M : w_M) (av : List Value) (S : List w_SC) (I : w_I) (L : w_L) (cls : String) : Prop :=
  ∀ (l : Launch) (z : Nat), l.stackTraces = false → vx_Met l M.2.1 (Cond.code M.2.1 M.2.2.1 M.2.2.2.1 M.2.2.2.2 :: w_tb) (w_rm d 1 6) (va_Pc av (w_Pr Ω z S I L)) (fun _ _ _ _ => False) (w_XC Ω S I L cls) 1 6 (w_A Ω)
def w_Er (l : Launch) (d mc ms : Nat) (Ω : w_O) (Po : w_Po) (z : Nat) : w_E := (l, w_rm d mc ms, fun below args s => MQ below (w_Qr Ω Po) args s mc ms (w_A Ω), z, [])
def w_Et (l : Launch) (d : Nat) (Ω : w_O) (S : List w_SC) (I : w_I) (L : w_L) (cls : String) (z : Nat) : w_E := (l, w_rm d 1 6, fun below args s => vx_MQ below (fun _ _ _ _ => False) (w_XC Ω S I L cls) args s 1 6 (w_A Ω), z, [])
/-- answers by kind -/
def w_pi (P : Int32 → List w_SC → w_I → w_L → Prop) : w_Po := fun v S I L => ∃ r, v = some (.int r) ∧ P r S I L
def w_pl (P : Int64 → List w_SC → w_I → w_L → Prop) : w_Po := fun v S I L => ∃ r, v = some (.long r) ∧ P r S I L
def w_pv (P : List w_SC → w_I → w_L → Prop) : w_Po := fun v S I L => v = none ∧ P S I L
abbrev FnI (Ω : w_O) (d : Nat) (M : w_M) (av : List Value) (S : List w_SC) (I : w_I) (L : w_L) (P : Int32 → List w_SC → w_I → w_L → Prop) : Prop := FnR Ω d M av S I L (w_pi P)
abbrev FnL (Ω : w_O) (d : Nat) (M : w_M) (av : List Value) (S : List w_SC) (I : w_I) (L : w_L) (P : Int64 → List w_SC → w_I → w_L → Prop) : Prop := FnR Ω d M av S I L (w_pl P)
abbrev FnV (Ω : w_O) (d : Nat) (M : w_M) (av : List Value) (S : List w_SC) (I : w_I) (L : w_L) (P : List w_SC → w_I → w_L → Prop) : Prop := FnR Ω d M av S I L (w_pv P)
/-- the method's own names fit -/
def w_ok (M : w_M) : Prop := plainName M.2.1.cls = true ∧ M.1 = M.2.1.cls
section
variable {Ω : w_O} {d mc ms : Nat} {M : w_M} {av : List Value} {S : List w_SC} {I : w_I} {L : w_L} {Po : w_Po}
theorem w_entry {l : Launch} {R : Room} {PQ : List Frame → Array Value → State → State → Prop} {z : Nat} (hok : w_ok M) (hl : l.stackTraces = false) (ha : (lg_sl av).length ≤ M.2.2.2.1) (h : V M (l, R, PQ, z, []) Ω 0 0 S I L 0 (lv_args 0 av) [])
    {p : Program} {e : Env} {s : State} {m : MethodId} {args : Array Value} {below : List Frame} {meth : Method} {c : Code} {s₁ : State} (B : BodyLoose p l M.2.1 (headSpec (Cond.code M.2.1 M.2.2.1 M.2.2.2.1 M.2.2.2.2 :: w_tb) R) M.2.2.1 M.2.2.2.1 M.2.2.2.2 e s m args below meth c s₁) (hml : c.maxLocals = M.2.2.2.1) (hv : va_Pc av (w_Pr Ω z S I L) args s) :
    W p l e R s m args below meth c s.heap [] 0 0 (PQ below args s) (entryFrame m args M.2.2.2.1) := by
  obtain ⟨rfl, hsz, hc, hR⟩ := hv
  have hts := atoms_spec (ws := Cond.code M.2.1 M.2.2.1 M.2.2.2.1 M.2.2.2.2 :: w_tb) B.pre
  have hown : s.vm.findClass M.1 = some m.cls := by rw [hok.2]; exact findClass_of_methodNamed B.named
  have hnh : c.exceptionTable.isEmpty = true := B.noHandlers (hts _ List.mem_cons_self)
  have hl2 := lv_entry av (n := M.2.2.2.1) ha
  rw [lg_entry_eq]
  exact h p e s m _ below meth c s.heap _ [] ⟨B.exec, B.bytes, hml, hown, fun w hw => hts w (List.mem_cons_of_mem _ hw)⟩ ⟨B.notSynchronized, B.returns, by simpa using hnh, hsz, hl, (name_of_methodNamed B.named B.method).1⟩ ⟨Nat.zero_le _, Nat.zero_le _⟩ hc hR va_S.rf hl2
theorem FnR_of (hok : w_ok M) (ha : (lg_sl av).length ≤ M.2.2.2.1) (h : ∀ l z, V M (w_Er l d 0 0 Ω Po z) Ω 0 0 S I L 0 (lv_args 0 av) []) : FnR Ω d M av S I L Po := by
  intro l z hl
  refine Met.ofW (cc := M.2.2.1) (maxL := M.2.2.2.1) (ret := M.2.2.2.2) hok.1 rfl ?_
  intro p e s m args below meth c s₁ B hml hv
  exact w_entry (PQ := fun below args s => MQ below (w_Qr Ω Po) args s 0 0 (w_A Ω)) hok hl ha (h l z) B hml hv
theorem FnC_of (hok : w_ok M) (ha : (lg_sl av).length ≤ M.2.2.2.1) (h : ∀ l, V M (w_Er l d mc ms Ω Po (Ω.1 + S.length)) Ω 0 0 S I L 0 (lv_args 0 av) []) : FnC Ω d mc ms M av S I L Po := by
  intro l hl
  refine Met.ofW (cc := M.2.2.1) (maxL := M.2.2.2.1) (ret := M.2.2.2.2) hok.1 rfl ?_
  intro p e s m args below meth c s₁ B hml hv
  exact w_entry (PQ := fun below args s => MQ below (w_Qr Ω Po) args s mc ms (w_A Ω)) hok hl ha (h l) B hml hv
theorem FnT_of {cls : String} (hok : w_ok M) (ha : (lg_sl av).length ≤ M.2.2.2.1) (h : ∀ l z, V M (w_Et l d Ω S I L cls z) Ω 0 0 S I L 0 (lv_args 0 av) []) : FnT Ω d M av S I L cls := by
  intro l z hl
  refine vx_ofW (cc := M.2.2.1) (maxL := M.2.2.2.1) (ret := M.2.2.2.2) hok.1 rfl ?_
  intro p e s m args below meth c s₁ B hml _ hv
  exact w_entry (PQ := fun below args s => vx_MQ below (fun _ _ _ _ => False) (w_XC Ω S I L cls) args s 1 6 (w_A Ω)) hok hl ha (h l z) B hml hv
end
theorem w_blind (Ω : w_O) (z : Nat) (S : List w_SC) (I : w_I) (L : w_L) (av : List Value) : FrameBlind (va_Pc av (w_Pr Ω z S I L)) := by
  intro a U g mk q
  obtain ⟨q0, q1, q2, q3⟩ := q
  exact ⟨q0, q1, q2.next va_S.rf rfl (State.WarmedH.refl U), w_Rel.moved (u := U) (U := U.calling g mk a) (Vm.Alike.refl U.vm) q3⟩
section
variable {p : Program} {l : Launch} {e : Env} {R : Room} {s : State} {m : MethodId} {args : Array Value} {below : List Frame} {meth : Method} {c : Code} {H : Heap} {locs : List Loc} {k n : Nat} {Q : State → Prop} {lr : Array Slot} {st0 st : List Value} {pc : Nat} {a : Array Value} {Ω : w_O} {Po : w_Po} {mc ms : Nat}
theorem w_run (hr : va_Run p l e R s m args below meth c H locs k n mc ms (F0 m pc lr st0) st (w_Qr Ω Po a) (w_A Ω)) (hS : va_S (w_A Ω) s.heap H locs)
    (kk : ∀ (v : Option Value) (S' : List w_SC) (I' : w_I) (L' : w_L) (H1 : Heap) (locs1 : List Loc), Po v S' I' L' → w_Rel Ω S' I' L' s H1 → va_S (w_A Ω) s.heap H1 locs1 → W p l e R s m args below meth c H1 locs1 (k + mc) (n + ms) Q (F0 m (pc + 3) lr (v.toList ++ st))) : W p l e R s m args below meth c H locs k n Q (F0 m pc lr st0) := by
  intro T hT X
  obtain ⟨v, st₀, t, T', Lc, h0, X', hL, e1, e2, ⟨v', S', I', L', hv, hp, hR, hz, hk⟩, stp⟩ := hr T hT X
  cases hv
  rw [h0] at hz hk
  have hal : s.vm.Alike t.vm := by rw [← e2]; exact X'.warmed.alike
  obtain ⟨t2, a1, b1⟩ := kk v S' I' L' T'.heap (locs ++ Lc) hp (by rw [e1]; exact hR.moved hal.symm)
    ⟨Nat.le_trans hS.1 (by rw [e1]; exact hz), fun q h1 h2 => by rw [e1, hk q (Nat.lt_of_lt_of_le h1 hS.1) h2]; exact hS.2.1 q h1 h2, fun q hq => by
      rcases List.mem_append.mp hq with h | h
      · exact hS.2.2 q h
      · exact hL q h⟩ T' rfl X'
  exact ⟨t2, stp t2 a1, b1⟩
end
/-- a call's entry in the pool, and the callee's own words -/
def w_MV (own : String) (idx : Nat) (Mc : w_M) (n : Nat) : Prop := GoodIn w_tb (wsV own idx Mc.1 Mc.2.1 (Cond.code Mc.2.1 Mc.2.2.1 Mc.2.2.2.1 Mc.2.2.2.2 :: w_tb)) ∧ Mc.2.1.cls = Mc.1 ∧ Mc.2.1.cls ≠ "java/lang/invoke/MethodHandle" ∧ Mc.2.1.cls ≠ "java/lang/invoke/VarHandle" ∧ (parseMethodDescriptor Mc.2.1.desc).map (fun d => d.parameters.length) = some n ∧ Mc.2.2.2.1 ≤ 14
def w_MS (own : String) (idx : Nat) (Mc : w_M) (n : Nat) : Prop := GoodIn w_tb (va_wsS own idx Mc.2.1 (Cond.code Mc.2.1 Mc.2.2.1 Mc.2.2.2.1 Mc.2.2.2.2 :: w_tb)) ∧ Mc.2.1.cls ≠ "java/lang/invoke/MethodHandle" ∧ Mc.2.1.cls ≠ "java/lang/invoke/VarHandle" ∧ (parseMethodDescriptor Mc.2.1.desc).map (fun d => d.parameters.length) = some n ∧ Mc.2.2.2.1 ≤ 14
def w_is (S : List w_SC) (b : Nat) (C : String) : Prop := ∃ (ci : Nat) (ks : List (Nat ⊕ Option Nat)) (q : vw_C), S[b]? = some (.inr (ci, ks)) ∧ vwCl[ci]? = some q ∧ q.1 = C
/-- there is room for a callee of depth d -/
def w_fit (d : Nat) (E : w_E) : Prop := d + 9 ≤ E.2.1.frames ∧ 40 * d + 240 ≤ E.2.1.locals
theorem w_fit_r {l : Launch} {d mc ms : Nat} {Ω : w_O} {Po : w_Po} {z : Nat} : w_fit d (w_Er l (d + 1) mc ms Ω Po z) := by
  constructor
  · show d + 9 ≤ d + 1 + 8; omega
  · show 40 * d + 240 ≤ 40 * (d + 1) + 200; omega
theorem w_fit_t {l : Launch} {d : Nat} {Ω : w_O} {S : List w_SC} {I : w_I} {L : w_L} {cls : String} {z : Nat} : w_fit d (w_Et l (d + 1) Ω S I L cls z) := by
  constructor
  · show d + 9 ≤ d + 1 + 8; omega
  · show 40 * d + 240 ≤ 40 * (d + 1) + 200; omega
section
variable {M : w_M} {E : w_E} {Ω : w_O} {k n : Nat} {S : List w_SC} {I : w_I} {L : w_L} {ls : List (Nat × Value)} {st : List Value}
theorem V_callV (pc : Nat) {idx b dd : Nat} {Mc : w_M} {As : List Value} {st0 : List Value} {Po : w_Po} (hs : w_MV M.1 idx Mc As.length) (d : decode M.2.2.1 pc = .ok (.invokevirtual idx, 3)) (hb : w_is S b Mc.1) (hE : w_fit dd E) (hF : FnR Ω dd Mc (.ref (Ω.1 + b) :: As) S I L Po) (hst : st0 = As.reverse ++ .ref (Ω.1 + b) :: st) (hw : (st.map fun v => v.category).sum ≤ 8)
    (h : ∀ v S' I' L', Po v S' I' L' → V M E Ω k n S' I' L' (pc + 3) ls (v.toList ++ st)) : V M E Ω k n S I L pc ls st0 := by
  intro p e s m args below meth c H lr locs C hm hn hc hR hS hl
  obtain ⟨s1, s2, s3, s4, s5, s6⟩ := hs
  obtain ⟨ci, ks, q, b1, b2, b3⟩ := hb
  have hrec := va_recv hR.1 hR.2.1 b2 (w_ws_get Ω S I L b1)
  rw [b3] at hrec
  exact w_run (va_runV C (hF E.1 H.size hm.2.2.2.2.1) (cwV As.length C.2.2.2.2 s1 rfl rfl rfl ⟨s2, s3, s4, s5⟩ ⟨hE.1, by have := hE.2; show 8 + (Mc.2.2.2.1 + 11) + (40 * dd + 200) ≤ E.2.1.locals; omega⟩)
    ⟨w_blind Ω _ S I L _, hrec, fun U hU hW => ⟨rfl, by rw [hU], hc.next hS hU hW, by rw [hU]; exact hR.moved hW.alike⟩⟩ rfl rfl hl.1 hst (lv_room hw) d ⟨hn.1, hn.2⟩) hS
    (fun v S' I' L' H1 locs1 hp hR' hS' => h v S' I' L' hp p e s m args below meth c H1 lr locs1 C hm hn hc hR' hS' hl)
theorem V_callS (pc : Nat) {idx dd : Nat} {Mc : w_M} {As : List Value} {st0 : List Value} {Po : w_Po} (hs : w_MS M.1 idx Mc As.length) (d : decode M.2.2.1 pc = .ok (.invokestatic idx, 3)) (hE : w_fit dd E) (hF : FnR Ω dd Mc As S I L Po) (hst : st0 = As.reverse ++ st) (hw : (st.map fun v => v.category).sum ≤ 8)
    (h : ∀ v S' I' L', Po v S' I' L' → V M E Ω k n S' I' L' (pc + 3) ls (v.toList ++ st)) : V M E Ω k n S I L pc ls st0 := by
  intro p e s m args below meth c H lr locs C hm hn hc hR hS hl
  obtain ⟨s1, s3, s4, s5, s6⟩ := hs
  exact w_run (va_runS C (hF E.1 H.size hm.2.2.2.2.1) (va_cwS As.length C.2.2.2.2 s1 rfl rfl rfl ⟨s3, s4, s5⟩ ⟨hE.1, by have := hE.2; show 8 + (Mc.2.2.2.1 + 11) + (40 * dd + 200) ≤ E.2.1.locals; omega⟩)
    ⟨w_blind Ω _ S I L _, fun U hU hW => ⟨rfl, by rw [hU], hc.next hS hU hW, by rw [hU]; exact hR.moved hW.alike⟩⟩ rfl rfl hl.1 hst (lv_room hw) d ⟨hn.1, hn.2⟩) hS
    (fun v S' I' L' H1 locs1 hp hR' hS' => h v S' I' L' hp p e s m args below meth c H1 lr locs1 C hm hn hc hR' hS' hl)
/-- by the kind of the answer -/
theorem V_vi (pc : Nat) {idx b dd : Nat} {Mc : w_M} {As : List Value} {st0 : List Value} {P : Int32 → List w_SC → w_I → w_L → Prop} (hs : w_MV M.1 idx Mc As.length) (d : decode M.2.2.1 pc = .ok (.invokevirtual idx, 3)) (hb : w_is S b Mc.1) (hE : w_fit dd E) (hF : FnI Ω dd Mc (.ref (Ω.1 + b) :: As) S I L P) (hst : st0 = As.reverse ++ .ref (Ω.1 + b) :: st) (hw : (st.map fun v => v.category).sum ≤ 8)
    (h : ∀ r S' I' L', P r S' I' L' → V M E Ω k n S' I' L' (pc + 3) ls (.int r :: st)) : V M E Ω k n S I L pc ls st0 := V_callV pc hs d hb hE hF hst hw (fun v S' I' L' hp => by obtain ⟨r, rfl, hp⟩ := hp; exact h r S' I' L' hp)
theorem V_vl (pc : Nat) {idx b dd : Nat} {Mc : w_M} {As : List Value} {st0 : List Value} {P : Int64 → List w_SC → w_I → w_L → Prop} (hs : w_MV M.1 idx Mc As.length) (d : decode M.2.2.1 pc = .ok (.invokevirtual idx, 3)) (hb : w_is S b Mc.1) (hE : w_fit dd E) (hF : FnL Ω dd Mc (.ref (Ω.1 + b) :: As) S I L P) (hst : st0 = As.reverse ++ .ref (Ω.1 + b) :: st) (hw : (st.map fun v => v.category).sum ≤ 8)
    (h : ∀ r S' I' L', P r S' I' L' → V M E Ω k n S' I' L' (pc + 3) ls (.long r :: st)) : V M E Ω k n S I L pc ls st0 := V_callV pc hs d hb hE hF hst hw (fun v S' I' L' hp => by obtain ⟨r, rfl, hp⟩ := hp; exact h r S' I' L' hp)
theorem V_vv (pc : Nat) {idx b dd : Nat} {Mc : w_M} {As : List Value} {st0 : List Value} {P : List w_SC → w_I → w_L → Prop} (hs : w_MV M.1 idx Mc As.length) (d : decode M.2.2.1 pc = .ok (.invokevirtual idx, 3)) (hb : w_is S b Mc.1) (hE : w_fit dd E) (hF : FnV Ω dd Mc (.ref (Ω.1 + b) :: As) S I L P) (hst : st0 = As.reverse ++ .ref (Ω.1 + b) :: st) (hw : (st.map fun v => v.category).sum ≤ 8)
    (h : ∀ S' I' L', P S' I' L' → V M E Ω k n S' I' L' (pc + 3) ls st) : V M E Ω k n S I L pc ls st0 := V_callV pc hs d hb hE hF hst hw (fun v S' I' L' hp => by obtain ⟨rfl, hp⟩ := hp; exact h S' I' L' hp)
theorem V_si (pc : Nat) {idx dd : Nat} {Mc : w_M} {As : List Value} {st0 : List Value} {P : Int32 → List w_SC → w_I → w_L → Prop} (hs : w_MS M.1 idx Mc As.length) (d : decode M.2.2.1 pc = .ok (.invokestatic idx, 3)) (hE : w_fit dd E) (hF : FnI Ω dd Mc As S I L P) (hst : st0 = As.reverse ++ st) (hw : (st.map fun v => v.category).sum ≤ 8)
    (h : ∀ r S' I' L', P r S' I' L' → V M E Ω k n S' I' L' (pc + 3) ls (.int r :: st)) : V M E Ω k n S I L pc ls st0 := V_callS pc hs d hE hF hst hw (fun v S' I' L' hp => by obtain ⟨r, rfl, hp⟩ := hp; exact h r S' I' L' hp)
theorem V_sv (pc : Nat) {idx dd : Nat} {Mc : w_M} {As : List Value} {st0 : List Value} {P : List w_SC → w_I → w_L → Prop} (hs : w_MS M.1 idx Mc As.length) (d : decode M.2.2.1 pc = .ok (.invokestatic idx, 3)) (hE : w_fit dd E) (hF : FnV Ω dd Mc As S I L P) (hst : st0 = As.reverse ++ st) (hw : (st.map fun v => v.category).sum ≤ 8)
    (h : ∀ S' I' L', P S' I' L' → V M E Ω k n S' I' L' (pc + 3) ls st) : V M E Ω k n S I L pc ls st0 := V_callS pc hs d hE hF hst hw (fun v S' I' L' hp => by obtain ⟨rfl, hp⟩ := hp; exact h S' I' L' hp)
end
/-! RETURNS -/
section
variable {M : w_M} {Ω : w_O} {d mc ms z : Nat} {l : Launch} {S : List w_SC} {I : w_I} {L : w_L} {ls : List (Nat × Value)}
theorem V_ret {P : List w_SC → w_I → w_L → Prop} (pc : Nat) (hd : decode M.2.2.1 pc = .ok (.return_, 1)) (hr : M.2.2.2.2 = none) (hp : P S I L) : V M (w_Er l d mc ms Ω (w_pv P) z) Ω mc ms S I L pc ls [] := by
  intro p e s m args below meth c H lr locs C hm hn hc hR hS hl
  exact W.vret (Qc := w_Qr Ω (w_pv P)) (free := w_A Ω) C.1 C.2.1 (hm.2.1.trans hr) (fun t ht hW => ⟨none, S, I, L, rfl, ⟨rfl, hp⟩, by rw [ht]; exact hR.moved hW.alike, hS.F ht⟩) hS.2.2 hd hm.1
theorem V_iret {P : Int32 → List w_SC → w_I → w_L → Prop} (pc : Nat) {v : Int32} (hd : decode M.2.2.1 pc = .ok (.ireturn, 1)) (hr : M.2.2.2.2 = some .int) (hp : P v S I L) : V M (w_Er l d mc ms Ω (w_pi P) z) Ω mc ms S I L pc ls [.int v] := by
  intro p e s m args below meth c H lr locs C hm hn hc hR hS hl
  exact W.iret (Qc := w_Qr Ω (w_pi P)) (free := w_A Ω) C.1 C.2.1 (hm.2.1.trans hr) (fun t ht hW => ⟨some (.int v), S, I, L, rfl, ⟨v, rfl, hp⟩, by rw [ht]; exact hR.moved hW.alike, hS.F ht⟩) hS.2.2 hd hm.1
theorem V_zret {P : Int32 → List w_SC → w_I → w_L → Prop} (pc : Nat) {v : Int32} {ty : FieldType} (hd : decode M.2.2.1 pc = .ok (.ireturn, 1)) (hr : M.2.2.2.2 = some ty) (hv : narrow ty (.int v) = .int v) (hp : P v S I L) : V M (w_Er l d mc ms Ω (w_pi P) z) Ω mc ms S I L pc ls [.int v] := by
  intro p e s m args below meth c H lr locs C hm hn hc hR hS hl
  exact W.zret (Qc := w_Qr Ω (w_pi P)) (free := w_A Ω) C.1 C.2.1 (hm.2.1.trans hr) hv (fun t ht hW => ⟨some (.int v), S, I, L, rfl, ⟨v, rfl, hp⟩, by rw [ht]; exact hR.moved hW.alike, hS.F ht⟩) hS.2.2 hd hm.1
theorem V_lret {P : Int64 → List w_SC → w_I → w_L → Prop} (pc : Nat) {v : Int64} (hd : decode M.2.2.1 pc = .ok (.lreturn, 1)) (hr : M.2.2.2.2 = some .long) (hp : P v S I L) : V M (w_Er l d mc ms Ω (w_pl P) z) Ω mc ms S I L pc ls [.long v] := by
  intro p e s m args below meth c H lr locs C hm hn hc hR hS hl
  exact W.lret (Qc := w_Qr Ω (w_pl P)) (free := w_A Ω) C.1 C.2.1 (hm.2.1.trans hr) (fun t ht hW => ⟨some (.long v), S, I, L, rfl, ⟨v, rfl, hp⟩, by rw [ht]; exact hR.moved hW.alike, hS.F ht⟩) hS.2.2 hd hm.1
/-! THROWS -/
theorem w_Rel.grown {U U' : State} {H H1 : Heap} (h : w_Rel Ω S I L U H) (hvm : U.vm.Alike U'.vm) (hk : ∀ q : Nat, q < H.size → H1[q]? = H[q]?) : w_Rel Ω S I L U' H1 := ⟨h.1.moved hvm, h.2.1.kept (fun k q hq => hk q.1 (h.2.1 k q hq).lt), h.2.2⟩
/-- 'throw new E(text)' in a method of DuskTown -/
theorem V_throwN (pc w : Nat) {ik is : Nat} {tx : String} (hM : M.1 = RX7) (hk : Cond.classLink RX7 ik "java/util/NoSuchElementException" ∈ w_tb) (hi : Cond.initialized "java/util/NoSuchElementException" ∈ w_tb) (hx : (RX7, is, tx) ∈ w_msgs)
    (d0 : decode M.2.2.1 pc = .ok (.new ik, 3)) (d3 : decode M.2.2.1 (pc + 3) = .ok (.dup, 1)) (d4 : (w = 2 ∧ decode M.2.2.1 (pc + 4) = .ok (.ldc is, 2)) ∨ (w = 3 ∧ decode M.2.2.1 (pc + 4) = .ok (.ldc_w is, 3))) (d6 : decode M.2.2.1 (pc + 4 + w) = .ok (.invokespecial 144, 3)) (d9 : decode M.2.2.1 (pc + 4 + w + 3) = .ok (.athrow, 1)) :
    V M (w_Et l d Ω S I L "java/util/NoSuchElementException" z) Ω 0 0 S I L pc ls [] := by
  intro p e s m args below meth c H lr locs C hm hn hc hR hS hl
  obtain ⟨sa, hsa⟩ := hc.2.2.2.2.1 _ hx
  have hown : s.vm.findClass RX7 = some m.cls := by rw [← hM]; exact C.2.2.2.1
  refine w_throw (w := w) (is := is) (ic := 144) (ix := 13) (by0 := prog_26_method_4_code) (r := ["java/lang/Exception"]) (Yn := "java/lang/RuntimeException") (A := w_A Ω) (Qc := fun _ _ _ _ => False) (XC := w_XC Ω S I L "java/util/NoSuchElementException") (mc := 1) (ms := 6) (free := w_A Ω) C.1 C.2.1 hm.2.2.2.2.1 hown (by decide +kernel) (by decide +kernel) (by decide +kernel) (by decide +kernel) (by decide +kernel) (by decide +kernel) (by decide +kernel) (C.2.2.2.2 _ hk) (C.2.2.2.2 _ hi) hsa (w_at_hold w_atN_ok C.2.2.2.2 hc.2.2.2.2.2.2.2.2) w_atN_ot hc.2.2.2.2.2.2.1.1 hc.2.2.2.2.2.2.1.2 hS (hl.1.trans C.2.2.1.symm) d0 d3 d4 d6 d9 ?_ ?_ ?_ (Nat.le_refl _) (Nat.le_refl _) hm.1 ?_ hS.2.2 (Nat.le_refl _) (Nat.le_refl _)
  · intro x hx; rw [hm.2.2.1] at hx; cases hx
  · show 1 + 4 < d + 8; omega
  · show 0 + (13 * (1 + 2) + 43) ≤ 40 * d + 200; omega
  · intro t h1 h2 h3
    exact ⟨rfl, hR.grown h1 h3, Nat.le_trans hS.1 h2, fun q q1 q2 => (h3 q (Nat.lt_of_lt_of_le q1 hS.1)).trans (hS.2.1 q q1 q2)⟩
theorem V_throwI (pc w : Nat) {ik is : Nat} {tx : String} (hM : M.1 = RX7) (hk : Cond.classLink RX7 ik "java/lang/IllegalArgumentException" ∈ w_tb) (hi : Cond.initialized "java/lang/IllegalArgumentException" ∈ w_tb) (hx : (RX7, is, tx) ∈ w_msgs)
    (d0 : decode M.2.2.1 pc = .ok (.new ik, 3)) (d3 : decode M.2.2.1 (pc + 3) = .ok (.dup, 1)) (d4 : (w = 2 ∧ decode M.2.2.1 (pc + 4) = .ok (.ldc is, 2)) ∨ (w = 3 ∧ decode M.2.2.1 (pc + 4) = .ok (.ldc_w is, 3))) (d6 : decode M.2.2.1 (pc + 4 + w) = .ok (.invokespecial 85, 3)) (d9 : decode M.2.2.1 (pc + 4 + w + 3) = .ok (.athrow, 1)) :
    V M (w_Et l d Ω S I L "java/lang/IllegalArgumentException" z) Ω 0 0 S I L pc ls [] := by
  intro p e s m args below meth c H lr locs C hm hn hc hR hS hl
  obtain ⟨sa, hsa⟩ := hc.2.2.2.2.1 _ hx
  have hown : s.vm.findClass RX7 = some m.cls := by rw [← hM]; exact C.2.2.2.1
  refine w_throw (w := w) (is := is) (ic := 85) (ix := 7) (by0 := prog_15_method_2_code) (r := ["java/lang/Exception"]) (Yn := "java/lang/RuntimeException") (A := w_A Ω) (Qc := fun _ _ _ _ => False) (XC := w_XC Ω S I L "java/lang/IllegalArgumentException") (mc := 1) (ms := 6) (free := w_A Ω) C.1 C.2.1 hm.2.2.2.2.1 hown (by decide +kernel) (by decide +kernel) (by decide +kernel) (by decide +kernel) (by decide +kernel) (by decide +kernel) (by decide +kernel) (C.2.2.2.2 _ hk) (C.2.2.2.2 _ hi) hsa (w_at_hold w_atI_ok C.2.2.2.2 hc.2.2.2.2.2.2.2.2) w_atI_ot hc.2.2.2.2.2.2.1.1 hc.2.2.2.2.2.2.1.2 hS (hl.1.trans C.2.2.1.symm) d0 d3 d4 d6 d9 ?_ ?_ ?_ (Nat.le_refl _) (Nat.le_refl _) hm.1 ?_ hS.2.2 (Nat.le_refl _) (Nat.le_refl _)
  · intro x hx; rw [hm.2.2.1] at hx; cases hx
  · show 1 + 4 < d + 8; omega
  · show 0 + (13 * (1 + 2) + 43) ≤ 40 * d + 200; omega
  · intro t h1 h2 h3
    exact ⟨rfl, hR.grown h1 h3, Nat.le_trans hS.1 h2, fun q q1 q2 => (h3 q (Nat.lt_of_lt_of_le q1 hS.1)).trans (hS.2.1 q q1 q2)⟩
/-- a callee throws, and so does the caller -/
theorem V_thrown (pc : Nat) {idx b dd : Nat} {Mc : w_M} {As : List Value} {st0 st : List Value} {cls : String} (hs : w_MV M.1 idx Mc As.length) (hd : decode M.2.2.1 pc = .ok (.invokevirtual idx, 3)) (hb : w_is S b Mc.1) (hF : FnT Ω dd Mc (.ref (Ω.1 + b) :: As) S I L cls) (hst : st0 = As.reverse ++ .ref (Ω.1 + b) :: st) (hw : (st.map fun v => v.category).sum ≤ 8) :
    V M (w_Et l (dd + 1) Ω S I L cls z) Ω 0 0 S I L pc ls st0 := by
  intro p e s m args below meth c H lr locs C hm hn hc hR hS hl
  obtain ⟨s1, s2, s3, s4, s5, s6⟩ := hs
  obtain ⟨ci, ks, q, b1, b2, b3⟩ := hb
  have hrec := va_recv hR.1 hR.2.1 b2 (w_ws_get Ω S I L b1)
  rw [b3] at hrec
  have hE := w_fit_t (l := l) (d := dd) (Ω := Ω) (S := S) (I := I) (L := L) (cls := cls) (z := z)
  have hr := vx_runV (R := w_rm (dd + 1) 1 6) (e := e) (below := below) (meth := meth) (locs := locs) (cells := 0) (slots := 0) (g := F0 m pc lr st0) (rest := st) C (hF l H.size hm.2.2.2.2.1) (cwV As.length C.2.2.2.2 s1 rfl rfl rfl ⟨s2, s3, s4, s5⟩ ⟨hE.1, by have := hE.2; show 8 + (Mc.2.2.2.1 + 11) + (40 * dd + 200) ≤ 40 * (dd + 1) + 200; omega⟩)
    ⟨w_blind Ω _ S I L _, hrec, fun U hU hW => ⟨rfl, by rw [hU], hc.next hS hU hW, by rw [hU]; exact hR.moved hW.alike⟩⟩ rfl rfl hl.1 hst (lv_room hw) hd ⟨Nat.le_refl _, Nat.le_refl _⟩
  intro T hT X
  rcases hr T hT X with ⟨v, st₀, t, T', Lc, h0, X', hL, e1, e2, hf, stp⟩ | ⟨q9, st₀, t, T', Lc, En, ce, h0, X', hL, e1, e2, ⟨rfl, hR', hz, hk⟩, hce, hcev, hcl, stp⟩
  · exact hf.elim
  · rw [h0] at hz hk
    have hal : s.vm.Alike t.vm := by rw [← e2]; exact X'.warmed.alike
    have hS' : va_S (w_A Ω) s.heap T'.heap (locs ++ Lc) := ⟨Nat.le_trans hS.1 (by rw [e1]; exact hz), fun q h1 h2 => by rw [e1, hk q (Nat.lt_of_lt_of_le h1 hS.1) h2]; exact hS.2.1 q h1 h2, fun q hq => by
      rcases List.mem_append.mp hq with h | h
      · exact hS.2.2 q h
      · exact hL q h⟩
    obtain ⟨t2, a1, b1⟩ := vx_out (Qc := fun _ _ _ _ => False) (XC := w_XC Ω S I L En) (free := w_A Ω) (mc := 1) (ms := 6) (pc := pc) (rest := st) (ls := lr) (E := En) (ce := ce) (q := q9) (H := T'.heap) (locs := locs ++ Lc) (cells := 0 + 1) (slots := 0 + 6) (p := p) (l := l) (e := e) (R := w_rm (dd + 1) 1 6) (below := below) (s := s) (args := args)
      (fun x hx => by rw [hm.2.2.1] at hx; cases hx) hm.1 (by rw [e1]; exact hce) hcev hcl (fun t' ht' hal' => ⟨rfl, by rw [ht', e1]; exact hR'.moved (hal.symm.trans hal'), hS'.F ht'⟩) hS'.2.2 (Nat.le_refl _) (Nat.le_refl _) T' rfl X'
    exact ⟨t2, stp.trans a1, b1⟩
end
