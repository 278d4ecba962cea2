/-! WHAT IS CAUGHT: the search through a table of handlers, row by row -/
section
variable {Q : Handler → Pre} {E : CtlPost} {e : Env} {d : Bool} {acts : List Action} {s : State} {f : JFrame} {a : Addr}
/-- one row that covers the place and names a class is asked: it takes the thrown object, or the search goes on; the tables have noted the class -/
theorem w_ask {x : ExceptionTableEntry} {t : List ExceptionTableEntry} {c : ClassId} {cell : Cell} (hx : covers x f.pc = true) (h0 : x.catchType ≠ 0) (hl : s.vm.ClassLinks e.platform f.method.cls x.catchType c) (hcell : s.heap[a]? = some cell) (hobj : ∀ k, cell.vm ≠ .statics k) (hk : ∃ k, s.vm.classes[cell.cls]? = some k) (hc : ∃ k, s.vm.classes[c]? = some k) :
    wp (findHandler.go f a (x :: t)) Q E e d acts s ↔ if s.vm.assignable cell.cls c = true then Q (.found x.handlerPc) d acts (s.setVm (s.vm.noted f.method.cls x.catchType (.cls c))) else wp (findHandler.go f a t) Q E e d acts (s.setVm (s.vm.noted f.method.cls x.catchType (.cls c))) := by
  have hx' := hx
  simp only [covers] at hx'
  have hr := (resolveClass_links e.toSetting hl).op (op := VmOp.resolveClass f.method.cls x.catchType) rfl
  have hal : s.vm.Alike (s.vm.noted f.method.cls x.catchType (.cls c)) := (Vm.Alike.refl s.vm).noted _ _ _
  obtain ⟨⟨k1, e1⟩, ⟨k2, e2⟩⟩ := And.intro hk hc
  obtain ⟨j1, g1, -⟩ := hal.2.2 _ _ e1
  obtain ⟨j2, g2, -⟩ := hal.2.2 _ _ e2
  have hs : (s.vm.noted f.method.cls x.catchType (.cls c)).assignable cell.cls c = s.vm.assignable cell.cls c := by rw [hal.assignable]
  cases hf : s.vm.assignable cell.cls c <;> rw [hf] at hs <;> simp [findHandler.go, hx', h0, hr.1, hr.2, hcell, hobj, g1, g2, hs, VmOp.dirties, VmOp.acts]
end
/-- the row x takes what is thrown, after at most one row that does not -/
theorem w_found {e : Env} {s₀ S : State} {f : JFrame} {a : Addr} {meth : Method} {code : Code} {cell : Cell} (hm : S.vm.method? f.method = some meth) (hc : meth.code = some code) (hW : s₀.WarmedH S.vm) (hcell : S.heap[a]? = some cell) (hobj : ∀ k, cell.vm ≠ .statics k) (hk0 : ∃ k, s₀.vm.classes[cell.cls]? = some k)
    {x : ExceptionTableEntry} {suf : List ExceptionTableEntry} {cx : ClassId} (hx : covers x f.pc = true) (h0 : x.catchType ≠ 0) (hlx : s₀.vm.ClassLinks e.platform f.method.cls x.catchType cx) (hfit : s₀.vm.assignable cell.cls cx = true)
    (ht : code.exceptionTable.toList = x :: suf ∨ ∃ (y : ExceptionTableEntry) (cy : ClassId), code.exceptionTable.toList = y :: x :: suf ∧ covers y f.pc = true ∧ y.catchType ≠ 0 ∧ s₀.vm.ClassLinks e.platform f.method.cls y.catchType cy ∧ s₀.vm.assignable cell.cls cy = false) :
    ∃ vm', s₀.WarmedH vm' ∧ ∀ (Q : Handler → Pre) (E : CtlPost) (d : Bool) (acts : List Action), wp (findHandler f a) Q E e d acts S ↔ Q (.found x.handlerPc) d acts (S.setVm vm') := by
  obtain ⟨k0, hk0⟩ := hk0
  have one : ∀ U : State, s₀.WarmedH U.vm → U.heap[a]? = some cell → ∃ vm', s₀.WarmedH vm' ∧ ∀ (Q : Handler → Pre) (E : CtlPost) (d : Bool) (acts : List Action), wp (findHandler.go f a (x :: suf)) Q E e d acts U ↔ Q (.found x.handlerPc) d acts (U.setVm vm') := by
    intro U hU hcU
    obtain ⟨dk, _, _, kt, hd, _, _, _, _, hkt, _, hopen⟩ := hlx.here
    obtain ⟨kt', hkt', -⟩ := hU.alike.2.2 _ _ hkt
    obtain ⟨k0', hk0', -⟩ := hU.alike.2.2 _ _ hk0
    refine ⟨_, hU.noted hd hopen (State.rightAt_cls hlx), fun Q E d acts => ?_⟩
    rw [w_ask hx h0 (hU.classLinks hlx) hcU hobj ⟨k0', hk0'⟩ ⟨kt', hkt'⟩, if_pos (by rw [hU.alike.assignable]; exact hfit)]
  rcases ht with ht | ⟨y, cy, ht, hy, hy0, hly, hno⟩
  · obtain ⟨vm', h1, h2⟩ := one S hW hcell
    exact ⟨vm', h1, fun Q E d acts => by rw [W.findHandler_eq hm hc, ht]; exact h2 Q E d acts⟩
  · obtain ⟨dk, _, _, kt, hd, _, _, _, _, hkt, _, hopen⟩ := hly.here
    obtain ⟨kt', hkt', -⟩ := hW.alike.2.2 _ _ hkt
    obtain ⟨k0', hk0', -⟩ := hW.alike.2.2 _ _ hk0
    obtain ⟨vm', h1, h2⟩ := one (S.setVm (S.vm.noted f.method.cls y.catchType (.cls cy))) (hW.noted hd hopen (State.rightAt_cls hly)) hcell
    refine ⟨vm', h1, fun Q E d acts => ?_⟩
    rw [W.findHandler_eq hm hc, ht, w_ask hy hy0 (hW.classLinks hly) hcell hobj ⟨k0', hk0'⟩ ⟨kt', hkt'⟩, if_neg (by rw [hW.alike.assignable, hno]; decide)]
    exact h2 Q E d acts
/-- from the throw over a frame to its handler -/
theorem w_caught {p : Program} {l : Launch} {e : Env} {R : Room} {s : State} {m : MethodId} {args : Array Value} {below : List Frame} {meth : Method} {c : Code} {T : State} {locs : List Loc} {cells slots : Nat} (X : Stand p l e R s m args below meth c T locs cells slots) {g : JFrame} (hg : g.method = m) {pc : Nat} {a : Addr}
    (hf : ∃ vm', s.WarmedH vm' ∧ ∀ (Q : Handler → Pre) (E : CtlPost) (d : Bool) (acts : List Action), wp (findHandler g a) Q E e d acts ((T.setTop g).pushFrame (.throwing a)) ↔ Q (.found pc) d acts (((T.setTop g).pushFrame (.throwing a)).setVm vm')) :
    ∃ vm', Stand p l e R s m args below meth c (T.setVm vm') locs cells slots ∧ ∀ t, Steps p.tables e below ((T.setVm vm').setTop { g with pc := pc, stack := [.ref a] }) t → Steps p.tables e below ((T.setTop g).pushFrame (.throwing a)) t := by
  subst hg
  obtain ⟨vm', hW', hq⟩ := hf
  refine ⟨vm', X.noted hW', fun t ht => ?_⟩
  obtain ⟨hgo, hw⟩ := X.here.throwing a
  refine Steps.head hgo hw ?_
  have hst : (stepThrowing e ((T.setTop g).pushFrame (.throwing a)) a (.java g :: ((T.frames).tail))).Is ((((T.setTop g).pushFrame (.throwing a)).setVm vm').setFrames (.java { g with pc := pc, stack := [.ref a] } :: (T.frames).tail)) [] := by
    simp only [stepThrowing, searchFrame, vmDo]
    generalize hr : Sem.go _ e false [] _ = res
    obtain ⟨as, rfl, ha⟩ := Sem.eq_ok_of hr (a := Handler.found pc) (s' := ((T.setTop g).pushFrame (.throwing a)).setVm vm') (acts' := []) (by simp [hq _ _ _ _])
    exact ⟨rfl, ha⟩
  rw [stepThread_throwing (frames_entered X.here.top _), hst.1]
  obtain ⟨g₀, hg0⟩ := Option.isSome_iff_exists.mp X.here.top
  obtain ⟨r, hr⟩ := State.topJava?_eq_some.mp hg0
  have hr' : (T.setVm vm').frames = .java g₀ :: r := hr
  rw [State.setTop_of_frames _ hr'] at ht
  have e1 : ∀ (u : State) (F G : List Frame), ((u.setFrames F).setVm vm').setFrames G = (u.setVm vm').setFrames G := fun u F G => by
    rw [show (u.setFrames F).setVm vm' = (u.setVm vm').setFrames F from rfl, State.setFrames_setFrames]
  rw [hr, List.tail_cons, State.pushFrame, e1, State.setTop_of_frames _ hr, e1]
  exact ht
/-! CALLS OF A METHOD WITH HANDLERS, AND INSIDE ONE -/
def l64 (r : Int32) : Nat := r.toInt64.toUInt64.toNat
theorem l64_eq (r : Int32) : lN (l64 r) = r.toInt64 := by
  unfold l64 lN
  apply Int64.toBitVec_inj.mp
  show BitVec.ofNat 64 r.toInt64.toBitVec.toNat = r.toInt64.toBitVec
  simp
/-- the table's row i takes an exception of that class thrown at pc, and goes to hp -/
def w_takes (own : String) (hh : List (Nat × Nat × Nat × Nat)) (pc hp : Nat) (cls : String) : Prop :=
  (∃ (a b t : Nat) (r : List (Nat × Nat × Nat × Nat)), hh = (a, b, hp, t) :: r ∧ a ≤ pc ∧ pc < b ∧ t ≠ 0 ∧ Cond.classLink own t cls ∈ w_tb ∧ (cls, cls) ∈ w_cast) ∨
  (∃ (a b t a' b' h' t' : Nat) (r : List (Nat × Nat × Nat × Nat)), hh = (a', b', h', t') :: (a, b, hp, t) :: r ∧ a' ≤ pc ∧ pc < b' ∧ t' ≠ 0 ∧ Cond.classLink own t' "java/util/NoSuchElementException" ∈ w_tb ∧ a ≤ pc ∧ pc < b ∧ t ≠ 0 ∧ Cond.classLink own t cls ∈ w_tb ∧ (cls, cls) ∈ w_cast ∧ cls = "java/lang/IllegalArgumentException")
section
variable {M : w_M} {E : w_E} {Ω : w_O} {k n : Nat} {S : List w_SC} {I : w_I} {L : w_L} {ls : List (Nat × Value)} {st : List Value}
/-- more may be counted than was made -/
theorem V_more {k' n' pc : Nat} {st0 : List Value} (h1 : k ≤ k') (h2 : n ≤ n') (h3 : k' ≤ E.2.1.cells ∧ n' ≤ E.2.1.slots) (h : V M E Ω k' n' S I L pc ls st0) : V M E Ω k n S I L pc ls st0 := by
  intro p e s m args below meth c H lr locs C hm hn hc hR hS hl T hT X
  exact h p e s m args below meth c H lr locs C hm h3 hc hR hS hl T hT (stand_widen X h1 h2)
/-- a callee throws, and a handler here takes it -/
theorem V_caught (pc hp : Nat) {idx b dd : Nat} {Mc : w_M} {As : List Value} {st0 : List Value} {cls : String} {hh : List (Nat × Nat × Nat × Nat)} (hs : w_MV M.1 idx Mc As.length) (hd : decode M.2.2.1 pc = .ok (.invokevirtual idx, 3)) (hb : w_is S b Mc.1) (hE : w_fit dd E) (hF : FnT Ω dd Mc (.ref (Ω.1 + b) :: As) S I L cls) (hst : st0 = As.reverse ++ .ref (Ω.1 + b) :: st) (hw : (st.map fun v => v.category).sum ≤ 8)
    (hr : k + 1 ≤ E.2.1.cells ∧ n + 6 ≤ E.2.1.slots) (ht : E.2.2.2.2 = tableOf hh) (hx : w_takes M.1 hh pc hp cls) (h : ∀ q, V M E Ω (k + 1) (n + 6) S I L hp ls [.ref q]) : V M E Ω k n S I L pc ls st0 := by
  intro p e s m args below meth c H lr locs C hm hn hc hR hS hl
  obtain ⟨s1, s2, s3, s4, s5, s6⟩ := hs
  obtain ⟨ci, ks, q, b1, b2, b3⟩ := hb
  have hrec := va_recv hR.1 hR.2.1 b2 (w_ws_get Ω S I L b1)
  rw [b3] at hrec
  have hrun := vx_runV (R := E.2.1) (e := e) (below := below) (meth := meth) (locs := locs) (cells := k) (slots := n) (g := F0 m pc lr st0) (rest := st) C (hF E.1 H.size hm.2.2.2.2.1) (cwV As.length C.2.2.2.2 s1 rfl rfl rfl ⟨s2, s3, s4, s5⟩ ⟨hE.1, by have := hE.2; show 8 + (Mc.2.2.2.1 + 11) + (40 * dd + 200) ≤ E.2.1.locals; omega⟩)
    ⟨w_blind Ω _ S I L _, hrec, fun U hU hW => ⟨rfl, by rw [hU], hc.next hS hU hW, by rw [hU]; exact hR.moved hW.alike⟩⟩ rfl rfl hl.1 hst (lv_room hw) hd hr
  intro T hT X
  rcases hrun T hT X with ⟨v, st₀, t, T', Lc, h0, X', hL, e1, e2, hf, stp⟩ | ⟨q9, st₀, t, T', Lc, En, ce, h0, X', hL, e1, e2, ⟨rfl, hR', hz, hk⟩, hce, hcev, hcl, stp⟩
  · exact hf.elim
  · rw [h0] at hz hk
    have hal : s.vm.Alike t.vm := by rw [← e2]; exact X'.warmed.alike
    have hS' : va_S (w_A Ω) s.heap T'.heap (locs ++ Lc) := ⟨Nat.le_trans hS.1 (by rw [e1]; exact hz), fun q h1 h2 => by rw [e1, hk q (Nat.lt_of_lt_of_le h1 hS.1) h2]; exact hS.2.1 q h1 h2, fun q hq => by
      rcases List.mem_append.mp hq with h | h
      · exact hS.2.2 q h
      · exact hL q h⟩
    have hpl : e.platform.magicAccessors = ({} : Platform).magicAccessors := by rw [X.admits.platform]
    have htab : c.exceptionTable.toList = tableOf hh := hm.2.2.1.trans ht
    have hcell : ((T'.setTop (F0 m pc lr st)).pushFrame (.throwing q9)).heap[q9]? = some ce := by
      show T'.heap[q9]? = some ce
      rw [e1]; exact hce
    have hlk : ∀ (tt : Nat) (nm : String), Cond.classLink M.1 tt nm ∈ w_tb → ∃ cc, s.vm.findClass nm = some cc ∧ s.vm.ClassLinks e.platform m.cls tt cc := fun tt nm hmem => Cond.classLink_spec C.2.2.2.1 (C.2.2.2.2 _ hmem) e.platform hpl
    have hcast : (En, En) ∈ w_cast → s.vm.assignable ce.cls ce.cls = true := fun hmem => by
      obtain ⟨c3, c4, hc3, hc4, hasg⟩ := Cond.castable_spec ((hc.2.2.2.2.2.2.2.2.2.1 _ hmem).use (A := args) rfl)
      cases Option.some.inj (hc3.symm.trans hcl)
      cases Option.some.inj (hc4.symm.trans hcl)
      exact hasg
    have hfnd : ∃ vm', s.WarmedH vm' ∧ ∀ (Q : Handler → Pre) (E : CtlPost) (d : Bool) (acts : List Action), wp (findHandler (F0 m pc lr st) q9) Q E e d acts ((T'.setTop (F0 m pc lr st)).pushFrame (.throwing q9)) ↔ Q (.found hp) d acts (((T'.setTop (F0 m pc lr st)).pushFrame (.throwing q9)).setVm vm') := by
      rcases hx with ⟨a, b, tt, r, rfl, x1, x2, x3, x4, x5⟩ | ⟨a, b, tt, a', b', h', t', r, rfl, y1, y2, y3, y4, x1, x2, x3, x4, x5, x6⟩
      · obtain ⟨cc, f1, f2⟩ := hlk _ _ x4
        cases Option.some.inj (f1.symm.trans hcl)
        refine w_found (e := e) (f := F0 m pc lr st) (S := (T'.setTop (F0 m pc lr st)).pushFrame (.throwing q9)) (x := { startPc := a, endPc := b, handlerPc := hp, catchType := tt }) (suf := tableOf r) (meth := meth) (code := c) X'.method' X'.code X'.warmed hcell (fun k => by rw [hcev]; exact fun h => nomatch h) (Vm.classAt_of_findClass hcl) ?_ x3 f2 (hcast x5) (Or.inl htab)
        simp [covers, F0, x1, x2]
      · obtain ⟨cc, f1, f2⟩ := hlk _ _ x4
        cases Option.some.inj (f1.symm.trans hcl)
        obtain ⟨cy, g1, g2⟩ := hlk _ _ y4
        obtain ⟨a8, b8, n1, n2, n3⟩ := hc.2.2.2.2.2.2.2.2.2.2.2
        rw [x6] at hcl
        cases Option.some.inj (n1.symm.trans hcl)
        cases Option.some.inj (n2.symm.trans g1)
        refine w_found (e := e) (f := F0 m pc lr st) (S := (T'.setTop (F0 m pc lr st)).pushFrame (.throwing q9)) (x := { startPc := a, endPc := b, handlerPc := hp, catchType := tt }) (suf := tableOf r) (meth := meth) (code := c) X'.method' X'.code X'.warmed hcell (fun k => by rw [hcev]; exact fun h => nomatch h) (Vm.classAt_of_findClass hcl) ?_ x3 f2 (hcast x5) (Or.inr ⟨{ startPc := a', endPc := b', handlerPc := h', catchType := t' }, cy, htab, ?_, y3, g2, n3⟩)
        · simp [covers, F0, x1, x2]
        · simp [covers, F0, y1, y2]
    obtain ⟨vm', XV, stV⟩ := w_caught X' (g := F0 m pc lr st) rfl hfnd
    obtain ⟨t2, a1, b1'⟩ := h q9 p e s m args below meth c T'.heap lr (locs ++ Lc) C hm hr hc (by rw [e1]; exact hR'.moved hal.symm) hS' hl (T'.setVm vm') rfl XV
    exact ⟨t2, stp.trans (stV t2 a1), b1'⟩
end
/-- STATIC METHOD M, with the handlers hh, returns as Po says; it makes at most one cell of six slots -/
def FnH (Ω : w_O) (d : Nat) (M : w_M) (hh : List (Nat × Nat × Nat × Nat)) (av : List Value) (S : List w_SC) (I : w_I) (L : w_L) (Po : w_Po) : Prop :=
  ∀ (l : Launch) (z : Nat), l.stackTraces = false → Met l M.2.1 (Cond.codeWith M.2.1 M.2.2.1 M.2.2.2.1 M.2.2.2.2 hh :: w_tb) (w_rm d 1 6) (va_Pc av (w_Pr Ω z S I L)) (w_Qr Ω Po) 1 6 (w_A Ω)
def w_Eh (l : Launch) (d : Nat) (Ω : w_O) (Po : w_Po) (z : Nat) (hh : List (Nat × Nat × Nat × Nat)) : w_E := (l, w_rm d 1 6, fun below args s => MQ below (w_Qr Ω Po) args s 1 6 (w_A Ω), z, tableOf hh)
theorem w_fit_h {l : Launch} {d : Nat} {Ω : w_O} {Po : w_Po} {z : Nat} {hh : List (Nat × Nat × Nat × Nat)} : w_fit d (w_Eh l (d + 1) Ω Po z hh) := by
  constructor
  · show d + 9 ≤ d + 1 + 8; omega
  · show 40 * d + 240 ≤ 40 * (d + 1) + 200; omega
def w_MH (own : String) (idx : Nat) (Mc : w_M) (hh : List (Nat × Nat × Nat × Nat)) (n : Nat) : Prop := GoodIn w_tb (va_wsS own idx Mc.2.1 (Cond.codeWith Mc.2.1 Mc.2.2.1 Mc.2.2.2.1 Mc.2.2.2.2 hh :: w_tb)) ∧ Mc.2.1.cls ≠ "java/lang/invoke/MethodHandle" ∧ Mc.2.1.cls ≠ "java/lang/invoke/VarHandle" ∧ (parseMethodDescriptor Mc.2.1.desc).map (fun d => d.parameters.length) = some n ∧ Mc.2.2.2.1 ≤ 14
theorem w_mh {own : String} {idx n : Nat} {Mc : w_M} {hh : List (Nat × Nat × Nat × Nat)} (h1 : Cond.methodLink own idx Mc.2.1 ∈ w_tb) (h2 : Cond.static Mc.2.1 ∈ w_tb) (h4 : Cond.initialized Mc.2.1.cls ∈ w_tb) (h5 : Cond.codeWith Mc.2.1 Mc.2.2.1 Mc.2.2.2.1 Mc.2.2.2.2 hh ∈ w_tb)
    (h6 : Mc.2.1.cls ≠ "java/lang/invoke/MethodHandle" ∧ Mc.2.1.cls ≠ "java/lang/invoke/VarHandle" ∧ (parseMethodDescriptor Mc.2.1.desc).map (fun d => d.parameters.length) = some n ∧ Mc.2.2.2.1 ≤ 14) : w_MH own idx Mc hh n := by
  refine ⟨w_goodIn fun w hw => ?_, h6⟩
  simp only [va_wsS, List.mem_append, List.mem_cons, List.not_mem_nil, or_false] at hw
  rcases hw with (rfl | rfl | rfl) | rfl | hw <;> assumption
section
variable {Ω : w_O} {d : Nat} {M : w_M} {hh : List (Nat × Nat × Nat × Nat)} {av : List Value} {S : List w_SC} {I : w_I} {L : w_L} {Po : w_Po}
theorem FnH_of (hok : w_ok M) (ha : (lg_sl av).length ≤ M.2.2.2.1) (h : ∀ l z, V M (w_Eh l d Ω Po z hh) Ω 0 0 S I L 0 (lv_args 0 av) []) : FnH Ω d M hh av S I L Po := by
  intro l z hl
  refine va_MetW (cc := M.2.2.1) (maxL := M.2.2.2.1) (ret := M.2.2.2.2) (hh := hh) hok.1 rfl ?_
  intro p e s m args below meth c s₁ B hml hv
  obtain ⟨rfl, hsz, hc, hR⟩ := hv
  have hts := atoms_spec (ws := Cond.codeWith M.2.1 M.2.2.1 M.2.2.2.1 M.2.2.2.2 hh :: w_tb) B.pre
  have hown : s.vm.findClass M.1 = some m.cls := by rw [hok.2]; exact findClass_of_methodNamed B.named
  have ht : c.exceptionTable.toList = tableOf hh := vx_table (x := M.2.1) B (hts _ List.mem_cons_self)
  have hl2 := lv_entry av (n := M.2.2.2.1) ha
  rw [lg_entry_eq]
  exact h l z p e s m _ below meth c s.heap _ [] ⟨B.exec, B.bytes, hml, hown, fun w hw => hts w (List.mem_cons_of_mem _ hw)⟩ ⟨B.notSynchronized, B.returns, ht, hsz, hl, (name_of_methodNamed B.named B.method).1⟩ ⟨Nat.zero_le _, Nat.zero_le _⟩ hc hR va_S.rf hl2
theorem V_hret {l : Launch} {z : Nat} {k n : Nat} {ls : List (Nat × Value)} {P : Int32 → List w_SC → w_I → w_L → Prop} (pc : Nat) {v : Int32} (hk : k ≤ 1) (hn : n ≤ 6) (hd : decode M.2.2.1 pc = .ok (.ireturn, 1)) (hr : M.2.2.2.2 = some .int) (hp : P v S I L) : V M (w_Eh l d Ω (w_pi P) z hh) Ω k n S I L pc ls [.int v] := by
  refine V_more (k' := 1) (n' := 6) hk hn ⟨Nat.le_refl _, Nat.le_refl _⟩ ?_
  intro p e s m args below meth c H lr locs C hm hn hc hR hS hl
  exact W.iret (Qc := w_Qr Ω (w_pi P)) (free := w_A Ω) C.1 C.2.1 (hm.2.1.trans hr) (fun t ht hW => ⟨some (.int v), S, I, L, rfl, ⟨v, rfl, hp⟩, by rw [ht]; exact hR.moved hW.alike, hS.F ht⟩) hS.2.2 hd hm.1
end
section
variable {M : w_M} {E : w_E} {Ω : w_O} {k n : Nat} {S : List w_SC} {I : w_I} {L : w_L} {ls : List (Nat × Value)} {st : List Value}
theorem V_hi (pc : Nat) {idx dd : Nat} {Mc : w_M} {hh : List (Nat × Nat × Nat × Nat)} {As : List Value} {st0 : List Value} {P : Int32 → List w_SC → w_I → w_L → Prop} (hs : w_MH M.1 idx Mc hh As.length) (d : decode M.2.2.1 pc = .ok (.invokestatic idx, 3)) (hE : w_fit dd E) (hF : FnH Ω dd Mc hh As S I L (w_pi P)) (hst : st0 = As.reverse ++ st) (hw : (st.map fun v => v.category).sum ≤ 8) (hr : k + 1 ≤ E.2.1.cells ∧ n + 6 ≤ E.2.1.slots)
    (h : ∀ r S' I' L', P r S' I' L' → V M E Ω (k + 1) (n + 6) S' I' L' (pc + 3) ls (.int r :: st)) : V M E Ω k n S I L pc ls st0 := by
  intro p e s m args below meth c H lr locs C hm hn hc hR hS hl
  obtain ⟨s1, s3, s4, s5, s6⟩ := hs
  exact w_run (vx_runSW C (hF E.1 H.size hm.2.2.2.2.1) (vx_cwSW As.length C.2.2.2.2 s1 rfl rfl rfl ⟨s3, s4, s5⟩ ⟨hE.1, by have := hE.2; show 8 + (Mc.2.2.2.1 + 11) + (40 * dd + 200) ≤ E.2.1.locals; omega⟩)
    ⟨w_blind Ω _ S I L _, fun U hU hW => ⟨rfl, by rw [hU], hc.next hS hU hW, by rw [hU]; exact hR.moved hW.alike⟩⟩ rfl rfl hl.1 hst (lv_room hw) d hr) hS
    (fun v S' I' L' H1 locs1 hp hR' hS' => by
      obtain ⟨r, rfl, hp⟩ := hp
      exact h r S' I' L' hp p e s m args below meth c H1 lr locs1 C hm hr hc hR' hS' hl)
end
