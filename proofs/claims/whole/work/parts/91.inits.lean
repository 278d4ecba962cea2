/-! CONSTRUCTORS: the links of our own, and calls of them -/
def w_MI (own : String) (idx : Nat) (Mc : w_M) (n : Nat) : Prop := Cond.methodLink own idx Mc.2.1 ∈ w_tb ∧ Cond.instanceMethod Mc.2.1 ∈ w_tb ∧ Cond.initialized Mc.2.1.cls ∈ w_tb ∧ Cond.code Mc.2.1 Mc.2.2.1 Mc.2.2.2.1 Mc.2.2.2.2 ∈ w_tb ∧ (Mc.2.1.name = "<init>" ∧ Mc.2.2.2.2 = none ∧ Mc.2.1.cls ≠ "java/lang/invoke/MethodHandle" ∧ Mc.2.1.cls ≠ "java/lang/invoke/VarHandle" ∧ (parseMethodDescriptor Mc.2.1.desc).map (fun d => d.parameters.length) = some n ∧ Mc.2.2.2.1 ≤ 14)
def w_MN (own : String) (idx : Nat) (Mc : w_M) (n : Nat) : Prop := (∃ q ∈ w_nest, q = (own, idx, Mc.2.1, "DuskTown")) ∧ Cond.instanceMethod Mc.2.1 ∈ w_tb ∧ Cond.initialized Mc.2.1.cls ∈ w_tb ∧ Cond.code Mc.2.1 Mc.2.2.1 Mc.2.2.2.1 Mc.2.2.2.2 ∈ w_tb ∧ (Mc.2.1.name = "<init>" ∧ Mc.2.2.2.2 = none ∧ Mc.2.1.cls ≠ "java/lang/invoke/MethodHandle" ∧ Mc.2.1.cls ≠ "java/lang/invoke/VarHandle" ∧ (parseMethodDescriptor Mc.2.1.desc).map (fun d => d.parameters.length) = some n ∧ Mc.2.2.2.1 ≤ 14)
theorem miL_58 : w_MI RL 58 mX7_init 0 := ⟨w_in 78 (by decide +kernel) (by decide +kernel), w_in 79 (by decide +kernel) (by decide +kernel), w_in 55 (by decide +kernel) (by decide +kernel), w_in 80 (by decide +kernel) (by decide +kernel), ⟨rfl, rfl, by decide +kernel, by decide +kernel, by decide +kernel, by decide⟩⟩
theorem miX7_15 : w_MI RX7 15 mX4_init 1 := ⟨w_in 86 (by decide +kernel) (by decide +kernel), w_in 87 (by decide +kernel) (by decide +kernel), w_in 56 (by decide +kernel) (by decide +kernel), w_in 88 (by decide +kernel) (by decide +kernel), ⟨rfl, rfl, by decide +kernel, by decide +kernel, by decide +kernel, by decide⟩⟩
theorem miX4_11 : w_MI RX4 11 mX3_init 0 := ⟨w_in 92 (by decide +kernel) (by decide +kernel), w_in 93 (by decide +kernel) (by decide +kernel), w_in 57 (by decide +kernel) (by decide +kernel), w_in 94 (by decide +kernel) (by decide +kernel), ⟨rfl, rfl, by decide +kernel, by decide +kernel, by decide +kernel, by decide⟩⟩
theorem miX7_28 : w_MI RX7 28 mX3_init 0 := ⟨w_in 222 (by decide +kernel) (by decide +kernel), w_in 93 (by decide +kernel) (by decide +kernel), w_in 57 (by decide +kernel) (by decide +kernel), w_in 94 (by decide +kernel) (by decide +kernel), ⟨rfl, rfl, by decide +kernel, by decide +kernel, by decide +kernel, by decide⟩⟩
theorem miX7_35 : w_MN RX7 35 mX5_init 0 := ⟨⟨_, (by decide +kernel : (RX7, 35, yX5_init, "DuskTown") ∈ w_nest), rfl⟩, w_in 226 (by decide +kernel) (by decide +kernel), w_in 59 (by decide +kernel) (by decide +kernel), w_in 227 (by decide +kernel) (by decide +kernel), ⟨rfl, rfl, by decide +kernel, by decide +kernel, by decide +kernel, by decide⟩⟩
theorem miX7_42 : w_MI RX7 42 mX0_init 1 := ⟨w_in 260 (by decide +kernel) (by decide +kernel), w_in 261 (by decide +kernel) (by decide +kernel), w_in 60 (by decide +kernel) (by decide +kernel), w_in 262 (by decide +kernel) (by decide +kernel), ⟨rfl, rfl, by decide +kernel, by decide +kernel, by decide +kernel, by decide⟩⟩
theorem miX7_51 : w_MI RX7 51 mX1_init 1 := ⟨w_in 308 (by decide +kernel) (by decide +kernel), w_in 309 (by decide +kernel) (by decide +kernel), w_in 61 (by decide +kernel) (by decide +kernel), w_in 310 (by decide +kernel) (by decide +kernel), ⟨rfl, rfl, by decide +kernel, by decide +kernel, by decide +kernel, by decide⟩⟩
theorem miX1_9 : w_MN RX1 9 mX5_init 0 := ⟨⟨_, (by decide +kernel : (RX1, 9, yX5_init, "DuskTown") ∈ w_nest), rfl⟩, w_in 226 (by decide +kernel) (by decide +kernel), w_in 59 (by decide +kernel) (by decide +kernel), w_in 227 (by decide +kernel) (by decide +kernel), ⟨rfl, rfl, by decide +kernel, by decide +kernel, by decide +kernel, by decide⟩⟩
theorem miX1_18 : w_MI RX1 18 mX0_init 1 := ⟨w_in 315 (by decide +kernel) (by decide +kernel), w_in 261 (by decide +kernel) (by decide +kernel), w_in 60 (by decide +kernel) (by decide +kernel), w_in 262 (by decide +kernel) (by decide +kernel), ⟨rfl, rfl, by decide +kernel, by decide +kernel, by decide +kernel, by decide⟩⟩
theorem miX7_58 : w_MI RX7 58 mX6_init 1 := ⟨w_in 336 (by decide +kernel) (by decide +kernel), w_in 337 (by decide +kernel) (by decide +kernel), w_in 62 (by decide +kernel) (by decide +kernel), w_in 338 (by decide +kernel) (by decide +kernel), ⟨rfl, rfl, by decide +kernel, by decide +kernel, by decide +kernel, by decide⟩⟩
theorem miX6_27 : w_MI RX6 27 mX0_init 1 := ⟨w_in 341 (by decide +kernel) (by decide +kernel), w_in 261 (by decide +kernel) (by decide +kernel), w_in 60 (by decide +kernel) (by decide +kernel), w_in 262 (by decide +kernel) (by decide +kernel), ⟨rfl, rfl, by decide +kernel, by decide +kernel, by decide +kernel, by decide⟩⟩
theorem miX7_65 : w_MI RX7 65 mX2_init 1 := ⟨w_in 368 (by decide +kernel) (by decide +kernel), w_in 369 (by decide +kernel) (by decide +kernel), w_in 63 (by decide +kernel) (by decide +kernel), w_in 370 (by decide +kernel) (by decide +kernel), ⟨rfl, rfl, by decide +kernel, by decide +kernel, by decide +kernel, by decide⟩⟩
theorem miL_61 : w_MI RL 61 mX8_init 0 := ⟨w_in 953 (by decide +kernel) (by decide +kernel), w_in 954 (by decide +kernel) (by decide +kernel), w_in 64 (by decide +kernel) (by decide +kernel), w_in 955 (by decide +kernel) (by decide +kernel), ⟨rfl, rfl, by decide +kernel, by decide +kernel, by decide +kernel, by decide⟩⟩
section
variable {M : w_M} {E : w_E} {Ω : w_O} {k n : Nat} {S : List w_SC} {I : w_I} {L : w_L} {ls : List (Nat × Value)} {st : List Value}
theorem V_ci (pc : Nat) {idx b dd mc ms : Nat} {Mc : w_M} {As : List Value} {st0 : List Value} {P : List w_SC → w_I → w_L → Prop} (hs : w_MI M.1 idx Mc As.length) (d : decode M.2.2.1 pc = .ok (.invokespecial idx, 3)) (hE : w_fit dd E) (hF : FnC Ω dd mc ms Mc (.ref (Ω.1 + b) :: As) S I L (w_pv P)) (hz : E.2.2.2.1 + k = Ω.1 + S.length) (hst : st0 = As.reverse ++ .ref (Ω.1 + b) :: st) (hw : (st.map fun v => v.category).sum ≤ 8) (hr : k + mc ≤ E.2.1.cells ∧ n + ms ≤ E.2.1.slots)
    (h : ∀ S' I' L', P S' I' L' → V M E Ω (k + mc) (n + ms) S' I' L' (pc + 3) ls st) : V M E Ω k n S I L pc ls st0 := by
  obtain ⟨c1, y, cc, nl, rt⟩ := Mc
  obtain ⟨s1, s2, s3, s4, s5, s6, s7, s8, s9, s10⟩ := hs
  have s6 : rt = none := s6
  subst s6
  intro p e s m args below meth c H lr locs C hm hn hc hR hS hl T hT X
  have hsz : H.size = Ω.1 + S.length := w_size X hT (by rw [hm.2.2.2.1]; exact hz) hc.1 hR hS
  have hG : GoodIn w_tb (Cond.code y cc nl none :: w_tb) := w_goodIn fun w hw => by
    rcases List.mem_cons.mp hw with rfl | hw
    · exact s4
    · exact hw
  exact w_run (va_runI C (hF E.1 hm.2.2.2.2.1) ⟨callB_of As.length C.2.2.2.2 hG rfl rfl rfl (C.2.2.2.2 _ s3) (C.2.2.2.2 _ s1) ⟨s7, s8, s9⟩ ⟨hE.1, by have := hE.2; have s10 : nl ≤ 14 := s10; show 8 + (nl + 11) + (40 * dd + 200) ≤ E.2.1.locals; omega⟩, s5, C.2.2.2.2 _ s2⟩
    ⟨w_blind Ω _ S I L _, fun U hU hW => ⟨rfl, by rw [hU, hsz], hc.next hS hU hW, by rw [hU]; exact hR.moved hW.alike⟩⟩ rfl rfl hl.1 hst (lv_room hw) d hr) hS
    (fun v S' I' L' H1 locs1 hp hR' hS' => by
      obtain ⟨rfl, hp⟩ := hp
      exact h S' I' L' hp p e s m args below meth c H1 lr locs1 C hm hr hc hR' hS' hl) T hT X
theorem V_cn (pc : Nat) {idx b dd mc ms : Nat} {Mc : w_M} {As : List Value} {st0 : List Value} {P : List w_SC → w_I → w_L → Prop} (hs : w_MN M.1 idx Mc As.length) (d : decode M.2.2.1 pc = .ok (.invokespecial idx, 3)) (hE : w_fit dd E) (hF : FnC Ω dd mc ms Mc (.ref (Ω.1 + b) :: As) S I L (w_pv P)) (hz : E.2.2.2.1 + k = Ω.1 + S.length) (hst : st0 = As.reverse ++ .ref (Ω.1 + b) :: st) (hw : (st.map fun v => v.category).sum ≤ 8) (hr : k + mc ≤ E.2.1.cells ∧ n + ms ≤ E.2.1.slots)
    (h : ∀ S' I' L', P S' I' L' → V M E Ω (k + mc) (n + ms) S' I' L' (pc + 3) ls st) : V M E Ω k n S I L pc ls st0 := by
  obtain ⟨c1, y, cc, nl, rt⟩ := Mc
  obtain ⟨⟨q, hq, eq⟩, s2, s3, s4, s5, s6, s7, s8, s9, s10⟩ := hs
  subst eq
  have s6 : rt = none := s6
  subst s6
  intro p e s m args below meth c H lr locs C hm hn hc hR hS hl T hT X
  have hsz : H.size = Ω.1 + S.length := w_size X hT (by rw [hm.2.2.2.1]; exact hz) hc.1 hR hS
  have hG : GoodIn w_tb (Cond.code y cc nl none :: w_tb) := w_goodIn fun w hw => by
    rcases List.mem_cons.mp hw with rfl | hw
    · exact s4
    · exact hw
  have hnest := hc.2.2.2.2.2.2.2.2.2.2.1 _ hq
  exact w_run (va_runIN C (hF E.1 hm.2.2.2.2.1) ⟨va_cnB As.length C.2.2.2.2 hG rfl rfl rfl hnest (C.2.2.2.2 _ s3) ⟨s7, s8, s9⟩ ⟨hE.1, by have := hE.2; have s10 : nl ≤ 14 := s10; show 8 + (nl + 11) + (40 * dd + 200) ≤ E.2.1.locals; omega⟩, s5, C.2.2.2.2 _ s2⟩
    ⟨w_blind Ω _ S I L _, fun U hU hW => ⟨rfl, by rw [hU, hsz], hc.next hS hU hW, by rw [hU]; exact hR.moved hW.alike⟩⟩ rfl rfl hl.1 hst (lv_room hw) d hr) hS
    (fun v S' I' L' H1 locs1 hp hR' hS' => by
      obtain ⟨rfl, hp⟩ := hp
      exact h S' I' L' hp p e s m args below meth c H1 lr locs1 C hm hr hc hR' hS' hl) T hT X
/-- a method that makes nothing, called where cells are being made -/
theorem FnR.c {Ω : w_O} {d : Nat} {Mc : w_M} {av : List Value} {Po : w_Po} (h : FnR Ω d Mc av S I L Po) : FnC Ω d 0 0 Mc av S I L Po := fun l hl => h l _ hl
end
