/-! WHAT A TOWN DOES, in plain words: a plan P (0 people, 1 prices, 2 meetings, 3 first, 4 second, 5 hour, 6 promises, 7 by, 8 to, 9 day, 10 hour, 11 leans), sayings Y (0 how many, 1 day, 2 meeting, 3 who, 4 promise), a course C (0 day, 1 paid, 2 fallen, 3 standing, 4 undone, 5 said again, 6 spoke, 7 undone on, 8 know, 9 heard) -/
abbrev w_R : Type := Nat → Nat → Nat
/-- all 32 bits -/
abbrev mI : Nat := 4294967295
def s_POK (P : w_R) : Prop := (2 ≤ P 0 0 ∧ P 0 0 ≤ 6) ∧ (∀ j, j < 6 → P 1 j ≤ 99) ∧ P 2 0 ≤ 12 ∧ (∀ j, j < P 2 0 → P 3 j < P 0 0 ∧ P 4 j < P 0 0 ∧ P 3 j ≠ P 4 j ∧ P 5 j < 12) ∧ P 6 0 ≤ 12 ∧ (∀ j, j < P 6 0 → P 7 j < P 0 0 ∧ P 8 j < P 0 0 ∧ P 7 j ≠ P 8 j ∧ P 9 j < 100 ∧ P 10 j < 12 ∧ P 11 j < 2 ^ j)
def s_YOK (P Y : w_R) : Prop := Y 0 0 ≤ 60 ∧ ∀ s, s < Y 0 0 → (Y 1 s < 100 ∨ Y 1 s = mI) ∧ Y 2 s < P 2 0 ∧ Y 3 s < 2 ∧ Y 4 s < P 6 0
def s_undo (C : w_R) (p : Nat) : w_R :=
  let C1 := w_put C 3 0 (C 3 0 &&& ((2 ^ p) ^^^ mI))
  let C2 := w_put C1 4 0 (C1 4 0 ||| 2 ^ p)
  let C3 := w_put C2 7 p (C2 0 0)
  w_put C3 2 0 (C3 2 0 + 1)
def s_make1 (P : w_R) (h : Nat) (C : w_R) (p : Nat) : w_R :=
  if P 9 p = C 0 0 ∧ P 10 p = h then (if P 11 p &&& (C 3 0 ^^^ mI) ≠ 0 then s_undo C p else w_put (w_put C 3 0 (C 3 0 ||| 2 ^ p)) 9 p (2 ^ P 7 p ||| 2 ^ P 8 p)) else C
def s_make (P : w_R) (h : Nat) (C : w_R) (n : Nat) : w_R := (List.range n).foldl (s_make1 P h) C
def s_who (P Y : w_R) (s : Nat) : Nat := if Y 3 s = 0 then P 3 (Y 2 s) else P 4 (Y 2 s)
def s_both (P : w_R) (m : Nat) : Nat := 2 ^ P 3 m ||| 2 ^ P 4 m
def s_can (P Y C : w_R) (s : Nat) : Prop := (Y 1 s = mI ∨ Y 1 s = C 0 0) ∧ (C 3 0 / 2 ^ Y 4 s) &&& 1 ≠ 0 ∧ (((C 8 (Y 4 s) ||| C 9 (Y 4 s)) &&& (C 6 0 ^^^ mI)) / 2 ^ s_who P Y s) &&& 1 ≠ 0
def s_said (P Y C : w_R) (s : Nat) : w_R :=
  let p := Y 4 s
  let w := s_who P Y s
  let C1 := w_put C 6 0 (C 6 0 ||| 2 ^ w)
  let C2 := w_put C1 1 0 (C1 1 0 + P 1 w)
  let C3 := if C2 9 p &&& (s_both P (Y 2 s) &&& (2 ^ w ^^^ mI)) = 0 then w_put C2 5 0 (C2 5 0 ||| 2 ^ p) else C2
  w_put C3 9 p (C3 9 p ||| s_both P (Y 2 s))
def s_say (P Y C : w_R) (s : Nat) : w_R :=
  if (Y 1 s = mI ∨ Y 1 s = C 0 0) ∧ (C 3 0 / 2 ^ Y 4 s) &&& 1 ≠ 0 ∧ (((C 8 (Y 4 s) ||| C 9 (Y 4 s)) &&& (C 6 0 ^^^ mI)) / 2 ^ s_who P Y s) &&& 1 ≠ 0 then s_said P Y C s else C
/-- the meetings of an hour, by number; the sayings of a meeting, as they were told -/
def s_mh (P : w_R) (h : Nat) : List Nat := (List.range (P 2 0)).filter (fun m => P 5 m == h)
def s_sm (Y : w_R) (m : Nat) : List Nat := (List.range (Y 0 0)).filter (fun s => Y 2 s == m)
def s_hour (P Y : w_R) (C : w_R) (h : Nat) : w_R := (s_mh P h).foldl (fun C m => (s_sm Y m).foldl (s_say P Y) C) (w_put (s_make P h C (P 6 0)) 6 0 0)
def s_dusk1 (P : w_R) (C : w_R) (p : Nat) : w_R :=
  let C1 := if (C 3 0 / 2 ^ p) &&& 1 ≠ 0 ∧ ¬ ((C 5 0 / 2 ^ p) &&& 1 ≠ 0 ∧ P 11 p &&& C 4 0 = 0) then s_undo C p else C
  w_put (w_put C1 8 p (C1 9 p)) 9 p 0
def s_dusk (P C : w_R) : w_R :=
  let C1 := (List.range (P 6 0)).foldl (s_dusk1 P) C
  let C2 := w_put C1 5 0 0
  w_put C2 0 0 (C2 0 0 + 1)
def s_day (P Y C : w_R) : w_R := s_dusk P ((List.range 12).foldl (s_hour P Y) C)
/-- what a course's cells say -/
def cv (c : Nat) (I : w_I) : w_R := fun k j => match k with
  | 0 => if j = 0 then I c 1 else 0
  | 1 => if j = 0 then I c 2 else 0
  | 2 => if j = 0 then I c 3 else 0
  | 3 => if j = 0 then I c 4 else 0
  | 4 => if j = 0 then I c 5 else 0
  | 5 => if j = 0 then I c 6 else 0
  | 6 => if j = 0 then I c 7 else 0
  | 7 => if j < 12 then I (c + 1) j else 0
  | 8 => if j < 12 then I (c + 2) j else 0
  | 9 => if j < 12 then I (c + 3) j else 0
  | _ => 0
theorem w_put_eq (I : w_I) (a j x b i : Nat) : w_put I a j x b i = if b = a ∧ i = j then x else I b i := by
  unfold w_put
  by_cases h1 : b = a
  · by_cases h2 : i = j <;> simp [h1, h2]
  · simp [h1]
theorem cv_s {c : Nat} {I : w_I} {x : Nat} (k : Nat) (hk : k < 7) : cv c (w_put I c (k + 1) x) = w_put (cv c I) k 0 x := by
  funext q j
  rw [w_put_eq]
  rcases (show k = 0 ∨ k = 1 ∨ k = 2 ∨ k = 3 ∨ k = 4 ∨ k = 5 ∨ k = 6 by omega) with rfl | rfl | rfl | rfl | rfl | rfl | rfl <;>
  (unfold cv; split <;> simp [w_put_eq] <;> (try split) <;> simp_all)
theorem w_ifs {j i x y : Nat} (hi : i < 12) : (if j < 12 then (if j = i then x else y) else 0) = if j = i then x else if j < 12 then y else 0 := by
  by_cases h1 : j < 12 <;> by_cases h2 : j = i
  · rw [if_pos h1, if_pos h2, if_pos h2]
  · rw [if_pos h1, if_neg h2, if_neg h2, if_pos h1]
  · exact absurd (h2 ▸ hi) h1
  · rw [if_neg h1, if_neg h2, if_neg h1]
theorem cv_a {c : Nat} {I : w_I} {i x : Nat} (k : Nat) (hk : k < 3) (hi : i < 12) : cv c (w_put I (c + 1 + k) i x) = w_put (cv c I) (7 + k) i x := by
  have hc : w_put I (c + 1 + k) i x c = I c := w_put_ne I c (by omega)
  funext q j
  rw [w_put_eq]
  rcases (show k = 0 ∨ k = 1 ∨ k = 2 by omega) with rfl | rfl | rfl
  · have h2 : w_put I (c + 1 + 0) i x (c + 2) = I (c + 2) := w_put_ne I _ (by omega)
    have h3 : w_put I (c + 1 + 0) i x (c + 3) = I (c + 3) := w_put_ne I _ (by omega)
    have h1 : w_put I (c + 1 + 0) i x (c + 1) j = if j = i then x else I (c + 1) j := by rw [w_put_eq]; simp
    unfold cv
    rw [hc, h1, h2, h3]
    split <;> simp [w_ifs hi] <;> (intro h; exact absurd h (by assumption))
  · have h2 : w_put I (c + 1 + 1) i x (c + 1) = I (c + 1) := w_put_ne I _ (by omega)
    have h3 : w_put I (c + 1 + 1) i x (c + 3) = I (c + 3) := w_put_ne I _ (by omega)
    have h1 : w_put I (c + 1 + 1) i x (c + 2) j = if j = i then x else I (c + 2) j := by rw [w_put_eq]; simp
    unfold cv
    rw [hc, h1, h2, h3]
    split <;> simp [w_ifs hi] <;> (intro h; exact absurd h (by assumption))
  · have h2 : w_put I (c + 1 + 2) i x (c + 1) = I (c + 1) := w_put_ne I _ (by omega)
    have h3 : w_put I (c + 1 + 2) i x (c + 2) = I (c + 2) := w_put_ne I _ (by omega)
    have h1 : w_put I (c + 1 + 2) i x (c + 3) j = if j = i then x else I (c + 3) j := by rw [w_put_eq]; simp
    unfold cv
    rw [hc, h1, h2, h3]
    split <;> simp [w_ifs hi] <;> (intro h; exact absurd h (by assumption))
theorem cv_o {c a : Nat} {I : w_I} {i x : Nat} (h : a < c ∨ c + 4 ≤ a) : cv c (w_put I a i x) = cv c I := by
  have e : ∀ b, c ≤ b → b < c + 4 → w_put I a i x b = I b := fun b h1 h2 => w_put_ne I b (by omega)
  funext q j
  unfold cv
  rw [e c (by omega) (by omega), e (c + 1) (by omega) (by omega), e (c + 2) (by omega) (by omega), e (c + 3) (by omega) (by omega)]

theorem cvs_34_1 {I : w_I} {x : Nat} : cv 34 (w_put I 34 1 x) = w_put (cv 34 I) 0 0 x := cv_s 0 (by decide)
theorem cvs_34_2 {I : w_I} {x : Nat} : cv 34 (w_put I 34 2 x) = w_put (cv 34 I) 1 0 x := cv_s 1 (by decide)
theorem cvs_34_3 {I : w_I} {x : Nat} : cv 34 (w_put I 34 3 x) = w_put (cv 34 I) 2 0 x := cv_s 2 (by decide)
theorem cvs_34_4 {I : w_I} {x : Nat} : cv 34 (w_put I 34 4 x) = w_put (cv 34 I) 3 0 x := cv_s 3 (by decide)
theorem cvs_34_5 {I : w_I} {x : Nat} : cv 34 (w_put I 34 5 x) = w_put (cv 34 I) 4 0 x := cv_s 4 (by decide)
theorem cvs_34_6 {I : w_I} {x : Nat} : cv 34 (w_put I 34 6 x) = w_put (cv 34 I) 5 0 x := cv_s 5 (by decide)
theorem cvs_34_7 {I : w_I} {x : Nat} : cv 34 (w_put I 34 7 x) = w_put (cv 34 I) 6 0 x := cv_s 6 (by decide)
theorem cva_34_7 {I : w_I} {i x : Nat} (hi : i < 12) : cv 34 (w_put I 35 i x) = w_put (cv 34 I) 7 i x := cv_a 0 (by decide) hi
theorem cva_34_8 {I : w_I} {i x : Nat} (hi : i < 12) : cv 34 (w_put I 36 i x) = w_put (cv 34 I) 8 i x := cv_a 1 (by decide) hi
theorem cva_34_9 {I : w_I} {i x : Nat} (hi : i < 12) : cv 34 (w_put I 37 i x) = w_put (cv 34 I) 9 i x := cv_a 2 (by decide) hi
theorem cvs_46_1 {I : w_I} {x : Nat} : cv 46 (w_put I 46 1 x) = w_put (cv 46 I) 0 0 x := cv_s 0 (by decide)
theorem cvs_46_2 {I : w_I} {x : Nat} : cv 46 (w_put I 46 2 x) = w_put (cv 46 I) 1 0 x := cv_s 1 (by decide)
theorem cvs_46_3 {I : w_I} {x : Nat} : cv 46 (w_put I 46 3 x) = w_put (cv 46 I) 2 0 x := cv_s 2 (by decide)
theorem cvs_46_4 {I : w_I} {x : Nat} : cv 46 (w_put I 46 4 x) = w_put (cv 46 I) 3 0 x := cv_s 3 (by decide)
theorem cvs_46_5 {I : w_I} {x : Nat} : cv 46 (w_put I 46 5 x) = w_put (cv 46 I) 4 0 x := cv_s 4 (by decide)
theorem cvs_46_6 {I : w_I} {x : Nat} : cv 46 (w_put I 46 6 x) = w_put (cv 46 I) 5 0 x := cv_s 5 (by decide)
theorem cvs_46_7 {I : w_I} {x : Nat} : cv 46 (w_put I 46 7 x) = w_put (cv 46 I) 6 0 x := cv_s 6 (by decide)
theorem cva_46_7 {I : w_I} {i x : Nat} (hi : i < 12) : cv 46 (w_put I 47 i x) = w_put (cv 46 I) 7 i x := cv_a 0 (by decide) hi
theorem cva_46_8 {I : w_I} {i x : Nat} (hi : i < 12) : cv 46 (w_put I 48 i x) = w_put (cv 46 I) 8 i x := cv_a 1 (by decide) hi
theorem cva_46_9 {I : w_I} {i x : Nat} (hi : i < 12) : cv 46 (w_put I 49 i x) = w_put (cv 46 I) 9 i x := cv_a 2 (by decide) hi
theorem cvs_54_1 {I : w_I} {x : Nat} : cv 54 (w_put I 54 1 x) = w_put (cv 54 I) 0 0 x := cv_s 0 (by decide)
theorem cvs_54_2 {I : w_I} {x : Nat} : cv 54 (w_put I 54 2 x) = w_put (cv 54 I) 1 0 x := cv_s 1 (by decide)
theorem cvs_54_3 {I : w_I} {x : Nat} : cv 54 (w_put I 54 3 x) = w_put (cv 54 I) 2 0 x := cv_s 2 (by decide)
theorem cvs_54_4 {I : w_I} {x : Nat} : cv 54 (w_put I 54 4 x) = w_put (cv 54 I) 3 0 x := cv_s 3 (by decide)
theorem cvs_54_5 {I : w_I} {x : Nat} : cv 54 (w_put I 54 5 x) = w_put (cv 54 I) 4 0 x := cv_s 4 (by decide)
theorem cvs_54_6 {I : w_I} {x : Nat} : cv 54 (w_put I 54 6 x) = w_put (cv 54 I) 5 0 x := cv_s 5 (by decide)
theorem cvs_54_7 {I : w_I} {x : Nat} : cv 54 (w_put I 54 7 x) = w_put (cv 54 I) 6 0 x := cv_s 6 (by decide)
theorem cva_54_7 {I : w_I} {i x : Nat} (hi : i < 12) : cv 54 (w_put I 55 i x) = w_put (cv 54 I) 7 i x := cv_a 0 (by decide) hi
theorem cva_54_8 {I : w_I} {i x : Nat} (hi : i < 12) : cv 54 (w_put I 56 i x) = w_put (cv 54 I) 8 i x := cv_a 1 (by decide) hi
theorem cva_54_9 {I : w_I} {i x : Nat} (hi : i < 12) : cv 54 (w_put I 57 i x) = w_put (cv 54 I) 9 i x := cv_a 2 (by decide) hi
/-- only cells from lo on, below hi, have changed -/
def Fr (lo hi : Nat) (I I' : w_I) : Prop := ∀ i, i < lo ∨ hi ≤ i → I' i = I i
theorem Fr.rf {lo hi : Nat} {I : w_I} : Fr lo hi I I := fun _ _ => rfl
theorem Fr.trans {lo hi : Nat} {I I' I'' : w_I} (h : Fr lo hi I I') (h' : Fr lo hi I' I'') : Fr lo hi I I'' := fun i hi => (h' i hi).trans (h i hi)
theorem Fr.put {lo hi a j x : Nat} {I I' : w_I} (h : Fr lo hi I I') (h1 : lo ≤ a) (h2 : a < hi) : Fr lo hi I (w_put I' a j x) := fun i hi => (w_put_ne I' i (by omega)).trans (h i hi)
theorem Fr.row {lo hi a : Nat} {f : Nat → Nat} {I I' : w_I} (h : Fr lo hi I I') (h1 : lo ≤ a) (h2 : a < hi) : Fr lo hi I (w_row I' a f) := fun i hi => (w_row_ne I' i (by omega)).trans (h i hi)
theorem Fr.wide {lo hi lo' hi' : Nat} {I I' : w_I} (h : Fr lo hi I I') (h1 : lo' ≤ lo) (h2 : hi ≤ hi') : Fr lo' hi' I I' := fun i hi => h i (by omega)
/-- a plan's cells (the object at b, its rows behind it) hold the plan P -/
def PRep (b : Nat) (P : w_R) (I : w_I) : Prop := I b 0 = P 0 0 ∧ (∀ j, j < 6 → I (b + 1) j = P 1 j) ∧ I b 2 = P 2 0 ∧ (∀ j, j < P 2 0 → I (b + 2) j = P 3 j ∧ I (b + 3) j = P 4 j ∧ I (b + 4) j = P 5 j) ∧ I b 6 = P 6 0 ∧ (∀ j, j < P 6 0 → I (b + 5) j = P 7 j ∧ I (b + 6) j = P 8 j ∧ I (b + 7) j = P 9 j ∧ I (b + 8) j = P 10 j ∧ I (b + 9) j = P 11 j)
theorem PRep.fr {b lo hi : Nat} {P : w_R} {I I' : w_I} (h : PRep b P I) (hf : Fr lo hi I I') (hb : b + 10 ≤ lo ∨ hi ≤ b) : PRep b P I' := by
  have e : ∀ k, k < 10 → I' (b + k) = I (b + k) := fun k hk => hf _ (by omega)
  have e0 : I' b = I b := e 0 (by omega)
  unfold PRep
  rw [e0, e 1 (by omega), e 2 (by omega), e 3 (by omega), e 4 (by omega), e 5 (by omega), e 6 (by omega), e 7 (by omega), e 8 (by omega), e 9 (by omega)]
  exact h
/-- a course's numbers are as they must be -/
def COK (C : w_R) : Prop := C 0 0 < 1000000 ∧ C 3 0 < 4096 ∧ C 4 0 < 4096 ∧ C 5 0 < 4096 ∧ C 6 0 < 64 ∧ (∀ p, C 8 p < 64) ∧ (∀ p, C 9 p < 64)

theorem p_lt {p n : Nat} (h : p < n) : 2 ^ p < 2 ^ n := Nat.pow_lt_pow_right (by decide) h
theorem p12 {p : Nat} (h : p < 12) : 2 ^ p < 4096 := p_lt (n := 12) h
theorem p6 {p : Nat} (h : p < 6) : 2 ^ p < 64 := p_lt (n := 6) h
theorem or12 {a b : Nat} (ha : a < 4096) (hb : b < 4096) : a ||| b < 4096 := Nat.or_lt_two_pow (n := 12) ha hb
theorem or6 {a b : Nat} (ha : a < 64) (hb : b < 64) : a ||| b < 64 := Nat.or_lt_two_pow (n := 6) ha hb
theorem and_lt1 {a b n : Nat} (ha : a < n) : a &&& b < n := Nat.lt_of_le_of_lt Nat.and_le_left ha
theorem and_lt2 {a b n : Nat} (hb : b < n) : a &&& b < n := Nat.lt_of_le_of_lt Nat.and_le_right hb
/-- what is read behind what was written -/
theorem w_put_same (I : w_I) (a j x : Nat) : w_put I a j x a j = x := by rw [w_put_eq]; simp
theorem w_put_other (I : w_I) {a j x b i : Nat} (h : b ≠ a ∨ i ≠ j) : w_put I a j x b i = I b i := by
  rw [w_put_eq, if_neg]
  rintro ⟨h1, h2⟩
  rcases h with h | h
  · exact h h1
  · exact h h2
theorem COK.put {C : w_R} (h : COK C) (k p x : Nat) (h0 : k = 0 → p = 0 → x < 1000000) (h3 : k = 3 → p = 0 → x < 4096) (h4 : k = 4 → p = 0 → x < 4096) (h5 : k = 5 → p = 0 → x < 4096) (h6 : k = 6 → p = 0 → x < 64) (h8 : k = 8 → x < 64) (h9 : k = 9 → x < 64) : COK (w_put C k p x) := by
  obtain ⟨a0, a3, a4, a5, a6, a8, a9⟩ := h
  unfold COK
  simp only [w_put_eq]
  refine ⟨?_, ?_, ?_, ?_, ?_, fun q => ?_, fun q => ?_⟩
  · split
    · rename_i e; exact h0 e.1.symm e.2.symm
    · exact a0
  · split
    · rename_i e; exact h3 e.1.symm e.2.symm
    · exact a3
  · split
    · rename_i e; exact h4 e.1.symm e.2.symm
    · exact a4
  · split
    · rename_i e; exact h5 e.1.symm e.2.symm
    · exact a5
  · split
    · rename_i e; exact h6 e.1.symm e.2.symm
    · exact a6
  · split
    · rename_i e; exact h8 e.1.symm
    · exact a8 q
  · split
    · rename_i e; exact h9 e.1.symm
    · exact a9 q
theorem s_undo_ok {C : w_R} {p : Nat} (h : COK C) (hp : p < 12) : COK (s_undo C p) := by
  unfold s_undo
  refine COK.put ?_ 2 0 _ (by omega) (by omega) (by omega) (by omega) (by omega) (by omega) (by omega)
  refine COK.put ?_ 7 p _ (by omega) (by omega) (by omega) (by omega) (by omega) (by omega) (by omega)
  refine COK.put ?_ 4 0 _ (by omega) (by omega) (fun _ _ => ?_) (by omega) (by omega) (by omega) (by omega)
  · refine COK.put h 3 0 _ (by omega) (fun _ _ => and_lt1 h.2.1) (by omega) (by omega) (by omega) (by omega) (by omega)
  · rw [w_put_other _ (Or.inl (by decide))]
    exact or12 h.2.2.1 (p12 hp)
theorem s_make1_ok {P C : w_R} {h p : Nat} (hC : COK C) (hp : p < 12) (h7 : P 7 p < 6) (h8 : P 8 p < 6) : COK (s_make1 P h C p) := by
  unfold s_make1
  split
  · split
    · exact s_undo_ok hC hp
    · refine COK.put ?_ 9 p _ (by omega) (by omega) (by omega) (by omega) (by omega) (by omega) (fun _ => or6 (p6 h7) (p6 h8))
      exact COK.put hC 3 0 _ (by omega) (fun _ _ => or12 hC.2.1 (p12 hp)) (by omega) (by omega) (by omega) (by omega) (by omega)
  · exact hC

/-- sayings' cells (the object at b, its rows behind it) hold the sayings Y -/
def YRep (b : Nat) (Y : w_R) (I : w_I) : Prop := I b 0 = Y 0 0 ∧ ∀ s, s < Y 0 0 → I (b + 1) s = Y 1 s ∧ I (b + 2) s = Y 2 s ∧ I (b + 3) s = Y 3 s ∧ I (b + 4) s = Y 4 s
theorem YRep.fr {b lo hi : Nat} {Y : w_R} {I I' : w_I} (h : YRep b Y I) (hf : Fr lo hi I I') (hb : b + 5 ≤ lo ∨ hi ≤ b) : YRep b Y I' := by
  have e : ∀ k, k < 5 → I' (b + k) = I (b + k) := fun k hk => hf _ (by omega)
  have e0 : I' b = I b := e 0 (by omega)
  unfold YRep
  rw [e0, e 1 (by omega), e 2 (by omega), e 3 (by omega), e 4 (by omega)]
  exact h
theorem s_who_lt {P Y : w_R} {s : Nat} (hP : s_POK P) (hm : Y 2 s < P 2 0) : s_who P Y s < P 0 0 := by
  obtain ⟨h1, h2, -⟩ := hP.2.2.2.1 _ hm
  unfold s_who
  split <;> assumption
theorem s_both_lt {P : w_R} {m : Nat} (hP : s_POK P) (hm : m < P 2 0) : s_both P m < 64 := by
  obtain ⟨h1, h2, -⟩ := hP.2.2.2.1 _ hm
  have := hP.1.2
  exact or6 (p6 (by omega)) (p6 (by omega))
theorem s_say_ok {P Y C : w_R} {s : Nat} (hC : COK C) (hP : s_POK P) (hm : Y 2 s < P 2 0) (hp : Y 4 s < P 6 0) : COK (s_say P Y C s) := by
  have hw := s_who_lt hP hm
  have h6 := hP.1.2
  have h12 := hP.2.2.2.2.1
  unfold s_say
  split
  · unfold s_said
    have h1 : COK (w_put C 6 0 (C 6 0 ||| 2 ^ s_who P Y s)) := COK.put hC 6 0 _ (by omega) (by omega) (by omega) (by omega) (fun _ _ => or6 hC.2.2.2.2.1 (p6 (by omega))) (by omega) (by omega)
    have h2 := COK.put h1 1 0 (w_put C 6 0 (C 6 0 ||| 2 ^ s_who P Y s) 1 0 + P 1 (s_who P Y s)) (by omega) (by omega) (by omega) (by omega) (by omega) (by omega) (by omega)
    dsimp only
    generalize w_put (w_put C 6 0 (C 6 0 ||| 2 ^ s_who P Y s)) 1 0 (w_put C 6 0 (C 6 0 ||| 2 ^ s_who P Y s) 1 0 + P 1 (s_who P Y s)) = C2 at h2
    split
    · have h3 := COK.put h2 5 0 (C2 5 0 ||| 2 ^ Y 4 s) (by omega) (by omega) (by omega) (fun _ _ => or12 h2.2.2.2.1 (p12 (by omega))) (by omega) (by omega) (by omega)
      exact COK.put h3 9 _ _ (by omega) (by omega) (by omega) (by omega) (by omega) (by omega) (fun _ => or6 (h3.2.2.2.2.2.2 _) (s_both_lt hP hm))
    · exact COK.put h2 9 _ _ (by omega) (by omega) (by omega) (by omega) (by omega) (by omega) (fun _ => or6 (h2.2.2.2.2.2.2 _) (s_both_lt hP hm))
  · exact hC
