/-! LISTS OF PLACES -/
theorem fm_len_take {α β : Type} (f : α → List β) (l : List α) {i : Nat} (hi : i < l.length) : ((l.take (i + 1)).flatMap f).length = ((l.take i).flatMap f).length + (f l[i]).length := by
  rw [List.take_succ_eq_append_getElem hi, List.flatMap_append, List.length_append]
  simp
/-- an entry of a joined list, by its part and its place in it -/
theorem fm_get {α β : Type} (f : α → List β) (l : List α) {i t : Nat} (hi : i < l.length) (ht : t < (f l[i]).length) : (l.flatMap f)[((l.take i).flatMap f).length + t]? = (f l[i])[t]? := by
  have h1 : l.flatMap f = (l.take i).flatMap f ++ (f l[i] ++ (l.drop (i + 1)).flatMap f) := by
    conv => lhs; rw [← List.take_append_drop i l, List.flatMap_append, List.drop_eq_getElem_cons hi, List.flatMap_cons]
  rw [h1, List.getElem?_append_right (by omega), Nat.add_sub_cancel_left, List.getElem?_append_left ht]
theorem ind_sum {l : List Nat} (hn : l.Nodup) (a : Nat) (f : Nat → Nat) : (l.map (fun m => (if a = m then 1 else 0) + f m)).sum ≤ (if a ∈ l then 1 else 0) + (l.map f).sum := by
  induction l with
  | nil => simp
  | cons x l ih =>
    obtain ⟨h1, h2⟩ := List.nodup_cons.mp hn
    have ih := ih h2
    simp only [List.map_cons, List.sum_cons, List.mem_cons]
    by_cases hx : a = x
    · subst hx
      rw [if_neg h1] at ih
      simp
      omega
    · simp only [hx, false_or, if_false]
      omega
theorem len_filters (g : Nat → Nat) : ∀ (L l : List Nat), l.Nodup → (l.flatMap (fun m => L.filter (fun s => g s == m))).length ≤ L.length := by
  intro L
  induction L with
  | nil =>
    intro l _
    have : l.flatMap (fun m => ([] : List Nat).filter (fun s => g s == m)) = [] := by simp
    rw [this]
    exact Nat.le_refl _
  | cons x L ih =>
    intro l hn
    have h1 := ih l hn
    rw [List.length_flatMap] at h1 ⊢
    have e : (fun m => ((x :: L).filter (fun s => g s == m)).length) = fun m => (if g x = m then 1 else 0) + (L.filter (fun s => g s == m)).length := by
      funext m
      by_cases h : g x = m
      · simp [List.filter_cons, h]; omega
      · simp [List.filter_cons, h]
    rw [e]
    have h2 := ind_sum hn (g x) (fun m => (L.filter (fun s => g s == m)).length)
    simp only [List.length_cons]
    split at h2 <;> omega
theorem rng_take (n h : Nat) (hh : h ≤ n) : (List.range n).take h = List.range h := by
  rw [List.take_range, Nat.min_eq_left hh]
/-- the meetings as a day goes -/
def s_ord (P : w_R) : List Nat := (List.range 12).flatMap (s_mh P)
def s_hs (P : w_R) (h : Nat) : Nat := ((List.range h).flatMap (s_mh P)).length
theorem s_mh_mem {P : w_R} {h m : Nat} : m ∈ s_mh P h ↔ m < P 2 0 ∧ P 5 m = h := by simp [s_mh]
theorem s_ord_mem {P : w_R} (hP : s_POK P) {m : Nat} : m ∈ s_ord P ↔ m < P 2 0 := by
  unfold s_ord
  simp only [List.mem_flatMap, List.mem_range, s_mh_mem]
  constructor
  · rintro ⟨a, -, h, -⟩; exact h
  · intro h; exact ⟨P 5 m, (hP.2.2.2.1 m h).2.2.2, h, rfl⟩
theorem s_mh_nodup (P : w_R) (h : Nat) : (s_mh P h).Nodup := List.nodup_range.sublist List.filter_sublist
theorem s_ordN_nodup (P : w_R) : ∀ n, ((List.range n).flatMap (s_mh P)).Nodup := by
  intro n
  induction n with
  | zero => simp
  | succ n ih =>
    rw [List.range_succ, List.flatMap_append]
    simp only [List.flatMap_cons, List.flatMap_nil, List.append_nil]
    rw [List.nodup_append]
    refine ⟨ih, s_mh_nodup P n, ?_⟩
    intro a ha b hb e
    subst e
    simp only [List.mem_flatMap, List.mem_range, s_mh_mem] at ha hb
    obtain ⟨k, h1, -, h2⟩ := ha
    omega
theorem s_ord_nodup (P : w_R) : (s_ord P).Nodup := s_ordN_nodup P 12
theorem s_hs_succ (P : w_R) (h : Nat) : s_hs P (h + 1) = s_hs P h + (s_mh P h).length := by
  unfold s_hs
  rw [List.range_succ, List.flatMap_append, List.length_append]
  simp
theorem s_ord_len {P : w_R} (hP : s_POK P) : (s_ord P).length = P 2 0 := by
  apply Nat.le_antisymm
  · have h1 := len_filters (fun m => P 5 m) (List.range (P 2 0)) (List.range 12) List.nodup_range
    rw [List.length_range] at h1
    exact h1
  · -- each of the meetings is there
    have h2 : ∀ (l : List Nat) (n : Nat), (∀ m, m < n → m ∈ l) → n ≤ l.length := by
      intro l n h
      have h3 := len_filters id l (List.range n) List.nodup_range
      have h4 : ∀ k, k ≤ n → k ≤ ((List.range k).flatMap (fun m => l.filter (fun s => id s == m))).length := by
        intro k
        induction k with
        | zero => intro _; exact Nat.zero_le _
        | succ k ih =>
          intro hk
          rw [List.range_succ, List.flatMap_append, List.length_append]
          have h5 : 0 < (l.filter (fun s => id s == k)).length := List.length_pos_of_mem (List.mem_filter.mpr ⟨h k (by omega), by simp⟩)
          have := ih (by omega)
          simp only [List.flatMap_cons, List.flatMap_nil, List.append_nil]
          omega
      exact Nat.le_trans (h4 n (Nat.le_refl _)) h3
    exact h2 _ _ (fun m hm => (s_ord_mem hP).mpr hm)
theorem s_hs_le {P : w_R} (hP : s_POK P) {h : Nat} (hh : h ≤ 12) : s_hs P h ≤ P 2 0 := by
  rw [← s_ord_len hP]
  unfold s_hs s_ord
  rw [← rng_take 12 h hh]
  conv => rhs; rw [← List.take_append_drop h (List.range 12), List.flatMap_append, List.length_append]
  exact Nat.le_add_right _ _
theorem s_hs_12 {P : w_R} (hP : s_POK P) : s_hs P 12 = P 2 0 := s_ord_len hP
theorem s_ord_at {P : w_R} {h t : Nat} (hh : h < 12) (ht : t < (s_mh P h).length) : (s_ord P)[s_hs P h + t]? = (s_mh P h)[t]? := by
  have h1 := fm_get (s_mh P) (List.range 12) (i := h) (t := t) (by simpa using hh) (by simpa using ht)
  have e : (List.range 12)[h]'(by simpa using hh) = h := List.getElem_range _
  rw [rng_take 12 h (by omega), e] at h1
  exact h1
/-- the sayings as a day goes through them -/
def s_lines (P Y : w_R) (i : Nat) : List Nat := ((s_ord P).take i).flatMap (s_sm Y)
theorem s_lines_len {P Y : w_R} (i : Nat) : (s_lines P Y i).length ≤ Y 0 0 := by
  have h := len_filters (fun s => Y 2 s) (List.range (Y 0 0)) ((s_ord P).take i) ((s_ord_nodup P).sublist (List.take_sublist _ _))
  rw [List.length_range] at h
  exact h
theorem s_lines_succ {P Y : w_R} {i : Nat} (hi : i < (s_ord P).length) : s_lines P Y (i + 1) = s_lines P Y i ++ s_sm Y (s_ord P)[i] := by
  unfold s_lines
  rw [List.take_succ_eq_append_getElem hi, List.flatMap_append]
  simp
/-- the plan is arranged; the sayings are arranged -/
def ARep (P : w_R) (I : w_I) : Prop := (∀ i, i < P 2 0 → I 25 i = (s_ord P).getD i 0) ∧ ∀ h, h ≤ 12 → I 26 h = s_hs P h
def LRep (P Y : w_R) (I : w_I) : Prop := (∀ i, i ≤ P 2 0 → I 33 i = (s_lines P Y i).length) ∧ ∀ i, i < (s_lines P Y (P 2 0)).length → I 32 i = (s_lines P Y (P 2 0)).getD i 0
theorem getD_app_l {A B : List Nat} {i : Nat} (h : i < A.length) : (A ++ B).getD i 0 = A.getD i 0 := by
  rw [List.getD_eq_getElem?_getD, List.getD_eq_getElem?_getD, List.getElem?_append_left h]
theorem getD_app_at {A : List Nat} {x : Nat} : (A ++ [x]).getD A.length 0 = x := by
  rw [List.getD_eq_getElem?_getD]
  simp
theorem ARep.fr {P : w_R} {I I' : w_I} {lo hi : Nat} (h : ARep P I) (hf : Fr lo hi I I') (hb : 27 ≤ lo ∨ hi ≤ 25) : ARep P I' := by
  unfold ARep
  rw [hf 25 (by omega), hf 26 (by omega)]
  exact h
theorem LRep.fr {P Y : w_R} {I I' : w_I} {lo hi : Nat} (h : LRep P Y I) (hf : Fr lo hi I I') (hb : 34 ≤ lo ∨ hi ≤ 32) : LRep P Y I' := by
  unfold LRep
  rw [hf 32 (by omega), hf 33 (by omega)]
  exact h
theorem s_ord_getD_lt {P : w_R} (hP : s_POK P) {i : Nat} (hi : i < P 2 0) : (s_ord P).getD i 0 < P 2 0 := by
  have h1 : i < (s_ord P).length := by rw [s_ord_len hP]; exact hi
  rw [List.getD_eq_getElem?_getD, List.getElem?_eq_getElem h1]
  exact (s_ord_mem hP).mp (List.getElem_mem h1)
