/-! the THRESHOLDS, rising, each once -/
abbrev gi (T : List Int) (k : Nat) : Int := T.getD k 0
def sI (T : List Int) : Prop := ∀ i j, i < j → j < T.length → gi T i < gi T j
def tok (T K : List Int) : Prop := sI T ∧ ∀ v, v ∈ T ↔ v ∈ K
theorem gi_mem {T : List Int} {v : Int} : v ∈ T ↔ ∃ i, i < T.length ∧ gi T i = v := by
  rw [List.mem_iff_getElem]
  constructor
  · rintro ⟨i, hi, h⟩
    exact ⟨i, hi, by unfold gi; rw [List.getD_eq_getElem?_getD, List.getElem?_eq_getElem hi]; exact h⟩
  · rintro ⟨i, hi, h⟩
    refine ⟨i, hi, ?_⟩
    unfold gi at h
    rw [List.getD_eq_getElem?_getD, List.getElem?_eq_getElem hi] at h
    exact h
def pui (T : List Int) (a : Nat) (v : Int) : List Int := T.take a ++ v :: T.drop a
theorem pui_len {T : List Int} {a : Nat} (v : Int) (h : a ≤ T.length) : (pui T a v).length = T.length + 1 := by
  unfold pui; simp; omega
theorem pui_get {T : List Int} {a : Nat} (v : Int) (h : a ≤ T.length) (k : Nat) : gi (pui T a v) k = if k < a then gi T k else if k = a then v else gi T (k - 1) := by
  unfold pui gi
  rw [List.getD_eq_getElem?_getD, List.getD_eq_getElem?_getD, List.getD_eq_getElem?_getD]
  have hl : (T.take a).length = a := by rw [List.length_take]; omega
  by_cases c : k < a
  · rw [if_pos c, List.getElem?_append_left (by omega), List.getElem?_take, if_pos c]
  · rw [if_neg c, List.getElem?_append_right (by omega), hl]
    by_cases e : k = a
    · rw [if_pos e, e, Nat.sub_self]; rfl
    · rw [if_neg e, show k - a = (k - a - 1) + 1 by omega, List.getElem?_cons_succ, List.getElem?_drop]
      rw [show a + (k - a - 1) = k - 1 by omega]
theorem pui_mem {T : List Int} {a : Nat} {v w : Int} : w ∈ pui T a v ↔ w ∈ T ∨ w = v := by
  have h : (pui T a v).Perm (v :: T) := by
    unfold pui
    refine List.perm_middle.trans ?_
    rw [List.take_append_drop]
  rw [h.mem_iff, List.mem_cons]
  exact Or.comm
theorem pui_tok {T K : List Int} {a : Nat} {v : Int} (h : tok T K) (ha : a ≤ T.length) (h1 : ∀ k, k < a → gi T k < v) (h2 : ∀ k, a ≤ k → k < T.length → v < gi T k) : tok (pui T a v) (K ++ [v]) := by
  refine ⟨fun i j hij hj => ?_, fun w => ?_⟩
  · rw [pui_len v ha] at hj
    rw [pui_get v ha, pui_get v ha]
    by_cases c1 : i < a
    · rw [if_pos c1]
      by_cases c2 : j < a
      · rw [if_pos c2]; exact h.1 i j hij (by omega)
      · rw [if_neg c2]
        by_cases c3 : j = a
        · rw [if_pos c3]; exact h1 i c1
        · rw [if_neg c3]; exact h.1 i (j - 1) (by omega) (by omega)
    · rw [if_neg c1, if_neg (show ¬ j < a by omega), if_neg (show ¬ j = a by omega)]
      by_cases c3 : i = a
      · rw [if_pos c3]; exact h2 (j - 1) (by omega) (by omega)
      · rw [if_neg c3]; exact h.1 (i - 1) (j - 1) (by omega) (by omega)
  · rw [pui_mem, h.2 w, List.mem_append, List.mem_singleton]
theorem tok_same {T K : List Int} {v : Int} (h : tok T K) (hv : v ∈ T) : tok T (K ++ [v]) := ⟨h.1, fun w => by
  rw [List.mem_append, List.mem_singleton, ← h.2 w]
  constructor
  · exact Or.inl
  · rintro (h | rfl)
    · exact h
    · exact hv⟩
theorem tok_of {T K K1 : List Int} (h : tok T K) (e : ∀ v, v ∈ K ↔ v ∈ K1) : tok T K1 := ⟨h.1, fun w => (h.2 w).trans (e w)⟩
theorem sI_tail {v : Int} {T : List Int} (h : sI (v :: T)) : sI T := fun i j hij hj => by
  have := h (i + 1) (j + 1) (by omega) (by simp; omega)
  simpa [gi] using this
theorem sI_len : ∀ (T K : List Int), sI T → (∀ v ∈ T, v ∈ K) → T.length ≤ K.length
  | [], K, _, _ => Nat.zero_le _
  | v :: T, K, h, hs => by
    have hv := hs v List.mem_cons_self
    have h1 := sI_len T (K.erase v) (sI_tail h) (fun w hw => by
      refine (List.mem_erase_of_ne ?_).mpr (hs w (List.mem_cons_of_mem _ hw))
      obtain ⟨i, hi, rfl⟩ := gi_mem.mp hw
      have := h 0 (i + 1) (by omega) (by simp; omega)
      have e : gi (v :: T) 0 = v := rfl
      have e2 : gi (v :: T) (i + 1) = gi T i := by simp [gi]
      rw [e, e2] at this
      omega)
    rw [List.length_erase_of_mem hv] at h1
    have := List.length_pos_of_mem hv
    simp
    omega
theorem tok.len {T K : List Int} (h : tok T K) : T.length ≤ K.length := sI_len T K h.1 (fun v hv => (h.2 v).mp hv)
theorem sI_le {T : List Int} (h : sI T) {i j : Nat} (hij : i ≤ j) (hj : j < T.length) : gi T i ≤ gi T j := by
  by_cases e : i = j
  · rw [e]; exact Int.le_refl _
  · exact Int.le_of_lt (h i j (by omega) hj)
/-- the first that isn't below v -/
def fnb (T : List Int) (v : Int) (a : Nat) : Prop := a < T.length ∧ (∀ k, k < a → gi T k < v) ∧ v ≤ gi T a
theorem nx_upmin {v : Int} : ∀ (L : List Int) (best : Int), L.foldl (nx1 true v) best ≤ best ∧ ∀ t ∈ L, v ≤ t → L.foldl (nx1 true v) best ≤ t
  | [], best => ⟨Int.le_refl _, fun t ht => by cases ht⟩
  | x :: l, best => by
    have h := nx_upmin (v := v) l (nx1 true v best x)
    have h1 : nx1 true v best x ≤ best ∧ (v ≤ x → nx1 true v best x ≤ x) := by
      unfold nx1
      simp only [if_true]
      split <;> constructor <;> intros <;> omega
    rw [List.foldl_cons]
    refine ⟨Int.le_trans h.1 h1.1, fun t ht hv => ?_⟩
    rcases List.mem_cons.mp ht with rfl | ht
    · exact Int.le_trans h.1 (h1.2 hv)
    · exact h.2 t ht hv
theorem nx_dnmax {v : Int} : ∀ (L : List Int) (best : Int), best ≤ L.foldl (nx1 false v) best ∧ ∀ t ∈ L, t ≤ v → t ≤ L.foldl (nx1 false v) best
  | [], best => ⟨Int.le_refl _, fun t ht => by cases ht⟩
  | x :: l, best => by
    have h := nx_dnmax (v := v) l (nx1 false v best x)
    have h1 : best ≤ nx1 false v best x ∧ (x ≤ v → x ≤ nx1 false v best x) := by
      unfold nx1
      simp only [Bool.false_eq_true, if_false]
      split <;> constructor <;> intros <;> omega
    rw [List.foldl_cons]
    refine ⟨Int.le_trans h1.1 h.1, fun t ht hv => ?_⟩
    rcases List.mem_cons.mp ht with rfl | ht
    · exact Int.le_trans (h1.2 hv) h.1
    · exact h.2 t ht hv
theorem thA_r {P : List St} {t : Int} (h : t ∈ thA P) : r5 t := by
  unfold thA at h
  rcases List.mem_append.mp h with h | h
  · exact thr_r h
  · simp at h; rcases h with rfl | rfl <;> constructor <;> omega
theorem thA_most (P : List St) : (2147483647 : Int) ∈ thA P := by unfold thA; simp
theorem thA_least (P : List St) : (-2147483648 : Int) ∈ thA P := by unfold thA; simp
theorem fnb_up {P : List St} {T : List Int} (h : tok T (thA P)) {v : Int} (h1 : -2147483648 < v) (h2 : v ≤ 2147483647) {a : Nat} (ha : fnb T v a) : gi T a = nxt P v true := by
  have e1 : v ≤ nxt P v true := nxt_up P h2
  have e2 : nxt P v true ∈ T := (h.2 _).mpr (nxt_mem P v true)
  obtain ⟨j, hj, ej⟩ := gi_mem.mp e2
  have e3 : gi T a ≤ nxt P v true := by
    rw [← ej]
    by_cases c : j < a
    · have := ha.2.1 j c; omega
    · exact sI_le h.1 (by omega) hj
  have e4 : nxt P v true ≤ gi T a := by
    have hm : gi T a ∈ thA P := (h.2 _).mp (gi_mem.mpr ⟨a, ha.1, rfl⟩)
    unfold thA at hm
    rcases List.mem_append.mp hm with hm | hm
    · exact (nx_upmin (v := v) (thr P) _).2 _ hm ha.2.2
    · have := ha.2.2
      have hm : gi T a = -2147483648 ∨ gi T a = 2147483647 := by simpa only [List.mem_cons, List.not_mem_nil, or_false] using hm
      rcases hm with hm | hm
      · omega
      · rw [hm]; exact (nx_upmin (v := v) (thr P) _).1
  omega
theorem fnb_dn {P : List St} {T : List Int} (h : tok T (thA P)) {v : Int} (h1 : -2147483648 ≤ v) (h2 : v < 2147483647) {a : Nat} (ha : fnb T v a) : (if gi T a = v ∨ a = 0 then gi T a else gi T (a - 1)) = nxt P v false := by
  have e1 : nxt P v false ≤ v := nxt_dn P h1
  have e2 : nxt P v false ∈ T := (h.2 _).mpr (nxt_mem P v false)
  have key : ∀ t, t ∈ T → t ≤ v → t ≤ nxt P v false := fun t ht hv => by
    have hm : t ∈ thA P := (h.2 _).mp ht
    unfold thA at hm
    rcases List.mem_append.mp hm with hm | hm
    · exact (nx_dnmax (v := v) (thr P) _).2 _ hm hv
    · simp at hm
      rcases hm with hm | hm
      · rw [hm]; exact (nx_dnmax (v := v) (thr P) _).1
      · omega
  obtain ⟨j, hj, ej⟩ := gi_mem.mp e2
  obtain ⟨i0, hi0, ei0⟩ := gi_mem.mp ((h.2 _).mpr (thA_least P))
  have hmem : gi T a ∈ T := gi_mem.mpr ⟨a, ha.1, rfl⟩
  by_cases c : gi T a = v
  · rw [if_pos (Or.inl c)]
    have := key _ hmem (by omega)
    omega
  · have hv := ha.2.2
    have ha1 := ha.1
    have hja : j < a := by
      apply Classical.byContradiction
      intro q
      have := sI_le h.1 (show a ≤ j by omega) hj
      omega
    rw [if_neg (show ¬ (gi T a = v ∨ a = 0) by omega)]
    have h3 := ha.2.1 (a - 1) (by omega)
    have h4 := key (gi T (a - 1)) (gi_mem.mpr ⟨a - 1, by omega, rfl⟩) (by omega)
    have h5 := sI_le h.1 (show j ≤ a - 1 by omega) (by have := ha.1; omega)
    omega
theorem tok_least {P : List St} {T : List Int} (h : tok T (thA P)) : 0 < T.length ∧ gi T 0 = -2147483648 := by
  obtain ⟨i, hi, ei⟩ := gi_mem.mp ((h.2 _).mpr (thA_least P))
  have h0 : gi T 0 ∈ thA P := (h.2 _).mp (gi_mem.mpr ⟨0, by omega, rfl⟩)
  have := thA_r h0
  have := sI_le h.1 (Nat.zero_le i) hi
  exact ⟨by omega, by omega⟩
theorem tok_most {P : List St} {T : List Int} (h : tok T (thA P)) {i : Nat} (hi : i < T.length) : gi T i = 2147483647 ↔ i = T.length - 1 := by
  obtain ⟨j, hj, ej⟩ := gi_mem.mp ((h.2 _).mpr (thA_most P))
  have hl : gi T (T.length - 1) ∈ thA P := (h.2 _).mp (gi_mem.mpr ⟨T.length - 1, by omega, rfl⟩)
  have h1 := thA_r hl
  have h2 := sI_le h.1 (show j ≤ T.length - 1 by omega) (by omega)
  constructor
  · intro e
    apply Classical.byContradiction
    intro q
    have := h.1 i (T.length - 1) (by omega) (by omega)
    omega
  · intro e
    rw [e]; omega
theorem thI_get {P : List St} {T : List Int} (h : tok T (thA P)) : ∀ (j i : Nat), i < T.length → thI P (gi T i) j = if i + j < T.length then some (gi T (i + j)) else none
  | 0, i, hi => by rw [if_pos (by omega)]; rfl
  | j + 1, i, hi => by
    show (if gi T i = 2147483647 then none else thI P (nxt P (gi T i + 1) true) j) = _
    by_cases c : gi T i = 2147483647
    · rw [if_pos c, if_neg]
      have := (tok_most h hi).mp c
      omega
    · rw [if_neg c]
      have h1 : i + 1 < T.length := by
        apply Classical.byContradiction
        intro q
        exact c ((tok_most h hi).mpr (by omega))
      have hr := thA_r ((h.2 _).mp (gi_mem.mpr ⟨i, hi, rfl⟩))
      have e : nxt P (gi T i + 1) true = gi T (i + 1) := (fnb_up h (v := gi T i + 1) (by omega) (by omega) (a := i + 1) ⟨h1, fun k hk => by have := sI_le h.1 (show k ≤ i by omega) hi; omega, by have := h.1 i (i + 1) (by omega) h1; omega⟩).symm
      rw [e, thI_get h j (i + 1) h1]
      rw [show i + 1 + j = i + (j + 1) by omega]
theorem thA_snoc (P : List St) (s : St) (v : Int) : v ∈ thA P ++ tS s ↔ v ∈ thA (P ++ [s]) := by
  unfold thA thr
  rw [List.flatMap_append]
  simp only [List.mem_append, List.flatMap_singleton]
  constructor
  · rintro ((h | h) | h)
    · exact Or.inl (Or.inl h)
    · exact Or.inr h
    · exact Or.inl (Or.inr h)
  · rintro ((h | h) | h)
    · exact Or.inl (Or.inl h)
    · exact Or.inr h
    · exact Or.inl (Or.inr h)
