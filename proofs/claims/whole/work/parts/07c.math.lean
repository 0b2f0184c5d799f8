/-! the class's rounds: what isn't stirred gives nothing new -/
def qt (P : List St) (A : RA) (st : Nat → Bool) : Prop := ∀ u, u < P.length → aR A u = true → st u = false → stl2 P A u
def mkr (st : Nat → Bool) (c : Bool) (t : Nat) : Nat → Bool := if c = true then up1 st t true else st
theorem mkr_no {st : Nat → Bool} {c : Bool} {t u : Nat} (h : mkr st c t u = false) : st u = false ∧ (u ≠ t ∨ c = false) := by
  unfold mkr at h
  cases c with
  | true =>
    rw [if_pos rfl] at h
    by_cases e : u = t
    · rw [e, up1_eq] at h; cases h
    · rw [up1_ne _ _ e] at h; exact ⟨h, Or.inl e⟩
  | false => rw [if_neg (by decide)] at h; exact ⟨h, Or.inr rfl⟩
theorem give_new {P : List St} {A : RA} {t u : Nat} {G : Nat → List Sp} (h : aR (giveA P A t G).1 u = true) : aR A u = true ∨ (u = t ∧ (giveA P A t G).2 = true) := by
  by_cases e : u = t
  · by_cases c : (giveA P A t G).2 = true
    · exact Or.inr ⟨e, c⟩
    · rw [give_no (by simpa using c)] at h; exact Or.inl h
  · rw [(give_other P A t G e).1] at h; exact Or.inl h
theorem dir_new {P : List St} {A : RA} {s t u : Nat} {nm : Bool} (h : aR (dirA P A s nm t).1 u = true) : aR A u = true ∨ (u = t ∧ (dirA P A s nm t).2 = true) := by
  by_cases c : aR A s = true
  · cases hg : gvn (P.getD s st0) (aF A s) nm with
    | none => rw [dirA_none hg] at h; exact Or.inl h
    | some G => rw [dirA_some c hg] at h ⊢; exact give_new h
  · rw [dirA_out (by simpa using c)] at h; exact Or.inl h
theorem qt_dir {P : List St} (hP : vP P) {A : RA} (hd : gdA P A) {s : Nat} (hs : s < P.length) {st : Nat → Bool} {nm : Bool} {t : Nat} (h : ∀ u, u < P.length → u ≠ s → aR A u = true → st u = false → stl2 P A u) : ∀ u, u < P.length → u ≠ s → aR (dirA P A s nm t).1 u = true → mkr st (dirA P A s nm t).2 t u = false → stl2 P (dirA P A s nm t).1 u := by
  intro u hu hne hR hst
  obtain ⟨f1, f2, f3, f4, -⟩ := dir_facts hP hd hs nm t
  obtain ⟨g1, g2⟩ := mkr_no hst
  rcases g2 with g2 | g2
  · have hR0 : aR A u = true := by
      rcases dir_new hR with h | h
      · exact h
      · exact absurd h.1 g2
    exact (h u hu hne hR0 g1).keep (f3 u g2) f2
  · rw [f4 g2] at hR ⊢
    exact h u hu hne hR g1
theorem qt_step {P : List St} (hP : vP P) {A : RA} (hd : gdA P A) {s : Nat} (hs : s < P.length) {st : Nat → Bool} (h : qt P A st) : qt P (stpA P A s).1 (mkr (mkr (up1 st s false) (dirA P A s true (nmA P s)).2 (nmA P s)) (dirA P (dirA P A s true (nmA P s)).1 s false (s + 1)).2 (s + 1)) := by
  obtain ⟨f1, f2, f3, f4, -, -, f7, -⟩ := dir_facts hP hd hs true (nmA P s)
  have h1 := qt_dir hP hd hs (nm := true) (t := nmA P s) (st := up1 st s false) (fun u hu hne hR hst => h u hu hR (by rw [up1_ne _ _ hne] at hst; exact hst))
  have h2 := qt_dir hP f1 hs (nm := false) (t := s + 1) h1
  obtain ⟨g1, g2, g3, g4, -, -, g7, -⟩ := dir_facts hP f1 hs false (s + 1)
  intro u hu hR hst
  by_cases e : u = s
  · subst e
    obtain ⟨k1, -⟩ := mkr_no hst
    obtain ⟨-, k2⟩ := mkr_no k1
    exact ⟨(f7 k2).keep (g3 u (by omega)) g2, g7 (Or.inl (by omega))⟩
  · exact h2 u hu e hR hst
theorem qt_off {P : List St} {A : RA} {st : Nat → Bool} (h : qt P A st) {s : Nat} (hs : s < P.length) (c : ¬ (aR A s = true ∧ st s = true)) (hP : vP P) (hd : gdA P A) : stpA P A s = (A, false) := by
  by_cases c1 : aR A s = true
  · exact stp_still hP hd hs (h s hs c1 (by cases h9 : st s with | false => rfl | true => exact absurd ⟨c1, h9⟩ c))
  · have c2 : aR A s = false := by simpa using c1
    unfold stpA
    rw [dirA_out c2]
    dsimp only
    rw [dirA_out c2]
    rfl
theorem isHd_out {P : List St} {t : Nat} (h : P.length ≤ t) : isHd P t = false := by
  unfold isHd hdK
  rw [List.any_eq_false]
  intro u hu
  have := List.mem_range.mp hu
  simp
  omega
theorem isHd_snoc (P : List St) (s : St) (t : Nat) : isHd (P ++ [s]) t = (isHd P t || decide (t ≤ P.length ∧ nmO s = t)) := by
  unfold isHd hdK
  rw [List.length_append, List.length_singleton, List.range_succ, List.any_append]
  congr 1
  · rw [Bool.eq_iff_iff, List.any_eq_true, List.any_eq_true]
    constructor
    · rintro ⟨u, hu, h⟩
      have := List.mem_range.mp hu
      refine ⟨u, hu, ?_⟩
      rw [List.getD_eq_getElem?_getD, List.getElem?_append_left (by omega)] at h
      rw [List.getD_eq_getElem?_getD]; exact h
    · rintro ⟨u, hu, h⟩
      have := List.mem_range.mp hu
      refine ⟨u, hu, ?_⟩
      rw [List.getD_eq_getElem?_getD, List.getElem?_append_left (by omega)]
      rw [List.getD_eq_getElem?_getD] at h; exact h
  · simp
-- one place after the other, as the class does it
def ggJ (P : List St) (wd : Bool) (F G : Nat → List Sp) (j : Nat) : Nat → List Sp := fun p => if p < j then grw P wd (F p) (jn F G p) else F p
theorem ggJ_0 (P : List St) (wd : Bool) (F G : Nat → List Sp) : ggJ P wd F G 0 = F := by
  funext p; unfold ggJ; rw [if_neg (by omega)]
theorem ggJ_at {P : List St} {wd : Bool} {F G : Nat → List Sp} {j p : Nat} (h : j ≤ p) : ggJ P wd F G j p = F p := by unfold ggJ; rw [if_neg (by omega)]
theorem ggJ_1 (P : List St) (wd : Bool) (F G : Nat → List Sp) (j : Nat) : up1 (ggJ P wd F G j) j (grw P wd (F j) (jn F G j)) = ggJ P wd F G (j + 1) := by
  funext p
  unfold up1 ggJ
  by_cases e : p = j
  · rw [if_pos e, if_pos (by omega), e]
  · rw [if_neg e]
    by_cases c : p < j
    · rw [if_pos c, if_pos (by omega)]
    · rw [if_neg c, if_neg (by omega)]
theorem ggJ_same {P : List St} {wd : Bool} {F G : Nat → List Sp} {j : Nat} (h : jn F G j = F j) : ggJ P wd F G (j + 1) = ggJ P wd F G j := by
  rw [← ggJ_1, h]
  have e : grw P wd (F j) (F j) = ggJ P wd F G j j := by
    rw [ggJ_at (Nat.le_refl _)]
    unfold grw
    rw [if_neg (fun q => q.2 rfl)]
  rw [e]
  funext p
  unfold up1
  split
  · rename_i c; rw [c]
  · rfl
theorem giveA_eq {P : List St} {A : RA} {t : Nat} {G : Nat → List Sp} (ht : t < P.length) (hR : aR A t = true) : giveA P A t G = if chK (aF A t) G 8 = false then (A, false) else ((aR A, up1 (aF A) t (cut8 (ggJ P (isHd P t && decide (4 ≤ aC A t + 1)) (aF A t) G 8)), up1 (aC A) t (aC A t + 1), aW A + cwK (isHd P t && decide (4 ≤ aC A t + 1)) (aF A t) (jn (aF A t) G) 8), true) := by
  unfold giveA giveB
  rw [if_neg (by omega), if_neg (by rw [hR]; decide)]
  have e1 : chK (aF A t) (cut8 G) 8 = chK (aF A t) G 8 := chK_congr (fun _ _ => rfl) (fun p hp => cut8_lt hp) 8 (Nat.le_refl _)
  have e2 : ∀ p, p < 8 → jn (aF A t) (cut8 G) p = jn (aF A t) G p := fun p hp => by unfold jn; rw [cut8_lt hp]
  have e3 : cwK (isHd P t && decide (4 ≤ aC A t + 1)) (aF A t) (jn (aF A t) (cut8 G)) 8 = cwK (isHd P t && decide (4 ≤ aC A t + 1)) (aF A t) (jn (aF A t) G) 8 := cwK_congr (fun _ _ => rfl) e2 8 (Nat.le_refl _)
  have e4 : cut8 (fun p => grw P (isHd P t && decide (4 ≤ aC A t + 1)) (aF A t p) (jn (aF A t) (cut8 G) p)) = cut8 (ggJ P (isHd P t && decide (4 ≤ aC A t + 1)) (aF A t) G 8) := cut8_congr (fun p hp => by unfold ggJ; rw [if_pos hp, e2 p hp])
  rw [e1, e3, e4]
