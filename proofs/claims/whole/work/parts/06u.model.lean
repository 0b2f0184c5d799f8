/-! ROUNDS as a picture: a round, and their end -/
def dirA (P : List St) (A : RA) (s : Nat) (nm : Bool) (t : Nat) : RA × Bool := if aR A s = true then (match gvn (P.getD s st0) (aF A s) nm with | some G => giveA P A t G | none => (A, false)) else (A, false)
def nmA (P : List St) (s : Nat) : Nat := nmO (P.getD s st0)
def stpA (P : List St) (A : RA) (s : Nat) : RA × Bool := ((dirA P (dirA P A s true (nmA P s)).1 s false (s + 1)).1, (dirA P A s true (nmA P s)).2 || (dirA P (dirA P A s true (nmA P s)).1 s false (s + 1)).2)
def swpA (P : List St) (A : RA) : Nat → RA × Bool
  | 0 => (A, false)
  | s + 1 => ((stpA P (swpA P A s).1 s).1, (swpA P A s).2 || (stpA P (swpA P A s).1 s).2)
def rndA (P : List St) (A : RA) : RA × Bool := swpA P A P.length
/-- what s would give there is there already -/
def stl (P : List St) (A : RA) (s : Nat) (nm : Bool) (t : Nat) : Prop := aR A s = true → ∀ G, gvn (P.getD s st0) (aF A s) nm = some G → t < P.length → aR A t = true ∧ ∀ p, p < 8 → subS (G p) (aF A t p)
def stl2 (P : List St) (A : RA) (s : Nat) : Prop := stl P A s true (nmA P s) ∧ stl P A s false (s + 1)
theorem stl.keep {P : List St} {A A1 : RA} {s t : Nat} {nm : Bool} (h : stl P A s nm t) (hs : sameAt A A1 s) (hg : grA A A1) : stl P A1 s nm t := by
  intro hR G hG ht
  rw [hs.1] at hR
  rw [hs.2.1] at hG
  obtain ⟨q1, q2⟩ := h hR G hG ht
  exact ⟨(hg t q1).1, fun p hp => (q2 p hp).trans ((hg t q1).2 p hp)⟩
theorem stl2.keep {P : List St} {A A1 : RA} {s : Nat} (h : stl2 P A s) (hs : sameAt A A1 s) (hg : grA A A1) : stl2 P A1 s := ⟨h.1.keep hs hg, h.2.keep hs hg⟩
theorem dir_facts {P : List St} (hP : vP P) {A : RA} (hd : gdA P A) {s : Nat} (hs : s < P.length) (nm : Bool) (t : Nat) :
    gdA P (dirA P A s nm t).1 ∧ grA A (dirA P A s nm t).1 ∧ (∀ u, u ≠ t → sameAt A (dirA P A s nm t).1 u) ∧ ((dirA P A s nm t).2 = false → (dirA P A s nm t).1 = A) ∧ phi P (dirA P A s nm t).1 ≤ phi P A ∧ (isHd P t = true → (dirA P A s nm t).2 = true → phi P (dirA P A s nm t).1 < phi P A) ∧ ((s ≠ t ∨ (dirA P A s nm t).2 = false) → stl P (dirA P A s nm t).1 s nm t) ∧ (∀ u, aC (dirA P A s nm t).1 u ≤ aC A u + 1) ∧ (∀ u, aR A u = true → aR (dirA P A s nm t).1 u = true) := by
  unfold dirA
  by_cases c : aR A s = true
  · rw [if_pos c]
    cases hg : gvn (P.getD s st0) (aF A s) nm with
    | none =>
      dsimp only
      exact ⟨hd, grA.rf, fun u _ => ⟨rfl, rfl, rfl⟩, fun _ => rfl, Nat.le_refl _, fun _ h => (by cases h), fun _ hR G hG _ => (by rw [hg] at hG; cases hG), fun u => Nat.le_succ _, fun u h => h⟩
    | some G =>
      dsimp only
      have gG := gvn_ok (hP.2 s hs) (hd s hs c) hg
      have hph := give_phi hP.1 (t := t) hd gG
      refine ⟨give_gd hd gG, give_gr hd gG, fun u hu => give_other P A t G hu, fun h => give_no h, hph.1, fun hh h2 => ?_, fun hne hR G1 hG1 ht => ?_, fun u => give_C P A t G u, fun u h => give_R P A t G u h⟩
      · by_cases ht : t < P.length
        · exact hph.2 hh ht h2
        · rw [give_out ht] at h2; cases h2
      · have e : aF (giveA P A t G).1 s = aF A s := by
          rcases hne with h | h
          · exact (give_other P A t G h).2.1
          · rw [give_no h]
        rw [e, hg] at hG1
        cases hG1
        have := give_in hd gG ht
        exact ⟨this.1, fun p hp => (this.2.2 p hp).1⟩
  · rw [if_neg c]
    exact ⟨hd, grA.rf, fun u _ => ⟨rfl, rfl, rfl⟩, fun _ => rfl, Nat.le_refl _, fun _ h => (by cases h), fun _ hR => absurd hR c, fun u => Nat.le_succ _, fun u h => h⟩
theorem hd_of {P : List St} {s t : Nat} (hs : s < P.length) (ht : nmA P s = t) (h : t ≤ s) : isHd P t = true := by
  unfold isHd hdK
  rw [List.any_eq_true]
  exact ⟨s, List.mem_range.mpr hs, by rw [decide_eq_true_eq]; exact ⟨h, ht⟩⟩
/-- after a step: a HEAD changed, or the first s + 1 statements have given all -/
theorem stp_facts {P : List St} (hP : vP P) {A : RA} (hd : gdA P A) {s : Nat} (hs : s < P.length) (hst : ∀ u, u < s → stl2 P A u) :
    gdA P (stpA P A s).1 ∧ phi P (stpA P A s).1 ≤ phi P A ∧ (phi P (stpA P A s).1 < phi P A ∨ ∀ u, u < s + 1 → stl2 P (stpA P A s).1 u) := by
  unfold stpA
  dsimp only
  obtain ⟨a1, a2, a3, a4, a5, a6, a7, -, -⟩ := dir_facts hP hd hs true (nmA P s)
  generalize he : dirA P A s true (nmA P s) = B at *
  obtain ⟨b1, b2, b3, b4, b5, b6, b7, -, -⟩ := dir_facts hP a1 hs false (s + 1)
  refine ⟨b1, Nat.le_trans b5 a5, ?_⟩
  by_cases c : phi P B.1 < phi P A
  · exact Or.inl (by omega)
  · refine Or.inr (fun u hu => ?_)
    -- no HEAD changed by what was given to the named one
    have key : nmA P s ≤ s → B.2 = false := by
      intro h
      cases q : B.2 with
      | false => rfl
      | true => exact absurd (a6 (hd_of hs rfl h) q) c
    have st1 : ∀ v, v < s + 1 → sameAt A B.1 v := by
      intro v hv
      by_cases e : v = nmA P s
      · have : B.1 = A := a4 (key (by omega))
        rw [this]; exact ⟨rfl, rfl, rfl⟩
      · exact a3 v e
    have su : stl2 P B.1 u ∨ (u = s ∧ stl P B.1 s true (nmA P s)) := by
      by_cases e : u = s
      · refine Or.inr ⟨e, a7 ?_⟩
        by_cases e2 : s = nmA P s
        · exact Or.inr (key (by omega))
        · exact Or.inl e2
      · exact Or.inl ((hst u (by omega)).keep (st1 u hu) a2)
    have sm : sameAt B.1 (dirA P B.1 s false (s + 1)).1 u := b3 u (by omega)
    rcases su with h | ⟨rfl, h⟩
    · exact h.keep sm b2
    · exact ⟨h.keep sm b2, b7 (Or.inl (by omega))⟩
theorem stp_gd {P : List St} (hP : vP P) {A : RA} (hd : gdA P A) {s : Nat} (hs : s < P.length) : gdA P (stpA P A s).1 ∧ phi P (stpA P A s).1 ≤ phi P A ∧ grA A (stpA P A s).1 ∧ ∀ u, aC (stpA P A s).1 u ≤ aC A u + 2 := by
  unfold stpA
  dsimp only
  obtain ⟨a1, a2, a3, a4, a5, a6, a7, a8, -⟩ := dir_facts hP hd hs true (nmA P s)
  obtain ⟨b1, b2, b3, b4, b5, b6, b7, b8, -⟩ := dir_facts hP a1 hs false (s + 1)
  exact ⟨b1, Nat.le_trans b5 a5, a2.trans b2, fun u => by have := a8 u; have := b8 u; omega⟩
theorem swp_facts {P : List St} (hP : vP P) {A : RA} (hd : gdA P A) : ∀ s, s ≤ P.length → gdA P (swpA P A s).1 ∧ (phi P (swpA P A s).1 < phi P A ∨ (phi P (swpA P A s).1 ≤ phi P A ∧ ∀ u, u < s → stl2 P (swpA P A s).1 u)) ∧ grA A (swpA P A s).1 ∧ ∀ u, aC (swpA P A s).1 u ≤ aC A u + 2 * s
  | 0, _ => ⟨hd, Or.inr ⟨Nat.le_refl _, fun u hu => by omega⟩, grA.rf, fun u => Nat.le_refl _⟩
  | s + 1, hs => by
    obtain ⟨h1, h2, h3, h4⟩ := swp_facts hP hd s (by omega)
    unfold swpA
    dsimp only
    obtain ⟨g1, g2, g3, g4⟩ := stp_gd hP h1 (show s < P.length by omega)
    refine ⟨g1, ?_, h3.trans g3, fun u => by have := h4 u; have := g4 u; omega⟩
    rcases h2 with h | ⟨h, hst⟩
    · exact Or.inl (by omega)
    · obtain ⟨-, f2, f3⟩ := stp_facts hP h1 (show s < P.length by omega) hst
      rcases f3 with f | f
      · exact Or.inl (by omega)
      · exact Or.inr ⟨by omega, f⟩
def allS (P : List St) (A : RA) : Prop := ∀ u, u < P.length → stl2 P A u
theorem dir_still {P : List St} (hP : vP P) {A : RA} (hd : gdA P A) {s : Nat} (hs : s < P.length) {nm : Bool} {t : Nat} (h : stl P A s nm t) : dirA P A s nm t = (A, false) := by
  unfold dirA
  by_cases c : aR A s = true
  · rw [if_pos c]
    cases hg : gvn (P.getD s st0) (aF A s) nm with
    | none => rfl
    | some G =>
      dsimp only
      by_cases ht : t < P.length
      · obtain ⟨q1, q2⟩ := h c G hg ht
        exact give_sub hd (gvn_ok (hP.2 s hs) (hd s hs c) hg) ht q1 q2
      · exact give_out ht
  · rw [if_neg c]
theorem stp_still {P : List St} (hP : vP P) {A : RA} (hd : gdA P A) {s : Nat} (hs : s < P.length) (h : stl2 P A s) : stpA P A s = (A, false) := by
  unfold stpA
  rw [dir_still hP hd hs h.1]
  dsimp only
  rw [dir_still hP hd hs h.2]
  rfl
theorem swp_still {P : List St} (hP : vP P) {A : RA} (hd : gdA P A) (h : allS P A) : ∀ s, s ≤ P.length → swpA P A s = (A, false)
  | 0, _ => rfl
  | s + 1, hs => by
    unfold swpA
    rw [swp_still hP hd h s (by omega)]
    dsimp only
    rw [stp_still hP hd (by omega) (h s (by omega))]
    rfl
/-- ROUNDS are done within k of them -/
def Ter (P : List St) : RA → Nat → Prop
  | _, 0 => False
  | A, k + 1 => (rndA P A).2 = false ∨ Ter P (rndA P A).1 k
theorem ter_of {P : List St} (hP : vP P) : ∀ (d : Nat) (A : RA), gdA P A → phi P A ≤ d → Ter P A (2 * d + 2)
  | d, A, hd, h => by
    obtain ⟨h1, h2, -, -⟩ := swp_facts hP hd P.length (Nat.le_refl _)
    show (rndA P A).2 = false ∨ Ter P (rndA P A).1 (2 * d + 1)
    refine Or.inr ?_
    rcases h2 with q | ⟨q, hst⟩
    · match d, h with
      | 0, h => omega
      | d + 1, h => exact ter_up (ter_of hP d (rndA P A).1 h1 (by unfold rndA; omega)) (by omega)
    · show (rndA P (rndA P A).1).2 = false ∨ _
      left
      have := swp_still hP h1 hst P.length (Nat.le_refl _)
      unfold rndA
      rw [this]
where
  ter_up {P : List St} : ∀ {A : RA} {k k2 : Nat}, Ter P A k → k ≤ k2 → Ter P A k2
  | _, 0, _, h, _ => False.elim h
  | A, k + 1, 0, h, hk => by omega
  | A, k + 1, k2 + 1, h, hk => by
    rcases h with h | h
    · exact Or.inl h
    · exact Or.inr (ter_up h (by omega))
/-- the picture after ROUNDS, and how many they were -/
def fin (P : List St) : RA → Nat → RA × Nat
  | A, 0 => (A, 0)
  | A, k + 1 => if (rndA P A).2 = true then ((fin P (rndA P A).1 k).1, (fin P (rndA P A).1 k).2 + 1) else ((rndA P A).1, 1)
theorem fin_up {P : List St} : ∀ {k : Nat} {A : RA} (k2 : Nat), Ter P A k → k ≤ k2 → fin P A k2 = fin P A k
  | 0, _, _, h, _ => False.elim h
  | k + 1, A, 0, h, hk => by omega
  | k + 1, A, k2 + 1, h, hk => by
    unfold fin
    by_cases c : (rndA P A).2 = true
    · rw [if_pos c, if_pos c]
      rcases h with h | h
      · rw [h] at c; cases c
      · rw [fin_up k2 h (by omega)]
    · rw [if_neg c, if_neg c]
