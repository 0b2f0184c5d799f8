/-! ROUNDS as a picture: a HEAD changes only so often -/
def thA (P : List St) : List Int := thr P ++ [-2147483648, 2147483647]
theorem tS_len (s : St) : (tS s).length ≤ 2 := by
  unfold tS
  rw [List.length_append]
  refine Nat.le_trans (Nat.add_le_add (b := 1) (d := 1) ?_ ?_) (by omega)
  · split <;> simp
  · split <;> simp
theorem thr_len (P : List St) : (thr P).length ≤ 2 * P.length := by
  unfold thr
  induction P with
  | nil => simp
  | cons s l ih =>
    rw [List.flatMap_cons, List.length_append, List.length_cons]
    have := tS_len s
    omega
theorem nx_mem (up : Bool) (v : Int) : ∀ (L : List Int) (best : Int), L.foldl (nx1 up v) best = best ∨ L.foldl (nx1 up v) best ∈ L
  | [], best => Or.inl rfl
  | t :: l, best => by
    show l.foldl (nx1 up v) (nx1 up v best t) = best ∨ _
    have h : nx1 up v best t = best ∨ nx1 up v best t = t := by
      unfold nx1
      by_cases c : (if up = true then v ≤ t ∧ t < best else t ≤ v ∧ best < t)
      · exact Or.inr (if_pos c)
      · exact Or.inl (if_neg c)
    rcases nx_mem up v l (nx1 up v best t) with q | q
    · rcases h with h | h
      · exact Or.inl (q.trans h)
      · exact Or.inr (by
          show l.foldl (nx1 up v) (nx1 up v best t) ∈ t :: l
          rw [q, h]; exact List.mem_cons_self)
    · exact Or.inr (List.mem_cons_of_mem _ q)
theorem nxt_mem (P : List St) (v : Int) (up : Bool) : nxt P v up ∈ thA P := by
  unfold nxt thA
  rcases nx_mem up v (thr P) (if up = true then 2147483647 else -2147483648) with h | h
  · rw [h]; cases up <;> simp
  · exact List.mem_append_left _ h
def cb (P : List St) (v : Int) : Nat := ((thA P).filter (fun x => decide (x < v))).length
def ca (P : List St) (v : Int) : Nat := ((thA P).filter (fun x => decide (v < x))).length
theorem filter_le {L : List Int} {f g : Int → Bool} (h : ∀ x, f x = true → g x = true) : (L.filter f).length ≤ (L.filter g).length := by
  induction L with
  | nil => simp
  | cons a l ih =>
    rw [List.filter_cons, List.filter_cons]
    by_cases c : f a = true
    · rw [if_pos c, if_pos (h a c)]; simp; exact ih
    · rw [if_neg c]
      split
      · simp; omega
      · exact ih
theorem filter_lt {L : List Int} {f g : Int → Bool} (h : ∀ x, f x = true → g x = true) {x : Int} (hx : x ∈ L) (hf : f x = false) (hg : g x = true) : (L.filter f).length < (L.filter g).length := by
  induction L with
  | nil => cases hx
  | cons a l ih =>
    rw [List.filter_cons, List.filter_cons]
    rcases List.mem_cons.mp hx with rfl | hx
    · rw [if_neg (by rw [hf]; decide), if_pos hg]
      have := filter_le (L := l) h
      simp; omega
    · have := ih hx
      by_cases c : f a = true
      · rw [if_pos c, if_pos (h a c)]; simp; exact this
      · rw [if_neg c]
        split
        · simp; omega
        · exact this
theorem cb_le (P : List St) {v w : Int} (h : v ≤ w) : cb P v ≤ cb P w := filter_le (fun x hx => by rw [decide_eq_true_eq] at hx ⊢; omega)
theorem ca_le (P : List St) {v w : Int} (h : w ≤ v) : ca P v ≤ ca P w := filter_le (fun x hx => by rw [decide_eq_true_eq] at hx ⊢; omega)
theorem cb_lt (P : List St) {v w : Int} (h : v < w) (hm : v ∈ thA P) : cb P v < cb P w := filter_lt (fun x hx => by rw [decide_eq_true_eq] at hx ⊢; omega) hm (by rw [decide_eq_false_iff_not]; omega) (by rw [decide_eq_true_eq]; omega)
theorem ca_lt (P : List St) {v w : Int} (h : w < v) (hm : v ∈ thA P) : ca P v < ca P w := filter_lt (fun x hx => by rw [decide_eq_true_eq] at hx ⊢; omega) hm (by rw [decide_eq_false_iff_not]; omega) (by rw [decide_eq_true_eq]; omega)
theorem thA_len {P : List St} (h : P.length ≤ 40) : (thA P).length ≤ 82 := by
  unfold thA
  rw [List.length_append]
  have := thr_len P
  simp
  omega
theorem cb_82 {P : List St} (h : P.length ≤ 40) (v : Int) : cb P v ≤ 82 := Nat.le_trans (List.length_filter_le _ _) (thA_len h)
theorem ca_82 {P : List St} (h : P.length ≤ 40) (v : Int) : ca P v ≤ 82 := Nat.le_trans (List.length_filter_le _ _) (thA_len h)
def mu (P : List St) (X : List Sp) : Nat := (if X.length = 1 then 0 else 1) + cb P (lo1 X) + ca P (hi1 X)
theorem mu_165 {P : List St} (h : P.length ≤ 40) (X : List Sp) : mu P X ≤ 165 := by
  unfold mu
  have := cb_82 h (lo1 X)
  have := ca_82 h (hi1 X)
  split <;> omega
/-- a set that is widened comes nearer to its last -/
theorem mu_lt (P : List St) {X Y : List Sp} (hX : okX X) (nX : X ≠ []) (hY : okX Y) (nY : Y ≠ []) (hs : subS X Y) (hne : Y ≠ X) : mu P (wdn P X Y) < mu P X := by
  have l1 := lo_le hY.1 (hs _ (lo_in hX.1 nX))
  have l2 := le_hi hY.1 (hs _ (hi_in hX.1 nX))
  have e1 : lo1 (wdn P X Y) = (if lo1 Y < lo1 X then nxt P (lo1 Y) false else lo1 Y) := rfl
  have e2 : hi1 (wdn P X Y) = (if hi1 X < hi1 Y then nxt P (hi1 Y) true else hi1 Y) := rfl
  have d1 := nxt_dn P (lo1_r hY nY).1
  have d2 := nxt_up P (hi1_r hY nY).2
  have a1 : cb P (lo1 (wdn P X Y)) ≤ cb P (lo1 X) := by
    rw [e1]; split
    · exact cb_le P (by omega)
    · exact cb_le P (by omega)
  have a2 : ca P (hi1 (wdn P X Y)) ≤ ca P (hi1 X) := by
    rw [e2]; split
    · exact ca_le P (by omega)
    · exact ca_le P (by omega)
  have e3 : (wdn P X Y).length = 1 := rfl
  unfold mu
  rw [if_pos e3]
  by_cases c : X.length = 1
  · rw [if_pos c]
    by_cases c1 : lo1 Y < lo1 X
    · have : cb P (lo1 (wdn P X Y)) < cb P (lo1 X) := by
        rw [e1, if_pos c1]
        exact cb_lt P (by omega) (nxt_mem P _ _)
      omega
    · by_cases c2 : hi1 X < hi1 Y
      · have : ca P (hi1 (wdn P X Y)) < ca P (hi1 X) := by
          rw [e2, if_pos c2]
          exact ca_lt P (by omega) (nxt_mem P _ _)
        omega
      · exfalso
        apply hne
        refine cn_unique Y X hY.1 hX.1 (fun z => ⟨fun hz => ?_, hs z⟩)
        have q1 := lo_le hY.1 hz
        have q2 := le_hi hY.1 hz
        match X, c with
        | [p], _ =>
          refine inL_cons.mpr (Or.inl ?_)
          have g1 : lo1 [p] = p.1 := rfl
          have g2 : hi1 [p] = p.2 := rfl
          omega
  · rw [if_neg c]; omega
def muS (P : List St) (F : Nat → List Sp) : Nat → Nat
  | 0 => 0
  | j + 1 => muS P F j + mu P (F j)
theorem muS_le {P : List St} (h : P.length ≤ 40) (F : Nat → List Sp) : ∀ j, muS P F j ≤ 165 * j
  | 0 => Nat.le_refl _
  | j + 1 => by
    have := muS_le h F j
    have := mu_165 h (F j)
    unfold muS
    omega
theorem muS_mono {P : List St} {F F1 : Nat → List Sp} : ∀ j, (∀ p, p < j → mu P (F1 p) ≤ mu P (F p)) → muS P F1 j ≤ muS P F j
  | 0, _ => Nat.le_refl _
  | j + 1, h => by
    have h1 := muS_mono j (fun p hp => h p (by omega))
    have h2 := h j (by omega)
    unfold muS
    omega
theorem muS_lt {P : List St} {F F1 : Nat → List Sp} : ∀ j, (∀ p, p < j → mu P (F1 p) ≤ mu P (F p)) → (∃ p, p < j ∧ mu P (F1 p) < mu P (F p)) → muS P F1 j < muS P F j
  | 0, _, h => by obtain ⟨p, hp, -⟩ := h; omega
  | j + 1, h, h2 => by
    obtain ⟨p, hp, hq⟩ := h2
    have h3 := h j (by omega)
    unfold muS
    by_cases e : p = j
    · subst e
      have h1 := muS_mono p (fun p hp => h p (by omega))
      omega
    · have h1 := muS_lt j (fun p hp => h p (by omega)) ⟨p, by omega, hq⟩
      omega
/-- how often a HEAD can still change -/
def psi (P : List St) (A : RA) (t : Nat) : Nat := if aR A t = false then 5284 else if aC A t < 3 then (3 - aC A t) * 1321 + 1320 else muS P (aF A t) 8
theorem psi_le {P : List St} (h : P.length ≤ 40) (A : RA) (t : Nat) : psi P A t ≤ 5284 := by
  have := muS_le h (aF A t) 8
  unfold psi
  split
  · exact Nat.le_refl _
  · split
    · omega
    · omega
theorem psi_same {P : List St} {A A1 : RA} {u : Nat} (h : sameAt A A1 u) : psi P A1 u = psi P A u := by
  unfold psi
  rw [h.1, h.2.1, h.2.2]
theorem psi_lt {P : List St} (hP : P.length ≤ 40) {A : RA} {t : Nat} {G : Nat → List Sp} (hd : gdA P A) (hG : gdF G) (hh : isHd P t = true) (h2 : (giveA P A t G).2 = true) : psi P (giveA P A t G).1 t < psi P A t := by
  unfold giveA giveB at h2 ⊢
  by_cases c0 : P.length ≤ t
  · rw [if_pos c0] at h2; cases h2
  · rw [if_neg c0] at h2 ⊢
    by_cases c1 : aR A t = false
    · rw [if_pos c1]
      have e : psi P A t = 5284 := by unfold psi; rw [if_pos c1]
      rw [e]
      have hm := muS_le hP (cut8 G) 8
      unfold psi
      rw [if_neg (by show ¬ up1 (aR A) t true t = false; rw [up1_eq]; decide)]
      show (if aC A t < 3 then (3 - aC A t) * 1321 + 1320 else muS P (up1 (aF A) t (cut8 G) t) 8) < 5284
      rw [up1_eq]
      split <;> omega
    · rw [if_neg c1] at h2 ⊢
      by_cases c2 : chK (aF A t) (cut8 G) 8 = false
      · rw [if_pos c2] at h2; cases h2
      · rw [if_neg c2]
        have hR : aR A t = true := by simpa using c1
        have hF := hd t (by omega) hR
        unfold psi
        rw [if_neg c1]
        show (if aR A t = false then _ else if up1 (aC A) t (aC A t + 1) t < 3 then (3 - up1 (aC A) t (aC A t + 1) t) * 1321 + 1320 else muS P (up1 (aF A) t (cut8 fun p => grw P (isHd P t && decide (4 ≤ aC A t + 1)) (aF A t p) (jn (aF A t) (cut8 G) p)) t) 8) < _
        rw [if_neg c1, up1_eq, up1_eq]
        have hm := muS_le hP (cut8 fun p => grw P (isHd P t && decide (4 ≤ aC A t + 1)) (aF A t p) (jn (aF A t) (cut8 G) p)) 8
        by_cases c3 : aC A t < 3
        · rw [if_pos c3]
          split <;> omega
        · rw [if_neg c3, if_neg (by omega)]
          rw [hh, decide_eq_true (show 4 ≤ aC A t + 1 by omega), Bool.and_self]
          have key : ∀ p, p < 8 → jn (aF A t) (cut8 G) p ≠ aF A t p → mu P (cut8 (fun p => grw P true (aF A t p) (jn (aF A t) (cut8 G) p)) p) < mu P (aF A t p) := by
            intro p hp hne
            have h1 := (hF p hp).1
            have h2 : okX (cut8 G p) := by rw [cut8_lt hp]; exact (hG p hp).1
            have hs := mkS_sub (wl_app h1.wl h2.wl).1
            rw [cut8_lt hp]
            unfold grw
            rw [if_pos ⟨rfl, Ne.symm hne⟩]
            exact mu_lt P h1 (hF p hp).2 (jn_ok h1 h2) (jn_ne h1 h2 (hF p hp).2) (fun z hz => hs z (inL_app.mpr (Or.inl hz))) hne
          refine muS_lt 8 (fun p hp => ?_) ?_
          · by_cases e : jn (aF A t) (cut8 G) p = aF A t p
            · rw [cut8_lt hp]
              unfold grw
              rw [if_neg (fun q => q.2 e.symm), e]
              exact Nat.le_refl _
            · exact Nat.le_of_lt (key p hp e)
          · obtain ⟨p, hp, hne⟩ := chK_yes c2
            exact ⟨p, hp, key p hp hne⟩
def phK (P : List St) (A : RA) : Nat → Nat
  | 0 => 0
  | t + 1 => phK P A t + (if isHd P t = true then psi P A t else 0)
/-- how often HEADS can still change -/
def phi (P : List St) (A : RA) : Nat := phK P A P.length
theorem phK_le {P : List St} (h : P.length ≤ 40) (A : RA) : ∀ j, phK P A j ≤ 5284 * j
  | 0 => Nat.le_refl _
  | j + 1 => by
    have := phK_le h A j
    have := psi_le h A j
    unfold phK
    split <;> omega
theorem phi_le {P : List St} (h : P.length ≤ 40) (A : RA) : phi P A ≤ 211360 := by
  have := phK_le h A P.length
  unfold phi
  omega
theorem phK_mono {P : List St} {A A1 : RA} : ∀ j, (∀ u, u < j → isHd P u = true → psi P A1 u ≤ psi P A u) → phK P A1 j ≤ phK P A j
  | 0, _ => Nat.le_refl _
  | j + 1, h => by
    have h1 := phK_mono j (fun u hu => h u (by omega))
    unfold phK
    split
    · rename_i c; have := h j (by omega) c; omega
    · omega
theorem phK_lt {P : List St} {A A1 : RA} : ∀ j, (∀ u, u < j → isHd P u = true → psi P A1 u ≤ psi P A u) → (∃ u, u < j ∧ isHd P u = true ∧ psi P A1 u < psi P A u) → phK P A1 j < phK P A j
  | 0, _, h => by obtain ⟨p, hp, -⟩ := h; omega
  | j + 1, h, h2 => by
    obtain ⟨u, hu, hh, hl⟩ := h2
    unfold phK
    by_cases e : u = j
    · subst e
      have h1 := phK_mono u (fun v hv => h v (by omega))
      rw [if_pos hh, if_pos hh]
      omega
    · have h1 := phK_lt j (fun v hv => h v (by omega)) ⟨u, by omega, hh, hl⟩
      split
      · rename_i c; have := h j (by omega) c; omega
      · omega
theorem give_phi {P : List St} (hP : P.length ≤ 40) {A : RA} {t : Nat} {G : Nat → List Sp} (hd : gdA P A) (hG : gdF G) : phi P (giveA P A t G).1 ≤ phi P A ∧ (isHd P t = true → t < P.length → (giveA P A t G).2 = true → phi P (giveA P A t G).1 < phi P A) := by
  have key : ∀ u, u < P.length → isHd P u = true → psi P (giveA P A t G).1 u ≤ psi P A u := by
    intro u hu hh
    by_cases e : u = t
    · subst e
      by_cases c : (giveA P A u G).2 = true
      · exact Nat.le_of_lt (psi_lt hP hd hG hh c)
      · rw [give_no (by simpa using c)]; exact Nat.le_refl _
    · rw [psi_same (give_other P A t G e)]; exact Nat.le_refl _
  exact ⟨phK_mono _ key, fun hh ht h2 => phK_lt _ key ⟨t, ht, hh, psi_lt hP hd hG hh h2⟩⟩
