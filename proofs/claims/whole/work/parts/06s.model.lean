/-! ROUNDS as a picture: sets only grow; they come to an end -/
def subS (X Y : List Sp) : Prop := ∀ z, inL X z → inL Y z
theorem subS.rf {X : List Sp} : subS X X := fun _ h => h
theorem subS.trans {X Y Z : List Sp} (h : subS X Y) (h2 : subS Y Z) : subS X Z := fun z hz => h2 z (h z hz)
theorem uni_sub : ∀ (L : List Sp) (i : Nat), cn L → subS L (uni L i)
  | [], i, _ => fun z h => absurd h inL_nil
  | [p], 0, _ => subS.rf
  | [p], i + 1, h => by
    unfold uni
    intro z hz
    rw [inL_cons] at hz ⊢
    rcases hz with h | h
    · exact Or.inl h
    · exact absurd h inL_nil
  | p :: r :: l, 0, h => by
    intro z hz
    have h1 := cn_head h
    have h2 := h.2.1
    have h3 := cn_head h.2.2
    unfold uni
    rw [inL_cons] at hz ⊢
    simp only
    rcases hz with q | q
    · exact Or.inl ⟨q.1, by omega⟩
    · rw [inL_cons] at q
      rcases q with q | q
      · exact Or.inl ⟨by omega, q.2⟩
      · exact Or.inr q
  | p :: r :: l, i + 1, h => by
    intro z hz
    unfold uni
    rw [inL_cons] at hz ⊢
    rcases hz with q | q
    · exact Or.inl q
    · exact Or.inr (uni_sub (r :: l) i (cn_tail h) z q)
theorem rdF_sub : ∀ (f : Nat) (N : List Sp), cn N → subS N (rdF f N)
  | 0, N, _ => subS.rf
  | f + 1, N, h => by
    unfold rdF
    split
    · exact subS.rf
    · have hb := bst_lt N (N.length - 1) (by omega)
      exact (uni_sub N _ h).trans (rdF_sub f _ (uni_cn h (by omega)))
theorem mkS_sub {L : List Sp} (h : okL L) : subS L (mkS L) := fun z hz => rdF_sub _ _ (nrm_cn L h) z ((nrm_in L h z).mpr hz)
theorem rdF_2 : ∀ (f : Nat) (N : List Sp), N.length ≤ 2 → rdF f N = N
  | 0, N, _ => rfl
  | f + 1, N, h => by unfold rdF; rw [if_pos h]
theorem nrm_self {N : List Sp} (h : cn N) : nrm N = N := (nrm_of h (cn_okL h) (fun _ => Iff.rfl)).symm
/-- a SET is MADE of itself -/
theorem mkS_cn {N : List Sp} (h : cn N) (h2 : N.length ≤ 2) : mkS N = N := by
  unfold mkS
  rw [nrm_self h]
  exact rdF_2 _ _ h2
theorem jn_sub {X Y : List Sp} (hX : okX X) (hY : okX Y) (h : subS Y X) : mkS (X ++ Y) = X := by
  have e : mkS (X ++ Y) = mkS X := mkS_eq (wl_app hX.wl hY.wl).1 hX.wl.1 (fun z => by
    rw [inL_app]
    exact ⟨fun q => q.elim id (h z), Or.inl⟩)
  rw [e, mkS_cn hX.1 hX.2.1]
theorem lo_le {X : List Sp} (h : cn X) {z : Int} (hz : inL X z) : lo1 X ≤ z := by
  obtain ⟨p, hp, h1, -⟩ := hz
  cases X with
  | nil => cases hp
  | cons r l =>
    show r.1 ≤ z
    rcases List.mem_cons.mp hp with rfl | hp
    · exact h1
    · have := cn_far h p hp
      have := cn_head h
      omega
theorem le_hi : ∀ {X : List Sp}, cn X → ∀ {z : Int}, inL X z → z ≤ hi1 X
  | [], _, z, hz => absurd hz inL_nil
  | [p], _, z, hz => by
    rw [inL_cons] at hz
    rcases hz with h | h
    · exact h.2
    · exact absurd h inL_nil
  | p :: r :: l, h, z, hz => by
    have e : hi1 (p :: r :: l) = hi1 (r :: l) := by
      unfold hi1
      simp
    rw [e]
    rw [inL_cons] at hz
    rcases hz with q | q
    · have h1 := le_hi (cn_tail h) (z := r.1) (inL_cons.mpr (Or.inl ⟨Int.le_refl _, cn_head h.2.2⟩))
      have := h.2.1
      omega
    · exact le_hi (cn_tail h) q
theorem lo_in {X : List Sp} (h : cn X) (h0 : X ≠ []) : inL X (lo1 X) := by
  cases X with
  | nil => exact absurd rfl h0
  | cons p l => exact inL_cons.mpr (Or.inl ⟨Int.le_refl _, cn_head h⟩)
theorem hi_in {X : List Sp} (h : cn X) (h0 : X ≠ []) : inL X (hi1 X) := by
  have hl := List.length_pos_iff.mpr h0
  have hm := getD_mem (L := X) (k := X.length - 1) (by omega)
  exact ⟨_, hm, cn_okL h _ hm, Int.le_refl _⟩
theorem wdn_sub (P : List St) {X Y : List Sp} (hY : okX Y) (h0 : Y ≠ []) : subS Y (wdn P X Y) := by
  intro z hz
  obtain ⟨h1, h2, h3, h4⟩ := wdn_ok P (X := X) hY h0
  have a := lo_le hY.1 hz
  have b := le_hi hY.1 hz
  exact ⟨(lo1 (wdn P X Y), hi1 (wdn P X Y)), by unfold wdn lo1 hi1; simp, by simp only; omega⟩
theorem grw_sub (P : List St) (wd : Bool) {X Y : List Sp} (hY : okX Y) (h0 : Y ≠ []) : subS Y (grw P wd X Y) := by
  unfold grw
  split
  · exact wdn_sub P hY h0
  · exact subS.rf
theorem cmL_wl {X Y : List Sp} (hX : wl X) (hY : wl Y) : wl (cmL X Y) := ⟨cmL_ok X Y, cmL_r5 hX.2 hY.2⟩
theorem cutX_ok {X : List Sp} (hX : okX X) {a b : Int} (h : a ≤ b → r5 a ∧ r5 b) : okX (cutX X a b) := by
  unfold cutX
  refine mkS_ok (cmL_wl hX.wl ?_)
  split
  · rename_i c; exact wl_one c (h c).1 (h c).2
  · exact wl_nil
theorem shp_ok {r : Nat} {X Y : List Sp} (hX : okX X) (hY : okX Y) (nX : X ≠ []) (nY : Y ≠ []) : okX (shp r X Y).1 ∧ okX (shp r X Y).2 := by
  have a := lo1_r hX nX
  have b := hi1_r hX nX
  have c := lo1_r hY nY
  have d := hi1_r hY nY
  unfold shp
  split
  · split
    · exact ⟨cutX_ok hX (fun h => ⟨by constructor <;> omega, by constructor <;> omega⟩), cutX_ok hY (fun h => ⟨by constructor <;> omega, by constructor <;> omega⟩)⟩
    · exact ⟨cutX_ok hX (fun h => ⟨by constructor <;> omega, by constructor <;> omega⟩), cutX_ok hY (fun h => ⟨by constructor <;> omega, by constructor <;> omega⟩)⟩
  · split
    · split
      · exact ⟨cutX_ok hX (fun h => ⟨by constructor <;> omega, by constructor <;> omega⟩), cutX_ok hY (fun h => ⟨by constructor <;> omega, by constructor <;> omega⟩)⟩
      · exact ⟨cutX_ok hX (fun h => ⟨by constructor <;> omega, by constructor <;> omega⟩), cutX_ok hY (fun h => ⟨by constructor <;> omega, by constructor <;> omega⟩)⟩
    · split
      · exact ⟨mkS_ok (cmL_wl hX.wl hY.wl), mkS_ok (cmL_wl hX.wl hY.wl)⟩
      · split
        · refine ⟨?_, ?_⟩
          · simp only
            split
            · exact mkS_ok (losL_wl hX.wl _)
            · exact hX
          · simp only
            split
            · exact mkS_ok (losL_wl hY.wl _)
            · exact hY
        · split
          · exact ⟨cutX_ok hX (fun h => ⟨by constructor <;> omega, by constructor <;> omega⟩), hY⟩
          · exact ⟨hX, hY⟩
theorem makL_wl {s : St} {F : Nat → List Sp} (hv : vS s) (hk : s.1 ≤ 10) (hF : ∀ p, p < 8 → okX (F p)) : wl (makL s F) := by
  unfold makL
  split
  · exact wl_one (Int.le_refl _) (i_rng _) (i_rng _)
  · split
    · rename_i c; exact wl_one (hv.2.2.2.2.2.2.2.1 c) (i_rng _) (i_rng _)
    · split
      · exact (hF _ (hv.2.2.1 (by omega)).lt).wl
      · have hb := hF _ (hv.2.2.1 (by omega)).lt
        exact wl_flat (fun p hp => oneP_wl hv (fun c => hF _ (hv.2.2.2.1 (by omega)).lt) (cn_okL hb.1 p hp) (hb.2.2 p hp).1 (hb.2.2 p hp).2)
/-- sets as they must be, at each of the 8 places -/
def gdF (F : Nat → List Sp) : Prop := ∀ p, p < 8 → okX (F p) ∧ F p ≠ []
theorem gdF.up {F : Nat → List Sp} (h : gdF F) {a : Nat} {X : List Sp} (hX : okX X) (h0 : X ≠ []) : gdF (up1 F a X) := by
  intro p hp
  by_cases e : p = a
  · subst e; rw [up1_eq]; exact ⟨hX, h0⟩
  · rw [up1_ne _ _ e]; exact h p hp
theorem gvn_ok {s : St} {F G : Nat → List Sp} {nm : Bool} (hv : vS s) (hF : gdF F) (h : gvn s F nm = some G) : gdF G := by
  unfold gvn at h
  split at h
  · cases h
  · split at h
    · split at h
      · cases h; exact hF
      · cases h
    · split at h
      · split at h
        · cases h
        · split at h
          · cases h
          · rename_i c1 c2 c3 c4 c5
            cases h
            exact hF.up (mkS_ok (makL_wl hv (by omega) (fun p hp => (hF p hp).1))) c5
      · split at h
        · split at h
          · cases h; exact hF
          · cases h
        · generalize (if nm = true then s.1 - 11 else notR (s.1 - 11)) = q at h
          split at h
          · rename_i c1 c2 c3 c4 c5
            cases h
            have k19 := hv.1
            have pa := (hv.2.1 (by omega)).lt
            have pb := (hv.2.2.1 (by omega)).lt
            have ho := shp_ok (r := q) (hF _ pa).1 (hF _ pb).1 (hF _ pa).2 (hF _ pb).2
            exact (hF.up ho.1 c5.1).up ho.2 c5.2
          · cases h
/-- a program of sound statements -/
def vP (P : List St) : Prop := P.length ≤ 40 ∧ ∀ a, a < P.length → vS (P.getD a st0)
def gdA (P : List St) (A : RA) : Prop := ∀ t, t < P.length → aR A t = true → gdF (aF A t)
def grA (A A1 : RA) : Prop := ∀ t, aR A t = true → aR A1 t = true ∧ ∀ p, p < 8 → subS (aF A t p) (aF A1 t p)
theorem grA.rf {A : RA} : grA A A := fun _ h => ⟨h, fun _ _ => subS.rf⟩
theorem grA.trans {A B C : RA} (h : grA A B) (h2 : grA B C) : grA A C := fun t ht => ⟨(h2 t (h t ht).1).1, fun p hp => ((h t ht).2 p hp).trans ((h2 t (h t ht).1).2 p hp)⟩
def sameAt (A A1 : RA) (u : Nat) : Prop := aR A1 u = aR A u ∧ aF A1 u = aF A u ∧ aC A1 u = aC A u
theorem chK_no {F G : Nat → List Sp} : ∀ {j : Nat}, chK F G j = false → ∀ p, p < j → jn F G p = F p
  | 0, _, p, hp => by omega
  | j + 1, h, p, hp => by
    unfold chK at h
    rw [Bool.or_eq_false_iff, decide_eq_false_iff_not, Classical.not_not] at h
    by_cases e : p = j
    · rw [e]; exact h.2
    · exact chK_no h.1 p (by omega)
theorem chK_yes {F G : Nat → List Sp} : ∀ {j : Nat}, chK F G j ≠ false → ∃ p, p < j ∧ jn F G p ≠ F p
  | 0, h => absurd rfl h
  | j + 1, h => by
    by_cases e : jn F G j = F j
    · have : chK F G j ≠ false := fun q => h (by unfold chK; rw [q, decide_eq_false (fun z => z e)]; rfl)
      obtain ⟨p, hp, hq⟩ := chK_yes this
      exact ⟨p, by omega, hq⟩
    · exact ⟨j, by omega, e⟩
theorem give_other (P : List St) (A : RA) (t : Nat) (G : Nat → List Sp) {u : Nat} (h : u ≠ t) : sameAt A (giveA P A t G).1 u := by
  unfold giveA giveB
  split
  · exact ⟨rfl, rfl, rfl⟩
  · split
    · exact ⟨up1_ne _ _ h, up1_ne _ _ h, rfl⟩
    · split
      · exact ⟨rfl, rfl, rfl⟩
      · exact ⟨rfl, up1_ne _ _ h, up1_ne _ _ h⟩
theorem give_no {P : List St} {A : RA} {t : Nat} {G : Nat → List Sp} (h : (giveA P A t G).2 = false) : (giveA P A t G).1 = A := by
  unfold giveA giveB at h ⊢
  split at h
  · rename_i c; rw [if_pos c]
  · rename_i c
    rw [if_neg c]
    split at h
    · cases h
    · rename_i c2
      rw [if_neg c2]
      split at h
      · rename_i c3; rw [if_pos c3]
      · cases h
theorem give_R (P : List St) (A : RA) (t : Nat) (G : Nat → List Sp) (u : Nat) (h : aR A u = true) : aR (giveA P A t G).1 u = true := by
  unfold giveA giveB
  split
  · exact h
  · split
    · show up1 (aR A) t true u = true
      by_cases e : u = t
      · rw [e, up1_eq]
      · rw [up1_ne _ _ e]; exact h
    · split
      · exact h
      · exact h
/-- what is given lies in what is there then; what was there stays -/
theorem give_in {P : List St} {A : RA} {t : Nat} {G : Nat → List Sp} (hd : gdA P A) (hG : gdF G) (ht : t < P.length) : aR (giveA P A t G).1 t = true ∧ gdF (aF (giveA P A t G).1 t) ∧ ∀ p, p < 8 → subS (G p) (aF (giveA P A t G).1 t p) ∧ (aR A t = true → subS (aF A t p) (aF (giveA P A t G).1 t p)) := by
  unfold giveA giveB
  rw [if_neg (by omega)]
  split
  · rename_i c
    refine ⟨up1_eq _ _ _, ?_, fun p hp => ⟨?_, fun h => by rw [c] at h; cases h⟩⟩
    · intro p hp
      show okX (up1 (aF A) t (cut8 G) t p) ∧ up1 (aF A) t (cut8 G) t p ≠ []
      rw [up1_eq, cut8_lt hp]; exact hG p hp
    · show subS (G p) (up1 (aF A) t (cut8 G) t p)
      rw [up1_eq, cut8_lt hp]; exact subS.rf
  · rename_i c
    have hR : aR A t = true := by simpa using c
    have hF := hd t ht hR
    have key : ∀ p, p < 8 → okX (jn (aF A t) (cut8 G) p) ∧ jn (aF A t) (cut8 G) p ≠ [] ∧ subS (aF A t p) (jn (aF A t) (cut8 G) p) ∧ subS (G p) (jn (aF A t) (cut8 G) p) := by
      intro p hp
      have h1 := (hF p hp).1
      have h2 : okX (cut8 G p) := by rw [cut8_lt hp]; exact (hG p hp).1
      have hs := mkS_sub (wl_app h1.wl h2.wl).1
      refine ⟨jn_ok h1 h2, jn_ne h1 h2 (hF p hp).2, fun z hz => hs z (inL_app.mpr (Or.inl hz)), fun z hz => hs z (inL_app.mpr (Or.inr ?_))⟩
      rw [cut8_lt hp]; exact hz
    split
    · rename_i c2
      have e := chK_no c2
      refine ⟨hR, hF, fun p hp => ⟨?_, fun _ => subS.rf⟩⟩
      have := (key p hp).2.2.2
      rw [e p hp] at this; exact this
    · refine ⟨hR, ?_, fun p hp => ⟨?_, fun _ => ?_⟩⟩
      · intro p hp
        show okX (up1 (aF A) t _ t p) ∧ up1 (aF A) t _ t p ≠ []
        rw [up1_eq, cut8_lt hp]
        exact grw_ok P _ (key p hp).1 (key p hp).2.1
      · show subS (G p) (up1 (aF A) t _ t p)
        rw [up1_eq, cut8_lt hp]
        exact (key p hp).2.2.2.trans (grw_sub P _ (key p hp).1 (key p hp).2.1)
      · show subS (aF A t p) (up1 (aF A) t _ t p)
        rw [up1_eq, cut8_lt hp]
        exact (key p hp).2.2.1.trans (grw_sub P _ (key p hp).1 (key p hp).2.1)
theorem give_out {P : List St} {A : RA} {t : Nat} {G : Nat → List Sp} (ht : ¬ t < P.length) : giveA P A t G = (A, false) := by
  unfold giveA giveB
  rw [if_pos (by omega)]
theorem give_gr {P : List St} {A : RA} {t : Nat} {G : Nat → List Sp} (hd : gdA P A) (hG : gdF G) : grA A (giveA P A t G).1 := by
  intro u hu
  refine ⟨give_R P A t G u hu, fun p hp => ?_⟩
  by_cases e : u = t
  · subst e
    by_cases ht : u < P.length
    · exact ((give_in hd hG ht).2.2 p hp).2 hu
    · rw [give_out ht]; exact subS.rf
  · rw [(give_other P A t G e).2.1]; exact subS.rf
theorem give_gd {P : List St} {A : RA} {t : Nat} {G : Nat → List Sp} (hd : gdA P A) (hG : gdF G) : gdA P (giveA P A t G).1 := by
  intro u hu hR
  by_cases e : u = t
  · subst e; exact (give_in hd hG hu).2.1
  · rw [(give_other P A t G e).2.1]
    rw [(give_other P A t G e).1] at hR
    exact hd u hu hR
/-- given again, what is there already: nothing changes -/
theorem give_sub {P : List St} {A : RA} {t : Nat} {G : Nat → List Sp} (hd : gdA P A) (hG : gdF G) (ht : t < P.length) (hR : aR A t = true) (hs : ∀ p, p < 8 → subS (G p) (aF A t p)) : giveA P A t G = (A, false) := by
  unfold giveA giveB
  rw [if_neg (by omega), if_neg (by rw [hR]; decide), if_pos]
  have key : ∀ j, j ≤ 8 → chK (aF A t) (cut8 G) j = false := by
    intro j
    induction j with
    | zero => intro _; rfl
    | succ j ih =>
      intro hj
      unfold chK
      rw [ih (by omega), Bool.false_or, decide_eq_false_iff_not, Classical.not_not]
      unfold jn
      rw [cut8_lt (show j < 8 by omega)]
      exact jn_sub (hd t ht hR j (by omega)).1 (hG j (by omega)).1 (hs j (by omega))
  exact key 8 (Nat.le_refl _)
theorem give_C (P : List St) (A : RA) (t : Nat) (G : Nat → List Sp) (u : Nat) : aC (giveA P A t G).1 u ≤ aC A u + 1 := by
  unfold giveA giveB
  split
  · exact Nat.le_succ _
  · split
    · exact Nat.le_succ _
    · split
      · exact Nat.le_succ _
      · show up1 (aC A) t _ u ≤ _
        by_cases e : u = t
        · rw [e, up1_eq]; exact Nat.le_refl _
        · rw [up1_ne _ _ e]; exact Nat.le_succ _
