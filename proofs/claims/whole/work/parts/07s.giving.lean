/-! the class: giving -/
/-- program p, solver u; the k-th Statement at E k; behind bs all is the program's -/
def wS (M : gM) (p u d bs : Nat) (E : Nat → Nat) (P : List St) : Prop := pR M p ∧ uR M u p ∧ aL M (p + 1) d P.length E ∧ sA M (p + 2) ∧ (∃ T, tH M (p + 11) T (thA P)) ∧ vP P ∧ (∀ k, k < P.length → sQ M (E k) (P.getD k st0) ∧ mI M (E k) 5 = bI (isHd P k)) ∧ p + 12 < u ∧ u + 28 < bs ∧ (∀ k, k < P.length → bs ≤ E k) ∧ ∀ j k, j < k → k < P.length → E j + 10 ≤ E k
def stm (E : Nat → Nat) (len : Nat) : Nat → Nat → Prop := fun i k => ∃ t, t < len ∧ E t ≤ i ∧ i ≤ E t + 9 ∧ (i = E t → 6 ≤ k)
def fZ (u : Nat) (E : Nat → Nat) (len : Nat) : Nat → Nat → Prop := fun i k => (u ≤ i ∧ i ≤ u + 28) ∨ stm E len i k
theorem wS.apart {M : gM} {p u d bs : Nat} {E : Nat → Nat} {P : List St} (h : wS M p u d bs E P) {j k : Nat} (hj : j < P.length) (hk : k < P.length) (hne : j ≠ k) : E j + 10 ≤ E k ∨ E k + 10 ≤ E j := by
  rcases Nat.lt_or_gt_of_ne hne with q | q
  · exact Or.inl (h.2.2.2.2.2.2.2.2.2.2 j k q hk)
  · exact Or.inr (h.2.2.2.2.2.2.2.2.2.2 k j q hj)
theorem wS.dis {M : gM} {p u d bs : Nat} {E : Nat → Nat} {P : List St} (h : wS M p u d bs E P) {k : Nat} (hk : k < P.length) : dis (E k) (u + 1) := by
  have h1 := h.2.2.2.2.2.2.2.2.2.1 k hk
  have h2 := h.2.2.2.2.2.2.2.2.1
  unfold Jvm.Pilot.CWholeSpansLaw_law_r3418_190b4e.dis
  omega
theorem wS.off {M M1 : gM} {p u d bs : Nat} {E : Nat → Nat} {P : List St} (h : wS M p u d bs E P) (ho : Off M M1 (fZ u E P.length)) : wS M1 p u d bs E P := by
  obtain ⟨h1, h2, h3, h4, ⟨T, h5⟩, h6, h7, h8, h9, h10, h11⟩ := h
  have low : ∀ i k, i < u → ¬ fZ u E P.length i k := fun i k hi q => by
    rcases q with q | ⟨t, ht, q1, q2, -⟩
    · omega
    · have := h10 t ht; omega
  have own : ∀ j k, j < P.length → k < 6 → ¬ fZ u E P.length (E j) k := fun j k hj hk q => by
    have hb := h10 j hj
    rcases q with q | ⟨t, ht, q1, q2, q3⟩
    · omega
    · by_cases e : t = j
      · rw [e] at q3; have := q3 rfl; omega
      · rcases Nat.lt_or_gt_of_ne e with z | z
        · have := h11 t j z hj; omega
        · have := h11 j t z ht; omega
  exact ⟨h1.off ho, h2.off ho, h3.off ho (low _ _ (by omega)), h4.off ho, ⟨T, h5.off ho (fun i k q => low i k (by unfold fT2 at q; omega))⟩, h6, fun k hk => ⟨(h7 k hk).1.off ho (fun j hj => own k j hk (by omega)), (ho.i (own k 5 hk (by omega))).trans (h7 k hk).2⟩, h8, h9, h10, h11⟩
/-- the facts, as the Statements hold them -/
def fE (M : gM) (E : Nat → Nat) (len : Nat) (A : RA) (st : Nat → Bool) : Prop := ∀ k, k < len → mI M (E k) 6 = bI (aR A k) ∧ mI M (E k) 7 = bI (st k) ∧ mI M (E k) 8 = nI (aC A k) ∧ (aR A k = true → sE M (E k + 1) (aF A k))
theorem fE.at {M M1 : gM} {E : Nat → Nat} {len t : Nat} {A A1 : RA} {st st1 : Nat → Bool} {S : Nat → Nat → Prop} (h : fE M E len A st) (ho : Off M M1 S) (hS : ∀ j i k, j < len → j ≠ t → S i k → E j ≤ i → i ≤ E j + 9 → False) (he : ∀ k, k < len → k ≠ t → sameAt A A1 k ∧ st1 k = st k)
    (ht : t < len → mI M1 (E t) 6 = bI (aR A1 t) ∧ mI M1 (E t) 7 = bI (st1 t) ∧ mI M1 (E t) 8 = nI (aC A1 t) ∧ (aR A1 t = true → sE M1 (E t + 1) (aF A1 t))) : fE M1 E len A1 st1 := by
  intro k hk
  by_cases e : k = t
  · subst e; exact ht hk
  · obtain ⟨h1, h2, h3, h4⟩ := h k hk
    obtain ⟨⟨g1, g2, g3⟩, g4⟩ := he k hk e
    have hn : ∀ i j, E k ≤ i → i ≤ E k + 9 → ¬ S i j := fun i j h1 h2 q => hS k i j hk e q h1 h2
    rw [ho.i (hn _ _ (by omega) (by omega)), ho.i (hn _ _ (by omega) (by omega)), ho.i (hn _ _ (by omega) (by omega)), g1, g2, g3, g4]
    exact ⟨h1, h2, h3, fun q => (h4 q).off ho (fun i j h8 h9 => hn i j (by omega) (by omega))⟩
theorem fE.off {M M1 : gM} {E : Nat → Nat} {len : Nat} {A : RA} {st : Nat → Bool} {S : Nat → Nat → Prop} (h : fE M E len A st) (ho : Off M M1 S) (hS : ∀ j i k, j < len → S i k → E j ≤ i → i ≤ E j + 9 → False) : fE M1 E len A st := by
  intro k hk
  obtain ⟨h1, h2, h3, h4⟩ := h k hk
  have hn : ∀ i j, E k ≤ i → i ≤ E k + 9 → ¬ S i j := fun i j h1 h2 q => hS k i j hk q h1 h2
  rw [ho.i (hn _ _ (by omega) (by omega)), ho.i (hn _ _ (by omega) (by omega)), ho.i (hn _ _ (by omega) (by omega))]
  exact ⟨h1, h2, h3, fun q => (h4 q).off ho (fun i j h8 h9 => hn i j (by omega) (by omega))⟩
def fGt (u e : Nat) : Nat → Nat → Prop := fun i k => (i = u ∧ k = 6) ∨ (u + 16 ≤ i ∧ i ≤ u + 18) ∨ i = u + 28 ∨ (e + 2 ≤ i ∧ i ≤ e + 9) ∨ (i = e ∧ k = 8)
def fGs (u : Nat) (E : Nat → Nat) (len : Nat) : Nat → Nat → Prop := fun i k => (i = u ∧ k = 6) ∨ (u + 16 ≤ i ∧ i ≤ u + 18) ∨ i = u + 28 ∨ stm E len i k
theorem fGs_Z {u len i k : Nat} {E : Nat → Nat} (h : fGs u E len i k) : fZ u E len i k := by
  rcases h with h | h | h | h
  · left; omega
  · left; omega
  · left; omega
  · exact Or.inr h
theorem fGt_Gs {u len t i k : Nat} {E : Nat → Nat} (ht : t < len) (h : fGt u (E t) i k) : fGs u E len i k := by
  unfold fGt at h
  rcases h with h | h | h | h | h
  · exact Or.inl h
  · exact Or.inr (Or.inl h)
  · exact Or.inr (Or.inr (Or.inl h))
  · exact Or.inr (Or.inr (Or.inr ⟨t, ht, by omega, by omega, fun q => by omega⟩))
  · exact Or.inr (Or.inr (Or.inr ⟨t, ht, by omega, by omega, fun q => by omega⟩))
def giI (M M1 : gM) (u e : Nat) (P : List St) (A : RA) (t : Nat) (G : Nat → List Sp) (wd : Bool) (j : Nat) : Prop := Off M M1 (fGt u e) ∧ sE M1 (e + 1) (ggJ P wd (aF A t) G j) ∧ mI M1 e 8 = nI (aC A t + if chK (aF A t) G j = true then 1 else 0) ∧ mI M1 u 6 = nI (aW A + cwK wd (aF A t) (jn (aF A t) G) j)
theorem chK_s (F G : Nat → List Sp) (j : Nat) : chK F G (j + 1) = (chK F G j || decide (jn F G j ≠ F j)) := rfl
theorem giI.same {M M1 : gM} {u e t j : Nat} {P : List St} {A : RA} {G : Nat → List Sp} {wd : Bool} (h : giI M M1 u e P A t G wd j) (hj : jn (aF A t) G j = aF A t j) : giI M M1 u e P A t G wd (j + 1) ∧ chK (aF A t) G (j + 1) = chK (aF A t) G j := by
  have e1 : chK (aF A t) G (j + 1) = chK (aF A t) G j := by rw [chK_s, decide_eq_false (fun q => q hj), Bool.or_false]
  have e2 : cwK wd (aF A t) (jn (aF A t) G) (j + 1) = cwK wd (aF A t) (jn (aF A t) G) j := by rw [cwK_s, if_neg (fun q => q.2 hj.symm)]; rfl
  unfold giI
  rw [e1, e2, ggJ_same hj]
  exact ⟨h, rfl⟩
set_option maxHeartbeats 4000000 in
set_option maxRecDepth 100000 in
theorem k_give {M : gM} {n p u d bs t : Nat} {E : Nat → Nat} {P : List St} {A : RA} {G : Nat → List Sp} {wd : Bool} {Q : gθ} (hW : wS M p u d bs E P) (hR : sE M (E t + 1) (aF A t)) (hG : sE M (u + 1 + 4) G) (hGd : gdF G) (hFd : gdF (aF A t)) (ht : t < P.length) (hC : aC A t < 2000000000) (hwd : wd = (isHd P t && decide (4 ≤ aC A t + 1))) (hk : ∀ M1, giI M M1 u (E t) P A t G wd 8 → GW μX2_giveTo (gRm 3 71 0 0) Q 0 0 155 [some (.ref u), some (.int (nI t)), some (.ref (E t)), some (.int (bI (chK (aF A t) G 8))), none, none] [] M1 n) : ∀ (d9 : Nat) (j : Nat) (M1 : gM), 8 - j < d9 → j ≤ 8 → giI M M1 u (E t) P A t G wd j → GW μX2_giveTo (gRm 3 71 0 0) Q 0 0 53 [some (.ref u), some (.int (nI t)), some (.ref (E t)), some (.int (bI (chK (aF A t) G j))), some (.int (nI j)), none] [] M1 n := by
  intro d9
  induction d9 with
  | zero =>
    intro j M1 hd hj hI
    omega
  | succ d9 ih =>
    intro j M1 hd hj hI
    have hlay := hW.2.2.2.2.2.2.2.2.1
    have hbs := hW.2.2.2.2.2.2.2.2.2.1 t ht
    have hu1 := hW.2.1.off hI.1
    have hs1 := (hW.2.2.2.2.2.2.1 t ht).1.off hI.1 (fun k hk q => by unfold fGt at q; omega)
    have hG1 := hG.off hI.1 (fun i k h1 h2 q => by unfold fGt at q; omega)
    refine g_iload dX2_giveTo_53 rfl ?_
    refine g_bipush (v := nI 8) dX2_giveTo_55 rfl ?_
    refine g_icmp_ge (tgt := 155) dX2_giveTo_57 (by decide) (fun c_57 => ?_) (fun c_57 => ?_)
    · skip
      rw [nI_leI (by omega) (by omega)] at c_57
      refine g_drop 4 ?_
      rw [show j = 8 by omega] at hI ⊢
      exact hk M1 hI
    · skip
      rw [nI_leI (by omega) (by omega)] at c_57
      have hjl : j < 8 := by omega
      have hX1 := hI.2.1.2 j hjl
      rw [ggJ_at (Nat.le_refl _)] at hX1
      have hY1 := hG1.2 j hjl
      have nX := (hFd j hjl).2
      have nY := (hGd j hjl).2
      refine g_aload_n dX2_giveTo_60 rfl ?_
      refine g_getR (f := 4) dX2_giveTo_61 cl5 hs1.1 (by decide) (Or.inr (List.mem_of_getElem? (i := 18) rfl)) (Or.inl rfl) rfl hs1.2.2.2.2.2.1 ?_
      refine g_iload dX2_giveTo_64 rfl ?_
      refine g_aaloadS dX2_giveTo_66 (j := j) hs1.2.2.2.2.2.2.1 hs1.2.2.2.2.2.2.2.1 rfl hjl (by decide) (hs1.2.2.2.2.2.2.2.2 j hjl).1 ?_
      refine g_astore dX2_giveTo_67 (Nat.le_of_ble_eq_true rfl) ?_
      refine g_aload dX2_giveTo_69 rfl ?_
      refine g_aload_n dX2_giveTo_71 rfl ?_
      refine g_getR (f := 1) dX2_giveTo_72 cl3 hu1.1 (by decide) (Or.inl (iw_4 10 rfl)) (Or.inl rfl) rfl hu1.2.1.2.1 ?_
      refine g_getR (f := 1) dX2_giveTo_75 cl6 hu1.2.2.1.1 (by decide) (Or.inr (List.mem_of_getElem? (i := 17) rfl)) (Or.inl rfl) rfl hu1.2.2.1.2.1.2.1 ?_
      refine g_iload dX2_giveTo_78 rfl ?_
      refine g_aaloadS dX2_giveTo_80 (j := j) hu1.2.2.1.2.2.2.1.1 hu1.2.2.1.2.2.2.1.2.1 rfl hjl (by decide) (hu1.2.2.1.2.2.2.1.2.2 j hjl).1 ?_
      refine g_callV dX2_giveTo_81 sX3_isSame (c_isSame M1 n (E t + 1 + 1 + j) (u + 1 + 4 + 1 + j) (aF A t j) (G j) hX1 hY1 nX nY) cl4 hX1.1 iX3_isSame vX3_isSame (iw_20 10 rfl) rfl rfl (Nat.le_of_ble_eq_true rfl) (Nat.le_of_ble_eq_true rfl) (Nat.le_of_ble_eq_true rfl) (Nat.le_of_ble_eq_true rfl) (Nat.le_of_ble_eq_true rfl) ?_
      intro r9 M9 n9 h9
      obtain ⟨h91, h92, h93⟩ := h9
      rw [h91, h92, h93]
      clear h91 h92 h93 r9 M9 n9
      refine g_if_ne (tgt := 149) dX2_giveTo_84 (by decide) (fun c_84 => ?_) (fun c_84 => ?_)
      · skip
        refine g_drop 5 ?_
        refine g_iinc dX2_giveTo_149 rfl (nI_1 j) (Nat.le_of_ble_eq_true rfl) ?_
        refine g_goto (tgt := 53) dX2_giveTo_152 (by decide) ?_
        have hlay := hW.2.2.2.2.2.2.2.2.1
        have hbs := hW.2.2.2.2.2.2.2.2.2.1 t ht
        have hu1 := hW.2.1.off hI.1
        have hs1 := (hW.2.2.2.2.2.2.1 t ht).1.off hI.1 (fun k hk q => by unfold fGt at q; omega)
        have hG1 := hG.off hI.1 (fun i k h1 h2 q => by unfold fGt at q; omega)
        first
          | (have q9 := hO4
             have ec : chK (aF A t) G (j + 1) = true := by rw [chK_s, decide_eq_true (show jn (aF A t) G j ≠ aF A t j from fun q => dF c_119 q.symm), Bool.or_true]
             rw [show nI 1 = bI (chK (aF A t) G (j + 1)) by rw [ec]; rfl]
             refine ih (j + 1) M4 (by omega) (by omega) ⟨hO3'.trans (hO4.mono (fun i k q => by unfold fGt; omega)), ?_, ?_, ?_⟩
             · rw [← ggJ_1, hwd]
               rw [hwd] at hS3
               exact hS3.up hO4 (fun i k q h1 h2 => by omega) hI4
             · rw [hO4.i (fun q => by omega), e38, ec]; rfl
             · rw [h46, e36, nI_add, cwK_s, ← hwd, Nat.add_assoc]
               congr 3
               by_cases q : wd = true
               · rw [if_pos q, if_pos ⟨q, dF c_119⟩]
               · rw [if_neg q, if_neg (fun z => q z.1)])
          | (have q9 := hO2
             obtain ⟨g1, g2⟩ := hI2'.same (dT c_119).symm
             rw [← g2]
             exact ih (j + 1) M2 (by omega) (by omega) g1)
          | (have eq9 := dT c_84
             obtain ⟨g1, g2⟩ := hI.same (show jn (aF A t) G j = aF A t j by unfold jn; exact jn_sub hX1.2.1 hY1.2.1 (by rw [eq9]; exact subS.rf))
             rw [← g2]
             exact ih (j + 1) M1 (by omega) (by omega) g1)
      · skip
        refine g_aload_n dX2_giveTo_87 rfl ?_
        refine g_getR (f := 2) dX2_giveTo_88 cl3 hu1.1 (by decide) (Or.inl (iw_4 14 rfl)) (Or.inl rfl) rfl hu1.2.1.2.2.1 ?_
        refine g_aload dX2_giveTo_91 rfl ?_
        refine g_aload_n dX2_giveTo_93 rfl ?_
        refine g_getR (f := 1) dX2_giveTo_94 cl3 hu1.1 (by decide) (Or.inl (iw_4 10 rfl)) (Or.inl rfl) rfl hu1.2.1.2.1 ?_
        refine g_getR (f := 1) dX2_giveTo_97 cl6 hu1.2.2.1.1 (by decide) (Or.inr (List.mem_of_getElem? (i := 17) rfl)) (Or.inl rfl) rfl hu1.2.2.1.2.1.2.1 ?_
        refine g_iload dX2_giveTo_100 rfl ?_
        refine g_aaloadS dX2_giveTo_102 (j := j) hu1.2.2.1.2.2.2.1.1 hu1.2.2.1.2.2.2.1.2.1 rfl hjl (by decide) (hu1.2.2.1.2.2.2.1.2.2 j hjl).1 ?_
        refine g_aload_n dX2_giveTo_103 rfl ?_
        refine g_getR (f := 4) dX2_giveTo_104 cl3 hu1.1 (by decide) (Or.inl (iw_4 17 rfl)) (Or.inl rfl) rfl hu1.2.1.2.2.2.2 ?_
        refine g_callV dX2_giveTo_107 sX0_makeJoined (c_joined M1 n (u + 16) (E t + 1 + 1 + j) (u + 1 + 4 + 1 + j) (u + 28) (aF A t j) (G j) hu1.2.2.2.1 hX1 hY1 hu1.2.2.2.2.2) cl1 hu1.2.2.2.1.1 iX0_makeJoined vX0_makeJoined (iw_20 14 rfl) rfl rfl (Nat.le_of_ble_eq_true rfl) (Nat.le_of_ble_eq_true rfl) (Nat.le_of_ble_eq_true rfl) (Nat.le_of_ble_eq_true rfl) (Nat.le_of_ble_eq_true rfl) ?_
        intro r9 M2 n9 h9
        obtain ⟨h91, h93, hO2, hI2⟩ := h9
        rw [h91, h93]
        clear h91 h93 r9 n9
        have hO2' : Off M M2 (fGt u (E t)) := hI.1.trans (hO2.mono (fun i k q => by unfold fGt; unfold fY at q; omega))
        have hs2 := hs1.off hO2 (fun k _ q => by unfold fY at q; omega)
        have hX2 := hX1.off hO2 (fun k q => by unfold fY at q; omega)
        have hu2 := hu1.off hO2
        have e28 : mI M2 (E t) 8 = nI (aC A t + if chK (aF A t) G j = true then 1 else 0) := (hO2.i (fun q => by unfold fY at q; omega)).trans hI.2.2.1
        have e26 : mI M2 u 6 = nI (aW A + cwK wd (aF A t) (jn (aF A t) G) j) := (hO2.i (fun q => by unfold fY at q; omega)).trans hI.2.2.2
        have hI2' : giI M M2 u (E t) P A t G wd j := ⟨hO2', hI.2.1.off hO2 (fun i k h1 h2 q => by unfold fY at q; omega), e28, e26⟩
        refine g_aload dX2_giveTo_110 rfl ?_
        refine g_aload_n dX2_giveTo_112 rfl ?_
        refine g_getR (f := 4) dX2_giveTo_113 cl3 hu2.1 (by decide) (Or.inl (iw_4 17 rfl)) (Or.inl rfl) rfl hu2.2.1.2.2.2.2 ?_
        refine g_callV dX2_giveTo_116 sX3_isSame (c_isSame M2 n (E t + 1 + 1 + j) (u + 28) (aF A t j) (jn (aF A t) G j) hX2 hI2 nX (jn_ne hX1.2.1 hY1.2.1 nX)) cl4 hX2.1 iX3_isSame vX3_isSame (iw_20 10 rfl) rfl rfl (Nat.le_of_ble_eq_true rfl) (Nat.le_of_ble_eq_true rfl) (Nat.le_of_ble_eq_true rfl) (Nat.le_of_ble_eq_true rfl) (Nat.le_of_ble_eq_true rfl) ?_
        intro r9 M9 n9 h9
        obtain ⟨h91, h92, h93⟩ := h9
        rw [h91, h92, h93]
        clear h91 h92 h93 r9 M9 n9
        refine g_if_ne (tgt := 149) dX2_giveTo_119 (by decide) (fun c_119 => ?_) (fun c_119 => ?_)
        · skip
          refine g_drop 5 ?_
          refine g_iinc dX2_giveTo_149 rfl (nI_1 j) (Nat.le_of_ble_eq_true rfl) ?_
          refine g_goto (tgt := 53) dX2_giveTo_152 (by decide) ?_
          have hlay := hW.2.2.2.2.2.2.2.2.1
          have hbs := hW.2.2.2.2.2.2.2.2.2.1 t ht
          have hu1 := hW.2.1.off hI.1
          have hs1 := (hW.2.2.2.2.2.2.1 t ht).1.off hI.1 (fun k hk q => by unfold fGt at q; omega)
          have hG1 := hG.off hI.1 (fun i k h1 h2 q => by unfold fGt at q; omega)
          first
            | (have q9 := hO4
               have ec : chK (aF A t) G (j + 1) = true := by rw [chK_s, decide_eq_true (show jn (aF A t) G j ≠ aF A t j from fun q => dF c_119 q.symm), Bool.or_true]
               rw [show nI 1 = bI (chK (aF A t) G (j + 1)) by rw [ec]; rfl]
               refine ih (j + 1) M4 (by omega) (by omega) ⟨hO3'.trans (hO4.mono (fun i k q => by unfold fGt; omega)), ?_, ?_, ?_⟩
               · rw [← ggJ_1, hwd]
                 rw [hwd] at hS3
                 exact hS3.up hO4 (fun i k q h1 h2 => by omega) hI4
               · rw [hO4.i (fun q => by omega), e38, ec]; rfl
               · rw [h46, e36, nI_add, cwK_s, ← hwd, Nat.add_assoc]
                 congr 3
                 by_cases q : wd = true
                 · rw [if_pos q, if_pos ⟨q, dF c_119⟩]
                 · rw [if_neg q, if_neg (fun z => q z.1)])
            | (have q9 := hO2
               obtain ⟨g1, g2⟩ := hI2'.same (dT c_119).symm
               rw [← g2]
               exact ih (j + 1) M2 (by omega) (by omega) g1)
            | (have eq9 := dT c_84
               obtain ⟨g1, g2⟩ := hI.same (show jn (aF A t) G j = aF A t j by unfold jn; exact jn_sub hX1.2.1 hY1.2.1 (by rw [eq9]; exact subS.rf))
               rw [← g2]
               exact ih (j + 1) M1 (by omega) (by omega) g1)
        · skip
          refine g_aload_n dX2_giveTo_122 rfl ?_
          refine g_dup dX2_giveTo_123 rfl ?_
          refine g_getI (f := 8) dX2_giveTo_124 cl5 hs2.1 (by decide) (Or.inr (List.mem_of_getElem? (i := 19) rfl)) (Or.inl rfl) (Or.inl rfl) ?_
          refine g_iload_n dX2_giveTo_127 rfl ?_
          refine g_if_eq (tgt := 135) dX2_giveTo_128 (by decide) (fun c_128 => ?_) (fun c_128 => ?_)
          · skip
            refine g_iconst (v := nI 1) dX2_giveTo_135 rfl ?_
            refine g_iadd dX2_giveTo_136 ?_
            have e9 : ∀ z : Int32, (z = nI 1 ∧ chK (aF A t) G j = false) ∨ (z = nI 0 ∧ chK (aF A t) G j = true) → mI M2 (E t) 8 + z = nI (aC A t + 1) := fun z hz => by
              rw [e28]
              rcases hz with ⟨rfl, q⟩ | ⟨rfl, q⟩
              · rw [q]; exact nI_add _ _
              · rw [q]; exact nI_add _ _
            first
              | (rw [bI_eq0, Bool.not_eq_false] at c_128
                 rw [e9 (nI 0) (Or.inr ⟨rfl, c_128⟩)])
              | (rw [bI_eq0] at c_128
                 rw [e9 (nI 1) (Or.inl ⟨rfl, c_128⟩)])
            clear c_128 e9
            refine g_putI (f := 8) dX2_giveTo_137 cl5 hs2.1 (by decide) (Or.inr (List.mem_of_getElem? (i := 19) rfl)) (Or.inl rfl) (Or.inl rfl) (Or.inl rfl) ?_
            have ho3 : Off M2 (stI M2 (E t) 8 (nI (aC A t + 1))) (fun i k => i = E t ∧ k = 8) := Off.rf.stI ⟨rfl, rfl⟩
            have e38 : mI (stI M2 (E t) 8 (nI (aC A t + 1))) (E t) 8 = nI (aC A t + 1) := by rw [mI_st, if_pos ⟨rfl, rfl⟩]
            generalize stI M2 (E t) 8 (nI (aC A t + 1)) = M3 at ho3 e38 ⊢
            have hu3 := hu2.off ho3
            have hX3 := hX2.off ho3 (fun k q => by omega)
            have hI3 := hI2.off ho3 (fun k q => by omega)
            have hO3' := hO2'.trans (ho3.mono (fun i k q => by unfold fGt; omega))
            have hZ3 : Off M M3 (fZ u E P.length) := hO3'.mono (fun i k q => fGs_Z (fGt_Gs ht q))
            have hW3 := hW.off hZ3
            obtain ⟨TT, hT3⟩ := hW3.2.2.2.2.1
            have h53 : mI M3 (E t) 5 = bI (isHd P t) := (hW3.2.2.2.2.2.2.1 t ht).2
            have hs3 := (hW3.2.2.2.2.2.2.1 t ht).1
            have e36 : mI M3 u 6 = nI (aW A + cwK wd (aF A t) (jn (aF A t) G) j) := (ho3.i (fun q => by omega)).trans e26
            have hS3 := hI2'.2.1.off ho3 (fun i k h1 h2 q => by omega)
            refine g_iconst (v := nI 1) dX2_giveTo_140 rfl ?_
            refine g_istore_n dX2_giveTo_141 (Nat.le_of_ble_eq_true rfl) ?_
            refine g_aload_n dX2_giveTo_142 rfl ?_
            refine g_aload_n dX2_giveTo_143 rfl ?_
            refine g_aload dX2_giveTo_144 rfl ?_
            refine g_callV dX2_giveTo_146 sX2_grow (c_grow M3 n u p (E t + 1 + 1 + j) (E t) (aC A t + 1) (isHd P t) TT P (aF A t j) (jn (aF A t) G j) hu3 hW3.1 hT3 hX3 hI3 nX (jn_ne hX1.2.1 hY1.2.1 nX) (dF c_119) (by omega) hs3.1 h53 e38 (by omega)) cl3 hu3.1 iX2_grow vX2_grow (iw_20 22 rfl) rfl rfl (Nat.le_of_ble_eq_true rfl) (Nat.le_of_ble_eq_true rfl) (Nat.le_of_ble_eq_true rfl) (Nat.le_of_ble_eq_true rfl) (Nat.le_of_ble_eq_true rfl) ?_
            intro r9 M4 n9 h9
            obtain ⟨h91, h93, hO4, hI4, h46⟩ := h9
            rw [h91, h93]
            clear h91 h93 r9 n9
            refine g_drop 5 ?_
            refine g_iinc dX2_giveTo_149 rfl (nI_1 j) (Nat.le_of_ble_eq_true rfl) ?_
            refine g_goto (tgt := 53) dX2_giveTo_152 (by decide) ?_
            have hlay := hW.2.2.2.2.2.2.2.2.1
            have hbs := hW.2.2.2.2.2.2.2.2.2.1 t ht
            have hu1 := hW.2.1.off hI.1
            have hs1 := (hW.2.2.2.2.2.2.1 t ht).1.off hI.1 (fun k hk q => by unfold fGt at q; omega)
            have hG1 := hG.off hI.1 (fun i k h1 h2 q => by unfold fGt at q; omega)
            first
              | (have q9 := hO4
                 have ec : chK (aF A t) G (j + 1) = true := by rw [chK_s, decide_eq_true (show jn (aF A t) G j ≠ aF A t j from fun q => dF c_119 q.symm), Bool.or_true]
                 rw [show nI 1 = bI (chK (aF A t) G (j + 1)) by rw [ec]; rfl]
                 refine ih (j + 1) M4 (by omega) (by omega) ⟨hO3'.trans (hO4.mono (fun i k q => by unfold fGt; omega)), ?_, ?_, ?_⟩
                 · rw [← ggJ_1, hwd]
                   rw [hwd] at hS3
                   exact hS3.up hO4 (fun i k q h1 h2 => by omega) hI4
                 · rw [hO4.i (fun q => by omega), e38, ec]; rfl
                 · rw [h46, e36, nI_add, cwK_s, ← hwd, Nat.add_assoc]
                   congr 3
                   by_cases q : wd = true
                   · rw [if_pos q, if_pos ⟨q, dF c_119⟩]
                   · rw [if_neg q, if_neg (fun z => q z.1)])
              | (have q9 := hO2
                 obtain ⟨g1, g2⟩ := hI2'.same (dT c_119).symm
                 rw [← g2]
                 exact ih (j + 1) M2 (by omega) (by omega) g1)
              | (have eq9 := dT c_84
                 obtain ⟨g1, g2⟩ := hI.same (show jn (aF A t) G j = aF A t j by unfold jn; exact jn_sub hX1.2.1 hY1.2.1 (by rw [eq9]; exact subS.rf))
                 rw [← g2]
                 exact ih (j + 1) M1 (by omega) (by omega) g1)
          · skip
            refine g_iconst (v := nI 0) dX2_giveTo_131 rfl ?_
            refine g_goto (tgt := 136) dX2_giveTo_132 (by decide) ?_
            refine g_iadd dX2_giveTo_136 ?_
            have e9 : ∀ z : Int32, (z = nI 1 ∧ chK (aF A t) G j = false) ∨ (z = nI 0 ∧ chK (aF A t) G j = true) → mI M2 (E t) 8 + z = nI (aC A t + 1) := fun z hz => by
              rw [e28]
              rcases hz with ⟨rfl, q⟩ | ⟨rfl, q⟩
              · rw [q]; exact nI_add _ _
              · rw [q]; exact nI_add _ _
            first
              | (rw [bI_eq0, Bool.not_eq_false] at c_128
                 rw [e9 (nI 0) (Or.inr ⟨rfl, c_128⟩)])
              | (rw [bI_eq0] at c_128
                 rw [e9 (nI 1) (Or.inl ⟨rfl, c_128⟩)])
            clear c_128 e9
            refine g_putI (f := 8) dX2_giveTo_137 cl5 hs2.1 (by decide) (Or.inr (List.mem_of_getElem? (i := 19) rfl)) (Or.inl rfl) (Or.inl rfl) (Or.inl rfl) ?_
            have ho3 : Off M2 (stI M2 (E t) 8 (nI (aC A t + 1))) (fun i k => i = E t ∧ k = 8) := Off.rf.stI ⟨rfl, rfl⟩
            have e38 : mI (stI M2 (E t) 8 (nI (aC A t + 1))) (E t) 8 = nI (aC A t + 1) := by rw [mI_st, if_pos ⟨rfl, rfl⟩]
            generalize stI M2 (E t) 8 (nI (aC A t + 1)) = M3 at ho3 e38 ⊢
            have hu3 := hu2.off ho3
            have hX3 := hX2.off ho3 (fun k q => by omega)
            have hI3 := hI2.off ho3 (fun k q => by omega)
            have hO3' := hO2'.trans (ho3.mono (fun i k q => by unfold fGt; omega))
            have hZ3 : Off M M3 (fZ u E P.length) := hO3'.mono (fun i k q => fGs_Z (fGt_Gs ht q))
            have hW3 := hW.off hZ3
            obtain ⟨TT, hT3⟩ := hW3.2.2.2.2.1
            have h53 : mI M3 (E t) 5 = bI (isHd P t) := (hW3.2.2.2.2.2.2.1 t ht).2
            have hs3 := (hW3.2.2.2.2.2.2.1 t ht).1
            have e36 : mI M3 u 6 = nI (aW A + cwK wd (aF A t) (jn (aF A t) G) j) := (ho3.i (fun q => by omega)).trans e26
            have hS3 := hI2'.2.1.off ho3 (fun i k h1 h2 q => by omega)
            refine g_iconst (v := nI 1) dX2_giveTo_140 rfl ?_
            refine g_istore_n dX2_giveTo_141 (Nat.le_of_ble_eq_true rfl) ?_
            refine g_aload_n dX2_giveTo_142 rfl ?_
            refine g_aload_n dX2_giveTo_143 rfl ?_
            refine g_aload dX2_giveTo_144 rfl ?_
            refine g_callV dX2_giveTo_146 sX2_grow (c_grow M3 n u p (E t + 1 + 1 + j) (E t) (aC A t + 1) (isHd P t) TT P (aF A t j) (jn (aF A t) G j) hu3 hW3.1 hT3 hX3 hI3 nX (jn_ne hX1.2.1 hY1.2.1 nX) (dF c_119) (by omega) hs3.1 h53 e38 (by omega)) cl3 hu3.1 iX2_grow vX2_grow (iw_20 22 rfl) rfl rfl (Nat.le_of_ble_eq_true rfl) (Nat.le_of_ble_eq_true rfl) (Nat.le_of_ble_eq_true rfl) (Nat.le_of_ble_eq_true rfl) (Nat.le_of_ble_eq_true rfl) ?_
            intro r9 M4 n9 h9
            obtain ⟨h91, h93, hO4, hI4, h46⟩ := h9
            rw [h91, h93]
            clear h91 h93 r9 n9
            refine g_drop 5 ?_
            refine g_iinc dX2_giveTo_149 rfl (nI_1 j) (Nat.le_of_ble_eq_true rfl) ?_
            refine g_goto (tgt := 53) dX2_giveTo_152 (by decide) ?_
            have hlay := hW.2.2.2.2.2.2.2.2.1
            have hbs := hW.2.2.2.2.2.2.2.2.2.1 t ht
            have hu1 := hW.2.1.off hI.1
            have hs1 := (hW.2.2.2.2.2.2.1 t ht).1.off hI.1 (fun k hk q => by unfold fGt at q; omega)
            have hG1 := hG.off hI.1 (fun i k h1 h2 q => by unfold fGt at q; omega)
            first
              | (have q9 := hO4
                 have ec : chK (aF A t) G (j + 1) = true := by rw [chK_s, decide_eq_true (show jn (aF A t) G j ≠ aF A t j from fun q => dF c_119 q.symm), Bool.or_true]
                 rw [show nI 1 = bI (chK (aF A t) G (j + 1)) by rw [ec]; rfl]
                 refine ih (j + 1) M4 (by omega) (by omega) ⟨hO3'.trans (hO4.mono (fun i k q => by unfold fGt; omega)), ?_, ?_, ?_⟩
                 · rw [← ggJ_1, hwd]
                   rw [hwd] at hS3
                   exact hS3.up hO4 (fun i k q h1 h2 => by omega) hI4
                 · rw [hO4.i (fun q => by omega), e38, ec]; rfl
                 · rw [h46, e36, nI_add, cwK_s, ← hwd, Nat.add_assoc]
                   congr 3
                   by_cases q : wd = true
                   · rw [if_pos q, if_pos ⟨q, dF c_119⟩]
                   · rw [if_neg q, if_neg (fun z => q z.1)])
              | (have q9 := hO2
                 obtain ⟨g1, g2⟩ := hI2'.same (dT c_119).symm
                 rw [← g2]
                 exact ih (j + 1) M2 (by omega) (by omega) g1)
              | (have eq9 := dT c_84
                 obtain ⟨g1, g2⟩ := hI.same (show jn (aF A t) G j = aF A t j by unfold jn; exact jn_sub hX1.2.1 hY1.2.1 (by rw [eq9]; exact subS.rf))
                 rw [← g2]
                 exact ih (j + 1) M1 (by omega) (by omega) g1)

theorem isN_lt {len t : Nat} (h : t ≤ 41) : isN len (nI t) ↔ t < len := by
  unfold isN
  rw [nI_t (by omega)]
  omega
set_option maxHeartbeats 4000000 in
set_option maxRecDepth 100000 in
theorem c_giveTo (M : gM) (n p u d bs t : Nat) (E : Nat → Nat) (P : List St) (A : RA) (st : Nat → Bool) (G : Nat → List Sp) (hW : wS M p u d bs E P) (hf : fE M E P.length A st) (hG : sE M (u + 1 + 4) G) (hGd : gdF G) (hgd : gdA P A) (hC : aC A t < 2000000000) (ht41 : t ≤ 41) (h6 : mI M u 6 = nI (aW A)) : GM μX2_giveTo 3 71 0 0 [.ref u, .int (nI t)] M n (fun r M1 n1 => r = some (.int (bI (giveA P A t G).2)) ∧ n1 = n ∧ Off M M1 (fGs u E P.length) ∧ fE M1 E P.length (giveA P A t G).1 (mkr st (giveA P A t G).2 t) ∧ mI M1 u 6 = nI (aW (giveA P A t G).1)) := by
  refine GM.ofW (by decide) rfl (Nat.le_of_ble_eq_true rfl) rfl ?_
  refine g_aload_n dX2_giveTo_0 rfl ?_
  refine g_getR (f := 0) dX2_giveTo_1 cl3 hW.2.1.1 (by decide) (Or.inl (iw_4 18 rfl)) (Or.inl rfl) rfl hW.2.1.2.1.1 ?_
  refine g_iload_n dX2_giveTo_4 rfl ?_
  refine g_callV dX2_giveTo_5 sX1_isThere (c_isThere M n p d P.length E (nI t) hW.1 hW.2.2.1) cl2 hW.1.1 iX1_isThere vX1_isThere (iw_15 6 rfl) rfl rfl (Nat.le_of_ble_eq_true rfl) (Nat.le_of_ble_eq_true rfl) (Nat.le_of_ble_eq_true rfl) (Nat.le_of_ble_eq_true rfl) (Nat.le_of_ble_eq_true rfl) ?_
  intro r9 M9 n9 h9
  obtain ⟨h91, h92, h93⟩ := h9
  rw [h91, h92, h93]
  clear h91 h92 h93 r9 M9 n9
  have hgo := give_out (P := P) (A := A) (t := t) (G := G)
  refine g_if_ne (tgt := 13) dX2_giveTo_8 (by decide) (fun c_8 => ?_) (fun c_8 => ?_)
  · skip
    have ht := (isN_lt ht41).mp (dT c_8)
    have hs := (hW.2.2.2.2.2.2.1 t ht).1
    have hbs := hW.2.2.2.2.2.2.2.2.2.1 t ht
    have hlay := hW.2.2.2.2.2.2.2.2.1
    obtain ⟨k1, k2, k3, k4⟩ := hf t ht
    refine g_aload_n dX2_giveTo_13 rfl ?_
    refine g_getR (f := 0) dX2_giveTo_14 cl3 hW.2.1.1 (by decide) (Or.inl (iw_4 18 rfl)) (Or.inl rfl) rfl hW.2.1.2.1.1 ?_
    refine g_getR (f := 0) dX2_giveTo_17 cl2 hW.1.1 (by decide) (Or.inr (List.mem_of_getElem? (i := 22) rfl)) (Or.inl rfl) rfl hW.1.2.1 ?_
    refine g_iload_n dX2_giveTo_20 rfl ?_
    refine g_callV dX2_giveTo_21 sJx4a65c_get_915e3 (j_get M n (p + 1) d P.length t E hW.2.2.1 ht) cl0 hW.2.2.1.1 iJx4a65c_get_915e3 vJx4a65c_get_915e3 (iw_14 22 rfl) rfl rfl (Nat.le_of_ble_eq_true rfl) (Nat.le_of_ble_eq_true rfl) (Nat.le_of_ble_eq_true rfl) (Nat.le_of_ble_eq_true rfl) (Nat.le_of_ble_eq_true rfl) ?_
    intro r9 M9 n9 h9
    obtain ⟨h91, h92, h93⟩ := h9
    rw [h91, h92, h93]
    clear h91 h92 h93 r9 M9 n9
    refine g_castSt dX2_giveTo_24 (iw_14 20 rfl) hs.1 ?_
    refine g_astore_n dX2_giveTo_27 (Nat.le_of_ble_eq_true rfl) ?_
    refine g_aload_n dX2_giveTo_28 rfl ?_
    refine g_getI (f := 6) dX2_giveTo_29 cl5 hs.1 (by decide) (Or.inr (List.mem_of_getElem? (i := 24) rfl)) (Or.inl rfl) (Or.inr rfl) ?_
    rw [k1]
    refine g_if_ne (tgt := 48) dX2_giveTo_32 (by decide) (fun c_32 => ?_) (fun c_32 => ?_)
    · skip
      rw [bI_eq0, Bool.not_eq_false] at c_32
      refine g_iconst (v := nI 0) dX2_giveTo_48 rfl ?_
      refine g_istore_n dX2_giveTo_49 (Nat.le_of_ble_eq_true rfl) ?_
      refine g_iconst (v := nI 0) dX2_giveTo_50 rfl ?_
      refine g_istore dX2_giveTo_51 (Nat.le_of_ble_eq_true rfl) ?_
      have hFd := hgd t ht c_32
      have hR := k4 c_32
      have e9 := giveA_eq (G := G) ht c_32
      generalize hwd : (isHd P t && decide (4 ≤ aC A t + 1)) = wd at e9
      refine k_give hW hR hG hGd hFd ht hC hwd.symm (fun M1 hI => ?_) 9 0 M (by omega) (by omega) ⟨Off.rf, by rw [ggJ_0]; exact hR, by rw [k3]; rfl, by rw [h6]; rfl⟩
      have hs1 := hs.off hI.1 (fun k hk q => by unfold fGt at q; omega)
      refine g_aload_n dX2_giveTo_155 rfl ?_
      refine g_dup dX2_giveTo_156 rfl ?_
      refine g_getI (f := 7) dX2_giveTo_157 cl5 hs1.1 (by decide) (Or.inr (List.mem_of_getElem? (i := 25) rfl)) (Or.inl rfl) (Or.inr rfl) ?_
      refine g_iload_n dX2_giveTo_160 rfl ?_
      rw [hI.1.i (fun q => by unfold fGt at q; omega), k2]
      refine g_ior dX2_giveTo_161 ?_
      rw [show bI (st t) ||| bI (chK (aF A t) G 8) = bI (st t || chK (aF A t) G 8) by cases st t <;> cases chK (aF A t) G 8 <;> rfl]
      refine g_putI (f := 7) dX2_giveTo_162 cl5 hs1.1 (by decide) (Or.inr (List.mem_of_getElem? (i := 25) rfl)) (Or.inl rfl) (Or.inl rfl) (Or.inr ⟨rfl, (bI_01 _)⟩) ?_
      refine g_iload_n dX2_giveTo_165 rfl ?_
      exact g_iret dX2_giveTo_166 (Or.inr ⟨rfl, bI_01 _⟩) (Nat.le_of_ble_eq_true rfl) (Nat.le_of_ble_eq_true rfl) (by
        have ho : Off M1 (stI M1 (E t) 7 (bI (st t || chK (aF A t) G 8))) (fun i k => i = E t ∧ k = 7) := Off.rf.stI ⟨rfl, rfl⟩
        have e7 : mI (stI M1 (E t) 7 (bI (st t || chK (aF A t) G 8))) (E t) 7 = bI (st t || chK (aF A t) G 8) := by rw [mI_st, if_pos ⟨rfl, rfl⟩]
        generalize stI M1 (E t) 7 (bI (st t || chK (aF A t) G 8)) = M2 at ho e7 ⊢
        have hoo := hI.1.mono (fun i k q => fGt_Gs (E := E) (len := P.length) ht q)
        have hoa : Off M M2 (fGs u E P.length) := hoo.trans (ho.mono (fun i k q => Or.inr (Or.inr (Or.inr ⟨t, ht, by omega, by omega, fun _ => by omega⟩))))
        have hap : ∀ j i k, j < P.length → j ≠ t → (fGt u (E t) i k ∨ (i = E t ∧ k = 7)) → E j ≤ i → i ≤ E j + 9 → False := fun j i k hj hne q h1 h2 => by
          have := hW.apart hj ht hne
          have := hW.2.2.2.2.2.2.2.2.2.1 j hj
          unfold fGt at q
          omega
        have hob : Off M M2 (fun i k => fGt u (E t) i k ∨ (i = E t ∧ k = 7)) := (hI.1.mono (fun i k q => Or.inl q)).trans (ho.mono (fun i k q => Or.inr q))
        have a6 : mI M2 (E t) 6 = bI (aR A t) := ((ho.i (fun q => by omega)).trans (hI.1.i (fun q => by unfold fGt at q; omega))).trans k1
        have a8 : mI M2 (E t) 8 = nI (aC A t + if chK (aF A t) G 8 = true then 1 else 0) := (ho.i (fun q => by omega)).trans hI.2.2.1
        have aE : sE M2 (E t + 1) (ggJ P wd (aF A t) G 8) := hI.2.1.off ho (fun i k h1 h2 q => by omega)
        have aw : mI M2 u 6 = nI (aW A + cwK wd (aF A t) (jn (aF A t) G) 8) := (ho.i (fun q => by omega)).trans hI.2.2.2
        by_cases c : chK (aF A t) G 8 = false
        · rw [if_pos c] at e9
          have hno : ∀ p, p < 8 → jn (aF A t) G p = aF A t p := chK_no c
          rw [c, e9]
          refine ⟨rfl, rfl, hoa, hf.at hob (t := t) hap (fun k hk hne => ⟨⟨rfl, rfl, rfl⟩, rfl⟩) (fun _ => ⟨a6, ?_, ?_, fun _ => ?_⟩), ?_⟩
          · rw [e7, c, Bool.or_false]; rfl
          · rw [a8, c]; rfl
          · refine aE.to (fun p hp => ?_)
            unfold ggJ
            rw [if_pos hp, hno p hp]
            unfold grw
            rw [if_neg (fun q => q.2 rfl)]
          · rw [aw]
            congr 1
            show aW A + cwK wd (aF A t) (jn (aF A t) G) 8 = aW A
            have : cwK wd (aF A t) (jn (aF A t) G) 8 = 0 := by
              have key : ∀ j, j ≤ 8 → cwK wd (aF A t) (jn (aF A t) G) j = 0 := by
                intro j
                induction j with
                | zero => intro _; rfl
                | succ j ih => intro hj; rw [cwK_s, ih (by omega), if_neg (fun q => q.2 (hno j (by omega)).symm)]
              exact key 8 (Nat.le_refl _)
            omega
        · rw [if_neg c] at e9
          have c' : chK (aF A t) G 8 = true := by simpa using c
          rw [c', e9]
          refine ⟨rfl, rfl, hoa, hf.at hob (t := t) hap (fun k hk hne => ⟨⟨rfl, up1_ne _ _ hne, up1_ne _ _ hne⟩, by unfold mkr; rw [if_pos rfl, up1_ne _ _ hne]⟩) (fun _ => ⟨a6, ?_, ?_, fun _ => ?_⟩), aw⟩
          · rw [e7, c', Bool.or_true]; unfold mkr; rw [if_pos rfl, up1_eq]
          · rw [a8, c', if_pos rfl]; show _ = nI (up1 (aC A) t (aC A t + 1) t); rw [up1_eq]
          · show sE M2 (E t + 1) (up1 (aF A) t (cut8 (ggJ P wd (aF A t) G 8)) t)
            rw [up1_eq]; exact aE.to (fun p hp => cut8_lt hp))
    · skip
      rw [bI_eq0] at c_32
      refine g_aload_n dX2_giveTo_35 rfl ?_
      refine g_aload_n dX2_giveTo_36 rfl ?_
      refine g_getR (f := 1) dX2_giveTo_37 cl3 hW.2.1.1 (by decide) (Or.inl (iw_4 10 rfl)) (Or.inl rfl) rfl hW.2.1.2.1.2.1 ?_
      refine g_getR (f := 1) dX2_giveTo_40 cl6 hW.2.1.2.2.1.1 (by decide) (Or.inr (List.mem_of_getElem? (i := 17) rfl)) (Or.inl rfl) rfl hW.2.1.2.2.1.2.1.2.1 ?_
      refine g_callV dX2_giveTo_43 sX4_becomeKnown (c_known M n (E t) (u + 1 + 4) (P.getD t st0) G hs hG (by unfold apS; omega)) cl5 hs.1 iX4_becomeKnown vX4_becomeKnown (iw_15 10 rfl) rfl rfl (Nat.le_of_ble_eq_true rfl) (Nat.le_of_ble_eq_true rfl) (Nat.le_of_ble_eq_true rfl) (Nat.le_of_ble_eq_true rfl) (Nat.le_of_ble_eq_true rfl) ?_
      intro r9 M1 n9 h9
      obtain ⟨h91, h93, hO1, hE1, h61, h71⟩ := h9
      rw [h91, h93]
      clear h91 h93 r9 n9
      refine g_iconst (v := nI 1) dX2_giveTo_46 rfl ?_
      exact g_iret dX2_giveTo_47 (Or.inr ⟨rfl, by first | exact Or.inl rfl | exact Or.inr rfl⟩) (Nat.le_of_ble_eq_true rfl) (Nat.le_of_ble_eq_true rfl) (by
        have e9 : giveA P A t G = ((up1 (aR A) t true, up1 (aF A) t (cut8 G), aC A, aW A), true) := by
          unfold giveA giveB
          rw [if_neg (by omega), if_pos c_32]
        rw [e9]
        refine ⟨rfl, rfl, hO1.mono (fun i k q => Or.inr (Or.inr (Or.inr ⟨t, ht, by unfold fB at q; omega, by unfold fB at q; omega, fun z => by unfold fB at q; omega⟩))), ?_, (hO1.i (fun q => by unfold fB at q; omega)).trans h6⟩
        refine hf.at hO1 (t := t) (fun j i k hj hne q h1 h2 => by
          have := hW.apart hj ht hne
          unfold fB at q
          omega) (fun k hk hne => ⟨⟨up1_ne _ _ hne, up1_ne _ _ hne, rfl⟩, by unfold mkr; rw [if_pos rfl, up1_ne _ _ hne]⟩) (fun _ => ⟨?_, ?_, ?_, fun _ => ?_⟩)
        · show mI M1 (E t) 6 = bI (up1 (aR A) t true t); rw [up1_eq, h61]; rfl
        · unfold mkr; rw [if_pos rfl, up1_eq, h71]; rfl
        · exact (hO1.i (fun q => by unfold fB at q; omega)).trans k3
        · show sE M1 (E t + 1) (up1 (aF A) t (cut8 G) t)
          rw [up1_eq]; exact hE1.to (fun p hp => cut8_lt hp))
  · skip
    refine g_iconst (v := nI 0) dX2_giveTo_11 rfl ?_
    exact g_iret dX2_giveTo_12 (Or.inr ⟨rfl, by first | exact Or.inl rfl | exact Or.inr rfl⟩) (Nat.le_of_ble_eq_true rfl) (Nat.le_of_ble_eq_true rfl) (by
      have e9 := hgo (fun q => dF c_8 ((isN_lt ht41).mpr q))
      rw [e9]
      exact ⟨rfl, rfl, Off.rf, hf, h6⟩)

