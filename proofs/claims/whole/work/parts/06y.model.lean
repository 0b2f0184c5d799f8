/-! the reference: narrow -/
theorem gvn_congr {s : St} {F F1 : Nat → List Sp} (hv : vS s) (h : ∀ p, p < 8 → F1 p = F p) (nm : Bool) : (gvn s F1 nm).isSome = (gvn s F nm).isSome ∧ ∀ G1 G, gvn s F1 nm = some G1 → gvn s F nm = some G → ∀ p, p < 8 → G1 p = G p := by
  have up : ∀ (a : Nat) (X : List Sp) (H H1 : Nat → List Sp), (∀ p, p < 8 → H1 p = H p) → ∀ p, p < 8 → up1 H1 a X p = up1 H a X p := by
    intro a X H H1 hh p hp
    by_cases e : p = a
    · rw [e, up1_eq, up1_eq]
    · rw [up1_ne _ _ e, up1_ne _ _ e]; exact hh p hp
  have k19 := hv.1
  unfold gvn
  by_cases c1 : s.1 = 19
  · rw [if_pos c1, if_pos c1]; exact ⟨rfl, fun _ _ h => by cases h⟩
  · rw [if_neg c1, if_neg c1]
    by_cases c2 : s.1 = 18
    · rw [if_pos c2, if_pos c2]
      cases nm
      · exact ⟨rfl, fun _ _ h => by cases h⟩
      · refine ⟨rfl, fun G1 G h1 h2 => ?_⟩
        cases h1; cases h2; exact h
    · rw [if_neg c2, if_neg c2]
      by_cases c3 : s.1 < 11
      · rw [if_pos c3, if_pos c3]
        rw [makL_congr hv (by omega) h]
        cases nm
        · simp only [Bool.false_eq_true, if_false]
          by_cases c4 : mkS (makL s F) = []
          · rw [if_pos c4, if_pos c4]; exact ⟨rfl, fun _ _ h => by cases h⟩
          · rw [if_neg c4, if_neg c4]
            refine ⟨rfl, fun G1 G h1 h2 => ?_⟩
            cases h1; cases h2; exact up _ _ _ _ h
        · exact ⟨rfl, fun _ _ h => by cases h⟩
      · rw [if_neg c3, if_neg c3]
        by_cases c4 : s.2.1 = s.2.2.1
        · rw [if_pos c4, if_pos c4]
          by_cases c5 : nm = eqR (s.1 - 11)
          · rw [if_pos c5, if_pos c5]
            refine ⟨rfl, fun G1 G h1 h2 => ?_⟩
            cases h1; cases h2; exact h
          · rw [if_neg c5, if_neg c5]; exact ⟨rfl, fun _ _ h => by cases h⟩
        · rw [if_neg c4, if_neg c4]
          rw [h _ (hv.2.1 (by omega)).lt, h _ (hv.2.2.1 (by omega)).lt]
          generalize shp _ (F (pl s.2.1)) (F (pl s.2.2.1)) = w
          by_cases c5 : w.1 ≠ [] ∧ w.2 ≠ []
          · rw [if_pos c5, if_pos c5]
            refine ⟨rfl, fun G1 G h1 h2 => ?_⟩
            cases h1; cases h2; exact up _ _ _ _ (up _ _ _ _ h)
          · rw [if_neg c5, if_neg c5]; exact ⟨rfl, fun _ _ h => by cases h⟩
theorem rA.offT {M M1 : gM} {m : Nat} {A : RA} {S : Nat → List Sp} (h : rA M m A S) (ho : Off M M1 (fT m)) : rA M1 m A S := by
  refine ⟨fun t ht => (ho.i (by unfold fT fA; omega)).trans (h.1 t ht), fun t ht => (ho.i (by unfold fT fA; omega)).trans (h.2.1 t ht), (ho.i (by unfold fT fA; omega)).trans h.2.2.1, h.2.2.2⟩
theorem rP.offT {M M1 : gM} {m : Nat} {P : List St} (h : rP M m P) (ho : Off M M1 (fT m)) : rP M1 m P := h.off ho (by unfold fT fA; omega) (fun i k h1 h2 => by unfold fT fA; omega)
theorem rP.offN {M M1 : gM} {m : Nat} {P : List St} (h : rP M m P) (ho : Off M M1 (fN m)) : rP M1 m P := h.off ho (by unfold fN fA; omega) (fun i k h1 h2 => by unfold fN fA; omega)
theorem some_of {α : Type} {o : Option α} (h : o.isSome = true) : ∃ x, o = some x := by
  cases o with
  | none => cases h
  | some x => exact ⟨x, rfl⟩
theorem none_of {α : Type} {o : Option α} (h : o.isSome = false) : o = none := by
  cases o with
  | none => rfl
  | some x => cases h
theorem s_goesA (M : gM) (n m a : Nat) (s : St) (S : Nat → List Sp) (F : Nat → List Sp) (nm : Bool) (hG : rS M m S) (ha : a < 40) (hT : sT M m a s) (hv : vS s) (hF : ∀ p, p < 8 → S (8 * a + p) = F p) (hn : gdF F) : GM μX9_goes 6 150 0 0 [.ref m, .int (nI a), .int (bI nm)] M n (fun r M1 n1 => r = some (.int (bI (gvn s F nm).isSome)) ∧ n1 = n ∧ Off M M1 (fA m) ∧ ∃ S1, rS M1 m S1 ∧ (∀ G, gvn s F nm = some G → ∀ p, p < 8 → S1 (328 + p) = G p) ∧ agr S S1 gvP) := GM.imp (s_goes M n m a s S nm hG ha hT hv (fun p hp => by rw [hF p hp]; exact (hn p hp).2)) (fun r M1 n1 h => by
  obtain ⟨h1, h2, h3, S1, h4, h5, h6⟩ := h
  have hc := gvn_congr hv hF nm
  refine ⟨by rw [h1, hc.1], h2, h3, S1, h4, fun G hg p hp => ?_, h6⟩
  have : (gvn s (fun p => S (8 * a + p)) nm).isSome = true := by rw [hc.1, hg]; rfl
  obtain ⟨G1, hg1⟩ := some_of this
  rw [h5 G1 hg1 p hp]
  exact hc.2 G1 G hg1 hg p hp)

def nvI (M M1 : gM) (m : Nat) (S S1 : Nat → List Sp) (g : Option Ev) : Prop := Off M M1 (fT m) ∧ rS M1 m S1 ∧ mI M1 m 17 = bI (g).isSome ∧ (∀ T, g = some T → ∀ p, p < 8 → S1 (350 + p) = T p) ∧ agr S S1 (fun u => 328 ≤ u)
set_option maxHeartbeats 4000000 in
set_option maxRecDepth 100000 in
theorem p_nw70 {M : gM} {n m s : Nat} {S : Nat → List Sp} {P : List St} {A : RA} {first : Ev} {Q : gθ} (hP : rP M m P) (hA : rA M m A S) (hd : gdA P A) (hs : s < P.length) {M1 : gM} {S1 : Nat → List Sp} {t : Nat} {g : Option Ev} (ht : t < P.length) (hN : nvI M M1 m S S1 g) (hk : ∀ M2 S2, nvI M M2 m S S2 (gth1 P A s t g true (aR A t && decide (nmA P t = s))) → GW μX9_narrow (gRm 7 177 0 0) Q 0 0 101 [some (.ref m), some (.int (nI s)), some (.int (nI (t)))] [] M2 n) : GW μX9_narrow (gRm 7 177 0 0) Q 0 0 70 [some (.ref m), some (.int (nI s)), some (.int (nI (t)))] [] M1 n := by
  have l40 := hP.2.1
  have hP1 := hP.offT hN.1
  have hA1 : rA M1 m A S1 := (hA.offT hN.1).agr hN.2.2.2.2 (fun u h => by omega)
  have hG1 := hN.2.1
  have hT := (hP1.2.2 t ht).1
  have hv := (hP1.2.2 t ht).2
  refine g_aload_n dX9_narrow_70 rfl ?_
  refine g_getR (f := 12) dX9_narrow_71 cl10 hG1.1.1 (by decide) (Or.inl (iw_6 5 rfl)) (Or.inl rfl) rfl hG1.1.r_reached ?_
  refine g_iload_n dX9_narrow_74 rfl ?_
  refine g_baload dX9_narrow_75 (j := t) hG1.1.k_reached hG1.1.n_reached rfl (by omega) (by decide) ?_
  rw [hA1.1 t (by omega)]
  refine g_if_eq (tgt := 101) dX9_narrow_76 (by decide) (fun c_76 => ?_) (fun c_76 => ?_)
  · skip
    first
      | (rw [bI_eq0] at c_76
         refine hk M1 S1 ?_
         rw [show (gth1 P A s t g true (aR A t && decide (nmA P t = s))) = g by unfold gth1; rw [c_76, Bool.false_and]; rfl]
         exact hN)
      | (refine hk M1 S1 ?_
         rw [show (gth1 P A s t g true (aR A t && decide (nmA P t = s))) = g by unfold gth1; rw [decide_eq_false (show ¬ (nmA P t = s) from fun h => c_85 (by first | (unfold nmA at h; rw [h]) | (rw [nI_add, h]))), Bool.and_false]; rfl]
         exact hN)
      | (have hc : nmA P t = s := by
           first
             | (rw [nI_inj (by have := nmO_le hv; omega) (by omega)] at c_85; exact c_85)
             | (rw [nI_add, nI_inj (by omega) (by omega)] at c_85; exact c_85)
         first
           | (refine hk M3 S3 ⟨(hN.1.trans (hO2.mono (fun i k h => Or.inl h))).trans hO3, hG3, ?_, ?_, fun u hu => ?_⟩
              · rw [h17]
                rw [show (gth1 P A s t g true (aR A t && decide (nmA P t = s))) = addG g G by unfold gth1; rw [c_76, decide_eq_true hc, Bool.and_self, if_pos rfl, hg]]
                rfl
              · intro T hT p hp
                rw [show (gth1 P A s t g true (aR A t && decide (nmA P t = s))) = addG g G by unfold gth1; rw [c_76, decide_eq_true hc, Bool.and_self, if_pos rfl, hg]] at hT
                cases hT
                rw [e3 p hp, cut8_lt hp]
                unfold addE
                cases g with
                | none => exact e2 G hg p hp
                | some T => dsimp only; rw [e2 G hg p hp]
              · rw [ag3 u (by omega), ag2 u (by unfold gvP; omega)]; exact hN.2.2.2.2 u hu)
           | (rw [bI_eq0] at c_94
              have hg := none_of c_94
              refine hk M2 S2 ?_
              rw [show (gth1 P A s t g true (aR A t && decide (nmA P t = s))) = g by unfold gth1; rw [hg]; split <;> rfl]
              exact ⟨hN.1.trans (hO2.mono (fun i k h => Or.inl h)), hG2, h17b, h350, fun u hu => by rw [ag2 u (by unfold gvP; omega)]; exact hN.2.2.2.2 u hu⟩))
  · skip
    rw [bI_eq0, Bool.not_eq_false] at c_76
    refine g_aload_n dX9_narrow_79 rfl ?_
    refine g_iload_n dX9_narrow_80 rfl ?_
    refine g_callV dX9_narrow_81 sX9_nameOf (m_nameOf M1 n m t _ hG1.1 (by omega) hT hv) cl10 hG1.1.1 iX9_nameOf vX9_nameOf (iw_29 17 rfl) rfl rfl (Nat.le_of_ble_eq_true rfl) (Nat.le_of_ble_eq_true rfl) (Nat.le_of_ble_eq_true rfl) (Nat.le_of_ble_eq_true rfl) (Nat.le_of_ble_eq_true rfl) ?_
    intro r9 M9 n9 h9
    obtain ⟨h91, h92, h93⟩ := h9
    rw [h91, h92, h93]
    clear h91 h92 h93 r9 M9 n9
    refine g_iload_n dX9_narrow_84 rfl ?_
    refine g_icmp_ne (tgt := 101) dX9_narrow_85 (by decide) (fun c_85 => ?_) (fun c_85 => ?_)
    · skip
      first
        | (rw [bI_eq0] at c_76
           refine hk M1 S1 ?_
           rw [show (gth1 P A s t g true (aR A t && decide (nmA P t = s))) = g by unfold gth1; rw [c_76, Bool.false_and]; rfl]
           exact hN)
        | (refine hk M1 S1 ?_
           rw [show (gth1 P A s t g true (aR A t && decide (nmA P t = s))) = g by unfold gth1; rw [decide_eq_false (show ¬ (nmA P t = s) from fun h => c_85 (by first | (unfold nmA at h; rw [h]) | (rw [nI_add, h]))), Bool.and_false]; rfl]
           exact hN)
        | (have hc : nmA P t = s := by
             first
               | (rw [nI_inj (by have := nmO_le hv; omega) (by omega)] at c_85; exact c_85)
               | (rw [nI_add, nI_inj (by omega) (by omega)] at c_85; exact c_85)
           first
             | (refine hk M3 S3 ⟨(hN.1.trans (hO2.mono (fun i k h => Or.inl h))).trans hO3, hG3, ?_, ?_, fun u hu => ?_⟩
                · rw [h17]
                  rw [show (gth1 P A s t g true (aR A t && decide (nmA P t = s))) = addG g G by unfold gth1; rw [c_76, decide_eq_true hc, Bool.and_self, if_pos rfl, hg]]
                  rfl
                · intro T hT p hp
                  rw [show (gth1 P A s t g true (aR A t && decide (nmA P t = s))) = addG g G by unfold gth1; rw [c_76, decide_eq_true hc, Bool.and_self, if_pos rfl, hg]] at hT
                  cases hT
                  rw [e3 p hp, cut8_lt hp]
                  unfold addE
                  cases g with
                  | none => exact e2 G hg p hp
                  | some T => dsimp only; rw [e2 G hg p hp]
                · rw [ag3 u (by omega), ag2 u (by unfold gvP; omega)]; exact hN.2.2.2.2 u hu)
             | (rw [bI_eq0] at c_94
                have hg := none_of c_94
                refine hk M2 S2 ?_
                rw [show (gth1 P A s t g true (aR A t && decide (nmA P t = s))) = g by unfold gth1; rw [hg]; split <;> rfl]
                exact ⟨hN.1.trans (hO2.mono (fun i k h => Or.inl h)), hG2, h17b, h350, fun u hu => by rw [ag2 u (by unfold gvP; omega)]; exact hN.2.2.2.2 u hu⟩))
    · skip
      refine g_aload_n dX9_narrow_88 rfl ?_
      refine g_iload_n dX9_narrow_89 rfl ?_
      refine g_iconst (v := bI true) dX9_narrow_90 rfl ?_
      refine g_callV dX9_narrow_91 sX9_goes (s_goesA M1 n m t (P.getD t st0) S1 (aF A t) true hG1 (by omega) hT hv (fun p hp => hA1.2.2.2 t (by omega) c_76 p hp) (hd t ht c_76)) cl10 hG1.1.1 iX9_goes vX9_goes (iw_25 7 rfl) rfl rfl (Nat.le_of_ble_eq_true rfl) (Nat.le_of_ble_eq_true rfl) (Nat.le_of_ble_eq_true rfl) (Nat.le_of_ble_eq_true rfl) (Nat.le_of_ble_eq_true rfl) ?_
      intro r9 M2 n9 h9
      obtain ⟨h91, h93, hO2, S2, hG2, e2, ag2⟩ := h9
      rw [h91, h93]
      clear h91 h93 r9 n9
      have h17b : mI M2 m 17 = bI g.isSome := (hO2.i (by unfold fA; omega)).trans hN.2.2.1
      have h350 : ∀ T, g = some T → ∀ p, p < 8 → S2 (350 + p) = T p := fun T hT p hp => by rw [ag2 _ (by unfold gvP; omega)]; exact hN.2.2.2.1 T hT p hp
      refine g_if_eq (tgt := 101) dX9_narrow_94 (by decide) (fun c_94 => ?_) (fun c_94 => ?_)
      · skip
        first
          | (rw [bI_eq0] at c_76
             refine hk M1 S1 ?_
             rw [show (gth1 P A s t g true (aR A t && decide (nmA P t = s))) = g by unfold gth1; rw [c_76, Bool.false_and]; rfl]
             exact hN)
          | (refine hk M1 S1 ?_
             rw [show (gth1 P A s t g true (aR A t && decide (nmA P t = s))) = g by unfold gth1; rw [decide_eq_false (show ¬ (nmA P t = s) from fun h => c_85 (by first | (unfold nmA at h; rw [h]) | (rw [nI_add, h]))), Bool.and_false]; rfl]
             exact hN)
          | (have hc : nmA P t = s := by
               first
                 | (rw [nI_inj (by have := nmO_le hv; omega) (by omega)] at c_85; exact c_85)
                 | (rw [nI_add, nI_inj (by omega) (by omega)] at c_85; exact c_85)
             first
               | (refine hk M3 S3 ⟨(hN.1.trans (hO2.mono (fun i k h => Or.inl h))).trans hO3, hG3, ?_, ?_, fun u hu => ?_⟩
                  · rw [h17]
                    rw [show (gth1 P A s t g true (aR A t && decide (nmA P t = s))) = addG g G by unfold gth1; rw [c_76, decide_eq_true hc, Bool.and_self, if_pos rfl, hg]]
                    rfl
                  · intro T hT p hp
                    rw [show (gth1 P A s t g true (aR A t && decide (nmA P t = s))) = addG g G by unfold gth1; rw [c_76, decide_eq_true hc, Bool.and_self, if_pos rfl, hg]] at hT
                    cases hT
                    rw [e3 p hp, cut8_lt hp]
                    unfold addE
                    cases g with
                    | none => exact e2 G hg p hp
                    | some T => dsimp only; rw [e2 G hg p hp]
                  · rw [ag3 u (by omega), ag2 u (by unfold gvP; omega)]; exact hN.2.2.2.2 u hu)
               | (rw [bI_eq0] at c_94
                  have hg := none_of c_94
                  refine hk M2 S2 ?_
                  rw [show (gth1 P A s t g true (aR A t && decide (nmA P t = s))) = g by unfold gth1; rw [hg]; split <;> rfl]
                  exact ⟨hN.1.trans (hO2.mono (fun i k h => Or.inl h)), hG2, h17b, h350, fun u hu => by rw [ag2 u (by unfold gvP; omega)]; exact hN.2.2.2.2 u hu⟩))
      · skip
        rw [bI_eq0, Bool.not_eq_false] at c_94
        obtain ⟨G, hg⟩ := some_of c_94
        refine g_aload_n dX9_narrow_97 rfl ?_
        refine g_callV dX9_narrow_98 sX9_gather (s_gather M2 n m S2 g hG2 h17b h350) cl10 hG2.1.1 iX9_gather vX9_gather (iw_30 22 rfl) rfl rfl (Nat.le_of_ble_eq_true rfl) (Nat.le_of_ble_eq_true rfl) (Nat.le_of_ble_eq_true rfl) (Nat.le_of_ble_eq_true rfl) (Nat.le_of_ble_eq_true rfl) ?_
        intro r9 M3 n9 h9
        obtain ⟨h91, h93, hO3, h17, S3, hG3, e3, ag3⟩ := h9
        rw [h91, h93]
        clear h91 h93 r9 n9
        first
          | (rw [bI_eq0] at c_76
             refine hk M1 S1 ?_
             rw [show (gth1 P A s t g true (aR A t && decide (nmA P t = s))) = g by unfold gth1; rw [c_76, Bool.false_and]; rfl]
             exact hN)
          | (refine hk M1 S1 ?_
             rw [show (gth1 P A s t g true (aR A t && decide (nmA P t = s))) = g by unfold gth1; rw [decide_eq_false (show ¬ (nmA P t = s) from fun h => c_85 (by first | (unfold nmA at h; rw [h]) | (rw [nI_add, h]))), Bool.and_false]; rfl]
             exact hN)
          | (have hc : nmA P t = s := by
               first
                 | (rw [nI_inj (by have := nmO_le hv; omega) (by omega)] at c_85; exact c_85)
                 | (rw [nI_add, nI_inj (by omega) (by omega)] at c_85; exact c_85)
             first
               | (refine hk M3 S3 ⟨(hN.1.trans (hO2.mono (fun i k h => Or.inl h))).trans hO3, hG3, ?_, ?_, fun u hu => ?_⟩
                  · rw [h17]
                    rw [show (gth1 P A s t g true (aR A t && decide (nmA P t = s))) = addG g G by unfold gth1; rw [c_76, decide_eq_true hc, Bool.and_self, if_pos rfl, hg]]
                    rfl
                  · intro T hT p hp
                    rw [show (gth1 P A s t g true (aR A t && decide (nmA P t = s))) = addG g G by unfold gth1; rw [c_76, decide_eq_true hc, Bool.and_self, if_pos rfl, hg]] at hT
                    cases hT
                    rw [e3 p hp, cut8_lt hp]
                    unfold addE
                    cases g with
                    | none => exact e2 G hg p hp
                    | some T => dsimp only; rw [e2 G hg p hp]
                  · rw [ag3 u (by omega), ag2 u (by unfold gvP; omega)]; exact hN.2.2.2.2 u hu)
               | (rw [bI_eq0] at c_94
                  have hg := none_of c_94
                  refine hk M2 S2 ?_
                  rw [show (gth1 P A s t g true (aR A t && decide (nmA P t = s))) = g by unfold gth1; rw [hg]; split <;> rfl]
                  exact ⟨hN.1.trans (hO2.mono (fun i k h => Or.inl h)), hG2, h17b, h350, fun u hu => by rw [ag2 u (by unfold gvP; omega)]; exact hN.2.2.2.2 u hu⟩))

set_option maxHeartbeats 4000000 in
set_option maxRecDepth 100000 in
theorem p_nw101 {M : gM} {n m s : Nat} {S : Nat → List Sp} {P : List St} {A : RA} {first : Ev} {Q : gθ} (hP : rP M m P) (hA : rA M m A S) (hd : gdA P A) (hs : s < P.length) {M1 : gM} {S1 : Nat → List Sp} {t : Nat} {g : Option Ev} (ht : t < P.length) (hN : nvI M M1 m S S1 g) (hk : ∀ M2 S2, nvI M M2 m S S2 (gth1 P A s t g false (aR A t && decide (t + 1 = s))) → GW μX9_narrow (gRm 7 177 0 0) Q 0 0 130 [some (.ref m), some (.int (nI s)), some (.int (nI (t)))] [] M2 n) : GW μX9_narrow (gRm 7 177 0 0) Q 0 0 101 [some (.ref m), some (.int (nI s)), some (.int (nI (t)))] [] M1 n := by
  have l40 := hP.2.1
  have hP1 := hP.offT hN.1
  have hA1 : rA M1 m A S1 := (hA.offT hN.1).agr hN.2.2.2.2 (fun u h => by omega)
  have hG1 := hN.2.1
  have hT := (hP1.2.2 t ht).1
  have hv := (hP1.2.2 t ht).2
  refine g_aload_n dX9_narrow_101 rfl ?_
  refine g_getR (f := 12) dX9_narrow_102 cl10 hG1.1.1 (by decide) (Or.inl (iw_6 5 rfl)) (Or.inl rfl) rfl hG1.1.r_reached ?_
  refine g_iload_n dX9_narrow_105 rfl ?_
  refine g_baload dX9_narrow_106 (j := t) hG1.1.k_reached hG1.1.n_reached rfl (by omega) (by decide) ?_
  rw [hA1.1 t (by omega)]
  refine g_if_eq (tgt := 130) dX9_narrow_107 (by decide) (fun c_107 => ?_) (fun c_107 => ?_)
  · skip
    first
      | (rw [bI_eq0] at c_107
         refine hk M1 S1 ?_
         rw [show (gth1 P A s t g false (aR A t && decide (t + 1 = s))) = g by unfold gth1; rw [c_107, Bool.false_and]; rfl]
         exact hN)
      | (refine hk M1 S1 ?_
         rw [show (gth1 P A s t g false (aR A t && decide (t + 1 = s))) = g by unfold gth1; rw [decide_eq_false (show ¬ (t + 1 = s) from fun h => c_114 (by first | (unfold nmA at h; rw [h]) | (rw [nI_add, h]))), Bool.and_false]; rfl]
         exact hN)
      | (have hc : t + 1 = s := by
           first
             | (rw [nI_inj (by have := nmO_le hv; omega) (by omega)] at c_114; exact c_114)
             | (rw [nI_add, nI_inj (by omega) (by omega)] at c_114; exact c_114)
         first
           | (refine hk M3 S3 ⟨(hN.1.trans (hO2.mono (fun i k h => Or.inl h))).trans hO3, hG3, ?_, ?_, fun u hu => ?_⟩
              · rw [h17]
                rw [show (gth1 P A s t g false (aR A t && decide (t + 1 = s))) = addG g G by unfold gth1; rw [c_107, decide_eq_true hc, Bool.and_self, if_pos rfl, hg]]
                rfl
              · intro T hT p hp
                rw [show (gth1 P A s t g false (aR A t && decide (t + 1 = s))) = addG g G by unfold gth1; rw [c_107, decide_eq_true hc, Bool.and_self, if_pos rfl, hg]] at hT
                cases hT
                rw [e3 p hp, cut8_lt hp]
                unfold addE
                cases g with
                | none => exact e2 G hg p hp
                | some T => dsimp only; rw [e2 G hg p hp]
              · rw [ag3 u (by omega), ag2 u (by unfold gvP; omega)]; exact hN.2.2.2.2 u hu)
           | (rw [bI_eq0] at c_123
              have hg := none_of c_123
              refine hk M2 S2 ?_
              rw [show (gth1 P A s t g false (aR A t && decide (t + 1 = s))) = g by unfold gth1; rw [hg]; split <;> rfl]
              exact ⟨hN.1.trans (hO2.mono (fun i k h => Or.inl h)), hG2, h17b, h350, fun u hu => by rw [ag2 u (by unfold gvP; omega)]; exact hN.2.2.2.2 u hu⟩))
  · skip
    rw [bI_eq0, Bool.not_eq_false] at c_107
    refine g_iload_n dX9_narrow_110 rfl ?_
    refine g_iconst (v := nI 1) dX9_narrow_111 rfl ?_
    refine g_iadd dX9_narrow_112 ?_
    refine g_iload_n dX9_narrow_113 rfl ?_
    refine g_icmp_ne (tgt := 130) dX9_narrow_114 (by decide) (fun c_114 => ?_) (fun c_114 => ?_)
    · skip
      first
        | (rw [bI_eq0] at c_107
           refine hk M1 S1 ?_
           rw [show (gth1 P A s t g false (aR A t && decide (t + 1 = s))) = g by unfold gth1; rw [c_107, Bool.false_and]; rfl]
           exact hN)
        | (refine hk M1 S1 ?_
           rw [show (gth1 P A s t g false (aR A t && decide (t + 1 = s))) = g by unfold gth1; rw [decide_eq_false (show ¬ (t + 1 = s) from fun h => c_114 (by first | (unfold nmA at h; rw [h]) | (rw [nI_add, h]))), Bool.and_false]; rfl]
           exact hN)
        | (have hc : t + 1 = s := by
             first
               | (rw [nI_inj (by have := nmO_le hv; omega) (by omega)] at c_114; exact c_114)
               | (rw [nI_add, nI_inj (by omega) (by omega)] at c_114; exact c_114)
           first
             | (refine hk M3 S3 ⟨(hN.1.trans (hO2.mono (fun i k h => Or.inl h))).trans hO3, hG3, ?_, ?_, fun u hu => ?_⟩
                · rw [h17]
                  rw [show (gth1 P A s t g false (aR A t && decide (t + 1 = s))) = addG g G by unfold gth1; rw [c_107, decide_eq_true hc, Bool.and_self, if_pos rfl, hg]]
                  rfl
                · intro T hT p hp
                  rw [show (gth1 P A s t g false (aR A t && decide (t + 1 = s))) = addG g G by unfold gth1; rw [c_107, decide_eq_true hc, Bool.and_self, if_pos rfl, hg]] at hT
                  cases hT
                  rw [e3 p hp, cut8_lt hp]
                  unfold addE
                  cases g with
                  | none => exact e2 G hg p hp
                  | some T => dsimp only; rw [e2 G hg p hp]
                · rw [ag3 u (by omega), ag2 u (by unfold gvP; omega)]; exact hN.2.2.2.2 u hu)
             | (rw [bI_eq0] at c_123
                have hg := none_of c_123
                refine hk M2 S2 ?_
                rw [show (gth1 P A s t g false (aR A t && decide (t + 1 = s))) = g by unfold gth1; rw [hg]; split <;> rfl]
                exact ⟨hN.1.trans (hO2.mono (fun i k h => Or.inl h)), hG2, h17b, h350, fun u hu => by rw [ag2 u (by unfold gvP; omega)]; exact hN.2.2.2.2 u hu⟩))
    · skip
      refine g_aload_n dX9_narrow_117 rfl ?_
      refine g_iload_n dX9_narrow_118 rfl ?_
      refine g_iconst (v := bI false) dX9_narrow_119 rfl ?_
      refine g_callV dX9_narrow_120 sX9_goes (s_goesA M1 n m t (P.getD t st0) S1 (aF A t) false hG1 (by omega) hT hv (fun p hp => hA1.2.2.2 t (by omega) c_107 p hp) (hd t ht c_107)) cl10 hG1.1.1 iX9_goes vX9_goes (iw_25 7 rfl) rfl rfl (Nat.le_of_ble_eq_true rfl) (Nat.le_of_ble_eq_true rfl) (Nat.le_of_ble_eq_true rfl) (Nat.le_of_ble_eq_true rfl) (Nat.le_of_ble_eq_true rfl) ?_
      intro r9 M2 n9 h9
      obtain ⟨h91, h93, hO2, S2, hG2, e2, ag2⟩ := h9
      rw [h91, h93]
      clear h91 h93 r9 n9
      have h17b : mI M2 m 17 = bI g.isSome := (hO2.i (by unfold fA; omega)).trans hN.2.2.1
      have h350 : ∀ T, g = some T → ∀ p, p < 8 → S2 (350 + p) = T p := fun T hT p hp => by rw [ag2 _ (by unfold gvP; omega)]; exact hN.2.2.2.1 T hT p hp
      refine g_if_eq (tgt := 130) dX9_narrow_123 (by decide) (fun c_123 => ?_) (fun c_123 => ?_)
      · skip
        first
          | (rw [bI_eq0] at c_107
             refine hk M1 S1 ?_
             rw [show (gth1 P A s t g false (aR A t && decide (t + 1 = s))) = g by unfold gth1; rw [c_107, Bool.false_and]; rfl]
             exact hN)
          | (refine hk M1 S1 ?_
             rw [show (gth1 P A s t g false (aR A t && decide (t + 1 = s))) = g by unfold gth1; rw [decide_eq_false (show ¬ (t + 1 = s) from fun h => c_114 (by first | (unfold nmA at h; rw [h]) | (rw [nI_add, h]))), Bool.and_false]; rfl]
             exact hN)
          | (have hc : t + 1 = s := by
               first
                 | (rw [nI_inj (by have := nmO_le hv; omega) (by omega)] at c_114; exact c_114)
                 | (rw [nI_add, nI_inj (by omega) (by omega)] at c_114; exact c_114)
             first
               | (refine hk M3 S3 ⟨(hN.1.trans (hO2.mono (fun i k h => Or.inl h))).trans hO3, hG3, ?_, ?_, fun u hu => ?_⟩
                  · rw [h17]
                    rw [show (gth1 P A s t g false (aR A t && decide (t + 1 = s))) = addG g G by unfold gth1; rw [c_107, decide_eq_true hc, Bool.and_self, if_pos rfl, hg]]
                    rfl
                  · intro T hT p hp
                    rw [show (gth1 P A s t g false (aR A t && decide (t + 1 = s))) = addG g G by unfold gth1; rw [c_107, decide_eq_true hc, Bool.and_self, if_pos rfl, hg]] at hT
                    cases hT
                    rw [e3 p hp, cut8_lt hp]
                    unfold addE
                    cases g with
                    | none => exact e2 G hg p hp
                    | some T => dsimp only; rw [e2 G hg p hp]
                  · rw [ag3 u (by omega), ag2 u (by unfold gvP; omega)]; exact hN.2.2.2.2 u hu)
               | (rw [bI_eq0] at c_123
                  have hg := none_of c_123
                  refine hk M2 S2 ?_
                  rw [show (gth1 P A s t g false (aR A t && decide (t + 1 = s))) = g by unfold gth1; rw [hg]; split <;> rfl]
                  exact ⟨hN.1.trans (hO2.mono (fun i k h => Or.inl h)), hG2, h17b, h350, fun u hu => by rw [ag2 u (by unfold gvP; omega)]; exact hN.2.2.2.2 u hu⟩))
      · skip
        rw [bI_eq0, Bool.not_eq_false] at c_123
        obtain ⟨G, hg⟩ := some_of c_123
        refine g_aload_n dX9_narrow_126 rfl ?_
        refine g_callV dX9_narrow_127 sX9_gather (s_gather M2 n m S2 g hG2 h17b h350) cl10 hG2.1.1 iX9_gather vX9_gather (iw_30 22 rfl) rfl rfl (Nat.le_of_ble_eq_true rfl) (Nat.le_of_ble_eq_true rfl) (Nat.le_of_ble_eq_true rfl) (Nat.le_of_ble_eq_true rfl) (Nat.le_of_ble_eq_true rfl) ?_
        intro r9 M3 n9 h9
        obtain ⟨h91, h93, hO3, h17, S3, hG3, e3, ag3⟩ := h9
        rw [h91, h93]
        clear h91 h93 r9 n9
        first
          | (rw [bI_eq0] at c_107
             refine hk M1 S1 ?_
             rw [show (gth1 P A s t g false (aR A t && decide (t + 1 = s))) = g by unfold gth1; rw [c_107, Bool.false_and]; rfl]
             exact hN)
          | (refine hk M1 S1 ?_
             rw [show (gth1 P A s t g false (aR A t && decide (t + 1 = s))) = g by unfold gth1; rw [decide_eq_false (show ¬ (t + 1 = s) from fun h => c_114 (by first | (unfold nmA at h; rw [h]) | (rw [nI_add, h]))), Bool.and_false]; rfl]
             exact hN)
          | (have hc : t + 1 = s := by
               first
                 | (rw [nI_inj (by have := nmO_le hv; omega) (by omega)] at c_114; exact c_114)
                 | (rw [nI_add, nI_inj (by omega) (by omega)] at c_114; exact c_114)
             first
               | (refine hk M3 S3 ⟨(hN.1.trans (hO2.mono (fun i k h => Or.inl h))).trans hO3, hG3, ?_, ?_, fun u hu => ?_⟩
                  · rw [h17]
                    rw [show (gth1 P A s t g false (aR A t && decide (t + 1 = s))) = addG g G by unfold gth1; rw [c_107, decide_eq_true hc, Bool.and_self, if_pos rfl, hg]]
                    rfl
                  · intro T hT p hp
                    rw [show (gth1 P A s t g false (aR A t && decide (t + 1 = s))) = addG g G by unfold gth1; rw [c_107, decide_eq_true hc, Bool.and_self, if_pos rfl, hg]] at hT
                    cases hT
                    rw [e3 p hp, cut8_lt hp]
                    unfold addE
                    cases g with
                    | none => exact e2 G hg p hp
                    | some T => dsimp only; rw [e2 G hg p hp]
                  · rw [ag3 u (by omega), ag2 u (by unfold gvP; omega)]; exact hN.2.2.2.2 u hu)
               | (rw [bI_eq0] at c_123
                  have hg := none_of c_123
                  refine hk M2 S2 ?_
                  rw [show (gth1 P A s t g false (aR A t && decide (t + 1 = s))) = g by unfold gth1; rw [hg]; split <;> rfl]
                  exact ⟨hN.1.trans (hO2.mono (fun i k h => Or.inl h)), hG2, h17b, h350, fun u hu => by rw [ag2 u (by unfold gvP; omega)]; exact hN.2.2.2.2 u hu⟩))

set_option maxHeartbeats 4000000 in
set_option maxRecDepth 100000 in
theorem l_nw62 {M : gM} {n m s : Nat} {S : Nat → List Sp} {P : List St} {A : RA} {first : Ev} {Q : gθ} (hP : rP M m P) (hA : rA M m A S) (hd : gdA P A) (hs : s < P.length) (hk : ∀ M1 S1, nvI M M1 m S S1 (gthA P A first s P.length) → GW μX9_narrow (gRm 7 177 0 0) Q 0 0 136 [some (.ref m), some (.int (nI s)), none] [] M1 n) : ∀ (d : Nat) (t : Nat) (M1 : gM) (S1 : Nat → List Sp), P.length - t < d → t ≤ P.length → nvI M M1 m S S1 (gthA P A first s t) → GW μX9_narrow (gRm 7 177 0 0) Q 0 0 62 [some (.ref m), some (.int (nI s)), some (.int (nI (t)))] [] M1 n := by
  intro d
  induction d with
  | zero =>
    intro t M1 S1 hd2 ht hN
    omega
  | succ d ih =>
    intro t M1 S1 hd2 ht hN
    have l40 := hP.2.1
    have hP1 := hP.offT hN.1
    refine g_iload_n dX9_narrow_62 rfl ?_
    refine g_aload_n dX9_narrow_63 rfl ?_
    refine g_getI (f := 6) dX9_narrow_64 cl10 hN.2.1.1.1 (by decide) (Or.inl (iw_12 20 rfl)) (Or.inl rfl) (Or.inl rfl) ?_
    rw [hP1.1]
    refine g_icmp_ge (tgt := 136) dX9_narrow_67 (by decide) (fun c_67 => ?_) (fun c_67 => ?_)
    · skip
      rw [nI_leI (by omega) (by omega)] at c_67
      have e : t = P.length := by omega
      subst e
      refine g_drop 2 ?_
      exact hk M1 S1 hN
    · skip
      rw [nI_leI (by omega) (by omega)] at c_67
      refine p_nw70 (first := first) hP hA hd hs (by omega) hN (fun M2 S2 hN2 => ?_)
      refine p_nw101 (first := first) hP hA hd hs (by omega) hN2 (fun M3 S3 hN3 => ?_)
      refine g_iinc dX9_narrow_130 rfl (nI_1 t) (Nat.le_of_ble_eq_true rfl) ?_
      refine g_goto (tgt := 62) dX9_narrow_133 (by decide) ?_
      exact ih (t + 1) M3 S3 (by omega) (by omega) hN3

set_option maxHeartbeats 4000000 in
set_option maxRecDepth 100000 in
theorem l_nw30 {M : gM} {n m s : Nat} {S : Nat → List Sp} {Q : gθ} (hk : ∀ M1, Off M M1 (fA m) → rS M1 m (blk S 328 320 8) → GW μX9_narrow (gRm 7 177 0 0) Q 0 0 56 [some (.ref m), some (.int (nI s)), none] [] M1 n) : ∀ (d : Nat) (j : Nat) (M1 : gM), 8 - j < d → j ≤ 8 → Off M M1 (fA m) → rS M1 m (blk S 328 320 j) → GW μX9_narrow (gRm 7 177 0 0) Q 0 0 30 [some (.ref m), some (.int (nI s)), some (.int (nI (j)))] [] M1 n := by
  intro d
  induction d with
  | zero =>
    intro j M1 hd hj hO hG1
    omega
  | succ d ih =>
    intro j M1 hd hj hO hG1
    refine g_iload_n dX9_narrow_30 rfl ?_
    refine g_bipush (v := nI 8) dX9_narrow_31 rfl ?_
    refine g_icmp_ge (tgt := 56) dX9_narrow_33 (by decide) (fun c_33 => ?_) (fun c_33 => ?_)
    · skip
      rw [nI_leI (by omega) (by omega)] at c_33
      have e8 : j = 8 := by omega
      subst e8
      refine g_drop 2 ?_
      exact hk M1 hO hG1
    · skip
      rw [nI_leI (by omega) (by omega)] at c_33
      refine g_aload_n dX9_narrow_36 rfl ?_
      refine g_sipush (v := nI 328) dX9_narrow_37 rfl ?_
      refine g_iload_n dX9_narrow_40 rfl ?_
      refine g_iadd dX9_narrow_41 ?_
      rw [nI_add]
      refine g_sipush (v := nI 320) dX9_narrow_42 rfl ?_
      refine g_iload_n dX9_narrow_45 rfl ?_
      refine g_iadd dX9_narrow_46 ?_
      rw [nI_add]
      refine g_callV dX9_narrow_47 sX9_copy (s_copy M1 n m (328 + j) (320 + j) _ hG1 (by omega) (by omega)) cl10 hG1.1.1 iX9_copy vX9_copy (iw_25 3 rfl) rfl rfl (Nat.le_of_ble_eq_true rfl) (Nat.le_of_ble_eq_true rfl) (Nat.le_of_ble_eq_true rfl) (Nat.le_of_ble_eq_true rfl) (Nat.le_of_ble_eq_true rfl) ?_
      intro r9 M2 n9 h9
      obtain ⟨h91, h93, hO2, hG2⟩ := h9
      rw [h91, h93]
      clear h91 h93 r9 n9
      rw [blk_1 (by omega)] at hG2
      refine g_iinc dX9_narrow_50 rfl (nI_1 j) (Nat.le_of_ble_eq_true rfl) ?_
      refine g_goto (tgt := 30) dX9_narrow_53 (by decide) ?_
      exact ih (j + 1) M2 (by omega) (by omega) (hO.trans hO2) hG2

/-- the reference between two statements of NARROWING -/
def nwI (M M1 : gM) (m : Nat) (P : List St) (first : Ev) (A : RA) (w : Nat) (S1 : Nat → List Sp) : Prop := Off M M1 (fN m) ∧ rS M1 m S1 ∧ rA M1 m A S1 ∧ mI M1 m 15 = nI w ∧ ∀ p, p < 8 → S1 (320 + p) = first p
set_option maxHeartbeats 4000000 in
set_option maxRecDepth 100000 in
theorem p_nw60 {M0 M : gM} {n m s w : Nat} {S : Nat → List Sp} {P : List St} {A : RA} {first : Ev} {Q : gθ} (hP : rP M m P) (hd : gdA P A) (hs : s < P.length) (hI : nwI M0 M m P first A w S) (hR : aR A s = true) {M1 : gM} {S1 : Nat → List Sp} (hN : nvI M M1 m S S1 (gthA P A first s 0)) (hk : ∀ M1 S1, nwI M0 M1 m P first (nar1 P first A w s).1 (nar1 P first A w s).2 S1 → GW μX9_narrow (gRm 7 177 0 0) Q 0 0 141 [some (.ref m), some (.int (nI s)), none] [] M1 n) : GW μX9_narrow (gRm 7 177 0 0) Q 0 0 60 [some (.ref m), some (.int (nI s)), none] [] M1 n := by
  refine g_iconst (v := nI 0) dX9_narrow_60 rfl ?_
  refine g_istore_n dX9_narrow_61 (Nat.le_of_ble_eq_true rfl) ?_
  have l40 := hP.2.1
  have hA := hI.2.2.1
  refine l_nw62 (first := first) hP hA hd hs (fun M2 S2 hN2 => ?_) (P.length + 1) 0 M1 S1 (by omega) (by omega) hN
  have hA2 : rA M2 m A S2 := (hA.offT hN2.1).agr hN2.2.2.2.2 (fun u h => by omega)
  have h15 : mI M2 m 15 = nI w := (hN2.1.i (by unfold fT fA; omega)).trans hI.2.2.2.1
  refine g_aload_n dX9_narrow_136 rfl ?_
  refine g_iload_n dX9_narrow_137 rfl ?_
  refine g_callV dX9_narrow_138 sX9_meet (s_meet M2 n m s w S2 A (gthA P A first s P.length) hN2.2.1 hA2 (by omega) hR h15 hN2.2.2.1 hN2.2.2.2.1) cl10 hN2.2.1.1.1 iX9_meet vX9_meet (iw_31 2 rfl) rfl rfl (Nat.le_of_ble_eq_true rfl) (Nat.le_of_ble_eq_true rfl) (Nat.le_of_ble_eq_true rfl) (Nat.le_of_ble_eq_true rfl) (Nat.le_of_ble_eq_true rfl) ?_
  intro r9 M3 n9 h9
  obtain ⟨h91, h93, hO3, S3, hG3, hA3, e3, ag3⟩ := h9
  rw [h91, h93]
  refine hk M3 S3 ?_
  rw [show nar1 P first A w s = meetA A w s (gthA P A first s P.length) by unfold nar1; rw [if_pos hR]]
  exact ⟨(hI.1.trans (hN2.1.mono (fun i k h => fT_N h))).trans hO3, hG3, hA3, e3, fun p hp => by rw [ag3 _ (by omega), hN2.2.2.2.2 _ (by omega)]; exact hI.2.2.2.2 p hp⟩

set_option maxHeartbeats 4000000 in
set_option maxRecDepth 100000 in
theorem p_nw19 {M0 M : gM} {n m s w : Nat} {S : Nat → List Sp} {P : List St} {A : RA} {first : Ev} {Q : gθ} (hP : rP M m P) (hd : gdA P A) (hs : s < P.length) (hI : nwI M0 M m P first A w S) (hR : aR A s = true) (hk : ∀ M1 S1, nwI M0 M1 m P first (nar1 P first A w s).1 (nar1 P first A w s).2 S1 → GW μX9_narrow (gRm 7 177 0 0) Q 0 0 141 [some (.ref m), some (.int (nI s)), none] [] M1 n) : GW μX9_narrow (gRm 7 177 0 0) Q 0 0 19 [some (.ref m), some (.int (nI s)), none] [] M n := by
  refine g_aload_n dX9_narrow_19 rfl ?_
  refine g_iconst (v := nI 0) dX9_narrow_20 rfl ?_
  refine g_putI (f := 17) dX9_narrow_21 cl10 hI.2.1.1.1 (by decide) (Or.inl (iw_30 21 rfl)) (Or.inl rfl) (Or.inl rfl) (Or.inr ⟨rfl, (Or.inl rfl)⟩) ?_
  have l40 := hP.2.1
  have hO1 : Off M (stI M m 17 (nI 0)) (fT m) := Off.rf.stI (Or.inr ⟨rfl, rfl⟩)
  have hG1 : rS (stI M m 17 (nI 0)) m S := hI.2.1.offI (Q := fun i k => i = m ∧ k = 17) (Off.rf.stI ⟨rfl, rfl⟩) (fun i k h => by unfold fA; omega)
  have h17 : mI (stI M m 17 (nI 0)) m 17 = bI (none : Option Ev).isSome := by rw [mI_st, if_pos ⟨rfl, rfl⟩]; rfl
  have z0 : (0 : Int32) = nI 0 := rfl
  generalize stI M m 17 (nI 0) = M1 at hO1 hG1 h17 ⊢
  refine g_iload_n dX9_narrow_24 rfl ?_
  refine g_if_ne (tgt := 60) dX9_narrow_25 (by decide) (fun c_25 => ?_) (fun c_25 => ?_)
  · skip
    try rw [z0, nI_inj (by omega) (by omega)] at c_25
    refine p_nw60 hP hd hs hI hR ⟨hO1, hG1, ?_, ?_, fun u hu => rfl⟩ hk
    · rw [h17]; unfold gthA; rw [if_neg c_25]
    · intro T hT
      unfold gthA at hT
      rw [if_neg c_25] at hT
      cases hT
  · skip
    rw [z0, nI_inj (by omega) (by omega)] at c_25
    refine g_iconst (v := nI 0) dX9_narrow_28 rfl ?_
    refine g_istore_n dX9_narrow_29 (Nat.le_of_ble_eq_true rfl) ?_
    refine l_nw30 (S := S) (fun M2 hO2 hG2 => ?_) 9 0 M1 (by omega) (by omega) Off.rf (by rw [blk_0]; exact hG1)
    refine g_aload_n dX9_narrow_56 rfl ?_
    refine g_callV dX9_narrow_57 sX9_gather (s_gather M2 n m _ none hG2 ((hO2.i (by unfold fA; omega)).trans h17) (fun T h => by cases h)) cl10 hG2.1.1 iX9_gather vX9_gather (iw_30 22 rfl) rfl rfl (Nat.le_of_ble_eq_true rfl) (Nat.le_of_ble_eq_true rfl) (Nat.le_of_ble_eq_true rfl) (Nat.le_of_ble_eq_true rfl) (Nat.le_of_ble_eq_true rfl) ?_
    intro r9 M3 n9 h9
    obtain ⟨h91, h93, hO3, h17b, S3, hG3, e3, ag3⟩ := h9
    rw [h91, h93]
    clear h91 h93 r9 n9
    refine p_nw60 hP hd hs hI hR ⟨(hO1.trans (hO2.mono (fun i k h => Or.inl h))).trans hO3, hG3, ?_, ?_, fun u hu => ?_⟩ hk
    · rw [h17b]; unfold gthA; rw [if_pos c_25]; rfl
    · intro T hT p hp
      unfold gthA at hT
      rw [if_pos c_25] at hT
      cases hT
      rw [e3 p hp, cut8_lt hp]
      show blk S 328 320 8 (328 + p) = first p
      unfold blk
      rw [if_pos (by omega), show 328 + p - 328 = p by omega]
      exact hI.2.2.2.2 p hp
    · rw [ag3 u (by omega)]; unfold blk; rw [if_neg (by omega)]

set_option maxHeartbeats 4000000 in
set_option maxRecDepth 100000 in
theorem l_nw2 {M : gM} {n m : Nat} {P : List St} {A : RA} {w : Nat} {first : Ev} {Q : gθ} (hvP : vP P) (hf : gdF first) (hP : rP M m P) (hd : gdA P A) (hk : ∀ M1 S1, nwI M M1 m P first (narA P first A w).1 (narA P first A w).2 S1 → GW μX9_narrow (gRm 7 177 0 0) Q 0 0 147 [some (.ref m), none, none] [] M1 n) : ∀ (d : Nat) (s : Nat) (M1 : gM) (S1 : Nat → List Sp), P.length - s < d → s ≤ P.length → nwI M M1 m P first (narK P first A w s).1 (narK P first A w s).2 S1 → GW μX9_narrow (gRm 7 177 0 0) Q 0 0 2 [some (.ref m), some (.int (nI s)), none] [] M1 n := by
  intro d
  induction d with
  | zero =>
    intro s M1 S1 hd2 hs hI
    omega
  | succ d ih =>
    intro s M1 S1 hd2 hs hI
    have l40 := hP.2.1
    have hP1 := hP.offN hI.1
    refine g_iload_n dX9_narrow_2 rfl ?_
    refine g_aload_n dX9_narrow_3 rfl ?_
    refine g_getI (f := 6) dX9_narrow_4 cl10 hI.2.1.1.1 (by decide) (Or.inl (iw_12 20 rfl)) (Or.inl rfl) (Or.inl rfl) ?_
    rw [hP1.1]
    refine g_icmp_ge (tgt := 147) dX9_narrow_7 (by decide) (fun c_7 => ?_) (fun c_7 => ?_)
    · skip
      rw [nI_leI (by omega) (by omega)] at c_7
      have e : s = P.length := by omega
      subst e
      refine g_drop 1 ?_
      exact hk M1 S1 hI
    · skip
      rw [nI_leI (by omega) (by omega)] at c_7
      refine g_aload_n dX9_narrow_10 rfl ?_
      refine g_getR (f := 12) dX9_narrow_11 cl10 hI.2.1.1.1 (by decide) (Or.inl (iw_6 5 rfl)) (Or.inl rfl) rfl hI.2.1.1.r_reached ?_
      refine g_iload_n dX9_narrow_14 rfl ?_
      refine g_baload dX9_narrow_15 (j := s) hI.2.1.1.k_reached hI.2.1.1.n_reached rfl (by omega) (by decide) ?_
      rw [hI.2.2.1.1 s (by omega)]
      refine g_if_eq (tgt := 141) dX9_narrow_16 (by decide) (fun c_16 => ?_) (fun c_16 => ?_)
      · skip
        rw [bI_eq0] at c_16
        refine g_iinc dX9_narrow_141 rfl (nI_1 s) (Nat.le_of_ble_eq_true rfl) ?_
        refine g_goto (tgt := 2) dX9_narrow_144 (by decide) ?_
        refine ih (s + 1) M1 S1 (by omega) (by omega) ?_
        unfold narK nar1
        rw [if_neg (by rw [c_16]; decide)]
        exact hI
      · skip
        rw [bI_eq0, Bool.not_eq_false] at c_16
        refine p_nw19 (M0 := M) hP1 (narK_gd hvP hf hd w s (by omega)) (by omega) hI c_16 (fun M2 S2 hI2 => ?_)
        refine g_iinc dX9_narrow_141 rfl (nI_1 s) (Nat.le_of_ble_eq_true rfl) ?_
        refine g_goto (tgt := 2) dX9_narrow_144 (by decide) ?_
        exact ih (s + 1) M2 S2 (by omega) (by omega) hI2

set_option maxHeartbeats 4000000 in
set_option maxRecDepth 100000 in
theorem s_narrow (M : gM) (n m : Nat) (S : Nat → List Sp) (P : List St) (A : RA) (w : Nat) (first : Ev) (hG : rS M m S) (hvP : vP P) (hf : gdF first) (hP : rP M m P) (hd : gdA P A) (hA : rA M m A S) (h15 : mI M m 15 = nI w) (h320 : ∀ p, p < 8 → S (320 + p) = first p) : GM μX9_narrow 7 177 0 0 [.ref m] M n (fun r M1 n1 => r = none ∧ n1 = n ∧ ∃ S1, nwI M M1 m P first (narA P first A w).1 (narA P first A w).2 S1) := by
  refine GM.ofW (by decide) rfl (Nat.le_of_ble_eq_true rfl) rfl ?_
  refine g_iconst (v := nI 0) dX9_narrow_0 rfl ?_
  refine g_istore_n dX9_narrow_1 (Nat.le_of_ble_eq_true rfl) ?_
  refine l_nw2 (first := first) hvP hf hP hd (fun M1 S1 hI => ?_) (P.length + 1) 0 M S (by omega) (by omega) ⟨Off.rf, hG, hA, h15, h320⟩
  exact g_vret dX9_narrow_147 rfl (Nat.le_of_ble_eq_true rfl) (Nat.le_of_ble_eq_true rfl) ⟨rfl, rfl, S1, hI⟩

