/-! the reference: run -/
def fU (m : Nat) : Nat → Nat → Prop := fun i k => fA m i k ∨ (i = m ∧ (k = 0 ∨ k = 11 ∨ k = 13 ∨ k = 14 ∨ k = 15 ∨ k = 17)) ∨ i = m + 9 ∨ i = m + 10
theorem fA_U {m i k : Nat} (h : fA m i k) : fU m i k := Or.inl h
theorem fG_U {m i k : Nat} (h : fG m i k) : fU m i k := h.elim (fun h => Or.inl h) (fun h => Or.inr (h.elim (fun h => Or.inl ⟨h.1, by omega⟩) (fun h => Or.inr h)))
theorem fN_U {m i k : Nat} (h : fN m i k) : fU m i k := h.elim (fun h => Or.inl h) (fun h => Or.inr (h.elim (fun h => Or.inl ⟨h.1, by omega⟩) (fun h => h.elim (fun h => Or.inl ⟨h.1, by omega⟩) (fun h => Or.inr (Or.inl h)))))
theorem rP.offU {M M1 : gM} {m : Nat} {P : List St} (h : rP M m P) (ho : Off M M1 (fU m)) : rP M1 m P := h.off ho (by unfold fU fA; omega) (fun i k h1 h2 => by unfold fU fA; omega)
/-- the reference among ROUNDS -/
def rnI (M M1 : gM) (m : Nat) (first : Ev) (A : RA) (r : Nat) (S1 : Nat → List Sp) : Prop := Off M M1 (fU m) ∧ rS M1 m S1 ∧ rA M1 m A S1 ∧ (∀ p, p < 8 → S1 (320 + p) = first p) ∧ mI M1 m 13 = nI r ∧ mI M1 m 15 = nI 0 ∧ mI M1 m 0 = 0
theorem dirA_some {P : List St} {A : RA} {s t : Nat} {nm : Bool} {G : Nat → List Sp} (c : aR A s = true) (h : gvn (P.getD s st0) (aF A s) nm = some G) : dirA P A s nm t = giveA P A t G := by
  unfold dirA; rw [if_pos c, h]
theorem dirA_none {P : List St} {A : RA} {s t : Nat} {nm : Bool} (h : gvn (P.getD s st0) (aF A s) nm = none) : dirA P A s nm t = (A, false) := by
  unfold dirA; rw [h]; split <;> rfl
theorem dirA_out {P : List St} {A : RA} {s t : Nat} {nm : Bool} (c : aR A s = false) : dirA P A s nm t = (A, false) := by
  unfold dirA; rw [if_neg (by rw [c]; decide)]
set_option maxHeartbeats 4000000 in
set_option maxRecDepth 100000 in
theorem p_rn123 {M : gM} {n m : Nat} {P : List St} {first : Ev} {Q : gθ} (hvP : vP P) (hP : rP M m P) {M1 : gM} {S1 : Nat → List Sp} {s r : Nat} {A : RA} {b : Bool} (hs : s < P.length) (hd : gdA P A) (hC : ∀ u, aC A u < 2000000000) (hI : rnI M M1 m first A r S1) (hk : ∀ M2 S2, rnI M M2 m first (dirA P A s true (nmA P s)).1 r S2 → GW μX9_run (gRm 8 199 0 0) Q 0 0 163 [some (.ref m), some (.int (bI ((dirA P A s true (nmA P s)).2 || b))), some (.int (nI (s)))] [] M2 n) : GW μX9_run (gRm 8 199 0 0) Q 0 0 123 [some (.ref m), some (.int (bI (b))), some (.int (nI (s)))] [] M1 n := by
  have l40 := hP.2.1
  have hP1 := hP.offU hI.1
  have hG1 := hI.2.1
  have hA1 := hI.2.2.1
  have hT := (hP1.2.2 s hs).1
  have hv := (hP1.2.2 s hs).2
  refine g_aload_n dX9_run_123 rfl ?_
  refine g_getR (f := 12) dX9_run_124 cl10 hG1.1.1 (by decide) (Or.inl (iw_6 5 rfl)) (Or.inl rfl) rfl hG1.1.r_reached ?_
  refine g_iload_n dX9_run_127 rfl ?_
  refine g_baload dX9_run_128 (j := s) hG1.1.k_reached hG1.1.n_reached rfl (by omega) (by decide) ?_
  rw [hA1.1 s (by omega)]
  refine g_if_eq (tgt := 163) dX9_run_129 (by decide) (fun c_129 => ?_) (fun c_129 => ?_)
  · skip
    first
      | (have hb : ∀ w : Int32, w = bI ((dirA P A s true (nmA P s)).2 || b) → GW μX9_run (gRm 8 199 0 0) Q 0 0 163 [some (.ref m), some (.int w), some (.int (nI s))] [] M3 n := by
           intro w hw
           rw [hw]
           refine hk M3 S3 ⟨(hI.1.trans (hO2.mono (fun i k h => fA_U h))).trans (hO3.mono (fun i k h => fG_U h)), hG3, hA3, fun p hp => by rw [ag3 _ (by omega), ag2 _ (by unfold gvP; omega)]; exact hI.2.2.2.1 p hp, ?_, ?_, ?_⟩
           · rw [hO3.i (by unfold fG fA; omega), hO2.i (by unfold fA; omega)]; exact hI.2.2.2.2.1
           · rw [hO3.i (by unfold fG fA; omega), hO2.i (by unfold fA; omega)]; exact hI.2.2.2.2.2.1
           · rw [hO3.i (by unfold fG fA; omega), hO2.i (by unfold fA; omega)]; exact hI.2.2.2.2.2.2
         first
           | (rw [bI_eq0, Bool.not_eq_false] at c_150
              exact hb _ (by rw [c_150]; rfl))
           | (rw [bI_eq0] at c_150
              rw [bI_eq0, Bool.not_eq_false] at c_154
              exact hb _ (by rw [c_154, Bool.or_true]; rfl))
           | (rw [bI_eq0] at c_150
              rw [bI_eq0] at c_154
              exact hb _ (by rw [c_150, c_154]; rfl)))
      | (rw [bI_eq0] at c_138
         have eD := dirA_none (t := nmA P s) (none_of c_138)
         rw [eD, Bool.false_or] at hk
         refine hk M2 S2 ⟨hI.1.trans (hO2.mono (fun i k h => fA_U h)), hG2, (hA1.off hO2).agr ag2 (fun u h => by unfold gvP at h; omega), fun p hp => by rw [ag2 _ (by unfold gvP; omega)]; exact hI.2.2.2.1 p hp, ?_, ?_, ?_⟩
         · rw [hO2.i (by unfold fA; omega)]; exact hI.2.2.2.2.1
         · rw [hO2.i (by unfold fA; omega)]; exact hI.2.2.2.2.2.1
         · rw [hO2.i (by unfold fA; omega)]; exact hI.2.2.2.2.2.2)
      | (rw [bI_eq0] at c_129
         rw [dirA_out c_129, Bool.false_or] at hk
         exact hk M1 S1 hI)
  · skip
    rw [bI_eq0, Bool.not_eq_false] at c_129
    refine g_aload_n dX9_run_132 rfl ?_
    refine g_iload_n dX9_run_133 rfl ?_
    refine g_iconst (v := bI true) dX9_run_134 rfl ?_
    refine g_callV dX9_run_135 sX9_goes (s_goesA M1 n m s (P.getD s st0) S1 (aF A s) true hG1 (by omega) hT hv (fun p hp => hA1.2.2.2 s (by omega) c_129 p hp) (hd s hs c_129)) cl10 hG1.1.1 iX9_goes vX9_goes (iw_25 7 rfl) rfl rfl (Nat.le_of_ble_eq_true rfl) (Nat.le_of_ble_eq_true rfl) (Nat.le_of_ble_eq_true rfl) (Nat.le_of_ble_eq_true rfl) (Nat.le_of_ble_eq_true rfl) ?_
    intro r9 M2 n9 h9
    obtain ⟨h91, h93, hO2, S2, hG2, e2, ag2⟩ := h9
    rw [h91, h93]
    clear h91 h93 r9 n9
    refine g_if_eq (tgt := 163) dX9_run_138 (by decide) (fun c_138 => ?_) (fun c_138 => ?_)
    · skip
      first
        | (have hb : ∀ w : Int32, w = bI ((dirA P A s true (nmA P s)).2 || b) → GW μX9_run (gRm 8 199 0 0) Q 0 0 163 [some (.ref m), some (.int w), some (.int (nI s))] [] M3 n := by
             intro w hw
             rw [hw]
             refine hk M3 S3 ⟨(hI.1.trans (hO2.mono (fun i k h => fA_U h))).trans (hO3.mono (fun i k h => fG_U h)), hG3, hA3, fun p hp => by rw [ag3 _ (by omega), ag2 _ (by unfold gvP; omega)]; exact hI.2.2.2.1 p hp, ?_, ?_, ?_⟩
             · rw [hO3.i (by unfold fG fA; omega), hO2.i (by unfold fA; omega)]; exact hI.2.2.2.2.1
             · rw [hO3.i (by unfold fG fA; omega), hO2.i (by unfold fA; omega)]; exact hI.2.2.2.2.2.1
             · rw [hO3.i (by unfold fG fA; omega), hO2.i (by unfold fA; omega)]; exact hI.2.2.2.2.2.2
           first
             | (rw [bI_eq0, Bool.not_eq_false] at c_150
                exact hb _ (by rw [c_150]; rfl))
             | (rw [bI_eq0] at c_150
                rw [bI_eq0, Bool.not_eq_false] at c_154
                exact hb _ (by rw [c_154, Bool.or_true]; rfl))
             | (rw [bI_eq0] at c_150
                rw [bI_eq0] at c_154
                exact hb _ (by rw [c_150, c_154]; rfl)))
        | (rw [bI_eq0] at c_138
           have eD := dirA_none (t := nmA P s) (none_of c_138)
           rw [eD, Bool.false_or] at hk
           refine hk M2 S2 ⟨hI.1.trans (hO2.mono (fun i k h => fA_U h)), hG2, (hA1.off hO2).agr ag2 (fun u h => by unfold gvP at h; omega), fun p hp => by rw [ag2 _ (by unfold gvP; omega)]; exact hI.2.2.2.1 p hp, ?_, ?_, ?_⟩
           · rw [hO2.i (by unfold fA; omega)]; exact hI.2.2.2.2.1
           · rw [hO2.i (by unfold fA; omega)]; exact hI.2.2.2.2.2.1
           · rw [hO2.i (by unfold fA; omega)]; exact hI.2.2.2.2.2.2)
        | (rw [bI_eq0] at c_129
           rw [dirA_out c_129, Bool.false_or] at hk
           exact hk M1 S1 hI)
    · skip
      rw [bI_eq0, Bool.not_eq_false] at c_138
      obtain ⟨G, hg⟩ := some_of c_138
      have eD := dirA_some (t := nmA P s) c_129 hg
      have hgc : giveA P A (nmA P s) (fun p => S2 (328 + p)) = giveA P A (nmA P s) G := giveA_congr (fun p hp => e2 G hg p hp)
      have hP2 := hP1.offA hO2
      have hA2 : rA M2 m A S2 := (hA1.off hO2).agr ag2 (fun u h => by unfold gvP at h; omega)
      refine g_aload_n dX9_run_141 rfl ?_
      refine g_aload_n dX9_run_142 rfl ?_
      refine g_iload_n dX9_run_143 rfl ?_
      refine g_callV dX9_run_144 sX9_nameOf (m_nameOf M2 n m s _ hG2.1 (by omega) (hP2.2.2 s hs).1 hv) cl10 hG2.1.1 iX9_nameOf vX9_nameOf (iw_29 17 rfl) rfl rfl (Nat.le_of_ble_eq_true rfl) (Nat.le_of_ble_eq_true rfl) (Nat.le_of_ble_eq_true rfl) (Nat.le_of_ble_eq_true rfl) (Nat.le_of_ble_eq_true rfl) ?_
      intro r9 M9 n9 h9
      obtain ⟨h91, h92, h93⟩ := h9
      rw [h91, h92, h93]
      clear h91 h92 h93 r9 M9 n9
      refine g_callV dX9_run_147 sX9_give (s_give M2 n m (nmA P s) S2 P A hG2 hP2 hA2 (nmO_le hv) (fun h1 h2 p hp => (hd _ h1 h2 p hp).2) (hC _)) cl10 hG2.1.1 iX9_give vX9_give (iw_29 21 rfl) rfl rfl (Nat.le_of_ble_eq_true rfl) (Nat.le_of_ble_eq_true rfl) (Nat.le_of_ble_eq_true rfl) (Nat.le_of_ble_eq_true rfl) (Nat.le_of_ble_eq_true rfl) ?_
      intro r9 M3 n9 h9
      obtain ⟨h91, h93, hO3, S3, hG3, hA3, ag3⟩ := h9
      rw [h91, h93]
      clear h91 h93 r9 n9
      rw [show giveB P A (nmA P s) (cut8 (fun p => S2 (328 + p))) = (dirA P A s true (nmA P s)) from hgc.trans eD.symm] at hA3 ⊢
      refine g_if_ne (tgt := 157) dX9_run_150 (by decide) (fun c_150 => ?_) (fun c_150 => ?_)
      · skip
        refine g_iconst (v := nI 1) dX9_run_157 rfl ?_
        refine g_goto (tgt := 162) dX9_run_158 (by decide) ?_
        refine g_istore_n dX9_run_162 (Nat.le_of_ble_eq_true rfl) ?_
        first
          | (have hb : ∀ w : Int32, w = bI ((dirA P A s true (nmA P s)).2 || b) → GW μX9_run (gRm 8 199 0 0) Q 0 0 163 [some (.ref m), some (.int w), some (.int (nI s))] [] M3 n := by
               intro w hw
               rw [hw]
               refine hk M3 S3 ⟨(hI.1.trans (hO2.mono (fun i k h => fA_U h))).trans (hO3.mono (fun i k h => fG_U h)), hG3, hA3, fun p hp => by rw [ag3 _ (by omega), ag2 _ (by unfold gvP; omega)]; exact hI.2.2.2.1 p hp, ?_, ?_, ?_⟩
               · rw [hO3.i (by unfold fG fA; omega), hO2.i (by unfold fA; omega)]; exact hI.2.2.2.2.1
               · rw [hO3.i (by unfold fG fA; omega), hO2.i (by unfold fA; omega)]; exact hI.2.2.2.2.2.1
               · rw [hO3.i (by unfold fG fA; omega), hO2.i (by unfold fA; omega)]; exact hI.2.2.2.2.2.2
             first
               | (rw [bI_eq0, Bool.not_eq_false] at c_150
                  exact hb _ (by rw [c_150]; rfl))
               | (rw [bI_eq0] at c_150
                  rw [bI_eq0, Bool.not_eq_false] at c_154
                  exact hb _ (by rw [c_154, Bool.or_true]; rfl))
               | (rw [bI_eq0] at c_150
                  rw [bI_eq0] at c_154
                  exact hb _ (by rw [c_150, c_154]; rfl)))
          | (rw [bI_eq0] at c_138
             have eD := dirA_none (t := nmA P s) (none_of c_138)
             rw [eD, Bool.false_or] at hk
             refine hk M2 S2 ⟨hI.1.trans (hO2.mono (fun i k h => fA_U h)), hG2, (hA1.off hO2).agr ag2 (fun u h => by unfold gvP at h; omega), fun p hp => by rw [ag2 _ (by unfold gvP; omega)]; exact hI.2.2.2.1 p hp, ?_, ?_, ?_⟩
             · rw [hO2.i (by unfold fA; omega)]; exact hI.2.2.2.2.1
             · rw [hO2.i (by unfold fA; omega)]; exact hI.2.2.2.2.2.1
             · rw [hO2.i (by unfold fA; omega)]; exact hI.2.2.2.2.2.2)
          | (rw [bI_eq0] at c_129
             rw [dirA_out c_129, Bool.false_or] at hk
             exact hk M1 S1 hI)
      · skip
        refine g_iload_n dX9_run_153 rfl ?_
        refine g_if_eq (tgt := 161) dX9_run_154 (by decide) (fun c_154 => ?_) (fun c_154 => ?_)
        · skip
          refine g_iconst (v := nI 0) dX9_run_161 rfl ?_
          refine g_istore_n dX9_run_162 (Nat.le_of_ble_eq_true rfl) ?_
          first
            | (have hb : ∀ w : Int32, w = bI ((dirA P A s true (nmA P s)).2 || b) → GW μX9_run (gRm 8 199 0 0) Q 0 0 163 [some (.ref m), some (.int w), some (.int (nI s))] [] M3 n := by
                 intro w hw
                 rw [hw]
                 refine hk M3 S3 ⟨(hI.1.trans (hO2.mono (fun i k h => fA_U h))).trans (hO3.mono (fun i k h => fG_U h)), hG3, hA3, fun p hp => by rw [ag3 _ (by omega), ag2 _ (by unfold gvP; omega)]; exact hI.2.2.2.1 p hp, ?_, ?_, ?_⟩
                 · rw [hO3.i (by unfold fG fA; omega), hO2.i (by unfold fA; omega)]; exact hI.2.2.2.2.1
                 · rw [hO3.i (by unfold fG fA; omega), hO2.i (by unfold fA; omega)]; exact hI.2.2.2.2.2.1
                 · rw [hO3.i (by unfold fG fA; omega), hO2.i (by unfold fA; omega)]; exact hI.2.2.2.2.2.2
               first
                 | (rw [bI_eq0, Bool.not_eq_false] at c_150
                    exact hb _ (by rw [c_150]; rfl))
                 | (rw [bI_eq0] at c_150
                    rw [bI_eq0, Bool.not_eq_false] at c_154
                    exact hb _ (by rw [c_154, Bool.or_true]; rfl))
                 | (rw [bI_eq0] at c_150
                    rw [bI_eq0] at c_154
                    exact hb _ (by rw [c_150, c_154]; rfl)))
            | (rw [bI_eq0] at c_138
               have eD := dirA_none (t := nmA P s) (none_of c_138)
               rw [eD, Bool.false_or] at hk
               refine hk M2 S2 ⟨hI.1.trans (hO2.mono (fun i k h => fA_U h)), hG2, (hA1.off hO2).agr ag2 (fun u h => by unfold gvP at h; omega), fun p hp => by rw [ag2 _ (by unfold gvP; omega)]; exact hI.2.2.2.1 p hp, ?_, ?_, ?_⟩
               · rw [hO2.i (by unfold fA; omega)]; exact hI.2.2.2.2.1
               · rw [hO2.i (by unfold fA; omega)]; exact hI.2.2.2.2.2.1
               · rw [hO2.i (by unfold fA; omega)]; exact hI.2.2.2.2.2.2)
            | (rw [bI_eq0] at c_129
               rw [dirA_out c_129, Bool.false_or] at hk
               exact hk M1 S1 hI)
        · skip
          refine g_iconst (v := nI 1) dX9_run_157 rfl ?_
          refine g_goto (tgt := 162) dX9_run_158 (by decide) ?_
          refine g_istore_n dX9_run_162 (Nat.le_of_ble_eq_true rfl) ?_
          first
            | (have hb : ∀ w : Int32, w = bI ((dirA P A s true (nmA P s)).2 || b) → GW μX9_run (gRm 8 199 0 0) Q 0 0 163 [some (.ref m), some (.int w), some (.int (nI s))] [] M3 n := by
                 intro w hw
                 rw [hw]
                 refine hk M3 S3 ⟨(hI.1.trans (hO2.mono (fun i k h => fA_U h))).trans (hO3.mono (fun i k h => fG_U h)), hG3, hA3, fun p hp => by rw [ag3 _ (by omega), ag2 _ (by unfold gvP; omega)]; exact hI.2.2.2.1 p hp, ?_, ?_, ?_⟩
                 · rw [hO3.i (by unfold fG fA; omega), hO2.i (by unfold fA; omega)]; exact hI.2.2.2.2.1
                 · rw [hO3.i (by unfold fG fA; omega), hO2.i (by unfold fA; omega)]; exact hI.2.2.2.2.2.1
                 · rw [hO3.i (by unfold fG fA; omega), hO2.i (by unfold fA; omega)]; exact hI.2.2.2.2.2.2
               first
                 | (rw [bI_eq0, Bool.not_eq_false] at c_150
                    exact hb _ (by rw [c_150]; rfl))
                 | (rw [bI_eq0] at c_150
                    rw [bI_eq0, Bool.not_eq_false] at c_154
                    exact hb _ (by rw [c_154, Bool.or_true]; rfl))
                 | (rw [bI_eq0] at c_150
                    rw [bI_eq0] at c_154
                    exact hb _ (by rw [c_150, c_154]; rfl)))
            | (rw [bI_eq0] at c_138
               have eD := dirA_none (t := nmA P s) (none_of c_138)
               rw [eD, Bool.false_or] at hk
               refine hk M2 S2 ⟨hI.1.trans (hO2.mono (fun i k h => fA_U h)), hG2, (hA1.off hO2).agr ag2 (fun u h => by unfold gvP at h; omega), fun p hp => by rw [ag2 _ (by unfold gvP; omega)]; exact hI.2.2.2.1 p hp, ?_, ?_, ?_⟩
               · rw [hO2.i (by unfold fA; omega)]; exact hI.2.2.2.2.1
               · rw [hO2.i (by unfold fA; omega)]; exact hI.2.2.2.2.2.1
               · rw [hO2.i (by unfold fA; omega)]; exact hI.2.2.2.2.2.2)
            | (rw [bI_eq0] at c_129
               rw [dirA_out c_129, Bool.false_or] at hk
               exact hk M1 S1 hI)

set_option maxHeartbeats 4000000 in
set_option maxRecDepth 100000 in
theorem p_rn163 {M : gM} {n m : Nat} {P : List St} {first : Ev} {Q : gθ} (hvP : vP P) (hP : rP M m P) {M1 : gM} {S1 : Nat → List Sp} {s r : Nat} {A : RA} {b : Bool} (hs : s < P.length) (hd : gdA P A) (hC : ∀ u, aC A u < 2000000000) (hI : rnI M M1 m first A r S1) (hk : ∀ M2 S2, rnI M M2 m first (dirA P A s false (s + 1)).1 r S2 → GW μX9_run (gRm 8 199 0 0) Q 0 0 201 [some (.ref m), some (.int (bI ((dirA P A s false (s + 1)).2 || b))), some (.int (nI (s)))] [] M2 n) : GW μX9_run (gRm 8 199 0 0) Q 0 0 163 [some (.ref m), some (.int (bI (b))), some (.int (nI (s)))] [] M1 n := by
  have l40 := hP.2.1
  have hP1 := hP.offU hI.1
  have hG1 := hI.2.1
  have hA1 := hI.2.2.1
  have hT := (hP1.2.2 s hs).1
  have hv := (hP1.2.2 s hs).2
  refine g_aload_n dX9_run_163 rfl ?_
  refine g_getR (f := 12) dX9_run_164 cl10 hG1.1.1 (by decide) (Or.inl (iw_6 5 rfl)) (Or.inl rfl) rfl hG1.1.r_reached ?_
  refine g_iload_n dX9_run_167 rfl ?_
  refine g_baload dX9_run_168 (j := s) hG1.1.k_reached hG1.1.n_reached rfl (by omega) (by decide) ?_
  rw [hA1.1 s (by omega)]
  refine g_if_eq (tgt := 201) dX9_run_169 (by decide) (fun c_169 => ?_) (fun c_169 => ?_)
  · skip
    first
      | (have hb : ∀ w : Int32, w = bI ((dirA P A s false (s + 1)).2 || b) → GW μX9_run (gRm 8 199 0 0) Q 0 0 201 [some (.ref m), some (.int w), some (.int (nI s))] [] M3 n := by
           intro w hw
           rw [hw]
           refine hk M3 S3 ⟨(hI.1.trans (hO2.mono (fun i k h => fA_U h))).trans (hO3.mono (fun i k h => fG_U h)), hG3, hA3, fun p hp => by rw [ag3 _ (by omega), ag2 _ (by unfold gvP; omega)]; exact hI.2.2.2.1 p hp, ?_, ?_, ?_⟩
           · rw [hO3.i (by unfold fG fA; omega), hO2.i (by unfold fA; omega)]; exact hI.2.2.2.2.1
           · rw [hO3.i (by unfold fG fA; omega), hO2.i (by unfold fA; omega)]; exact hI.2.2.2.2.2.1
           · rw [hO3.i (by unfold fG fA; omega), hO2.i (by unfold fA; omega)]; exact hI.2.2.2.2.2.2
         first
           | (rw [bI_eq0, Bool.not_eq_false] at c_188
              exact hb _ (by rw [c_188]; rfl))
           | (rw [bI_eq0] at c_188
              rw [bI_eq0, Bool.not_eq_false] at c_192
              exact hb _ (by rw [c_192, Bool.or_true]; rfl))
           | (rw [bI_eq0] at c_188
              rw [bI_eq0] at c_192
              exact hb _ (by rw [c_188, c_192]; rfl)))
      | (rw [bI_eq0] at c_178
         have eD := dirA_none (t := s + 1) (none_of c_178)
         rw [eD, Bool.false_or] at hk
         refine hk M2 S2 ⟨hI.1.trans (hO2.mono (fun i k h => fA_U h)), hG2, (hA1.off hO2).agr ag2 (fun u h => by unfold gvP at h; omega), fun p hp => by rw [ag2 _ (by unfold gvP; omega)]; exact hI.2.2.2.1 p hp, ?_, ?_, ?_⟩
         · rw [hO2.i (by unfold fA; omega)]; exact hI.2.2.2.2.1
         · rw [hO2.i (by unfold fA; omega)]; exact hI.2.2.2.2.2.1
         · rw [hO2.i (by unfold fA; omega)]; exact hI.2.2.2.2.2.2)
      | (rw [bI_eq0] at c_169
         rw [dirA_out c_169, Bool.false_or] at hk
         exact hk M1 S1 hI)
  · skip
    rw [bI_eq0, Bool.not_eq_false] at c_169
    refine g_aload_n dX9_run_172 rfl ?_
    refine g_iload_n dX9_run_173 rfl ?_
    refine g_iconst (v := bI false) dX9_run_174 rfl ?_
    refine g_callV dX9_run_175 sX9_goes (s_goesA M1 n m s (P.getD s st0) S1 (aF A s) false hG1 (by omega) hT hv (fun p hp => hA1.2.2.2 s (by omega) c_169 p hp) (hd s hs c_169)) cl10 hG1.1.1 iX9_goes vX9_goes (iw_25 7 rfl) rfl rfl (Nat.le_of_ble_eq_true rfl) (Nat.le_of_ble_eq_true rfl) (Nat.le_of_ble_eq_true rfl) (Nat.le_of_ble_eq_true rfl) (Nat.le_of_ble_eq_true rfl) ?_
    intro r9 M2 n9 h9
    obtain ⟨h91, h93, hO2, S2, hG2, e2, ag2⟩ := h9
    rw [h91, h93]
    clear h91 h93 r9 n9
    refine g_if_eq (tgt := 201) dX9_run_178 (by decide) (fun c_178 => ?_) (fun c_178 => ?_)
    · skip
      first
        | (have hb : ∀ w : Int32, w = bI ((dirA P A s false (s + 1)).2 || b) → GW μX9_run (gRm 8 199 0 0) Q 0 0 201 [some (.ref m), some (.int w), some (.int (nI s))] [] M3 n := by
             intro w hw
             rw [hw]
             refine hk M3 S3 ⟨(hI.1.trans (hO2.mono (fun i k h => fA_U h))).trans (hO3.mono (fun i k h => fG_U h)), hG3, hA3, fun p hp => by rw [ag3 _ (by omega), ag2 _ (by unfold gvP; omega)]; exact hI.2.2.2.1 p hp, ?_, ?_, ?_⟩
             · rw [hO3.i (by unfold fG fA; omega), hO2.i (by unfold fA; omega)]; exact hI.2.2.2.2.1
             · rw [hO3.i (by unfold fG fA; omega), hO2.i (by unfold fA; omega)]; exact hI.2.2.2.2.2.1
             · rw [hO3.i (by unfold fG fA; omega), hO2.i (by unfold fA; omega)]; exact hI.2.2.2.2.2.2
           first
             | (rw [bI_eq0, Bool.not_eq_false] at c_188
                exact hb _ (by rw [c_188]; rfl))
             | (rw [bI_eq0] at c_188
                rw [bI_eq0, Bool.not_eq_false] at c_192
                exact hb _ (by rw [c_192, Bool.or_true]; rfl))
             | (rw [bI_eq0] at c_188
                rw [bI_eq0] at c_192
                exact hb _ (by rw [c_188, c_192]; rfl)))
        | (rw [bI_eq0] at c_178
           have eD := dirA_none (t := s + 1) (none_of c_178)
           rw [eD, Bool.false_or] at hk
           refine hk M2 S2 ⟨hI.1.trans (hO2.mono (fun i k h => fA_U h)), hG2, (hA1.off hO2).agr ag2 (fun u h => by unfold gvP at h; omega), fun p hp => by rw [ag2 _ (by unfold gvP; omega)]; exact hI.2.2.2.1 p hp, ?_, ?_, ?_⟩
           · rw [hO2.i (by unfold fA; omega)]; exact hI.2.2.2.2.1
           · rw [hO2.i (by unfold fA; omega)]; exact hI.2.2.2.2.2.1
           · rw [hO2.i (by unfold fA; omega)]; exact hI.2.2.2.2.2.2)
        | (rw [bI_eq0] at c_169
           rw [dirA_out c_169, Bool.false_or] at hk
           exact hk M1 S1 hI)
    · skip
      rw [bI_eq0, Bool.not_eq_false] at c_178
      obtain ⟨G, hg⟩ := some_of c_178
      have eD := dirA_some (t := s + 1) c_169 hg
      have hgc : giveA P A (s + 1) (fun p => S2 (328 + p)) = giveA P A (s + 1) G := giveA_congr (fun p hp => e2 G hg p hp)
      have hP2 := hP1.offA hO2
      have hA2 : rA M2 m A S2 := (hA1.off hO2).agr ag2 (fun u h => by unfold gvP at h; omega)
      refine g_aload_n dX9_run_181 rfl ?_
      refine g_iload_n dX9_run_182 rfl ?_
      refine g_iconst (v := nI 1) dX9_run_183 rfl ?_
      refine g_iadd dX9_run_184 ?_
      rw [nI_add]
      refine g_callV dX9_run_185 sX9_give (s_give M2 n m (s + 1) S2 P A hG2 hP2 hA2 (by omega) (fun h1 h2 p hp => (hd _ h1 h2 p hp).2) (hC _)) cl10 hG2.1.1 iX9_give vX9_give (iw_29 21 rfl) rfl rfl (Nat.le_of_ble_eq_true rfl) (Nat.le_of_ble_eq_true rfl) (Nat.le_of_ble_eq_true rfl) (Nat.le_of_ble_eq_true rfl) (Nat.le_of_ble_eq_true rfl) ?_
      intro r9 M3 n9 h9
      obtain ⟨h91, h93, hO3, S3, hG3, hA3, ag3⟩ := h9
      rw [h91, h93]
      clear h91 h93 r9 n9
      rw [show giveB P A (s + 1) (cut8 (fun p => S2 (328 + p))) = (dirA P A s false (s + 1)) from hgc.trans eD.symm] at hA3 ⊢
      refine g_if_ne (tgt := 195) dX9_run_188 (by decide) (fun c_188 => ?_) (fun c_188 => ?_)
      · skip
        refine g_iconst (v := nI 1) dX9_run_195 rfl ?_
        refine g_goto (tgt := 200) dX9_run_196 (by decide) ?_
        refine g_istore_n dX9_run_200 (Nat.le_of_ble_eq_true rfl) ?_
        first
          | (have hb : ∀ w : Int32, w = bI ((dirA P A s false (s + 1)).2 || b) → GW μX9_run (gRm 8 199 0 0) Q 0 0 201 [some (.ref m), some (.int w), some (.int (nI s))] [] M3 n := by
               intro w hw
               rw [hw]
               refine hk M3 S3 ⟨(hI.1.trans (hO2.mono (fun i k h => fA_U h))).trans (hO3.mono (fun i k h => fG_U h)), hG3, hA3, fun p hp => by rw [ag3 _ (by omega), ag2 _ (by unfold gvP; omega)]; exact hI.2.2.2.1 p hp, ?_, ?_, ?_⟩
               · rw [hO3.i (by unfold fG fA; omega), hO2.i (by unfold fA; omega)]; exact hI.2.2.2.2.1
               · rw [hO3.i (by unfold fG fA; omega), hO2.i (by unfold fA; omega)]; exact hI.2.2.2.2.2.1
               · rw [hO3.i (by unfold fG fA; omega), hO2.i (by unfold fA; omega)]; exact hI.2.2.2.2.2.2
             first
               | (rw [bI_eq0, Bool.not_eq_false] at c_188
                  exact hb _ (by rw [c_188]; rfl))
               | (rw [bI_eq0] at c_188
                  rw [bI_eq0, Bool.not_eq_false] at c_192
                  exact hb _ (by rw [c_192, Bool.or_true]; rfl))
               | (rw [bI_eq0] at c_188
                  rw [bI_eq0] at c_192
                  exact hb _ (by rw [c_188, c_192]; rfl)))
          | (rw [bI_eq0] at c_178
             have eD := dirA_none (t := s + 1) (none_of c_178)
             rw [eD, Bool.false_or] at hk
             refine hk M2 S2 ⟨hI.1.trans (hO2.mono (fun i k h => fA_U h)), hG2, (hA1.off hO2).agr ag2 (fun u h => by unfold gvP at h; omega), fun p hp => by rw [ag2 _ (by unfold gvP; omega)]; exact hI.2.2.2.1 p hp, ?_, ?_, ?_⟩
             · rw [hO2.i (by unfold fA; omega)]; exact hI.2.2.2.2.1
             · rw [hO2.i (by unfold fA; omega)]; exact hI.2.2.2.2.2.1
             · rw [hO2.i (by unfold fA; omega)]; exact hI.2.2.2.2.2.2)
          | (rw [bI_eq0] at c_169
             rw [dirA_out c_169, Bool.false_or] at hk
             exact hk M1 S1 hI)
      · skip
        refine g_iload_n dX9_run_191 rfl ?_
        refine g_if_eq (tgt := 199) dX9_run_192 (by decide) (fun c_192 => ?_) (fun c_192 => ?_)
        · skip
          refine g_iconst (v := nI 0) dX9_run_199 rfl ?_
          refine g_istore_n dX9_run_200 (Nat.le_of_ble_eq_true rfl) ?_
          first
            | (have hb : ∀ w : Int32, w = bI ((dirA P A s false (s + 1)).2 || b) → GW μX9_run (gRm 8 199 0 0) Q 0 0 201 [some (.ref m), some (.int w), some (.int (nI s))] [] M3 n := by
                 intro w hw
                 rw [hw]
                 refine hk M3 S3 ⟨(hI.1.trans (hO2.mono (fun i k h => fA_U h))).trans (hO3.mono (fun i k h => fG_U h)), hG3, hA3, fun p hp => by rw [ag3 _ (by omega), ag2 _ (by unfold gvP; omega)]; exact hI.2.2.2.1 p hp, ?_, ?_, ?_⟩
                 · rw [hO3.i (by unfold fG fA; omega), hO2.i (by unfold fA; omega)]; exact hI.2.2.2.2.1
                 · rw [hO3.i (by unfold fG fA; omega), hO2.i (by unfold fA; omega)]; exact hI.2.2.2.2.2.1
                 · rw [hO3.i (by unfold fG fA; omega), hO2.i (by unfold fA; omega)]; exact hI.2.2.2.2.2.2
               first
                 | (rw [bI_eq0, Bool.not_eq_false] at c_188
                    exact hb _ (by rw [c_188]; rfl))
                 | (rw [bI_eq0] at c_188
                    rw [bI_eq0, Bool.not_eq_false] at c_192
                    exact hb _ (by rw [c_192, Bool.or_true]; rfl))
                 | (rw [bI_eq0] at c_188
                    rw [bI_eq0] at c_192
                    exact hb _ (by rw [c_188, c_192]; rfl)))
            | (rw [bI_eq0] at c_178
               have eD := dirA_none (t := s + 1) (none_of c_178)
               rw [eD, Bool.false_or] at hk
               refine hk M2 S2 ⟨hI.1.trans (hO2.mono (fun i k h => fA_U h)), hG2, (hA1.off hO2).agr ag2 (fun u h => by unfold gvP at h; omega), fun p hp => by rw [ag2 _ (by unfold gvP; omega)]; exact hI.2.2.2.1 p hp, ?_, ?_, ?_⟩
               · rw [hO2.i (by unfold fA; omega)]; exact hI.2.2.2.2.1
               · rw [hO2.i (by unfold fA; omega)]; exact hI.2.2.2.2.2.1
               · rw [hO2.i (by unfold fA; omega)]; exact hI.2.2.2.2.2.2)
            | (rw [bI_eq0] at c_169
               rw [dirA_out c_169, Bool.false_or] at hk
               exact hk M1 S1 hI)
        · skip
          refine g_iconst (v := nI 1) dX9_run_195 rfl ?_
          refine g_goto (tgt := 200) dX9_run_196 (by decide) ?_
          refine g_istore_n dX9_run_200 (Nat.le_of_ble_eq_true rfl) ?_
          first
            | (have hb : ∀ w : Int32, w = bI ((dirA P A s false (s + 1)).2 || b) → GW μX9_run (gRm 8 199 0 0) Q 0 0 201 [some (.ref m), some (.int w), some (.int (nI s))] [] M3 n := by
                 intro w hw
                 rw [hw]
                 refine hk M3 S3 ⟨(hI.1.trans (hO2.mono (fun i k h => fA_U h))).trans (hO3.mono (fun i k h => fG_U h)), hG3, hA3, fun p hp => by rw [ag3 _ (by omega), ag2 _ (by unfold gvP; omega)]; exact hI.2.2.2.1 p hp, ?_, ?_, ?_⟩
                 · rw [hO3.i (by unfold fG fA; omega), hO2.i (by unfold fA; omega)]; exact hI.2.2.2.2.1
                 · rw [hO3.i (by unfold fG fA; omega), hO2.i (by unfold fA; omega)]; exact hI.2.2.2.2.2.1
                 · rw [hO3.i (by unfold fG fA; omega), hO2.i (by unfold fA; omega)]; exact hI.2.2.2.2.2.2
               first
                 | (rw [bI_eq0, Bool.not_eq_false] at c_188
                    exact hb _ (by rw [c_188]; rfl))
                 | (rw [bI_eq0] at c_188
                    rw [bI_eq0, Bool.not_eq_false] at c_192
                    exact hb _ (by rw [c_192, Bool.or_true]; rfl))
                 | (rw [bI_eq0] at c_188
                    rw [bI_eq0] at c_192
                    exact hb _ (by rw [c_188, c_192]; rfl)))
            | (rw [bI_eq0] at c_178
               have eD := dirA_none (t := s + 1) (none_of c_178)
               rw [eD, Bool.false_or] at hk
               refine hk M2 S2 ⟨hI.1.trans (hO2.mono (fun i k h => fA_U h)), hG2, (hA1.off hO2).agr ag2 (fun u h => by unfold gvP at h; omega), fun p hp => by rw [ag2 _ (by unfold gvP; omega)]; exact hI.2.2.2.1 p hp, ?_, ?_, ?_⟩
               · rw [hO2.i (by unfold fA; omega)]; exact hI.2.2.2.2.1
               · rw [hO2.i (by unfold fA; omega)]; exact hI.2.2.2.2.2.1
               · rw [hO2.i (by unfold fA; omega)]; exact hI.2.2.2.2.2.2)
            | (rw [bI_eq0] at c_169
               rw [dirA_out c_169, Bool.false_or] at hk
               exact hk M1 S1 hI)

set_option maxHeartbeats 4000000 in
set_option maxRecDepth 100000 in
theorem l_rn115 {M : gM} {n m : Nat} {P : List St} {first : Ev} {Q : gθ} (hvP : vP P) (hP : rP M m P) {A : RA} {r : Nat} (hd : gdA P A) (hC : ∀ u, aC A u < 1900000000) (hk : ∀ M1 S1, rnI M M1 m first (rndA P A).1 r S1 → GW μX9_run (gRm 8 199 0 0) Q 0 0 207 [some (.ref m), some (.int (bI ((rndA P A).2))), none] [] M1 n) : ∀ (d : Nat) (s : Nat) (M1 : gM) (S1 : Nat → List Sp), P.length - s < d → s ≤ P.length → rnI M M1 m first (swpA P A s).1 r S1 → GW μX9_run (gRm 8 199 0 0) Q 0 0 115 [some (.ref m), some (.int (bI ((swpA P A s).2))), some (.int (nI (s)))] [] M1 n := by
  intro d
  induction d with
  | zero =>
    intro s M1 S1 hd2 hs hI
    omega
  | succ d ih =>
    intro s M1 S1 hd2 hs hI
    have l40 := hP.2.1
    have hP1 := hP.offU hI.1
    refine g_iload_n dX9_run_115 rfl ?_
    refine g_aload_n dX9_run_116 rfl ?_
    refine g_getI (f := 6) dX9_run_117 cl10 hI.2.1.1.1 (by decide) (Or.inl (iw_12 20 rfl)) (Or.inl rfl) (Or.inl rfl) ?_
    rw [hP1.1]
    refine g_icmp_ge (tgt := 207) dX9_run_120 (by decide) (fun c_120 => ?_) (fun c_120 => ?_)
    · skip
      rw [nI_leI (by omega) (by omega)] at c_120
      have e : s = P.length := by omega
      subst e
      refine g_drop 2 ?_
      exact hk M1 S1 hI
    · skip
      rw [nI_leI (by omega) (by omega)] at c_120
      have hs2 : s < P.length := by omega
      obtain ⟨g1, -, -, g4⟩ := swp_facts hvP hd s hs
      obtain ⟨a1, -, -, -, -, -, -, a8, -⟩ := dir_facts hvP g1 hs2 true (nmA P s)
      refine p_rn123 hvP hP hs2 g1 (fun u => by have := g4 u; have := hC u; omega) hI (fun M2 S2 hI2 => ?_)
      refine p_rn163 hvP hP hs2 a1 (fun u => by have := g4 u; have := hC u; have := a8 u; omega) hI2 (fun M3 S3 hI3 => ?_)
      refine g_iinc dX9_run_201 rfl (nI_1 s) (Nat.le_of_ble_eq_true rfl) ?_
      refine g_goto (tgt := 115) dX9_run_204 (by decide) ?_
      have hg := ih (s + 1) M3 S3 (by omega) (by omega) hI3
      rw [show (swpA P A (s + 1)).2 = ((dirA P (dirA P (swpA P A s).1 s true (nmA P s)).1 s false (s + 1)).2 || ((dirA P (swpA P A s).1 s true (nmA P s)).2 || (swpA P A s).2)) by
        show ((swpA P A s).2 || ((dirA P (swpA P A s).1 s true (nmA P s)).2 || (dirA P (dirA P (swpA P A s).1 s true (nmA P s)).1 s false (s + 1)).2)) = _
        cases (swpA P A s).2 <;> cases (dirA P (swpA P A s).1 s true (nmA P s)).2 <;> cases (dirA P (dirA P (swpA P A s).1 s true (nmA P s)).1 s false (s + 1)).2 <;> rfl] at hg
      exact hg

set_option maxHeartbeats 4000000 in
set_option maxRecDepth 100000 in
theorem l_rn97 {M : gM} {n m : Nat} {P : List St} {first : Ev} {Q : gθ} (hvP : vP P) (hP : rP M m P) : ∀ (d : Nat) (A : RA) (r : Nat) (M1 : gM) (S1 : Nat → List Sp), Ter P A d → gdA P A → (∀ u, aC A u ≤ 80 * r) → r + d ≤ 1000000 → rnI M M1 m first A r S1 → (∀ M2 S2, rnI M M2 m first (fin P A d).1 (r + (fin P A d).2) S2 → GW μX9_run (gRm 8 199 0 0) Q 0 0 210 [some (.ref m), none, none] [] M2 n) → GW μX9_run (gRm 8 199 0 0) Q 0 0 97 [some (.ref m), some (.int (bI true)), none] [] M1 n := by
  intro d
  induction d with
  | zero =>
    intro A r M1 S1 hT hd hC hrd hI hk
    exact False.elim hT
  | succ d ih =>
    intro A r M1 S1 hT hd hC hrd hI hk
    refine g_iload_n dX9_run_97 rfl ?_
    refine g_if_eq (tgt := 210) dX9_run_98 (by decide) (fun c_98 => ?_) (fun c_98 => ?_)
    · skip
      exact absurd c_98 (by decide)
    · skip
      refine g_iconst (v := nI 0) dX9_run_101 rfl ?_
      refine g_istore_n dX9_run_102 (Nat.le_of_ble_eq_true rfl) ?_
      refine g_aload_n dX9_run_103 rfl ?_
      refine g_dup dX9_run_104 rfl ?_
      refine g_getI (f := 13) dX9_run_105 cl10 hI.2.1.1.1 (by decide) (Or.inl (iw_24 20 rfl)) (Or.inl rfl) (Or.inl rfl) ?_
      rw [hI.2.2.2.2.1]
      refine g_iconst (v := nI 1) dX9_run_108 rfl ?_
      skip
      refine g_iadd dX9_run_109 ?_
      rw [nI_add]
      refine g_putI (f := 13) dX9_run_110 cl10 hI.2.1.1.1 (by decide) (Or.inl (iw_24 20 rfl)) (Or.inl rfl) (Or.inl rfl) (Or.inl rfl) ?_
      have l40 := hP.2.1
      have hI1 : rnI M (stI M1 m 13 (nI (r + 1))) m first A (r + 1) S1 := by
        refine ⟨hI.1.stI (Or.inr (Or.inl ⟨rfl, by omega⟩)), hI.2.1.offI (Q := fun i k => i = m ∧ k = 13) (Off.rf.stI ⟨rfl, rfl⟩) (fun i k h => by unfold fA; omega), ?_, hI.2.2.2.1, by rw [mI_st, if_pos ⟨rfl, rfl⟩], by rw [mI_st, if_neg (by omega)]; exact hI.2.2.2.2.2.1, by rw [mI_st, if_neg (by omega)]; exact hI.2.2.2.2.2.2⟩
        have hA := hI.2.2.1
        refine ⟨fun t ht => ?_, fun t ht => ?_, ?_, hA.2.2.2⟩
        · rw [mI_st, if_neg (by omega)]; exact hA.1 t ht
        · rw [mI_st, if_neg (by omega)]; exact hA.2.1 t ht
        · rw [mI_st, if_neg (by omega)]; exact hA.2.2.1
      generalize stI M1 m 13 (nI (r + 1)) = M2 at hI1 ⊢
      obtain ⟨g1, -, -, g4⟩ := swp_facts hvP hd P.length (Nat.le_refl _)
      refine g_iconst (v := nI 0) dX9_run_113 rfl ?_
      refine g_istore_n dX9_run_114 (Nat.le_of_ble_eq_true rfl) ?_
      refine l_rn115 hvP hP hd (fun u => by have := hC u; omega) (fun M3 S3 hI3 => ?_) (P.length + 1) 0 M2 S1 (by omega) (by omega) hI1
      refine g_goto (tgt := 97) dX9_run_207 (by decide) ?_
      unfold fin at hk
      cases hb : (rndA P A).2 with
      | true =>
        rw [if_pos hb] at hk
        refine ih (rndA P A).1 (r + 1) M3 S3 ?_ g1 (fun u => by have := g4 u; have := hC u; unfold rndA; omega) (by omega) hI3 (fun M4 S4 hI4 => hk M4 S4 ?_)
        · rcases hT with h | h
          · rw [hb] at h; cases h
          · exact h
        · rw [show r + ((fin P (rndA P A).1 d).2 + 1) = r + 1 + (fin P (rndA P A).1 d).2 by omega]
          exact hI4
      | false =>
        rw [if_neg (by rw [hb]; decide)] at hk
        refine g_iload_n dX9_run_97 rfl ?_
        refine g_if_eq (tgt := 210) dX9_run_98 (by decide) (fun _ => ?_) (fun c => absurd rfl c)
        refine g_drop 1 ?_
        exact hk M3 S3 hI3

