/-! the class: what a statement gives -/
def nmI (s : St) : Int32 := if s.1 = 18 then s.2.1 else if 11 ≤ s.1 ∧ s.1 ≤ 17 then s.2.2.2 else (-1)
theorem nmI_no {s : St} (hv : vS s) : nmI s = -1 ↔ ¬ (11 ≤ s.1 ∧ s.1 ≤ 18) := by
  unfold nmI
  constructor
  · intro h q
    split at h
    · rename_i c
      have := hv.2.2.2.2.2.2.2.2.2 c
      rw [h] at this
      exact absurd this.1 (by decide)
    · rw [if_pos (by omega)] at h
      have := hv.2.2.2.2.2.2.2.2.1 (by omega)
      rw [h] at this
      exact absurd this.1 (by decide)
  · intro q
    rw [if_neg (by omega), if_neg (by omega)]
theorem nmI_O {s : St} (hv : vS s) (h : 11 ≤ s.1 ∧ s.1 ≤ 18) : nmI s = nI (nmO s) := by
  unfold nmI nmO
  by_cases c : s.1 = 18
  · rw [if_pos c, if_pos c]
    exact pl_eq (hv.2.2.2.2.2.2.2.2.2 c).1
  · rw [if_neg c, if_neg c, if_pos (by omega), if_pos (by omega)]
    exact pl_eq (hv.2.2.2.2.2.2.2.2.1 (by omega)).1
theorem nI_s {a b : Nat} (h : b ≤ a) : nI a - nI b = nI (a - b) := by
  rw [nI_iZ, nI_iZ, nI_iZ, iZ_sub]
  congr 1
  omega
set_option maxHeartbeats 4000000 in
set_option maxRecDepth 100000 in
theorem c_named (M : gM) (n e : Nat) (s : St) (hs : sQ M e s) (hv : vS s) : GM μX4_named 1 20 0 0 [.ref e] M n (fun r M1 n1 => r = some (.int (nmI s)) ∧ M1 = M ∧ n1 = n) := by
  refine GM.ofW (by decide) rfl (Nat.le_of_ble_eq_true rfl) rfl ?_
  have h19 := hv.1
  refine g_aload_n dX4_named_0 rfl ?_
  refine g_getI (f := 0) dX4_named_1 cl5 hs.1 (by decide) (Or.inl (iw_8 18 rfl)) (Or.inl rfl) (Or.inl rfl) ?_
  rw [hs.2.1]
  refine g_bipush (v := nI 18) dX4_named_4 rfl ?_
  refine g_icmp_ne (tgt := 14) dX4_named_6 (by decide) (fun c_6 => ?_) (fun c_6 => ?_)
  · skip
    rw [nI_inj (by omega) (by omega)] at c_6
    refine g_aload_n dX4_named_14 rfl ?_
    refine g_getI (f := 0) dX4_named_15 cl5 hs.1 (by decide) (Or.inl (iw_8 18 rfl)) (Or.inl rfl) (Or.inl rfl) ?_
    rw [hs.2.1]
    refine g_callSN dX4_named_18 sX8_isCondition (c_isCond M n s.1 h19) tX8_isCondition (List.mem_of_getElem? (i := 9) rfl) rfl rfl (Nat.le_of_ble_eq_true rfl) (Nat.le_of_ble_eq_true rfl) (Nat.le_of_ble_eq_true rfl) (Nat.le_of_ble_eq_true rfl) (Nat.le_of_ble_eq_true rfl) ?_
    intro r9 M9 n9 h9
    obtain ⟨h91, h92, h93⟩ := h9
    rw [h91, h92, h93]
    clear h91 h92 h93 r9 M9 n9
    refine g_if_eq (tgt := 31) dX4_named_21 (by decide) (fun c_21 => ?_) (fun c_21 => ?_)
    · skip
      have t := dF c_21
      have e9 : nmI s = -1 := by unfold nmI; rw [if_neg c_6, if_neg t]
      refine g_iconst (v := (-1)) dX4_named_31 (by decide) ?_
      exact g_iret dX4_named_32 (Or.inl rfl) (Nat.le_of_ble_eq_true rfl) (Nat.le_of_ble_eq_true rfl) ⟨by rw [e9], rfl, rfl⟩
    · skip
      have t := dT c_21
      have e9 : nmI s = mI M e 3 := by unfold nmI; rw [if_neg c_6, if_pos t, hs.2.2.2.2.1]
      refine g_aload_n dX4_named_24 rfl ?_
      refine g_getI (f := 3) dX4_named_25 cl5 hs.1 (by decide) (Or.inl (iw_8 21 rfl)) (Or.inl rfl) (Or.inl rfl) ?_
      refine g_goto (tgt := 32) dX4_named_28 (by decide) ?_
      exact g_iret dX4_named_32 (Or.inl rfl) (Nat.le_of_ble_eq_true rfl) (Nat.le_of_ble_eq_true rfl) ⟨by rw [e9], rfl, rfl⟩
  · skip
    rw [nI_inj (by omega) (by omega)] at c_6
    have e9 : nmI s = mI M e 1 := by unfold nmI; rw [if_pos c_6, hs.2.2.1]
    refine g_aload_n dX4_named_9 rfl ?_
    refine g_getI (f := 1) dX4_named_10 cl5 hs.1 (by decide) (Or.inl (iw_8 19 rfl)) (Or.inl rfl) (Or.inl rfl) ?_
    exact g_iret dX4_named_13 (Or.inl rfl) (Nat.le_of_ble_eq_true rfl) (Nat.le_of_ble_eq_true rfl) ⟨by rw [e9], rfl, rfl⟩

set_option maxHeartbeats 4000000 in
set_option maxRecDepth 100000 in
theorem c_toNamed (M : gM) (n v e : Nat) (s : St) (F : Nat → List Sp) (h : sP M v) (hs : sQ M e s) (hv : vS s) (hE : sE M (e + 1) F) (hd : dis e v) (hF : gdF F) : GM μX5_goesToNamed 4 102 0 0 [.ref v, .ref e] M n (fun r M1 n1 => r = some (.int (bI (gvn s F true).isSome)) ∧ n1 = n ∧ Off M M1 (fV v) ∧ ∀ G, gvn s F true = some G → sE M1 (v + 4) G) := by
  refine GM.ofW (by decide) rfl (Nat.le_of_ble_eq_true rfl) rfl ?_
  have h19 := hv.1
  refine g_aload_n dX5_goesToNamed_0 rfl ?_
  refine g_callV dX5_goesToNamed_1 sX4_named (c_named M n e s hs hv) cl5 hs.1 iX4_named vX4_named (iw_16 11 rfl) rfl rfl (Nat.le_of_ble_eq_true rfl) (Nat.le_of_ble_eq_true rfl) (Nat.le_of_ble_eq_true rfl) (Nat.le_of_ble_eq_true rfl) (Nat.le_of_ble_eq_true rfl) ?_
  intro r9 M9 n9 h9
  obtain ⟨h91, h92, h93⟩ := h9
  rw [h91, h92, h93]
  clear h91 h92 h93 r9 M9 n9
  refine g_iconst (v := (-1)) dX5_goesToNamed_4 (by decide) ?_
  refine g_icmp_ne (tgt := 10) dX5_goesToNamed_5 (by decide) (fun c_5 => ?_) (fun c_5 => ?_)
  · skip
    rw [nmI_no hv, Classical.not_not] at c_5
    refine g_aload_n dX5_goesToNamed_10 rfl ?_
    refine g_getR (f := 4) dX5_goesToNamed_11 cl5 hs.1 (by decide) (Or.inr (List.mem_of_getElem? (i := 29) rfl)) (Or.inl rfl) rfl hs.2.2.2.2.2.1 ?_
    refine g_aload_n dX5_goesToNamed_14 rfl ?_
    refine g_getR (f := 1) dX5_goesToNamed_15 cl6 h.1 (by decide) (Or.inl (iw_5 0 rfl)) (Or.inl rfl) rfl h.2.1.2.1 ?_
    refine g_callSN dX5_goesToNamed_18 sX8_copySets (c_copySets M n (e + 1) (v + 4) F (by unfold apS; unfold dis at hd; omega) hE h.2.2.2.1) tX8_copySets (List.mem_of_getElem? (i := 14) rfl) rfl rfl (Nat.le_of_ble_eq_true rfl) (Nat.le_of_ble_eq_true rfl) (Nat.le_of_ble_eq_true rfl) (Nat.le_of_ble_eq_true rfl) (Nat.le_of_ble_eq_true rfl) ?_
    intro r9 M1 n9 h9
    obtain ⟨h91, h93, hO1, hG1⟩ := h9
    rw [h91, h93]
    clear h91 h93 r9 n9
    have hO1' : Off M M1 (fV v) := hO1.mono (fun i k q => by unfold fB at q; unfold fV; omega)
    have h1 := h.off hO1
    have hs1 := hs.offV hd hO1'
    have hE1 := hE.offV hd hO1'
    refine g_aload_n dX5_goesToNamed_21 rfl ?_
    refine g_getI (f := 0) dX5_goesToNamed_22 cl5 hs1.1 (by decide) (Or.inr (List.mem_of_getElem? (i := 28) rfl)) (Or.inl rfl) (Or.inl rfl) ?_
    rw [hs1.2.1]
    refine g_bipush (v := nI 18) dX5_goesToNamed_25 rfl ?_
    refine g_icmp_eq (tgt := 45) dX5_goesToNamed_27 (by decide) (fun c_27 => ?_) (fun c_27 => ?_)
    · skip
      refine g_iconst (v := nI 1) dX5_goesToNamed_45 rfl ?_
      refine g_goto (tgt := 50) dX5_goesToNamed_46 (by decide) ?_
      exact g_iret dX5_goesToNamed_50 (Or.inr ⟨rfl, by first | exact Or.inl rfl | exact Or.inr rfl⟩) (Nat.le_of_ble_eq_true rfl) (Nat.le_of_ble_eq_true rfl) (by
        first
          | (have q9 := hO2
             have e8 := gvn_t (s := s) (F := F) (by omega)
             rw [e8]
             refine ⟨?_, rfl, hO1'.trans hO2, hZ2⟩
             rw [bI_eq0] at c_42
             first
               | (rw [Bool.not_eq_false] at c_42; rw [c_42]; rfl)
               | (rw [c_42]; rfl))
          | (rw [nI_inj (by omega) (by omega)] at c_27
             have e8 : gvn s F true = some F := by
               unfold gvn
               rw [if_neg (by omega), if_pos c_27]; rfl
             exact ⟨by rw [e8]; rfl, rfl, hO1', fun G hG9 => by rw [e8] at hG9; cases hG9; exact hG1⟩))
    · skip
      rw [nI_inj (by omega) (by omega)] at c_27
      refine g_aload_n dX5_goesToNamed_30 rfl ?_
      refine g_aload_n dX5_goesToNamed_31 rfl ?_
      refine g_aload_n dX5_goesToNamed_32 rfl ?_
      refine g_getI (f := 0) dX5_goesToNamed_33 cl5 hs1.1 (by decide) (Or.inr (List.mem_of_getElem? (i := 28) rfl)) (Or.inl rfl) (Or.inl rfl) ?_
      rw [hs1.2.1]
      refine g_bipush (v := nI 11) dX5_goesToNamed_36 rfl ?_
      refine g_isub dX5_goesToNamed_38 ?_
      rw [nI_s (by omega)]
      refine g_callV dX5_goesToNamed_39 sX5_sharpen (c_sharpen M1 n v e (s.1 - 11) s F h1 hs1 hE1 hG1 hd hF (hv.2.1 (by omega)) (hv.2.2.1 (by omega)) (by omega)) cl6 h1.1 iX5_sharpen vX5_sharpen (iw_16 12 rfl) rfl rfl (Nat.le_of_ble_eq_true rfl) (Nat.le_of_ble_eq_true rfl) (Nat.le_of_ble_eq_true rfl) (Nat.le_of_ble_eq_true rfl) (Nat.le_of_ble_eq_true rfl) ?_
      intro r9 M2 n9 h9
      obtain ⟨h91, h93, hO2, hZ2⟩ := h9
      rw [h91, h93]
      clear h91 h93 r9 n9
      refine g_if_eq (tgt := 49) dX5_goesToNamed_42 (by decide) (fun c_42 => ?_) (fun c_42 => ?_)
      · skip
        refine g_iconst (v := nI 0) dX5_goesToNamed_49 rfl ?_
        exact g_iret dX5_goesToNamed_50 (Or.inr ⟨rfl, by first | exact Or.inl rfl | exact Or.inr rfl⟩) (Nat.le_of_ble_eq_true rfl) (Nat.le_of_ble_eq_true rfl) (by
          first
            | (have q9 := hO2
               have e8 := gvn_t (s := s) (F := F) (by omega)
               rw [e8]
               refine ⟨?_, rfl, hO1'.trans hO2, hZ2⟩
               rw [bI_eq0] at c_42
               first
                 | (rw [Bool.not_eq_false] at c_42; rw [c_42]; rfl)
                 | (rw [c_42]; rfl))
            | (rw [nI_inj (by omega) (by omega)] at c_27
               have e8 : gvn s F true = some F := by
                 unfold gvn
                 rw [if_neg (by omega), if_pos c_27]; rfl
               exact ⟨by rw [e8]; rfl, rfl, hO1', fun G hG9 => by rw [e8] at hG9; cases hG9; exact hG1⟩))
      · skip
        refine g_iconst (v := nI 1) dX5_goesToNamed_45 rfl ?_
        refine g_goto (tgt := 50) dX5_goesToNamed_46 (by decide) ?_
        exact g_iret dX5_goesToNamed_50 (Or.inr ⟨rfl, by first | exact Or.inl rfl | exact Or.inr rfl⟩) (Nat.le_of_ble_eq_true rfl) (Nat.le_of_ble_eq_true rfl) (by
          first
            | (have q9 := hO2
               have e8 := gvn_t (s := s) (F := F) (by omega)
               rw [e8]
               refine ⟨?_, rfl, hO1'.trans hO2, hZ2⟩
               rw [bI_eq0] at c_42
               first
                 | (rw [Bool.not_eq_false] at c_42; rw [c_42]; rfl)
                 | (rw [c_42]; rfl))
            | (rw [nI_inj (by omega) (by omega)] at c_27
               have e8 : gvn s F true = some F := by
                 unfold gvn
                 rw [if_neg (by omega), if_pos c_27]; rfl
               exact ⟨by rw [e8]; rfl, rfl, hO1', fun G hG9 => by rw [e8] at hG9; cases hG9; exact hG1⟩))
  · skip
    refine g_iconst (v := nI 0) dX5_goesToNamed_8 rfl ?_
    exact g_iret dX5_goesToNamed_9 (Or.inr ⟨rfl, by first | exact Or.inl rfl | exact Or.inr rfl⟩) (Nat.le_of_ble_eq_true rfl) (Nat.le_of_ble_eq_true rfl) (by
      rw [nmI_no hv] at c_5
      have e8 : gvn s F true = none := by
        unfold gvn
        by_cases t : s.1 = 19
        · rw [if_pos t]
        · rw [if_neg t, if_neg (by omega), if_pos (by omega)]; rfl
      exact ⟨by rw [e8]; rfl, rfl, Off.rf, fun G hG9 => by rw [e8] at hG9; cases hG9⟩)

set_option maxHeartbeats 4000000 in
set_option maxRecDepth 100000 in
theorem k_bh297 {M M1 : gM} {n v e : Nat} {s : St} {F : Nat → List Sp} {U : List Sp} (h : sP M v) (hs : sQ M e s) (hv : vS s) (hd : dis e v) (hk : s.1 ≤ 10) (hO1 : Off M M1 (fV v)) (hG1 : sE M1 (v + 4) F) (hU : gt M1 (v + 1) U) (hw : wl U) (hZ : mkS U = mkS (makL s F)) : GW μX5_goesBehind (gRm 4 102 0 0) (gTh (fun r M1 n1 => r = some (.int (bI (gvn s F false).isSome)) ∧ n1 = n ∧ Off M M1 (fV v) ∧ ∀ G, gvn s F false = some G → sE M1 (v + 4) G) 0 0) 0 0 297 [some (.ref v), some (.ref e)] [] M1 n := by
  have h1 := h.off hO1
  have hs1 := hs.offV hd hO1
  have ha := hv.2.1 (by omega)
  have ha9 := ha.lt
  refine g_aload_n dX5_goesBehind_297 rfl ?_
  refine g_getR (f := 0) dX5_goesBehind_298 cl6 h1.1 (by decide) (Or.inl (iw_4 23 rfl)) (Or.inl rfl) rfl h1.2.1.1 ?_
  refine g_aload_n dX5_goesBehind_301 rfl ?_
  refine g_getR (f := 1) dX5_goesBehind_302 cl6 h1.1 (by decide) (Or.inl (iw_5 0 rfl)) (Or.inl rfl) rfl h1.2.1.2.1 ?_
  refine g_aload_n dX5_goesBehind_305 rfl ?_
  refine g_getI (f := 1) dX5_goesBehind_306 cl5 hs1.1 (by decide) (Or.inr (List.mem_of_getElem? (i := 26) rfl)) (Or.inl rfl) (Or.inl rfl) ?_
  rw [hs1.2.2.1]
  refine g_aaloadS dX5_goesBehind_309 (j := pl s.2.1) hG1.1.1 hG1.1.2.1 ha.eq ha.lt (by decide) (hG1.1.2.2 (pl s.2.1) ha.lt).1 ?_
  refine g_callV dX5_goesBehind_310 sX0_makeInto (c_into M1 n (v + 1) (v + 4 + 1 + pl s.2.1) U hU hw (hG1.1.2.2 _ ha.lt).2) cl1 hU.g.1 iX0_makeInto vX0_makeInto (iw_23 17 rfl) rfl rfl (Nat.le_of_ble_eq_true rfl) (Nat.le_of_ble_eq_true rfl) (Nat.le_of_ble_eq_true rfl) (Nat.le_of_ble_eq_true rfl) (Nat.le_of_ble_eq_true rfl) ?_
  intro r9 M2 n9 h9
  obtain ⟨h91, h93, hO2, hI2⟩ := h9
  rw [h91, h93]
  clear h91 h93 r9 n9
  have hO2' : Off M1 M2 (fV v) := hO2.mono (fun i k q => by
    rcases q with q | q
    · exact fY_V q
    · unfold fV; omega)
  have h2 := h1.off hO2
  have hs2 := hs1.offV hd hO2'
  have hG2 := hG1.up hO2 (fun i k q h8 h9 => by
    rcases q with q | q
    · unfold fY at q; omega
    · exact q) hI2
  have e8 : gvn s F false = if mkS (makL s F) = [] then none else some (up1 F (pl s.2.1) (mkS (makL s F))) := by
    unfold gvn
    rw [if_neg (by omega), if_neg (by omega), if_pos (by omega)]
    rfl
  rw [hZ] at hG2 hI2
  refine g_aload_n dX5_goesBehind_313 rfl ?_
  refine g_getR (f := 1) dX5_goesBehind_314 cl6 h2.1 (by decide) (Or.inl (iw_5 0 rfl)) (Or.inl rfl) rfl h2.2.1.2.1 ?_
  refine g_aload_n dX5_goesBehind_317 rfl ?_
  refine g_getI (f := 1) dX5_goesBehind_318 cl5 hs2.1 (by decide) (Or.inr (List.mem_of_getElem? (i := 26) rfl)) (Or.inl rfl) (Or.inl rfl) ?_
  rw [hs2.2.2.1]
  refine g_aaloadS dX5_goesBehind_321 (j := pl s.2.1) hG2.1.1 hG2.1.2.1 ha.eq ha.lt (by decide) (hG2.1.2.2 (pl s.2.1) ha.lt).1 ?_
  refine g_callV dX5_goesBehind_322 sX3_isNothing (c_isNothing M2 n (v + 4 + 1 + pl s.2.1) (mkS (makL s F)) hI2) cl4 (hG2.2 (pl s.2.1) ha.lt).1 iX3_isNothing vX3_isNothing (iw_20 1 rfl) rfl rfl (Nat.le_of_ble_eq_true rfl) (Nat.le_of_ble_eq_true rfl) (Nat.le_of_ble_eq_true rfl) (Nat.le_of_ble_eq_true rfl) (Nat.le_of_ble_eq_true rfl) ?_
  intro r9 M9 n9 h9
  obtain ⟨h91, h92, h93⟩ := h9
  rw [h91, h92, h93]
  clear h91 h92 h93 r9 M9 n9
  refine g_if_ne (tgt := 332) dX5_goesBehind_325 (by decide) (fun c_325 => ?_) (fun c_325 => ?_)
  · skip
    refine g_iconst (v := nI 0) dX5_goesBehind_332 rfl ?_
    exact g_iret dX5_goesBehind_333 (Or.inr ⟨rfl, by first | exact Or.inl rfl | exact Or.inr rfl⟩) (Nat.le_of_ble_eq_true rfl) (Nat.le_of_ble_eq_true rfl) (by
      by_cases t : mkS (makL s F) = []
      · rw [if_pos t] at e8
        refine ⟨?_, rfl, hO1.trans hO2', fun G hG9 => by rw [e8] at hG9; cases hG9⟩
        rw [e8]
        first | rfl | exact absurd t (dF c_325)
      · rw [if_neg t] at e8
        refine ⟨?_, rfl, hO1.trans hO2', fun G hG9 => by rw [e8] at hG9; cases hG9; exact hG2⟩
        rw [e8]
        first | rfl | exact absurd (dT c_325) t)
  · skip
    refine g_iconst (v := nI 1) dX5_goesBehind_328 rfl ?_
    refine g_goto (tgt := 333) dX5_goesBehind_329 (by decide) ?_
    exact g_iret dX5_goesBehind_333 (Or.inr ⟨rfl, by first | exact Or.inl rfl | exact Or.inr rfl⟩) (Nat.le_of_ble_eq_true rfl) (Nat.le_of_ble_eq_true rfl) (by
      by_cases t : mkS (makL s F) = []
      · rw [if_pos t] at e8
        refine ⟨?_, rfl, hO1.trans hO2', fun G hG9 => by rw [e8] at hG9; cases hG9⟩
        rw [e8]
        first | rfl | exact absurd t (dF c_325)
      · rw [if_neg t] at e8
        refine ⟨?_, rfl, hO1.trans hO2', fun G hG9 => by rw [e8] at hG9; cases hG9; exact hG2⟩
        rw [e8]
        first | rfl | exact absurd (dT c_325) t)

theorem rest_all {X Y : List Sp} (hX : okX X) (hY : okX Y) : (if clip Y (-2147483648) (-1) = [] ∧ clip Y 1 2147483647 = [] then [] else X.flatMap (rsP (lsZ (clip Y (-2147483648) (-1)) (clip Y 1 2147483647)) (gsZ (clip Y (-2147483648) (-1)) (clip Y 1 2147483647) - 1))) = X.flatMap (restP Y) := by
  by_cases c : clip Y (-2147483648) (-1) = [] ∧ clip Y 1 2147483647 = []
  · rw [if_pos c]
    have h0 := rest_none hY c.1 c.2
    symm
    rw [List.flatMap_eq_nil_iff]
    intro x _
    unfold restP
    rw [if_pos h0]
  · rw [if_neg c]
    obtain ⟨h1, h2, h3⟩ := rest_eq hY c
    rw [← h1, ← h2, List.flatMap_def, List.flatMap_def]
    congr 1
    refine List.map_congr_left (fun p hp => ?_)
    have hp1 := hX.wl.1 p hp
    unfold rsP restP
    by_cases t : -sF Y < p.1 ∧ p.2 < sF Y
    · rw [if_pos t, if_neg (show ¬ sF Y = 0 by omega), if_pos (by omega)]
    · rw [if_neg t, if_neg (show ¬ sF Y = 0 by omega), if_neg (show ¬ ((-sF Y < p.1 ∧ p.1 < sF Y) ∧ -sF Y < p.2 ∧ p.2 < sF Y) by omega), show -(gF Y - 1) = 1 - gF Y by omega]
theorem one_all {s : St} {F : Nat → List Sp} (h : s.1 = 1 ∨ s.1 = 5 ∨ s.1 = 6 ∨ s.1 = 9) : (F (pl s.2.2.1)).flatMap (o1P s.1 s.2.2.2) = makL s F := by
  unfold makL
  rw [if_neg (by omega), if_neg (by omega)]
  by_cases c : s.1 = 1
  · rw [if_pos c]
    have : (fun x : Sp => o1P s.1 s.2.2.2 x) = fun x => [x] := by funext x; unfold o1P; rw [if_pos c]
    rw [show o1P s.1 s.2.2.2 = fun x => [x] from this]
    simp
  · rw [if_neg c, List.flatMap_def, List.flatMap_def]
    congr 1
    refine List.map_congr_left (fun p hp => ?_)
    unfold o1P oneP
    rw [if_neg c]
    by_cases c6 : s.1 = 6
    · rw [if_pos c6, if_neg (by omega), if_pos c6]
    · rw [if_neg c6]
      by_cases c5 : s.1 = 5
      · rw [if_pos c5, if_pos c5]
      · rw [if_neg c5, if_neg c5, if_neg c6, if_pos (by omega)]
theorem two_all {s : St} {F : Nat → List Sp} (h : s.1 = 2 ∨ s.1 = 3 ∨ s.1 = 4) (h1 : okX (F (pl s.2.2.1))) (h2 : okX (F (pl s.2.2.2))) : prP s.1 (F (pl s.2.2.1)) (F (pl s.2.2.2)) = makL s F := by
  unfold makL
  rw [if_neg (by omega), if_neg (by omega), if_neg (by omega), prP_both h h1.wl.1 h2.wl.1, List.flatMap_def, List.flatMap_def]
  congr 1
  refine List.map_congr_left (fun p hp => ?_)
  unfold oneP
  rw [if_neg (by omega), if_neg (by omega), if_neg (by omega), if_neg (by omega)]
theorem quo_all {s : St} {F : Nat → List Sp} (h : s.1 = 7) (h2 : okX (F (pl s.2.2.2))) (hw : wl (makL s F)) : mkS (prP 7 (F (pl s.2.2.1)) (clip (F (pl s.2.2.2)) (-2147483648) (-1)) ++ prP 7 (F (pl s.2.2.1)) (clip (F (pl s.2.2.2)) 1 2147483647)) = mkS (makL s F) := by
  have e : makL s F = (F (pl s.2.2.1)).flatMap (fun x => (F (pl s.2.2.2)).flatMap (bothP (nI 7) x)) := by
    unfold makL
    rw [if_neg (by omega), if_neg (by omega), if_neg (by omega), List.flatMap_def, List.flatMap_def]
    congr 1
    refine List.map_congr_left (fun p hp => ?_)
    unfold oneP
    rw [if_neg (by omega), if_neg (by omega), if_neg (by omega), if_neg (by omega), h]
  refine mkS_eq (wl_app (prP_wl _ _ _) (prP_wl _ _ _)).1 hw.1 (fun z => ?_)
  rw [quo_in h2.wl, e]
theorem eig_all {s : St} {F : Nat → List Sp} (h : s.1 = 8) (h1 : okX (F (pl s.2.2.1))) (h2 : okX (F (pl s.2.2.2))) : (if clip (F (pl s.2.2.2)) (-2147483648) (-1) = [] ∧ clip (F (pl s.2.2.2)) 1 2147483647 = [] then [] else (F (pl s.2.2.1)).flatMap (rsP (lsZ (clip (F (pl s.2.2.2)) (-2147483648) (-1)) (clip (F (pl s.2.2.2)) 1 2147483647)) (gsZ (clip (F (pl s.2.2.2)) (-2147483648) (-1)) (clip (F (pl s.2.2.2)) 1 2147483647) - 1))) = makL s F := by
  rw [rest_all h1 h2]
  unfold makL
  rw [if_neg (by omega), if_neg (by omega), if_neg (by omega), List.flatMap_def, List.flatMap_def]
  congr 1
  refine List.map_congr_left (fun p hp => ?_)
  unfold oneP
  rw [if_neg (by omega), if_neg (by omega), if_neg (by omega), if_pos h]
theorem clip_neg {Y : List Sp} (h : okX Y) (h0 : clip Y (-2147483648) (-1) ≠ []) : hi1 (clip Y (-2147483648) (-1)) ≤ -1 := by
  obtain ⟨p, hp, a, b⟩ := hi_in (clip_ok h (-2147483648) (-1)).1 h0
  obtain ⟨x, hx, c, rfl⟩ := mem_clip.mp hp
  simp only at b
  omega
theorem clip_pos {Y : List Sp} (h : okX Y) (h0 : clip Y 1 2147483647 ≠ []) : 1 ≤ lo1 (clip Y 1 2147483647) := by
  obtain ⟨p, hp, a, b⟩ := lo_in (clip_ok h 1 2147483647).1 h0
  obtain ⟨x, hx, c, rfl⟩ := mem_clip.mp hp
  simp only at a
  omega
