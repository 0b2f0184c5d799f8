/-! reached, pieces -/
set_option maxHeartbeats 4000000 in
set_option maxRecDepth 100000 in
theorem c_reached (M : gM) (n w : Nat) (σ : MS) (x : Int32) (hK : kW M w σ) : GX μX8_reached 7 121 2 12 [.ref w, .int x] M n (yO M n w σ (rcZ σ x).1 (.int (bI (rcZ σ x).2))) (yX M n (rcZ σ x).1 "java/lang/IndexOutOfBoundsException" "java/lang/IllegalStateException" "") := by
  refine GX.ofW (by decide) rfl (Nat.le_of_ble_eq_true rfl) rfl ?_
  obtain ⟨d, E, hC⟩ := hK
  have hC0 := hC
  obtain ⟨hV, hq, hok, h3, hh, hv, hF, hW, hR, hd, h2⟩ := hC
  refine g_aload_n dX8_reached_0 rfl ?_
  refine g_iload_n dX8_reached_1 rfl ?_
  refine g_callVX rfl dX8_reached_2 sX8_requireStatement (c_reqStat M n w d (zP σ).length E x hV.1 hV.2.1 hW.1 hW.2.2.1) cl9 hV.1 iX8_requireStatement vX8_requireStatement (iw_31 15 rfl) rfl rfl (Nat.le_of_ble_eq_true rfl) (Nat.le_of_ble_eq_true rfl) (Nat.le_of_ble_eq_true rfl) (Nat.le_of_ble_eq_true rfl) (Nat.le_of_ble_eq_true rfl) (fun E M1 n1 h => ⟨h.2.1, h.2.2.1, Or.inl ⟨by unfold rcZ; rw [if_pos h.2.2.2], h.1⟩⟩) (Nat.le_of_ble_eq_true rfl) (Nat.le_of_ble_eq_true rfl) ?_
  intro r9 M9 n9 h9
  obtain ⟨h91, h92, h93, hN⟩ := h9
  rw [h91, h92, h93]
  clear h91 h92 h93 r9 M9 n9
  have hlt : pl x < (zP σ).length := isN_pl hN
  have hQ := (hW.2.2.2.2.2.2.1 (pl x) hlt).1
  refine g_aload_n dX8_reached_5 rfl ?_
  refine g_callVX rfl dX8_reached_6 sX8_requireSolved (c_reqSolved M n w (zR σ) hV.1 h3) cl9 hV.1 iX8_requireSolved vX8_requireSolved (iw_31 20 rfl) rfl rfl (Nat.le_of_ble_eq_true rfl) (Nat.le_of_ble_eq_true rfl) (Nat.le_of_ble_eq_true rfl) (Nat.le_of_ble_eq_true rfl) (Nat.le_of_ble_eq_true rfl) (fun E M1 n1 h => ⟨h.2.1, h.2.2.1, Or.inr (Or.inl ⟨by unfold rcZ; rw [if_neg (fun q => q hN), if_pos h.2.2.2], h.1⟩)⟩) (Nat.le_of_ble_eq_true rfl) (Nat.le_of_ble_eq_true rfl) ?_
  intro r9 M9 n9 h9
  obtain ⟨h91, h92, h93, hs⟩ := h9
  rw [h91, h92, h93]
  clear h91 h92 h93 r9 M9 n9
  have hzR : ¬ zR σ = false := by rw [hs]; exact fun q => by cases q
  obtain ⟨⟨st9, hf⟩, hr5, hr6, hr7⟩ := hR hs
  refine g_aload_n dX8_reached_9 rfl ?_
  refine g_getR (f := 0) dX8_reached_10 cl9 hV.1 (by decide) (Or.inl (iw_1 16 rfl)) (Or.inl rfl) rfl hV.2.1 ?_
  refine g_getR (f := 0) dX8_reached_13 cl2 hW.1.1 (by decide) (Or.inr (List.mem_of_getElem? (i := 11) rfl)) (Or.inl rfl) rfl hW.1.2.1 ?_
  refine g_iload_n dX8_reached_16 rfl ?_
  refine g_callV dX8_reached_17 sJx4a65c_get_915e3 (j_getX M n (w + 2) d (zP σ).length x E hW.2.2.1 hN) cl0 hW.2.2.1.1 iJx4a65c_get_915e3 vJx4a65c_get_915e3 (iw_32 2 rfl) rfl rfl (Nat.le_of_ble_eq_true rfl) (Nat.le_of_ble_eq_true rfl) (Nat.le_of_ble_eq_true rfl) (Nat.le_of_ble_eq_true rfl) (Nat.le_of_ble_eq_true rfl) ?_
  intro r9 M9 n9 h9
  obtain ⟨h91, h92, h93⟩ := h9
  rw [h91, h92, h93]
  clear h91 h92 h93 r9 M9 n9
  refine g_castSt dX8_reached_20 (iw_31 14 rfl) hQ.1 ?_
  refine g_getI (f := 6) dX8_reached_23 cl5 hQ.1 (by decide) (Or.inr (List.mem_of_getElem? (i := 0) rfl)) (Or.inl rfl) (Or.inr rfl) ?_
  rw [(hf (pl x) hlt).1]
  exact g_xr (g_iret dX8_reached_26 (Or.inr ⟨rfl, bI_01 _⟩) (Nat.le_of_ble_eq_true rfl) (Nat.le_of_ble_eq_true rfl) (by
    have e : rcZ σ x = (0, aR (zA σ) (pl x)) := by unfold rcZ; rw [if_neg (fun q => q hN), if_neg hzR]
    rw [e]; exact ⟨rfl, rfl, Nat.le_refl _, ⟨d, E, hC0⟩, Rw.rf⟩))

set_option maxHeartbeats 4000000 in
set_option maxRecDepth 100000 in
theorem c_pieces (M : gM) (n w : Nat) (σ : MS) (x p : Int32) (hK : kW M w σ) : GX μX8_pieces 7 121 3 18 [.ref w, .int x, .int p] M n (yO M n w σ (pcZ σ x p).1 (.int (nI (pcZ σ x p).2))) (yX M n (pcZ σ x p).1 "java/lang/IndexOutOfBoundsException" "java/lang/IllegalStateException" "") := by
  refine GX.ofW (by decide) rfl (Nat.le_of_ble_eq_true rfl) rfl ?_
  obtain ⟨d, E, hC⟩ := hK
  have hC0 := hC
  obtain ⟨hV, hq, hok, h3, hh, hv, hF, hW, hR, hd, h2⟩ := hC
  refine g_aload_n dX8_pieces_0 rfl ?_
  refine g_iload_n dX8_pieces_1 rfl ?_
  refine g_callVX rfl dX8_pieces_2 sX8_requireStatement (c_reqStat M n w d (zP σ).length E x hV.1 hV.2.1 hW.1 hW.2.2.1) cl9 hV.1 iX8_requireStatement vX8_requireStatement (iw_31 15 rfl) rfl rfl (Nat.le_of_ble_eq_true rfl) (Nat.le_of_ble_eq_true rfl) (Nat.le_of_ble_eq_true rfl) (Nat.le_of_ble_eq_true rfl) (Nat.le_of_ble_eq_true rfl) (fun E M1 n1 h => ⟨h.2.1, h.2.2.1, Or.inl ⟨by unfold pcZ; rw [if_pos (Or.inl h.2.2.2)], h.1⟩⟩) (Nat.le_of_ble_eq_true rfl) (Nat.le_of_ble_eq_true rfl) ?_
  intro r9 M9 n9 h9
  obtain ⟨h91, h92, h93, hN⟩ := h9
  rw [h91, h92, h93]
  clear h91 h92 h93 r9 M9 n9
  have hlt : pl x < (zP σ).length := isN_pl hN
  have hQ := (hW.2.2.2.2.2.2.1 (pl x) hlt).1
  refine g_iload_n dX8_pieces_5 rfl ?_
  refine g_callSX rfl dX8_pieces_6 sX8_requirePlace (c_reqPlace M n p) tX8_requirePlace (iw_13 20 rfl) rfl rfl (Nat.le_of_ble_eq_true rfl) (Nat.le_of_ble_eq_true rfl) (Nat.le_of_ble_eq_true rfl) (Nat.le_of_ble_eq_true rfl) (Nat.le_of_ble_eq_true rfl) (fun E M1 n1 h => ⟨h.2.1, h.2.2.1, Or.inl ⟨by unfold pcZ; rw [if_pos (Or.inr h.2.2.2)], h.1⟩⟩) (Nat.le_of_ble_eq_true rfl) (Nat.le_of_ble_eq_true rfl) ?_
  intro r9 M9 n9 h9
  obtain ⟨h91, h92, h93, hP⟩ := h9
  rw [h91, h92, h93]
  clear h91 h92 h93 r9 M9 n9
  have hA : ¬ (¬ isT σ x ∨ ¬ isP p) := fun q => q.elim (fun z => z hN) (fun z => z hP)
  refine g_aload_n dX8_pieces_9 rfl ?_
  refine g_callVX rfl dX8_pieces_10 sX8_requireSolved (c_reqSolved M n w (zR σ) hV.1 h3) cl9 hV.1 iX8_requireSolved vX8_requireSolved (iw_31 20 rfl) rfl rfl (Nat.le_of_ble_eq_true rfl) (Nat.le_of_ble_eq_true rfl) (Nat.le_of_ble_eq_true rfl) (Nat.le_of_ble_eq_true rfl) (Nat.le_of_ble_eq_true rfl) (fun E M1 n1 h => ⟨h.2.1, h.2.2.1, Or.inr (Or.inl ⟨by unfold pcZ; rw [if_neg hA, if_pos h.2.2.2], h.1⟩)⟩) (Nat.le_of_ble_eq_true rfl) (Nat.le_of_ble_eq_true rfl) ?_
  intro r9 M9 n9 h9
  obtain ⟨h91, h92, h93, hs⟩ := h9
  rw [h91, h92, h93]
  clear h91 h92 h93 r9 M9 n9
  have hzR : ¬ zR σ = false := by rw [hs]; exact fun q => by cases q
  obtain ⟨⟨st9, hf⟩, hr5, hr6, hr7⟩ := hR hs
  refine g_aload_n dX8_pieces_13 rfl ?_
  refine g_getR (f := 0) dX8_pieces_14 cl9 hV.1 (by decide) (Or.inl (iw_1 16 rfl)) (Or.inl rfl) rfl hV.2.1 ?_
  refine g_getR (f := 0) dX8_pieces_17 cl2 hW.1.1 (by decide) (Or.inr (List.mem_of_getElem? (i := 11) rfl)) (Or.inl rfl) rfl hW.1.2.1 ?_
  refine g_iload_n dX8_pieces_20 rfl ?_
  refine g_callV dX8_pieces_21 sJx4a65c_get_915e3 (j_getX M n (w + 2) d (zP σ).length x E hW.2.2.1 hN) cl0 hW.2.2.1.1 iJx4a65c_get_915e3 vJx4a65c_get_915e3 (iw_32 2 rfl) rfl rfl (Nat.le_of_ble_eq_true rfl) (Nat.le_of_ble_eq_true rfl) (Nat.le_of_ble_eq_true rfl) (Nat.le_of_ble_eq_true rfl) (Nat.le_of_ble_eq_true rfl) ?_
  intro r9 M9 n9 h9
  obtain ⟨h91, h92, h93⟩ := h9
  rw [h91, h92, h93]
  clear h91 h92 h93 r9 M9 n9
  refine g_castSt dX8_pieces_24 (iw_31 14 rfl) hQ.1 ?_
  refine g_astore_n dX8_pieces_27 (Nat.le_of_ble_eq_true rfl) ?_
  refine g_aload_n dX8_pieces_28 rfl ?_
  refine g_getI (f := 6) dX8_pieces_29 cl5 hQ.1 (by decide) (Or.inr (List.mem_of_getElem? (i := 0) rfl)) (Or.inl rfl) (Or.inr rfl) ?_
  rw [(hf (pl x) hlt).1]
  refine g_if_eq (tgt := 47) dX8_pieces_32 (by decide) (fun c_32 => ?_) (fun c_32 => ?_)
  · skip
    refine g_iconst (v := nI 0) dX8_pieces_47 rfl ?_
    exact g_xr (g_iret dX8_pieces_48 (Or.inl rfl) (Nat.le_of_ble_eq_true rfl) (Nat.le_of_ble_eq_true rfl) (by
      have e : pcZ σ x p = (0, if aR (zA σ) (pl x) = true then (aF (zA σ) (pl x) (pl p)).length else 0) := by unfold pcZ; rw [if_neg hA, if_neg hzR]
      rw [e]
      first
      | (rw [if_pos hkn]; exact ⟨rfl, rfl, Nat.le_refl _, ⟨d, E, hC0⟩, Rw.rf⟩)
      | (rw [if_neg (by rw [bI_eq0] at c_32; rw [c_32]; exact fun q => by cases q)]; exact ⟨rfl, rfl, Nat.le_refl _, ⟨d, E, hC0⟩, Rw.rf⟩)))
  · skip
    refine g_aload_n dX8_pieces_35 rfl ?_
    refine g_getR (f := 4) dX8_pieces_36 cl5 hQ.1 (by decide) (Or.inr (List.mem_of_getElem? (i := 1) rfl)) (Or.inl rfl) rfl hQ.2.2.2.2.2.1 ?_
    refine g_iload_n dX8_pieces_39 rfl ?_
    refine g_aaloadS dX8_pieces_40 (j := pl p) hQ.2.2.2.2.2.2.1 hQ.2.2.2.2.2.2.2.1 hP.eq hP.lt (by decide) (hQ.2.2.2.2.2.2.2.2 (pl p) hP.lt).1 ?_
    refine g_getI (f := 0) dX8_pieces_41 cl4 (hQ.2.2.2.2.2.2.2.2 (pl p) hP.lt).2 (by decide) (Or.inr (List.mem_of_getElem? (i := 2) rfl)) (Or.inl rfl) (Or.inl rfl) ?_
    have hkn : aR (zA σ) (pl x) = true := by rw [bI_eq0, Bool.not_eq_false] at c_32; exact c_32
    rw [(((hf (pl x) hlt).2.2.2 hkn).2 (pl p) hP.lt).2.2.1]
    refine g_goto (tgt := 48) dX8_pieces_44 (by decide) ?_
    exact g_xr (g_iret dX8_pieces_48 (Or.inl rfl) (Nat.le_of_ble_eq_true rfl) (Nat.le_of_ble_eq_true rfl) (by
      have e : pcZ σ x p = (0, if aR (zA σ) (pl x) = true then (aF (zA σ) (pl x) (pl p)).length else 0) := by unfold pcZ; rw [if_neg hA, if_neg hzR]
      rw [e]
      first
      | (rw [if_pos hkn]; exact ⟨rfl, rfl, Nat.le_refl _, ⟨d, E, hC0⟩, Rw.rf⟩)
      | (rw [if_neg (by rw [bI_eq0] at c_32; rw [c_32]; exact fun q => by cases q)]; exact ⟨rfl, rfl, Nat.le_refl _, ⟨d, E, hC0⟩, Rw.rf⟩)))

