/-! clear -/
set_option maxHeartbeats 4000000 in
set_option maxRecDepth 100000 in
theorem c_clear (M : gM) (n w : Nat) (σ : MS) (hK : kW M w σ) (hb : w + 58 ≤ n) : GM μX8_clear 2 44 0 0 [.ref w] M n (yO M n w (clS σ) 0 (.int (nI (zP σ).length))) := by
  refine GM.ofW (by decide) rfl (Nat.le_of_ble_eq_true rfl) rfl ?_
  obtain ⟨d, E, hC⟩ := hK
  have hC0 := hC
  obtain ⟨hV, hq, hok, h3, hh, hv, hF, hW, hR, hd, h2⟩ := hC
  refine g_aload_n dX8_clear_0 rfl ?_
  refine g_getR (f := 0) dX8_clear_1 cl9 hV.1 (by decide) (Or.inl (iw_1 16 rfl)) (Or.inl rfl) rfl hV.2.1 ?_
  refine g_getR (f := 0) dX8_clear_4 cl2 hW.1.1 (by decide) (Or.inr (List.mem_of_getElem? (i := 11) rfl)) (Or.inl rfl) rfl hW.1.2.1 ?_
  refine g_callV dX8_clear_7 sJx4a65c_size_8abf5 (j_size M n (w + 2) d (zP σ).length E hW.2.2.1) cl0 hW.2.2.1.1 iJx4a65c_size_8abf5 vJx4a65c_size_8abf5 (iw_8 0 rfl) rfl rfl (Nat.le_of_ble_eq_true rfl) (Nat.le_of_ble_eq_true rfl) (Nat.le_of_ble_eq_true rfl) (Nat.le_of_ble_eq_true rfl) (Nat.le_of_ble_eq_true rfl) ?_
  intro r9 M9 n9 h9
  obtain ⟨h91, h92, h93⟩ := h9
  rw [h91, h92, h93]
  clear h91 h92 h93 r9 M9 n9
  refine g_istore_n dX8_clear_10 (Nat.le_of_ble_eq_true rfl) ?_
  refine g_aload_n dX8_clear_11 rfl ?_
  refine g_getR (f := 0) dX8_clear_12 cl9 hV.1 (by decide) (Or.inl (iw_1 16 rfl)) (Or.inl rfl) rfl hV.2.1 ?_
  refine g_callV dX8_clear_15 sX1_forget (c_forget M n (w + 1) (w + 14) d (w + 58) E (zP σ) hW hb (by omega) hd) cl2 hW.1.1 iX1_forget vX1_forget (iw_39 17 rfl) rfl rfl (Nat.le_of_ble_eq_true rfl) (Nat.le_of_ble_eq_true rfl) (Nat.le_of_ble_eq_true rfl) (Nat.le_of_ble_eq_true rfl) (Nat.le_of_ble_eq_true rfl) ?_
  intro r9 M2 n9 h9
  obtain ⟨h91, h93, hW2, hF2, hf2⟩ := h9
  rw [h91, h93]
  clear h91 h93 r9 n9
  have rr : ∀ lo hi, w ≤ lo → hi < w + 58 → (hi < w + 2 ∨ w + 13 < lo) → Rw M M2 lo hi := fun lo hi h1 h3 h4 => hf2.rw (by omega) (fun i x y z => by omega)
  have rw0 := rr w w (by omega) (by omega) (by omega) w (by omega) (by omega)
  have kw2 : mK M2 w = 9 := rw0.1.trans hV.1
  refine g_aload_n dX8_clear_18 rfl ?_
  refine g_iconst (v := nI 0) dX8_clear_19 rfl ?_
  refine g_putI (f := 3) dX8_clear_20 cl9 kw2 (by decide) (Or.inl (iw_2 1 rfl)) (Or.inl rfl) (Or.inl rfl) (Or.inr ⟨rfl, (Or.inl rfl)⟩) ?_
  refine g_iload_n dX8_clear_23 rfl ?_
  exact g_iret dX8_clear_24 (Or.inl rfl) (Nat.le_of_ble_eq_true rfl) (Nat.le_of_ble_eq_true rfl) (by
    have o3 : Off M2 (stI M2 w 3 (nI 0)) (fun i k => i = w ∧ k = 3) := Off.rf.stI ⟨rfl, rfl⟩
    refine ⟨rfl, rfl, Nat.le_refl _, ⟨d, E, ?_⟩, (rr (w + 45) (w + 57) (by omega) (by omega) (by omega)).trans (Rw.off o3 (fun i k a b z => by omega))⟩
    exact hC0.fr rw0.1 rw0.2.2.2.2 (up2_eq _ _ _ _) ((rr (w + 43) (w + 44) (by omega) (by omega) (by omega)).trans (Rw.off o3 (fun i k a b z => by omega))) (hF2.off o3 (fun i k a b z => by omega)) (fun p hp => ⟨okX_0, rfl⟩) (hW2.offG o3 (fun i k z => by omega)) hd)

set_option maxHeartbeats 4000000 in
set_option maxRecDepth 100000 in
theorem c_size (M : gM) (n w : Nat) (σ : MS) (hK : kW M w σ) : GM μX8_size 1 20 0 0 [.ref w] M n (yO M n w σ 0 (.int (nI (zP σ).length))) := by
  refine GM.ofW (by decide) rfl (Nat.le_of_ble_eq_true rfl) rfl ?_
  obtain ⟨d, E, hC⟩ := hK
  have hC0 := hC
  obtain ⟨hV, hq, hok, h3, hh, hv, hF, hW, hR, hd, h2⟩ := hC
  refine g_aload_n dX8_size_0 rfl ?_
  refine g_getR (f := 0) dX8_size_1 cl9 hV.1 (by decide) (Or.inl (iw_1 16 rfl)) (Or.inl rfl) rfl hV.2.1 ?_
  refine g_getR (f := 0) dX8_size_4 cl2 hW.1.1 (by decide) (Or.inr (List.mem_of_getElem? (i := 11) rfl)) (Or.inl rfl) rfl hW.1.2.1 ?_
  refine g_callV dX8_size_7 sJx4a65c_size_8abf5 (j_size M n (w + 2) d (zP σ).length E hW.2.2.1) cl0 hW.2.2.1.1 iJx4a65c_size_8abf5 vJx4a65c_size_8abf5 (iw_8 0 rfl) rfl rfl (Nat.le_of_ble_eq_true rfl) (Nat.le_of_ble_eq_true rfl) (Nat.le_of_ble_eq_true rfl) (Nat.le_of_ble_eq_true rfl) (Nat.le_of_ble_eq_true rfl) ?_
  intro r9 M9 n9 h9
  obtain ⟨h91, h92, h93⟩ := h9
  rw [h91, h92, h93]
  clear h91 h92 h93 r9 M9 n9
  exact g_iret dX8_size_10 (Or.inl rfl) (Nat.le_of_ble_eq_true rfl) (Nat.le_of_ble_eq_true rfl) ⟨rfl, rfl, Nat.le_refl _, ⟨d, E, hC0⟩, Rw.rf⟩

set_option maxHeartbeats 4000000 in
set_option maxRecDepth 100000 in
theorem c_ended (M : gM) (n w : Nat) (σ : MS) (hK : kW M w σ) : GM μX8_ended 0 0 0 0 [.ref w] M n (yO M n w σ 0 (.int (zH σ))) := by
  refine GM.ofW (by decide) rfl (Nat.le_of_ble_eq_true rfl) rfl ?_
  obtain ⟨d, E, hC⟩ := hK
  have hC0 := hC
  obtain ⟨hV, hq, hok, h3, hh, hv, hF, hW, hR, hd, h2⟩ := hC
  refine g_aload_n dX8_ended_0 rfl ?_
  refine g_getR (f := 2) dX8_ended_1 cl9 hV.1 (by decide) (Or.inl (iw_2 0 rfl)) (Or.inl rfl) rfl hV.2.2.2 ?_
  refine g_getI (f := 3) dX8_ended_4 cl8 hq.1 (by decide) (Or.inr (List.mem_of_getElem? (i := 9) rfl)) (Or.inl rfl) (Or.inl rfl) ?_
  rw [hh]
  exact g_iret dX8_ended_7 (Or.inl rfl) (Nat.le_of_ble_eq_true rfl) (Nat.le_of_ble_eq_true rfl) ⟨rfl, rfl, Nat.le_refl _, ⟨d, E, hC0⟩, Rw.rf⟩

