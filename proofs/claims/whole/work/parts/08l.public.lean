/-! run -/
theorem cV.off {M M1 : gM} {w : Nat} {S : Nat → Nat → Prop} (h : cV M w) (ho : Off M M1 S) : cV M1 w := ⟨by rw [ho.1]; exact h.1, by rw [ho.2.2.1]; exact h.2.1, by rw [ho.2.2.1]; exact h.2.2.1, by rw [ho.2.2.1]; exact h.2.2.2⟩
theorem fZ_at {u len i k bs : Nat} {E : Nat → Nat} (hE : ∀ t, t < len → bs ≤ E t) (hi : i < u ∨ u + 28 < i) (hb : i < bs) : ¬ fZ u E len i k := by
  rintro (h | ⟨t, ht, h1, h2, h3⟩)
  · omega
  · have := hE t ht; omega
set_option maxHeartbeats 4000000 in
set_option maxRecDepth 100000 in
theorem c_run (M : gM) (n w : Nat) (σ : MS) (hK : kW M w σ) : GM μX8_run 7 169 0 0 [.ref w] M n (yO M n w (zP σ, zF σ, true, zH σ, zN σ) 0 (.int (nI (runA (zP σ) (zF σ)).2.1))) := by
  refine GM.ofW (by decide) rfl (Nat.le_of_ble_eq_true rfl) rfl ?_
  obtain ⟨d, E, hC⟩ := hK
  have hC0 := hC
  obtain ⟨hV, hq, hok, h3, hh, hv, hF, hW, hR, hd, h2⟩ := hC
  have hE9 := hW.2.2.2.2.2.2.2.2.2.1
  have hgd := hok.gd
  refine g_aload_n dX8_run_0 rfl ?_
  refine g_getR (f := 1) dX8_run_1 cl9 hV.1 (by decide) (Or.inl (iw_1 20 rfl)) (Or.inl rfl) rfl hV.2.2.1 ?_
  refine g_callV dX8_run_4 sX2_prepare (c_prepare M n (w + 1) (w + 14) d (w + 58) E (zP σ) (zF σ) hW hF) cl3 hW.2.1.1 iX2_prepare vX2_prepare (iw_14 13 rfl) rfl rfl (Nat.le_of_ble_eq_true rfl) (Nat.le_of_ble_eq_true rfl) (Nat.le_of_ble_eq_true rfl) (Nat.le_of_ble_eq_true rfl) (Nat.le_of_ble_eq_true rfl) ?_
  intro r9 M2 n9 h9
  obtain ⟨h91, h93, hO2, s2, hS2, hq2, h52, h72⟩ := h9
  rw [h91, h93]
  clear h91 h93 r9 n9
  have hW2 := hW.off hO2
  have hF2 : sE M2 (w + 3) (zF σ) := hF.off hO2 (fun i k a b => fZ_at hE9 (by omega) (by omega))
  have hV2 := hV.off hO2
  refine g_aload_n dX8_run_7 rfl ?_
  refine g_getR (f := 1) dX8_run_8 cl9 hV2.1 (by decide) (Or.inl (iw_1 20 rfl)) (Or.inl rfl) rfl hV2.2.2.1 ?_
  refine g_callV dX8_run_11 sX2_doRounds (c_doRounds M2 n (w + 1) (w + 14) d (w + 58) E (zP σ) (zF σ) s2 hW2 hgd hS2 hq2 h52) cl3 hW2.2.1.1 iX2_doRounds vX2_doRounds (iw_15 22 rfl) rfl rfl (Nat.le_of_ble_eq_true rfl) (Nat.le_of_ble_eq_true rfl) (Nat.le_of_ble_eq_true rfl) (Nat.le_of_ble_eq_true rfl) (Nat.le_of_ble_eq_true rfl) ?_
  intro r9 M3 n9 h9
  obtain ⟨h91, h93, hI3⟩ := h9
  rw [h91, h93]
  clear h91 h93 r9 n9
  have hO3 : Off M2 M3 (fZ (w + 14) E (zP σ).length) := hI3.1.mono (fun i k z => fRd_Z z)
  obtain ⟨s3, hS3, -⟩ := hI3.2.2
  have hW3 := hW2.off hO3
  have hF3 : sE M3 (w + 3) (zF σ) := hF2.off hO3 (fun i k a b => fZ_at hE9 (by omega) (by omega))
  have hV3 := hV2.off hO3
  have h73 : mI M3 (w + 14) 7 = nI 0 := by
    rw [hI3.1.i (by rintro (z | z | ⟨t, ht, z1, z2, z3⟩); omega; omega; have := hE9 t ht; omega)]; exact h72
  have gdA3 := (fin_facts hok.1 hgd).2
  refine g_aload_n dX8_run_14 rfl ?_
  refine g_getR (f := 1) dX8_run_15 cl9 hV3.1 (by decide) (Or.inl (iw_1 20 rfl)) (Or.inl rfl) rfl hV3.2.2.1 ?_
  refine g_callV dX8_run_18 sX2_narrow (c_narrow M3 n (w + 1) (w + 14) d (w + 58) 0 E (zP σ) _ s3 (zF σ) hW3 hF3 hgd gdA3 hS3.1 h73) cl3 hW3.2.1.1 iX2_narrow vX2_narrow (iw_23 18 rfl) rfl rfl (Nat.le_of_ble_eq_true rfl) (Nat.le_of_ble_eq_true rfl) (Nat.le_of_ble_eq_true rfl) (Nat.le_of_ble_eq_true rfl) (Nat.le_of_ble_eq_true rfl) ?_
  intro r9 M4 n9 h9
  obtain ⟨h91, h93, hN4⟩ := h9
  rw [h91, h93]
  clear h91 h93 r9 n9
  have hO4 : Off M3 M4 (fZ (w + 14) E (zP σ).length) := hN4.1.mono (fun i k z => fNw_Z z)
  obtain ⟨s4, hS4⟩ := hN4.2.1
  have hW4 := hW3.off hO4
  have hF4 : sE M4 (w + 3) (zF σ) := hF3.off hO4 (fun i k a b => fZ_at hE9 (by omega) (by omega))
  have hV4 := hV3.off hO4
  have gdA4 := narK_gd hok.1 hgd gdA3 0 (zP σ).length (Nat.le_refl _)
  refine g_aload_n dX8_run_21 rfl ?_
  refine g_getR (f := 1) dX8_run_22 cl9 hV4.1 (by decide) (Or.inl (iw_1 20 rfl)) (Or.inl rfl) rfl hV4.2.2.1 ?_
  refine g_callV dX8_run_25 sX2_narrow (c_narrow M4 n (w + 1) (w + 14) d (w + 58) _ E (zP σ) _ s4 (zF σ) hW4 hF4 hgd gdA4 hS4 hN4.2.2) cl3 hW4.2.1.1 iX2_narrow vX2_narrow (iw_23 18 rfl) rfl rfl (Nat.le_of_ble_eq_true rfl) (Nat.le_of_ble_eq_true rfl) (Nat.le_of_ble_eq_true rfl) (Nat.le_of_ble_eq_true rfl) (Nat.le_of_ble_eq_true rfl) ?_
  intro r9 M5 n9 h9
  obtain ⟨h91, h93, hN5⟩ := h9
  rw [h91, h93]
  clear h91 h93 r9 n9
  have hO5 : Off M4 M5 (fZ (w + 14) E (zP σ).length) := hN5.1.mono (fun i k z => fNw_Z z)
  obtain ⟨s5, hS5⟩ := hN5.2.1
  have hW5 := hW4.off hO5
  have hV5 := hV4.off hO5
  have kp : ∀ k, k ≠ 7 → mI M5 (w + 14) k = mI M3 (w + 14) k := fun k hk => by
    have nn : ¬ fNw (w + 14) E (zP σ).length (w + 14) k := by
      rintro (z | z | ⟨t, ht, z1, z2, z3⟩)
      · omega
      · omega
      · have := hE9 t ht; omega
    rw [hN5.1.i nn, hN4.1.i nn]
  refine g_aload_n dX8_run_28 rfl ?_
  refine g_iconst (v := nI 1) dX8_run_29 rfl ?_
  refine g_putI (f := 3) dX8_run_30 cl9 hV5.1 (by decide) (Or.inl (iw_2 1 rfl)) (Or.inl rfl) (Or.inl rfl) (Or.inr ⟨rfl, (Or.inr rfl)⟩) ?_
  refine g_aload_n dX8_run_33 rfl ?_
  refine g_getR (f := 1) dX8_run_34 cl9 hV5.1 (by decide) (Or.inl (iw_1 20 rfl)) (Or.inl rfl) rfl hV5.2.2.1 ?_
  skip
  refine g_getI (f := 5) dX8_run_37 cl3 hW5.2.1.1 (by decide) (Or.inr (List.mem_of_getElem? (i := 13) rfl)) (Or.inl rfl) (Or.inl rfl) ?_
  have e40 : mI (stI M5 w 3 (nI 1)) (w + 14) 5 = nI (runA (zP σ) (zF σ)).2.1 := by
    show up2 (mI M5) w 3 (nI 1) (w + 14) 5 = _
    rw [up2_ne _ _ (by omega), kp 5 (by decide)]; exact hI3.2.1
  rw [e40]
  exact g_iret dX8_run_40 (Or.inl rfl) (Nat.le_of_ble_eq_true rfl) (Nat.le_of_ble_eq_true rfl) (by
    have oT : Off M M5 (fZ (w + 14) E (zP σ).length) := ((hO2.trans hO3).trans hO4).trans hO5
    have o6 : Off M5 (stI M5 w 3 (nI 1)) (fun i k => i = w ∧ k = 3) := Off.rf.stI ⟨rfl, rfl⟩
    refine ⟨rfl, rfl, Nat.le_refl _, ⟨d, E, hV5.off o6, (hq.off oT).off o6, hok, up2_eq _ _ _ _, ?_, ?_, (hF.off oT (fun i k a b => fZ_at hE9 (by omega) (by omega))).off o6 (fun i k a b z => by omega), hW5.offG o6 (fun i k z => by omega), fun _ => ⟨⟨s5, hS5.off o6 (fun j i k hj z a b => by have := hE9 j hj; omega)⟩, e40, ?_, ?_⟩, hd, h2⟩, (Rw.off oT (fun i k a b => fZ_at hE9 (by omega) (by omega))).trans (Rw.off o6 (fun i k a b z => by omega))⟩
    · rw [o6.i (by omega), oT.i (fZ_at hE9 (by omega) (by omega))]; exact hh
    · intro p hp; rw [o6.i (by omega), oT.i (fZ_at hE9 (by omega) (by omega))]; exact hv p hp
    · rw [o6.i (by omega), kp 6 (by decide)]
      refine hS3.2.trans ?_
      show _ = nI (aW (runA (zP σ) (zF σ)).1)
      rw [runA_aW]
    · rw [o6.i (by omega)]; exact hN5.2.2)

