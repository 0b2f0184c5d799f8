/-! begin -/
set_option maxHeartbeats 4000000 in
set_option maxRecDepth 100000 in
theorem c_begin (M : gM) (n w : Nat) (σ : MS) (p lo hi : Int32) (hK : kW M w σ) : GX μX8_begin 7 120 2 12 [.ref w, .int p, .int lo, .int hi] M n (yO M n w (bgS σ p lo hi) (bgZ p lo hi).1 (.long (jI (bgZ p lo hi).2))) (yX M n (bgZ p lo hi).1 "java/lang/IndexOutOfBoundsException" "java/lang/IllegalArgumentException" "") := by
  refine GX.ofW (by decide) rfl (Nat.le_of_ble_eq_true rfl) rfl ?_
  obtain ⟨d, E, hC⟩ := hK
  have hC0 := hC
  obtain ⟨hV, hq, hok, h3, hh, hv, hF, hW, hR, hd, h2⟩ := hC
  refine g_iload_n dX8_begin_0 rfl ?_
  refine g_callSX rfl dX8_begin_1 sX8_requirePlace (c_reqPlace M n p) tX8_requirePlace (iw_13 20 rfl) rfl rfl (Nat.le_of_ble_eq_true rfl) (Nat.le_of_ble_eq_true rfl) (Nat.le_of_ble_eq_true rfl) (Nat.le_of_ble_eq_true rfl) (Nat.le_of_ble_eq_true rfl) (fun E M1 n1 h => ⟨h.2.1, h.2.2.1, Or.inl ⟨by unfold bgZ; rw [if_pos h.2.2.2], h.1⟩⟩) (Nat.le_of_ble_eq_true rfl) (Nat.le_of_ble_eq_true rfl) ?_
  intro r9 M9 n9 h9
  obtain ⟨h91, h92, h93, hP⟩ := h9
  rw [h91, h92, h93]
  clear h91 h92 h93 r9 M9 n9
  refine g_iload_n dX8_begin_4 rfl ?_
  refine g_iload_n dX8_begin_5 rfl ?_
  refine g_icmp_ge (tgt := 19) dX8_begin_6 (by decide) (fun c_6 => ?_) (fun c_6 => ?_)
  · skip
    have e : bgZ p lo hi = (0, hi.toInt - lo.toInt + 1) := by unfold bgZ; rw [if_neg (fun q => q hP), if_neg (by rw [i_le] at c_6; rw [i_lt]; omega)]
    have e2 : bgS σ p lo hi = (zP σ, up1 (zF σ) (pl p) [(lo.toInt, hi.toInt)], false, zH σ, zN σ) := by unfold bgS; rw [e]; rfl
    rw [e, e2]
    clear e e2
    refine g_aload_n dX8_begin_19 rfl ?_
    refine g_iconst (v := nI 0) dX8_begin_20 rfl ?_
    refine g_putI (f := 3) dX8_begin_21 cl9 hV.1 (by decide) (Or.inl (iw_2 1 rfl)) (Or.inl rfl) (Or.inl rfl) (Or.inr ⟨rfl, (Or.inl rfl)⟩) ?_
    have o1 : Off M (stI M w 3 (nI 0)) (fun i k => i = w ∧ k = 3) := Off.rf.stI ⟨rfl, rfl⟩
    have hC1 := hC0.off o1 (fun i k z => Or.inl z) (b := false) (up2_eq _ _ _ _) (fun q => by cases q)
    have r1 : Rw M (stI M w 3 (nI 0)) (w + 45) (w + 57) := Rw.off o1 (fun i k a b z => by omega)
    generalize stI M w 3 (nI 0) = M1 at o1 hC1 r1 ⊢
    have hW1 : wS M1 (w + 1) (w + 14) d (w + 58) E (zP σ) := hC1.2.2.2.2.2.2.2.1
    have hV1 : cV M1 w := hC1.1
    have hp8 := hP.lt
    have hA1 : sA M1 (w + 3) := hW1.2.2.2.1
    refine g_aload_n dX8_begin_24 rfl ?_
    refine g_getR (f := 0) dX8_begin_25 cl9 hV1.1 (by decide) (Or.inl (iw_1 16 rfl)) (Or.inl rfl) rfl hV1.2.1 ?_
    refine g_getR (f := 1) dX8_begin_28 cl2 hW1.1.1 (by decide) (Or.inr (List.mem_of_getElem? (i := 12) rfl)) (Or.inl rfl) rfl hW1.1.2.2.1 ?_
    refine g_iload_n dX8_begin_31 rfl ?_
    refine g_aaloadS dX8_begin_32 (j := (pl p)) hA1.1 hA1.2.1 hP.eq hp8 (by decide) (hA1.2.2 (pl p) hp8).1 ?_
    refine g_iload_n dX8_begin_33 rfl ?_
    refine g_iload_n dX8_begin_34 rfl ?_
    refine g_callV dX8_begin_35 sX3_becomeSpan (c_spanX M1 n (w + 3 + 1 + pl p) lo hi (hA1.2.2 (pl p) hp8).2 c_6) cl4 (hA1.2.2 (pl p) hp8).2 iX3_becomeSpan vX3_becomeSpan (iw_13 23 rfl) rfl rfl (Nat.le_of_ble_eq_true rfl) (Nat.le_of_ble_eq_true rfl) (Nat.le_of_ble_eq_true rfl) (Nat.le_of_ble_eq_true rfl) (Nat.le_of_ble_eq_true rfl) ?_
    intro r9 M2 n9 h9
    obtain ⟨h91, h93, hO2, hc2⟩ := h9
    rw [h91, h93]
    clear h91 h93 r9 n9
    refine g_iload_n dX8_begin_38 rfl ?_
    refine g_i2l dX8_begin_39 ?_
    refine g_iload_n dX8_begin_40 rfl ?_
    refine g_i2l dX8_begin_41 ?_
    refine g_lsub dX8_begin_42 ?_
    refine g_lconst (v := 1) dX8_begin_43 rfl ?_
    refine g_ladd dX8_begin_44 ?_
    exact g_xr (g_lret dX8_begin_45 rfl (Nat.le_of_ble_eq_true rfl) (Nat.le_of_ble_eq_true rfl) (by
      refine ⟨by rw [i_j, i_j, jI_sub, show (1 : Int64) = jI 1 from rfl, jI_add], rfl, Nat.le_refl _, ⟨d, E, ?_⟩, r1.trans (Rw.off hO2 (fun i k a b z => by unfold fO at z; omega))⟩
      refine hC1.fr (by rw [hO2.1]) (by rw [hO2.2.2.1]) (by rw [hO2.i (by unfold fO; omega)]; exact hC1.2.2.2.1) (Rw.off hO2 (fun i k a b z => by unfold fO at z; omega)) (hC1.2.2.2.2.2.2.1.up hO2 (fun i k z a b => z) hc2) (fun q hq8 => ?_) (hW1.offG hO2 (fun i k z => by unfold fO at z; omega)) hd
      by_cases c : q = pl p
      · rw [c, up1_eq]; exact ⟨okX_one (by rw [i_le] at c_6; exact c_6) (i_rng lo) (i_rng hi), rfl⟩
      · rw [up1_ne _ _ c]; exact hok.2 q hq8))
  · skip
    exact g_throw (E := "java/lang/IllegalArgumentException") (ik := 50) (is := 78) (ic := 54) rfl rfl (by decide) (iw_7 2 rfl) (iw_7 3 rfl) (List.mem_of_getElem? (i := 3) rfl) xg_54 xb_54 (xo_54_50) (by decide +kernel) dX8_begin_9 dX8_begin_12 dX8_begin_13 dX8_begin_15 dX8_begin_18 (Nat.le_of_ble_eq_true rfl) (Nat.le_of_ble_eq_true rfl) (Nat.le_of_ble_eq_true rfl) (Nat.le_of_ble_eq_true rfl) (Nat.le_of_ble_eq_true rfl) (Nat.le_of_ble_eq_true rfl) (fun n1 hn1 => ⟨rfl, hn1, Or.inr (Or.inl ⟨by unfold bgZ; rw [if_neg (fun q => q hP), if_pos (by rw [i_le] at c_6; rw [i_lt]; omega)], rfl⟩)⟩)

