/-! the law: holds -/
set_option maxHeartbeats 4000000 in
set_option maxRecDepth 100000 in
theorem b_holds {sa L t k q n w : Nat} {xs : Nat → Int32} {M : gM} {σ : MS} (hL : L ≤ 2560) (hK : kW M w σ) (hR : rM M (w + 45) σ) (ho : mK M (w + 57) = 12 ∧ mN M (w + 57) = 1) (hb : w + 58 ≤ n) (ht : 5 * t + 5 ≤ L) (hkc : k + 11 ≤ 693874) (hqc : q + 257 ≤ 7014482) (hk : ∀ M1 n1 σ1, kW M1 w σ1 → rM M1 (w + 45) σ1 → (mK M1 (w + 57) = 12 ∧ mN M1 (w + 57) = 1) → n ≤ n1 → GW μL_law room_1 (gQL sa L xs) (k + 11) (q + 257) 862 [some (.retAddr sa), some (.ref w), some (.ref (w + 45)), some (.ref (w + 57)), some (.int (nI (5 * t))), none, none, none] [] M1 n1) : GW μL_law room_1 (gQL sa L xs) k q 699 [some (.retAddr sa), some (.ref w), some (.ref (w + 45)), some (.ref (w + 57)), some (.int (nI (5 * t))), none, none, none] [] M n := by
  have hRm := hR.mod
  refine g_aload_n dL_law_699 rfl ?_
  refine g_aload_nX dL_law_700 rfl ?_
  refine g_iload dL_law_701 rfl ?_
  refine g_iconst (v := nI 1) dL_law_703 rfl ?_
  refine g_iadd dL_law_704 ?_
  rw [nI_add]
  refine g_sld (j := 5 * t + 1) dL_law_705 rfl (by omega) hL ?_
  refine g_aload_nX dL_law_706 rfl ?_
  refine g_iload dL_law_707 rfl ?_
  refine g_iconst (v := nI 2) dL_law_709 rfl ?_
  refine g_iadd dL_law_710 ?_
  rw [nI_add]
  refine g_sld (j := 5 * t + 2) dL_law_711 rfl (by omega) hL ?_
  refine g_aload_n dL_law_712 rfl ?_
  refine g_callSW dL_law_713 sL_holds (w_holds M n w σ (xs (5 * t + 1)) (xs (5 * t + 2)) hK ho hb) tL_holds (iw_35 19 rfl) rfl rfl (Nat.le_of_ble_eq_true rfl) (Nat.le_of_ble_eq_true rfl) (Nat.le_of_ble_eq_true rfl) (by show _ ≤ 693874; omega) (by show _ ≤ 7014482; omega) ?_
  intro r9 M1 n1 h9
  obtain ⟨h91, hn1, hK1, hR1, ho1, hv1⟩ := h9
  rw [h91]
  clear h91 r9
  have hM1 : rM M1 (w + 45) σ := hR.rw hR1
  have hM1m := hM1.mod
  refine g_istore dL_law_716 (Nat.le_of_ble_eq_true rfl) ?_
  refine g_aload_n dL_law_718 rfl ?_
  refine g_aload_nX dL_law_719 rfl ?_
  refine g_iload dL_law_720 rfl ?_
  refine g_iconst (v := nI 1) dL_law_722 rfl ?_
  refine g_iadd dL_law_723 ?_
  rw [nI_add]
  refine g_sld (j := 5 * t + 1) dL_law_724 rfl (by omega) hL ?_
  refine g_aload_nX dL_law_725 rfl ?_
  refine g_iload dL_law_726 rfl ?_
  refine g_iconst (v := nI 2) dL_law_728 rfl ?_
  refine g_iadd dL_law_729 ?_
  rw [nI_add]
  refine g_sld (j := 5 * t + 2) dL_law_730 rfl (by omega) hL ?_
  refine g_callV dL_law_731 sX9_holds (s_holds M1 n1 (w + 45) σ (xs (5 * t + 1)) (xs (5 * t + 2)) hM1) cl10 hM1m.1 iX9_holds vX9_holds (iw_37 19 rfl) rfl rfl (Nat.le_of_ble_eq_true rfl) (Nat.le_of_ble_eq_true rfl) (Nat.le_of_ble_eq_true rfl) (by show _ ≤ 693874; omega) (by show _ ≤ 7014482; omega) ?_
  intro r9 M2 n9 h9
  obtain ⟨h91, h93, hO2, hM2, h02⟩ := h9
  rw [h91, h93]
  clear h91 h93 r9 n9
  have hK2 : kW M2 w (hoS σ (xs (5 * t + 1)) (xs (5 * t + 2))) := hK1.offX hO2
  have ho2 : mK M2 (w + 57) = 12 ∧ mN M2 (w + 57) = 1 := ⟨by rw [hO2.1]; exact ho1.1, by rw [hO2.2.1]; exact ho1.2⟩
  have hv2 : (hoZ σ (xs (5 * t + 1)) (xs (5 * t + 2))).1 = 0 → mJ M2 (w + 57) 0 = (nI (hoZ σ (xs (5 * t + 1)) (xs (5 * t + 2))).2.1).toInt64 := fun h => by rw [hO2.j (by unfold fX; omega)]; exact hv1 h
  have hM2m := hM2.mod
  refine g_istore dL_law_734 (Nat.le_of_ble_eq_true rfl) ?_
  refine g_aload_n dL_law_736 rfl ?_
  refine g_callV dL_law_737 sX9_thrown (m_thrown M2 n1 (w + 45) hM2m) cl10 hM2m.1 iX9_thrown vX9_thrown (iw_13 9 rfl) rfl rfl (Nat.le_of_ble_eq_true rfl) (Nat.le_of_ble_eq_true rfl) (Nat.le_of_ble_eq_true rfl) (by show _ ≤ 693874; omega) (by show _ ≤ 7014482; omega) ?_
  intro r9 M9 n9 h9
  obtain ⟨h91, h92, h93⟩ := h9
  rw [h91, h92, h93]
  clear h91 h92 h93 r9 M9 n9
  rw [h02]
  refine g_iload dL_law_740 rfl ?_
  refine g_icmp_eq (tgt := 747) dL_law_742 (by decide) (fun c_742 => ?_) (fun c_742 => ?_)
  · skip
    refine g_iload dL_law_747 rfl ?_
    refine g_if_ne (tgt := 764) dL_law_749 (by decide) (fun c_749 => ?_) (fun c_749 => ?_)
    · skip
      refine g_goto (tgt := 862) dL_law_764 (by decide) ?_
      refine g_drop 5 ?_
      refine g_drop 6 ?_
      refine g_drop 7 ?_
      refine g_widen (k2 := k + 11) (q2 := q + 257) (by omega) (by omega) ?_
      exact hk M2 n1 _ hK2 hM2 ho2 hn1
    · skip
      have hc0 : (hoZ σ (xs (5 * t + 1)) (xs (5 * t + 2))).1 = 0 := nI_z (hoZ_le _ _ _ ) c_749
      have hv3 := hv2 hc0
      refine g_aload_n dL_law_752 rfl ?_
      refine g_iconst (v := nI 0) dL_law_753 rfl ?_
      refine g_laload dL_law_754 (j := 0) ho2.1 ho2.2 rfl (by decide) (by decide) ?_
      rw [hv3]
      refine g_iload dL_law_755 rfl ?_
      refine g_i2l dL_law_757 ?_
      refine g_lcmp dL_law_758 ?_
      refine g_if_eq (tgt := 764) dL_law_759 (by decide) (fun c_759 => ?_) (fun c_759 => ?_)
      · skip
        refine g_goto (tgt := 862) dL_law_764 (by decide) ?_
        refine g_drop 5 ?_
        refine g_drop 6 ?_
        refine g_drop 7 ?_
        refine g_widen (k2 := k + 11) (q2 := q + 257) (by omega) (by omega) ?_
        exact hk M2 n1 _ hK2 hM2 ho2 hn1
      · skip
        exact absurd ((lg_cmp_eq _ _).mpr rfl) c_759
  · skip
    exact absurd rfl c_742

