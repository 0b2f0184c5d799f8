/-! ways, told, threshold -/
set_option maxHeartbeats 4000000 in
set_option maxRecDepth 100000 in
theorem c_waysP (M : gM) (n w : Nat) (σ : MS) (x : Int32) (hK : kW M w σ) : GX μX8_ways 7 145 2 12 [.ref w, .int x] M n (yO M n w σ (wyZ σ x).1 (.int (nI (wyZ σ x).2))) (yX M n (wyZ σ x).1 "java/lang/IndexOutOfBoundsException" "java/lang/IllegalStateException" "") := by
  refine GX.ofW (by decide) rfl (Nat.le_of_ble_eq_true rfl) rfl ?_
  obtain ⟨d, E, hC⟩ := hK
  have hC0 := hC
  obtain ⟨hV, hq, hok, h3, hh, hv, hF, hW, hR, hd, h2⟩ := hC
  refine g_aload_n dX8_ways_0 rfl ?_
  refine g_iload_n dX8_ways_1 rfl ?_
  refine g_callVX rfl dX8_ways_2 sX8_requireStatement (c_reqStat M n w d (zP σ).length E x hV.1 hV.2.1 hW.1 hW.2.2.1) cl9 hV.1 iX8_requireStatement vX8_requireStatement (iw_31 15 rfl) rfl rfl (Nat.le_of_ble_eq_true rfl) (Nat.le_of_ble_eq_true rfl) (Nat.le_of_ble_eq_true rfl) (Nat.le_of_ble_eq_true rfl) (Nat.le_of_ble_eq_true rfl) (fun E M1 n1 h => ⟨h.2.1, h.2.2.1, Or.inl ⟨by unfold wyZ; rw [if_pos h.2.2.2], h.1⟩⟩) (Nat.le_of_ble_eq_true rfl) (Nat.le_of_ble_eq_true rfl) ?_
  intro r9 M9 n9 h9
  obtain ⟨h91, h92, h93, hN⟩ := h9
  rw [h91, h92, h93]
  clear h91 h92 h93 r9 M9 n9
  have hlt : pl x < (zP σ).length := isN_pl hN
  have hQ := (hW.2.2.2.2.2.2.1 (pl x) hlt).1
  refine g_aload_n dX8_ways_5 rfl ?_
  refine g_callVX rfl dX8_ways_6 sX8_requireSolved (c_reqSolved M n w (zR σ) hV.1 h3) cl9 hV.1 iX8_requireSolved vX8_requireSolved (iw_31 20 rfl) rfl rfl (Nat.le_of_ble_eq_true rfl) (Nat.le_of_ble_eq_true rfl) (Nat.le_of_ble_eq_true rfl) (Nat.le_of_ble_eq_true rfl) (Nat.le_of_ble_eq_true rfl) (fun E M1 n1 h => ⟨h.2.1, h.2.2.1, Or.inr (Or.inl ⟨by unfold wyZ; rw [if_neg (fun q => q hN), if_pos h.2.2.2], h.1⟩)⟩) (Nat.le_of_ble_eq_true rfl) (Nat.le_of_ble_eq_true rfl) ?_
  intro r9 M9 n9 h9
  obtain ⟨h91, h92, h93, hs⟩ := h9
  rw [h91, h92, h93]
  clear h91 h92 h93 r9 M9 n9
  have hzR : ¬ zR σ = false := by rw [hs]; exact fun q => by cases q
  obtain ⟨⟨st9, hf⟩, hr5, hr6, hr7⟩ := hR hs
  refine g_aload_n dX8_ways_9 rfl ?_
  refine g_getR (f := 0) dX8_ways_10 cl9 hV.1 (by decide) (Or.inl (iw_1 16 rfl)) (Or.inl rfl) rfl hV.2.1 ?_
  refine g_getR (f := 0) dX8_ways_13 cl2 hW.1.1 (by decide) (Or.inr (List.mem_of_getElem? (i := 11) rfl)) (Or.inl rfl) rfl hW.1.2.1 ?_
  refine g_iload_n dX8_ways_16 rfl ?_
  refine g_callV dX8_ways_17 sJx4a65c_get_915e3 (j_getX M n (w + 2) d (zP σ).length x E hW.2.2.1 hN) cl0 hW.2.2.1.1 iJx4a65c_get_915e3 vJx4a65c_get_915e3 (iw_32 2 rfl) rfl rfl (Nat.le_of_ble_eq_true rfl) (Nat.le_of_ble_eq_true rfl) (Nat.le_of_ble_eq_true rfl) (Nat.le_of_ble_eq_true rfl) (Nat.le_of_ble_eq_true rfl) ?_
  intro r9 M9 n9 h9
  obtain ⟨h91, h92, h93⟩ := h9
  rw [h91, h92, h93]
  clear h91 h92 h93 r9 M9 n9
  refine g_castSt dX8_ways_20 (iw_31 14 rfl) hQ.1 ?_
  refine g_astore_n dX8_ways_23 (Nat.le_of_ble_eq_true rfl) ?_
  refine g_aload_n dX8_ways_24 rfl ?_
  refine g_getI (f := 6) dX8_ways_25 cl5 hQ.1 (by decide) (Or.inr (List.mem_of_getElem? (i := 0) rfl)) (Or.inl rfl) (Or.inr rfl) ?_
  rw [(hf (pl x) hlt).1]
  refine g_if_eq (tgt := 45) dX8_ways_28 (by decide) (fun c_28 => ?_) (fun c_28 => ?_)
  · skip
    refine g_iconst (v := nI 0) dX8_ways_45 rfl ?_
    exact g_xr (g_iret dX8_ways_46 (Or.inl rfl) (Nat.le_of_ble_eq_true rfl) (Nat.le_of_ble_eq_true rfl) (by
      first
      | (have e : wyZ σ x = (0, wyO ((zP σ).getD (pl x) st0) (aF (zA σ) (pl x))) := by
           unfold wyZ
           rw [if_neg (fun q => q hN), if_neg hzR, if_neg (by rw [hkn]; exact fun q => by cases q)]; rfl
         rw [e]
         exact ⟨rfl, rfl, Nat.le_refl _, kW.offR ⟨d, E, hC0⟩ hO2 (fun i k z => by unfold fV at z; omega), Rw.off hO2 (fun i k a b z => by unfold fV at z; omega)⟩)
      | (have e : wyZ σ x = (0, 0) := by
           unfold wyZ
           rw [if_neg (fun q => q hN), if_neg hzR, if_pos (by rw [bI_eq0] at c_28; exact c_28)]
         rw [e]; exact ⟨rfl, rfl, Nat.le_refl _, ⟨d, E, hC0⟩, Rw.rf⟩)))
  · skip
    have hkn : aR (zA σ) (pl x) = true := by rw [bI_eq0, Bool.not_eq_false] at c_28; exact c_28
    have hE9 := hW.2.2.2.2.2.2.2.2.2.1 (pl x) hlt
    refine g_aload_n dX8_ways_31 rfl ?_
    refine g_getR (f := 1) dX8_ways_32 cl9 hV.1 (by decide) (Or.inl (iw_1 20 rfl)) (Or.inl rfl) rfl hV.2.2.1 ?_
    refine g_getR (f := 1) dX8_ways_35 cl3 hW.2.1.1 (by decide) (Or.inr (List.mem_of_getElem? (i := 3) rfl)) (Or.inl rfl) rfl hW.2.1.2.1.2.1 ?_
    refine g_aload_n dX8_ways_38 rfl ?_
    refine g_callV dX8_ways_39 sX5_waysFrom (c_ways M n (w + 14 + 1) (E (pl x)) ((zP σ).getD (pl x) st0) (aF (zA σ) (pl x)) hW.2.1.2.2.1 hQ (hok.1.2 (pl x) hlt) ((hf (pl x) hlt).2.2.2 hkn) (Or.inr (by omega)) (zA_gd hok (pl x) hlt hkn)) cl6 hW.2.1.2.2.1.1 iX5_waysFrom vX5_waysFrom (iw_33 18 rfl) rfl rfl (Nat.le_of_ble_eq_true rfl) (Nat.le_of_ble_eq_true rfl) (Nat.le_of_ble_eq_true rfl) (Nat.le_of_ble_eq_true rfl) (Nat.le_of_ble_eq_true rfl) ?_
    intro r9 M2 n9 h9
    obtain ⟨h91, h93, hO2⟩ := h9
    rw [h91, h93]
    clear h91 h93 r9 n9
    refine g_goto (tgt := 46) dX8_ways_42 (by decide) ?_
    exact g_xr (g_iret dX8_ways_46 (Or.inl rfl) (Nat.le_of_ble_eq_true rfl) (Nat.le_of_ble_eq_true rfl) (by
      first
      | (have e : wyZ σ x = (0, wyO ((zP σ).getD (pl x) st0) (aF (zA σ) (pl x))) := by
           unfold wyZ
           rw [if_neg (fun q => q hN), if_neg hzR, if_neg (by rw [hkn]; exact fun q => by cases q)]; rfl
         rw [e]
         exact ⟨rfl, rfl, Nat.le_refl _, kW.offR ⟨d, E, hC0⟩ hO2 (fun i k z => by unfold fV at z; omega), Rw.off hO2 (fun i k a b z => by unfold fV at z; omega)⟩)
      | (have e : wyZ σ x = (0, 0) := by
           unfold wyZ
           rw [if_neg (fun q => q hN), if_neg hzR, if_pos (by rw [bI_eq0] at c_28; exact c_28)]
         rw [e]; exact ⟨rfl, rfl, Nat.le_refl _, ⟨d, E, hC0⟩, Rw.rf⟩)))

set_option maxHeartbeats 4000000 in
set_option maxRecDepth 100000 in
theorem c_toldP (M : gM) (n w : Nat) (σ : MS) (x : Int32) (hK : kW M w σ) : GX μX8_told 7 120 1 6 [.ref w, .int x] M n (yO M n w σ (tdZ σ x).1 (.int (nI (tdZ σ x).2))) (yX M n (tdZ σ x).1 "java/lang/IllegalArgumentException" "java/lang/IllegalStateException" "") := by
  refine GX.ofW (by decide) rfl (Nat.le_of_ble_eq_true rfl) rfl ?_
  obtain ⟨d, E, hC⟩ := hK
  have hC0 := hC
  obtain ⟨hV, hq, hok, h3, hh, hv, hF, hW, hR, hd, h2⟩ := hC
  refine g_iload_n dX8_told_0 rfl ?_
  refine g_if_lt (tgt := 9) dX8_told_1 (by decide) (fun c_1 => ?_) (fun c_1 => ?_)
  · skip
    exact g_throw (E := "java/lang/IllegalArgumentException") (ik := 50) (is := 143) (ic := 54) rfl rfl (by decide) (iw_7 2 rfl) (iw_7 3 rfl) (List.mem_of_getElem? (i := 5) rfl) xg_54 xb_54 (xo_54_50) (by decide +kernel) dX8_told_9 dX8_told_12 dX8_told_13 dX8_told_15 dX8_told_18 (Nat.le_of_ble_eq_true rfl) (Nat.le_of_ble_eq_true rfl) (Nat.le_of_ble_eq_true rfl) (Nat.le_of_ble_eq_true rfl) (Nat.le_of_ble_eq_true rfl) (Nat.le_of_ble_eq_true rfl) (fun n1 hn1 => ⟨rfl, hn1, Or.inl ⟨(by
      unfold tdZ
      rw [if_pos (by
        first
        | (rw [i_le, show (nI 4).toInt = 4 from rfl] at c_6; omega)
        | (rw [i_lt, t_0] at c_1; omega))]), rfl⟩⟩)
  · skip
    refine g_iload_n dX8_told_4 rfl ?_
    refine g_iconst (v := nI 4) dX8_told_5 rfl ?_
    refine g_icmp_le (tgt := 19) dX8_told_6 (by decide) (fun c_6 => ?_) (fun c_6 => ?_)
    · skip
      have h04 : 0 ≤ x.toInt ∧ x.toInt ≤ 4 := by rw [i_lt, t_0] at c_1; rw [i_le, show (nI 4).toInt = 4 from rfl] at c_6; omega
      refine g_aload_n dX8_told_19 rfl ?_
      refine g_callVX rfl dX8_told_20 sX8_requireSolved (c_reqSolved M n w (zR σ) hV.1 h3) cl9 hV.1 iX8_requireSolved vX8_requireSolved (iw_31 20 rfl) rfl rfl (Nat.le_of_ble_eq_true rfl) (Nat.le_of_ble_eq_true rfl) (Nat.le_of_ble_eq_true rfl) (Nat.le_of_ble_eq_true rfl) (Nat.le_of_ble_eq_true rfl) (fun E M1 n1 h => ⟨h.2.1, h.2.2.1, Or.inr (Or.inl ⟨by unfold tdZ; rw [if_neg (fun q => q h04), if_pos h.2.2.2], h.1⟩)⟩) (Nat.le_of_ble_eq_true rfl) (Nat.le_of_ble_eq_true rfl) ?_
      intro r9 M9 n9 h9
      obtain ⟨h91, h92, h93, hs⟩ := h9
      rw [h91, h92, h93]
      clear h91 h92 h93 r9 M9 n9
      have hzR : ¬ zR σ = false := by rw [hs]; exact fun q => by cases q
      obtain ⟨⟨st9, hf⟩, hr5, hr6, hr7⟩ := hR hs
      refine g_iload_n dX8_told_23 rfl ?_
      by_cases t_24_0 : x.toInt = 0
      · skip
        refine g_tableIn (off := 32) (tgt := 56) dX8_told_24 (by omega) (by omega) (by rw [t_24_0]; rfl) (by decide) ?_
        refine g_aload_n dX8_told_56 rfl ?_
        refine g_getR (f := 1) dX8_told_57 cl9 hV.1 (by decide) (Or.inl (iw_1 20 rfl)) (Or.inl rfl) rfl hV.2.2.1 ?_
        refine g_getI (f := 5) dX8_told_60 cl3 hW.2.1.1 (by decide) (Or.inr (List.mem_of_getElem? (i := 13) rfl)) (Or.inl rfl) (Or.inl rfl) ?_
        rw [hr5]
        exact g_xr (g_iret dX8_told_63 (Or.inl rfl) (Nat.le_of_ble_eq_true rfl) (Nat.le_of_ble_eq_true rfl) (by
          rw [td_v h04 hzR]
          refine ⟨?_, rfl, Nat.le_refl _, ⟨d, E, hC0⟩, Rw.rf⟩
          first
          | (rw [if_neg t_24_0, if_neg t_24_1, if_neg t_24_3, if_neg t_24_2])
          | (rw [if_neg t_24_0, if_neg t_24_1, if_pos t_24_3])
          | (rw [if_neg t_24_0, if_neg t_24_1, if_neg (by omega), if_pos t_24_2])
          | (rw [if_neg t_24_0, if_pos t_24_1])
          | (rw [if_pos t_24_0])))
      · skip
        by_cases t_24_1 : x.toInt = 1
        · skip
          refine g_tableIn (off := 40) (tgt := 64) dX8_told_24 (by omega) (by omega) (by rw [t_24_1]; rfl) (by decide) ?_
          refine g_aload_n dX8_told_64 rfl ?_
          refine g_getR (f := 1) dX8_told_65 cl9 hV.1 (by decide) (Or.inl (iw_1 20 rfl)) (Or.inl rfl) rfl hV.2.2.1 ?_
          refine g_getI (f := 6) dX8_told_68 cl3 hW.2.1.1 (by decide) (Or.inr (List.mem_of_getElem? (i := 4) rfl)) (Or.inl rfl) (Or.inl rfl) ?_
          rw [hr6]
          exact g_xr (g_iret dX8_told_71 (Or.inl rfl) (Nat.le_of_ble_eq_true rfl) (Nat.le_of_ble_eq_true rfl) (by
            rw [td_v h04 hzR]
            refine ⟨?_, rfl, Nat.le_refl _, ⟨d, E, hC0⟩, Rw.rf⟩
            first
            | (rw [if_neg t_24_0, if_neg t_24_1, if_neg t_24_3, if_neg t_24_2])
            | (rw [if_neg t_24_0, if_neg t_24_1, if_pos t_24_3])
            | (rw [if_neg t_24_0, if_neg t_24_1, if_neg (by omega), if_pos t_24_2])
            | (rw [if_neg t_24_0, if_pos t_24_1])
            | (rw [if_pos t_24_0])))
        · skip
          by_cases t_24_2 : x.toInt = 2
          · skip
            refine g_tableIn (off := 48) (tgt := 72) dX8_told_24 (by omega) (by omega) (by rw [t_24_2]; rfl) (by decide) ?_
            refine g_aload_n dX8_told_72 rfl ?_
            refine g_getR (f := 0) dX8_told_73 cl9 hV.1 (by decide) (Or.inl (iw_1 16 rfl)) (Or.inl rfl) rfl hV.2.1 ?_
            refine g_callV dX8_told_76 sX1_countKnown (c_knownN M n (w + 1) d (zP σ).length E (aR (zA σ)) hW.1 hW.2.2.1 hok.1.1 (fun k hk => (hf k hk).1)) cl2 hW.1.1 iX1_countKnown vX1_countKnown (iw_34 19 rfl) rfl rfl (Nat.le_of_ble_eq_true rfl) (Nat.le_of_ble_eq_true rfl) (Nat.le_of_ble_eq_true rfl) (Nat.le_of_ble_eq_true rfl) (Nat.le_of_ble_eq_true rfl) ?_
            intro r9 M9 n9 h9
            obtain ⟨h91, h92, h93⟩ := h9
            rw [h91, h92, h93]
            clear h91 h92 h93 r9 M9 n9
            exact g_xr (g_iret dX8_told_79 (Or.inl rfl) (Nat.le_of_ble_eq_true rfl) (Nat.le_of_ble_eq_true rfl) (by
              rw [td_v h04 hzR]
              refine ⟨?_, rfl, Nat.le_refl _, ⟨d, E, hC0⟩, Rw.rf⟩
              first
              | (rw [if_neg t_24_0, if_neg t_24_1, if_neg t_24_3, if_neg t_24_2])
              | (rw [if_neg t_24_0, if_neg t_24_1, if_pos t_24_3])
              | (rw [if_neg t_24_0, if_neg t_24_1, if_neg (by omega), if_pos t_24_2])
              | (rw [if_neg t_24_0, if_pos t_24_1])
              | (rw [if_pos t_24_0])))
          · skip
            by_cases t_24_3 : x.toInt = 3
            · skip
              refine g_tableIn (off := 56) (tgt := 80) dX8_told_24 (by omega) (by omega) (by rw [t_24_3]; rfl) (by decide) ?_
              refine g_aload_n dX8_told_80 rfl ?_
              refine g_getR (f := 1) dX8_told_81 cl9 hV.1 (by decide) (Or.inl (iw_1 20 rfl)) (Or.inl rfl) rfl hV.2.2.1 ?_
              refine g_getI (f := 7) dX8_told_84 cl3 hW.2.1.1 (by decide) (Or.inr (List.mem_of_getElem? (i := 5) rfl)) (Or.inl rfl) (Or.inl rfl) ?_
              rw [hr7]
              exact g_xr (g_iret dX8_told_87 (Or.inl rfl) (Nat.le_of_ble_eq_true rfl) (Nat.le_of_ble_eq_true rfl) (by
                rw [td_v h04 hzR]
                refine ⟨?_, rfl, Nat.le_refl _, ⟨d, E, hC0⟩, Rw.rf⟩
                first
                | (rw [if_neg t_24_0, if_neg t_24_1, if_neg t_24_3, if_neg t_24_2])
                | (rw [if_neg t_24_0, if_neg t_24_1, if_pos t_24_3])
                | (rw [if_neg t_24_0, if_neg t_24_1, if_neg (by omega), if_pos t_24_2])
                | (rw [if_neg t_24_0, if_pos t_24_1])
                | (rw [if_pos t_24_0])))
            · skip
              refine g_tableOut (tgt := 88) dX8_told_24 (by omega) (by decide) ?_
              refine g_aload_n dX8_told_88 rfl ?_
              refine g_getR (f := 0) dX8_told_89 cl9 hV.1 (by decide) (Or.inl (iw_1 16 rfl)) (Or.inl rfl) rfl hV.2.1 ?_
              refine g_callV dX8_told_92 sX1_countHeads (c_headN M n (w + 1) d (zP σ).length E (isHd (zP σ)) hW.1 hW.2.2.1 hok.1.1 (fun k hk => (hW.2.2.2.2.2.2.1 k hk).2)) cl2 hW.1.1 iX1_countHeads vX1_countHeads (iw_34 23 rfl) rfl rfl (Nat.le_of_ble_eq_true rfl) (Nat.le_of_ble_eq_true rfl) (Nat.le_of_ble_eq_true rfl) (Nat.le_of_ble_eq_true rfl) (Nat.le_of_ble_eq_true rfl) ?_
              intro r9 M9 n9 h9
              obtain ⟨h91, h92, h93⟩ := h9
              rw [h91, h92, h93]
              clear h91 h92 h93 r9 M9 n9
              exact g_xr (g_iret dX8_told_95 (Or.inl rfl) (Nat.le_of_ble_eq_true rfl) (Nat.le_of_ble_eq_true rfl) (by
                rw [td_v h04 hzR]
                refine ⟨?_, rfl, Nat.le_refl _, ⟨d, E, hC0⟩, Rw.rf⟩
                first
                | (rw [if_neg t_24_0, if_neg t_24_1, if_neg t_24_3, if_neg t_24_2])
                | (rw [if_neg t_24_0, if_neg t_24_1, if_pos t_24_3])
                | (rw [if_neg t_24_0, if_neg t_24_1, if_neg (by omega), if_pos t_24_2])
                | (rw [if_neg t_24_0, if_pos t_24_1])
                | (rw [if_pos t_24_0])))
    · skip
      exact g_throw (E := "java/lang/IllegalArgumentException") (ik := 50) (is := 143) (ic := 54) rfl rfl (by decide) (iw_7 2 rfl) (iw_7 3 rfl) (List.mem_of_getElem? (i := 5) rfl) xg_54 xb_54 (xo_54_50) (by decide +kernel) dX8_told_9 dX8_told_12 dX8_told_13 dX8_told_15 dX8_told_18 (Nat.le_of_ble_eq_true rfl) (Nat.le_of_ble_eq_true rfl) (Nat.le_of_ble_eq_true rfl) (Nat.le_of_ble_eq_true rfl) (Nat.le_of_ble_eq_true rfl) (Nat.le_of_ble_eq_true rfl) (fun n1 hn1 => ⟨rfl, hn1, Or.inl ⟨(by
        unfold tdZ
        rw [if_pos (by
          first
          | (rw [i_le, show (nI 4).toInt = 4 from rfl] at c_6; omega)
          | (rw [i_lt, t_0] at c_1; omega))]), rfl⟩⟩)

set_option maxHeartbeats 4000000 in
set_option maxRecDepth 100000 in
theorem c_thresholdP (M : gM) (n w : Nat) (σ : MS) (x : Int32) (hK : kW M w σ) : GX μX8_threshold 6 100 1 6 [.ref w, .int x] M n (yO M n w σ (thZ σ x).1 (.int (iZ (thZ σ x).2))) (yX M n (thZ σ x).1 "java/lang/IndexOutOfBoundsException" "" "") := by
  refine GX.ofW (by decide) rfl (Nat.le_of_ble_eq_true rfl) rfl ?_
  obtain ⟨d, E, hC⟩ := hK
  have hC0 := hC
  obtain ⟨hV, hq, hok, h3, hh, hv, hF, hW, hR, hd, h2⟩ := hC
  obtain ⟨T9, hT⟩ := hW.2.2.2.2.1
  have hT82 := hT.2.2.1
  refine g_aload_n dX8_threshold_0 rfl ?_
  refine g_getR (f := 0) dX8_threshold_1 cl9 hV.1 (by decide) (Or.inl (iw_1 16 rfl)) (Or.inl rfl) rfl hV.2.1 ?_
  refine g_getR (f := 2) dX8_threshold_4 cl2 hW.1.1 (by decide) (Or.inr (List.mem_of_getElem? (i := 6) rfl)) (Or.inl rfl) rfl hW.1.2.2.2 ?_
  refine g_astore_n dX8_threshold_7 (Nat.le_of_ble_eq_true rfl) ?_
  refine g_iload_n dX8_threshold_8 rfl ?_
  refine g_if_lt (tgt := 20) dX8_threshold_9 (by decide) (fun c_9 => ?_) (fun c_9 => ?_)
  · skip
    exact g_throw (E := "java/lang/IndexOutOfBoundsException") (ik := 40) (is := 166) (ic := 44) rfl rfl (by decide) (iw_7 0 rfl) (iw_7 1 rfl) (List.mem_of_getElem? (i := 6) rfl) xg_44 xb_44 (xo_44_40) (by decide +kernel) dX8_threshold_20 dX8_threshold_23 dX8_threshold_24 dX8_threshold_26 dX8_threshold_29 (Nat.le_of_ble_eq_true rfl) (Nat.le_of_ble_eq_true rfl) (Nat.le_of_ble_eq_true rfl) (Nat.le_of_ble_eq_true rfl) (Nat.le_of_ble_eq_true rfl) (Nat.le_of_ble_eq_true rfl) (fun n1 hn1 => ⟨rfl, hn1, Or.inl ⟨(by
      rw [th_no hT.2.1 (by
        first
        | (rw [i_lt, nI_t (by omega)] at c_17; omega)
        | (rw [i_lt, t_0] at c_9; omega))]), rfl⟩⟩)
  · skip
    refine g_iload_n dX8_threshold_12 rfl ?_
    refine g_aload_n dX8_threshold_13 rfl ?_
    refine g_getI (f := 1) dX8_threshold_14 cl7 hT.1.1 (by decide) (Or.inr (List.mem_of_getElem? (i := 7) rfl)) (Or.inl rfl) (Or.inl rfl) ?_
    rw [hT.2.2.2.1]
    refine g_icmp_lt (tgt := 30) dX8_threshold_17 (by decide) (fun c_17 => ?_) (fun c_17 => ?_)
    · skip
      have hin : 0 ≤ x.toInt ∧ x.toInt < (T9.length : Int) := by
        rw [i_lt, t_0] at c_9
        rw [i_lt, nI_t (by omega)] at c_17
        omega
      have hxl : pl x < T9.length := by have e9 : pl x = x.toInt.toNat := rfl; omega
      rw [th_v hT.2.1 hin]
      refine g_aload_n dX8_threshold_30 rfl ?_
      refine g_getR (f := 0) dX8_threshold_31 cl7 hT.1.1 (by decide) (Or.inr (List.mem_of_getElem? (i := 8) rfl)) (Or.inl rfl) rfl hT.1.2.1 ?_
      refine g_iload_n dX8_threshold_34 rfl ?_
      refine g_iaload dX8_threshold_35 (j := pl x) hT.1.2.2.1 hT.1.2.2.2 (pl_eq hin.1) (by omega) (by decide) ?_
      rw [hT.2.2.2.2.1 (pl x) hxl]
      exact g_xr (g_iret dX8_threshold_36 (Or.inl rfl) (Nat.le_of_ble_eq_true rfl) (Nat.le_of_ble_eq_true rfl) ⟨rfl, rfl, Nat.le_refl _, ⟨d, E, hC0⟩, Rw.rf⟩)
    · skip
      exact g_throw (E := "java/lang/IndexOutOfBoundsException") (ik := 40) (is := 166) (ic := 44) rfl rfl (by decide) (iw_7 0 rfl) (iw_7 1 rfl) (List.mem_of_getElem? (i := 6) rfl) xg_44 xb_44 (xo_44_40) (by decide +kernel) dX8_threshold_20 dX8_threshold_23 dX8_threshold_24 dX8_threshold_26 dX8_threshold_29 (Nat.le_of_ble_eq_true rfl) (Nat.le_of_ble_eq_true rfl) (Nat.le_of_ble_eq_true rfl) (Nat.le_of_ble_eq_true rfl) (Nat.le_of_ble_eq_true rfl) (Nat.le_of_ble_eq_true rfl) (fun n1 hn1 => ⟨rfl, hn1, Or.inl ⟨(by
        rw [th_no hT.2.1 (by
          first
          | (rw [i_lt, nI_t (by omega)] at c_17; omega)
          | (rw [i_lt, t_0] at c_9; omega))]), rfl⟩⟩)

