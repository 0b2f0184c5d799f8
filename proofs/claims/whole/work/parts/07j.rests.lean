/-! the class: rests, the divisor split, sets copied -/
theorem dT {p : Prop} [Decidable p] (h : ¬ bI (decide p) = 0) : p := by
  rw [bI_eq0, decide_eq_false_iff_not, Classical.not_not] at h
  exact h
theorem dF {p : Prop} [Decidable p] (h : bI (decide p) = 0) : ¬ p := by
  rw [bI_eq0, decide_eq_false_iff_not] at h
  exact h
theorem rs_wl {l g : Int} (hg : 0 ≤ g) {X : List Sp} (hX : okX X) : wl (X.flatMap (rsP l g)) := by
  refine wl_flat (fun p hp => ?_)
  have h1 := hX.wl.1 p hp
  have h2 := hX.2.2 p hp
  have h3 := rs_r hg h2.1 h2.2
  unfold rsP
  split
  · exact wl_one h1 h2.1 h2.2
  · refine wl_one ?_ h3.1 h3.2
    simp only
    split <;> split <;> omega
theorem rs_len (l g : Int) (p : Sp) : (rsP l g p).length = 1 := by
  unfold rsP
  split <;> rfl
set_option maxHeartbeats 4000000 in
set_option maxRecDepth 100000 in
theorem k_rest {M : gM} {n v x : Nat} {X U : List Sp} {l g : Int} {Q : gθ} (hg0 : gG M (v + 1)) (hX : cS M x X) (hl : U.length + 2 ≤ 16) (h5 : r5L U) (hL : 0 < l ∧ l ≤ 4294967296) (hg : 0 < g ∧ g ≤ 4294967296) (hv : mK M v = 6) (hv0 : mR M v 0 = some (v + 1)) (hk : ∀ M1, Off M M1 (fY (v + 1)) → gt M1 (v + 1) (U ++ X.flatMap (rsP l (g - 1))) → GW μX5_gatherRests (gRm 2 53 0 0) Q 0 0 136 [some (.ref v), some (.ref x), some (.long (jI l)), none, some (.long (jI g)), none, none] [] M1 n) : ∀ (d : Nat) (j : Nat) (M1 : gM), X.length - j < d → j ≤ X.length → Off M M1 (fY (v + 1)) → gt M1 (v + 1) (U ++ (X.take j).flatMap (rsP l (g - 1))) → GW μX5_gatherRests (gRm 2 53 0 0) Q 0 0 100 [some (.ref v), some (.ref x), some (.long (jI l)), none, some (.long (jI g)), none, some (.int (nI j))] [] M1 n := by
  intro d
  induction d with
  | zero =>
    intro j M1 hd hj hO hI
    omega
  | succ d ih =>
    intro j M1 hd hj hO hI
    have hx1 := hX.offY hg0 hO
    have hv1 : mK M1 v = 6 := by rw [hO.1]; exact hv
    have hv2 : mR M1 v 0 = some (v + 1) := by rw [hO.2.2.1]; exact hv0
    have l2 := hX.2.1.2.1
    refine g_iload dX5_gatherRests_100 rfl ?_
    refine g_aload_n dX5_gatherRests_102 rfl ?_
    refine g_getI (f := 0) dX5_gatherRests_103 cl4 hx1.1 (by decide) (Or.inr (List.mem_of_getElem? (i := 27) rfl)) (Or.inl rfl) (Or.inl rfl) ?_
    rw [hx1.2.2.1]
    refine g_icmp_ge (tgt := 136) dX5_gatherRests_106 (by decide) (fun c_106 => ?_) (fun c_106 => ?_)
    · skip
      rw [nI_leI (by omega) (by omega)] at c_106
      refine g_drop 6 ?_
      exact hk M1 hO (by rw [List.take_of_length_le (by omega)] at hI; exact hI)
    · skip
      rw [nI_leI (by omega) (by omega)] at c_106
      have hjl : j < X.length := by omega
      have hr := hX.r hjl
      have len1 : ((X.take j).flatMap (rsP l (g - 1))).length ≤ 1 * j := by
        have h2 := flat_len (X := X.take j) (c := 1) (f := rsP l (g - 1)) (fun y _ => by rw [rs_len]; exact Nat.le_refl _)
        rw [List.length_take] at h2
        have : min j X.length * 1 ≤ j * 1 := Nat.mul_le_mul_right _ (Nat.min_le_left _ _)
        omega
      have u5 : r5L (U ++ (X.take j).flatMap (rsP l (g - 1))) := r5L_app.mpr ⟨h5, (rs_wl (by omega) (okX_take hX.2.1 j)).2⟩
      refine g_aload_n dX5_gatherRests_109 rfl ?_
      refine g_aload_n dX5_gatherRests_110 rfl ?_
      refine g_iload dX5_gatherRests_111 rfl ?_
      refine g_callV dX5_gatherRests_113 sX3_low (c_low M1 n x j X hx1 hjl) cl4 hx1.1 iX3_low vX3_low (iw_22 6 rfl) rfl rfl (Nat.le_of_ble_eq_true rfl) (Nat.le_of_ble_eq_true rfl) (Nat.le_of_ble_eq_true rfl) (Nat.le_of_ble_eq_true rfl) (Nat.le_of_ble_eq_true rfl) ?_
      intro r9 M9 n9 h9
      obtain ⟨h91, h92, h93⟩ := h9
      rw [h91, h92, h93]
      clear h91 h92 h93 r9 M9 n9
      refine g_aload_n dX5_gatherRests_116 rfl ?_
      refine g_iload dX5_gatherRests_117 rfl ?_
      refine g_callV dX5_gatherRests_119 sX3_high (c_high M1 n x j X hx1 hjl) cl4 hx1.1 iX3_high vX3_high (iw_22 10 rfl) rfl rfl (Nat.le_of_ble_eq_true rfl) (Nat.le_of_ble_eq_true rfl) (Nat.le_of_ble_eq_true rfl) (Nat.le_of_ble_eq_true rfl) (Nat.le_of_ble_eq_true rfl) ?_
      intro r9 M9 n9 h9
      obtain ⟨h91, h92, h93⟩ := h9
      rw [h91, h92, h93]
      clear h91 h92 h93 r9 M9 n9
      refine g_lload_n dX5_gatherRests_122 rfl ?_
      refine g_lload dX5_gatherRests_123 rfl ?_
      refine g_lconst (v := jI 1) dX5_gatherRests_125 rfl ?_
      refine g_lsub dX5_gatherRests_126 ?_
      rw [jI_sub]
      refine g_callV dX5_gatherRests_127 sX5_addRest (c_addRest M1 n v (U ++ (X.take j).flatMap (rsP l (g - 1))) (X.getD j (0, 0)) l (g - 1) hI (by rw [List.length_append]; omega) u5 hr.1 hr.2 hL (by omega) hv1 hv2) cl6 hv1 iX5_addRest vX5_addRest (iw_23 0 rfl) rfl rfl (Nat.le_of_ble_eq_true rfl) (Nat.le_of_ble_eq_true rfl) (Nat.le_of_ble_eq_true rfl) (Nat.le_of_ble_eq_true rfl) (Nat.le_of_ble_eq_true rfl) ?_
      intro r9 M2 n9 h9
      obtain ⟨h91, h93, hO2, hI2⟩ := h9
      rw [h91, h93]
      clear h91 h93 r9 n9
      refine g_iinc dX5_gatherRests_130 rfl (nI_1 j) (Nat.le_of_ble_eq_true rfl) ?_
      refine g_goto (tgt := 100) dX5_gatherRests_133 (by decide) ?_
      have hx1 := hX.offY hg0 hO
      have hv1 : mK M1 v = 6 := by rw [hO.1]; exact hv
      have hv2 : mR M1 v 0 = some (v + 1) := by rw [hO.2.2.1]; exact hv0
      have l2 := hX.2.1.2.1
      exact ih (j + 1) M2 (by omega) (by omega) (hO.trans hO2) (by rw [fl_take hjl, ← List.append_assoc]; exact hI2)

set_option maxHeartbeats 4000000 in
set_option maxRecDepth 100000 in
theorem k_rest21 {M : gM} {n v x : Nat} {X U A B : List Sp} (hU : gt M (v + 1) U) (hg0 : gG M (v + 1)) (hX : cS M x X) (hl : U.length + 2 ≤ 16) (h5 : r5L U) (hv : mK M v = 6) (hv0 : mR M v 0 = some (v + 1)) (hB : cS M (v + 13) B) (hA : cS M (v + 14) A) (hBn : B ≠ [] → hi1 B ≤ -1) (hAp : A ≠ [] → 1 ≤ lo1 A) (hne : ¬ (B = [] ∧ A = [])) (hv2 : mR M v 2 = some (v + 13)) (hv3 : mR M v 3 = some (v + 14)) : GW μX5_gatherRests (gRm 2 53 0 0) (gTh (fun r M1 n1 => r = none ∧ n1 = n ∧ Off M M1 (fY (v + 1)) ∧ gt M1 (v + 1) (U ++ X.flatMap (rsP (lsZ B A) (gsZ B A - 1)))) 0 0) 0 0 21 [some (.ref v), some (.ref x), none, none, none, none, none] [] M n := by
  refine g_ldc2 (v := jI (4294967296)) dX5_gatherRests_21 (iw_22 5 rfl) ?_
  refine g_lstore_n dX5_gatherRests_24 (Nat.le_of_ble_eq_true rfl) ?_
  refine g_lconst (v := jI 0) dX5_gatherRests_25 rfl ?_
  refine g_lstore dX5_gatherRests_26 (Nat.le_of_ble_eq_true rfl) ?_
  refine g_aload_n dX5_gatherRests_28 rfl ?_
  refine g_getR (f := 2) dX5_gatherRests_29 cl6 hv (by decide) (Or.inl (iw_5 2 rfl)) (Or.inl rfl) rfl hv2 ?_
  refine g_callV dX5_gatherRests_32 sX3_isNothing (c_isNothing M n (v + 13) B hB) cl4 hB.1 iX3_isNothing vX3_isNothing (iw_20 1 rfl) rfl rfl (Nat.le_of_ble_eq_true rfl) (Nat.le_of_ble_eq_true rfl) (Nat.le_of_ble_eq_true rfl) (Nat.le_of_ble_eq_true rfl) (Nat.le_of_ble_eq_true rfl) ?_
  intro r9 M9 n9 h9
  obtain ⟨h91, h92, h93⟩ := h9
  rw [h91, h92, h93]
  clear h91 h92 h93 r9 M9 n9
  refine g_if_ne (tgt := 59) dX5_gatherRests_35 (by decide) (fun c_35 => ?_) (fun c_35 => ?_)
  · skip
    refine g_aload_n dX5_gatherRests_59 rfl ?_
    refine g_getR (f := 3) dX5_gatherRests_60 cl6 hv (by decide) (Or.inl (iw_5 3 rfl)) (Or.inl rfl) rfl hv3 ?_
    refine g_callV dX5_gatherRests_63 sX3_isNothing (c_isNothing M n (v + 14) A hA) cl4 hA.1 iX3_isNothing vX3_isNothing (iw_20 1 rfl) rfl rfl (Nat.le_of_ble_eq_true rfl) (Nat.le_of_ble_eq_true rfl) (Nat.le_of_ble_eq_true rfl) (Nat.le_of_ble_eq_true rfl) (Nat.le_of_ble_eq_true rfl) ?_
    intro r9 M9 n9 h9
    obtain ⟨h91, h92, h93⟩ := h9
    rw [h91, h92, h93]
    clear h91 h92 h93 r9 M9 n9
    refine g_if_ne (tgt := 97) dX5_gatherRests_66 (by decide) (fun c_66 => ?_) (fun c_66 => ?_)
    · skip
      refine g_iconst (v := nI 0) dX5_gatherRests_97 rfl ?_
      refine g_istore dX5_gatherRests_98 (Nat.le_of_ble_eq_true rfl) ?_
      first
        | (refine k_rest (l := min (-(hi1 B)) (lo1 A)) (g := max (-(lo1 B)) (hi1 A)) hg0 hX hl h5 (by omega) (by omega) hv hv0 (fun M2 hO2 hI2 => ?_) (X.length + 1) 0 M (by omega) (by omega) Off.rf (by simpa using hU)
           exact g_vret dX5_gatherRests_136 rfl (Nat.le_refl _) (Nat.le_refl _) ⟨rfl, rfl, hO2, by rw [show lsZ B A = min (-(hi1 B)) (lo1 A) by unfold lsZ; rw [if_neg a0, if_neg b0], show gsZ B A = max (-(lo1 B)) (hi1 A) by unfold gsZ; rw [if_neg a0, if_neg b0]]; exact hI2⟩)
        | (refine k_rest (l := -(hi1 B)) (g := -(lo1 B)) hg0 hX hl h5 (by omega) (by omega) hv hv0 (fun M2 hO2 hI2 => ?_) (X.length + 1) 0 M (by omega) (by omega) Off.rf (by simpa using hU)
           exact g_vret dX5_gatherRests_136 rfl (Nat.le_refl _) (Nat.le_refl _) ⟨rfl, rfl, hO2, by rw [show lsZ B A = -(hi1 B) by unfold lsZ; rw [if_pos (dT c_66)], show gsZ B A = -(lo1 B) by unfold gsZ; rw [if_pos (dT c_66)]]; exact hI2⟩)
        | (refine k_rest (l := min 4294967296 (lo1 A)) (g := max 0 (hi1 A)) hg0 hX hl h5 (by omega) (by omega) hv hv0 (fun M2 hO2 hI2 => ?_) (X.length + 1) 0 M (by omega) (by omega) Off.rf (by simpa using hU)
           exact g_vret dX5_gatherRests_136 rfl (Nat.le_refl _) (Nat.le_refl _) ⟨rfl, rfl, hO2, by rw [show lsZ B A = min 4294967296 (lo1 A) by unfold lsZ; rw [if_neg a0, if_pos (dT c_35)], show gsZ B A = max 0 (hi1 A) by unfold gsZ; rw [if_neg a0, if_pos (dT c_35)]]; exact hI2⟩)
        | exact absurd ⟨dT c_35, dT c_66⟩ hne
    · skip
      have a0 := dF c_66
      have a1 := hAp a0
      have a2 := lo1_r hA.2.1 a0
      have a3 := hi1_r hA.2.1 a0
      have a4 := lo_hi hA.2.1 a0
      refine g_lload_n dX5_gatherRests_69 rfl ?_
      refine g_aload_n dX5_gatherRests_70 rfl ?_
      refine g_getR (f := 3) dX5_gatherRests_71 cl6 hv (by decide) (Or.inl (iw_5 3 rfl)) (Or.inl rfl) rfl hv3 ?_
      refine g_callV dX5_gatherRests_74 sX3_least (c_least M n (v + 14) A hA a0) cl4 hA.1 iX3_least vX3_least (iw_18 0 rfl) rfl rfl (Nat.le_of_ble_eq_true rfl) (Nat.le_of_ble_eq_true rfl) (Nat.le_of_ble_eq_true rfl) (Nat.le_of_ble_eq_true rfl) (Nat.le_of_ble_eq_true rfl) ?_
      intro r9 M9 n9 h9
      obtain ⟨h91, h92, h93⟩ := h9
      rw [h91, h92, h93]
      clear h91 h92 h93 r9 M9 n9
      refine g_i2l dX5_gatherRests_77 ?_
      rw [iZ_j a2.1 a2.2]
      refine g_mminJ dX5_gatherRests_78 (iw_22 3 rfl) (iw_17 6 rfl) (iw_9 19 rfl) (iw_17 7 rfl) (Nat.le_of_ble_eq_true rfl) (Nat.le_of_ble_eq_true rfl) (Nat.le_of_ble_eq_true rfl) (Nat.le_of_ble_eq_true rfl) ?_
      rw [jI_min' (by constructor <;> omega) (by constructor <;> omega)]
      refine g_lstore_n dX5_gatherRests_81 (Nat.le_of_ble_eq_true rfl) ?_
      refine g_lload dX5_gatherRests_82 rfl ?_
      refine g_aload_n dX5_gatherRests_84 rfl ?_
      refine g_getR (f := 3) dX5_gatherRests_85 cl6 hv (by decide) (Or.inl (iw_5 3 rfl)) (Or.inl rfl) rfl hv3 ?_
      refine g_callV dX5_gatherRests_88 sX3_greatest (c_greatest M n (v + 14) A hA a0) cl4 hA.1 iX3_greatest vX3_greatest (iw_16 18 rfl) rfl rfl (Nat.le_of_ble_eq_true rfl) (Nat.le_of_ble_eq_true rfl) (Nat.le_of_ble_eq_true rfl) (Nat.le_of_ble_eq_true rfl) (Nat.le_of_ble_eq_true rfl) ?_
      intro r9 M9 n9 h9
      obtain ⟨h91, h92, h93⟩ := h9
      rw [h91, h92, h93]
      clear h91 h92 h93 r9 M9 n9
      refine g_i2l dX5_gatherRests_91 ?_
      rw [iZ_j a3.1 a3.2]
      refine g_mmaxJ dX5_gatherRests_92 (iw_22 4 rfl) (iw_17 3 rfl) (iw_9 19 rfl) (iw_17 4 rfl) (Nat.le_of_ble_eq_true rfl) (Nat.le_of_ble_eq_true rfl) (Nat.le_of_ble_eq_true rfl) (Nat.le_of_ble_eq_true rfl) ?_
      rw [jI_max (by constructor <;> omega) (by constructor <;> omega)]
      refine g_lstore dX5_gatherRests_95 (Nat.le_of_ble_eq_true rfl) ?_
      refine g_iconst (v := nI 0) dX5_gatherRests_97 rfl ?_
      refine g_istore dX5_gatherRests_98 (Nat.le_of_ble_eq_true rfl) ?_
      first
        | (refine k_rest (l := min (-(hi1 B)) (lo1 A)) (g := max (-(lo1 B)) (hi1 A)) hg0 hX hl h5 (by omega) (by omega) hv hv0 (fun M2 hO2 hI2 => ?_) (X.length + 1) 0 M (by omega) (by omega) Off.rf (by simpa using hU)
           exact g_vret dX5_gatherRests_136 rfl (Nat.le_refl _) (Nat.le_refl _) ⟨rfl, rfl, hO2, by rw [show lsZ B A = min (-(hi1 B)) (lo1 A) by unfold lsZ; rw [if_neg a0, if_neg b0], show gsZ B A = max (-(lo1 B)) (hi1 A) by unfold gsZ; rw [if_neg a0, if_neg b0]]; exact hI2⟩)
        | (refine k_rest (l := -(hi1 B)) (g := -(lo1 B)) hg0 hX hl h5 (by omega) (by omega) hv hv0 (fun M2 hO2 hI2 => ?_) (X.length + 1) 0 M (by omega) (by omega) Off.rf (by simpa using hU)
           exact g_vret dX5_gatherRests_136 rfl (Nat.le_refl _) (Nat.le_refl _) ⟨rfl, rfl, hO2, by rw [show lsZ B A = -(hi1 B) by unfold lsZ; rw [if_pos (dT c_66)], show gsZ B A = -(lo1 B) by unfold gsZ; rw [if_pos (dT c_66)]]; exact hI2⟩)
        | (refine k_rest (l := min 4294967296 (lo1 A)) (g := max 0 (hi1 A)) hg0 hX hl h5 (by omega) (by omega) hv hv0 (fun M2 hO2 hI2 => ?_) (X.length + 1) 0 M (by omega) (by omega) Off.rf (by simpa using hU)
           exact g_vret dX5_gatherRests_136 rfl (Nat.le_refl _) (Nat.le_refl _) ⟨rfl, rfl, hO2, by rw [show lsZ B A = min 4294967296 (lo1 A) by unfold lsZ; rw [if_neg a0, if_pos (dT c_35)], show gsZ B A = max 0 (hi1 A) by unfold gsZ; rw [if_neg a0, if_pos (dT c_35)]]; exact hI2⟩)
        | exact absurd ⟨dT c_35, dT c_66⟩ hne
  · skip
    have b0 := dF c_35
    have b1 := hBn b0
    have b2 := lo1_r hB.2.1 b0
    have b3 := hi1_r hB.2.1 b0
    have b4 := lo_hi hB.2.1 b0
    refine g_aload_n dX5_gatherRests_38 rfl ?_
    refine g_getR (f := 2) dX5_gatherRests_39 cl6 hv (by decide) (Or.inl (iw_5 2 rfl)) (Or.inl rfl) rfl hv2 ?_
    refine g_callV dX5_gatherRests_42 sX3_greatest (c_greatest M n (v + 13) B hB b0) cl4 hB.1 iX3_greatest vX3_greatest (iw_16 18 rfl) rfl rfl (Nat.le_of_ble_eq_true rfl) (Nat.le_of_ble_eq_true rfl) (Nat.le_of_ble_eq_true rfl) (Nat.le_of_ble_eq_true rfl) (Nat.le_of_ble_eq_true rfl) ?_
    intro r9 M9 n9 h9
    obtain ⟨h91, h92, h93⟩ := h9
    rw [h91, h92, h93]
    clear h91 h92 h93 r9 M9 n9
    refine g_i2l dX5_gatherRests_45 ?_
    rw [iZ_j b3.1 b3.2]
    refine g_lneg dX5_gatherRests_46 ?_
    rw [jI_neg]
    refine g_lstore_n dX5_gatherRests_47 (Nat.le_of_ble_eq_true rfl) ?_
    refine g_aload_n dX5_gatherRests_48 rfl ?_
    refine g_getR (f := 2) dX5_gatherRests_49 cl6 hv (by decide) (Or.inl (iw_5 2 rfl)) (Or.inl rfl) rfl hv2 ?_
    refine g_callV dX5_gatherRests_52 sX3_least (c_least M n (v + 13) B hB b0) cl4 hB.1 iX3_least vX3_least (iw_18 0 rfl) rfl rfl (Nat.le_of_ble_eq_true rfl) (Nat.le_of_ble_eq_true rfl) (Nat.le_of_ble_eq_true rfl) (Nat.le_of_ble_eq_true rfl) (Nat.le_of_ble_eq_true rfl) ?_
    intro r9 M9 n9 h9
    obtain ⟨h91, h92, h93⟩ := h9
    rw [h91, h92, h93]
    clear h91 h92 h93 r9 M9 n9
    refine g_i2l dX5_gatherRests_55 ?_
    rw [iZ_j b2.1 b2.2]
    refine g_lneg dX5_gatherRests_56 ?_
    rw [jI_neg]
    refine g_lstore dX5_gatherRests_57 (Nat.le_of_ble_eq_true rfl) ?_
    refine g_aload_n dX5_gatherRests_59 rfl ?_
    refine g_getR (f := 3) dX5_gatherRests_60 cl6 hv (by decide) (Or.inl (iw_5 3 rfl)) (Or.inl rfl) rfl hv3 ?_
    refine g_callV dX5_gatherRests_63 sX3_isNothing (c_isNothing M n (v + 14) A hA) cl4 hA.1 iX3_isNothing vX3_isNothing (iw_20 1 rfl) rfl rfl (Nat.le_of_ble_eq_true rfl) (Nat.le_of_ble_eq_true rfl) (Nat.le_of_ble_eq_true rfl) (Nat.le_of_ble_eq_true rfl) (Nat.le_of_ble_eq_true rfl) ?_
    intro r9 M9 n9 h9
    obtain ⟨h91, h92, h93⟩ := h9
    rw [h91, h92, h93]
    clear h91 h92 h93 r9 M9 n9
    refine g_if_ne (tgt := 97) dX5_gatherRests_66 (by decide) (fun c_66 => ?_) (fun c_66 => ?_)
    · skip
      refine g_iconst (v := nI 0) dX5_gatherRests_97 rfl ?_
      refine g_istore dX5_gatherRests_98 (Nat.le_of_ble_eq_true rfl) ?_
      first
        | (refine k_rest (l := min (-(hi1 B)) (lo1 A)) (g := max (-(lo1 B)) (hi1 A)) hg0 hX hl h5 (by omega) (by omega) hv hv0 (fun M2 hO2 hI2 => ?_) (X.length + 1) 0 M (by omega) (by omega) Off.rf (by simpa using hU)
           exact g_vret dX5_gatherRests_136 rfl (Nat.le_refl _) (Nat.le_refl _) ⟨rfl, rfl, hO2, by rw [show lsZ B A = min (-(hi1 B)) (lo1 A) by unfold lsZ; rw [if_neg a0, if_neg b0], show gsZ B A = max (-(lo1 B)) (hi1 A) by unfold gsZ; rw [if_neg a0, if_neg b0]]; exact hI2⟩)
        | (refine k_rest (l := -(hi1 B)) (g := -(lo1 B)) hg0 hX hl h5 (by omega) (by omega) hv hv0 (fun M2 hO2 hI2 => ?_) (X.length + 1) 0 M (by omega) (by omega) Off.rf (by simpa using hU)
           exact g_vret dX5_gatherRests_136 rfl (Nat.le_refl _) (Nat.le_refl _) ⟨rfl, rfl, hO2, by rw [show lsZ B A = -(hi1 B) by unfold lsZ; rw [if_pos (dT c_66)], show gsZ B A = -(lo1 B) by unfold gsZ; rw [if_pos (dT c_66)]]; exact hI2⟩)
        | (refine k_rest (l := min 4294967296 (lo1 A)) (g := max 0 (hi1 A)) hg0 hX hl h5 (by omega) (by omega) hv hv0 (fun M2 hO2 hI2 => ?_) (X.length + 1) 0 M (by omega) (by omega) Off.rf (by simpa using hU)
           exact g_vret dX5_gatherRests_136 rfl (Nat.le_refl _) (Nat.le_refl _) ⟨rfl, rfl, hO2, by rw [show lsZ B A = min 4294967296 (lo1 A) by unfold lsZ; rw [if_neg a0, if_pos (dT c_35)], show gsZ B A = max 0 (hi1 A) by unfold gsZ; rw [if_neg a0, if_pos (dT c_35)]]; exact hI2⟩)
        | exact absurd ⟨dT c_35, dT c_66⟩ hne
    · skip
      have a0 := dF c_66
      have a1 := hAp a0
      have a2 := lo1_r hA.2.1 a0
      have a3 := hi1_r hA.2.1 a0
      have a4 := lo_hi hA.2.1 a0
      refine g_lload_n dX5_gatherRests_69 rfl ?_
      refine g_aload_n dX5_gatherRests_70 rfl ?_
      refine g_getR (f := 3) dX5_gatherRests_71 cl6 hv (by decide) (Or.inl (iw_5 3 rfl)) (Or.inl rfl) rfl hv3 ?_
      refine g_callV dX5_gatherRests_74 sX3_least (c_least M n (v + 14) A hA a0) cl4 hA.1 iX3_least vX3_least (iw_18 0 rfl) rfl rfl (Nat.le_of_ble_eq_true rfl) (Nat.le_of_ble_eq_true rfl) (Nat.le_of_ble_eq_true rfl) (Nat.le_of_ble_eq_true rfl) (Nat.le_of_ble_eq_true rfl) ?_
      intro r9 M9 n9 h9
      obtain ⟨h91, h92, h93⟩ := h9
      rw [h91, h92, h93]
      clear h91 h92 h93 r9 M9 n9
      refine g_i2l dX5_gatherRests_77 ?_
      rw [iZ_j a2.1 a2.2]
      refine g_mminJ dX5_gatherRests_78 (iw_22 3 rfl) (iw_17 6 rfl) (iw_9 19 rfl) (iw_17 7 rfl) (Nat.le_of_ble_eq_true rfl) (Nat.le_of_ble_eq_true rfl) (Nat.le_of_ble_eq_true rfl) (Nat.le_of_ble_eq_true rfl) ?_
      rw [jI_min' (by constructor <;> omega) (by constructor <;> omega)]
      refine g_lstore_n dX5_gatherRests_81 (Nat.le_of_ble_eq_true rfl) ?_
      refine g_lload dX5_gatherRests_82 rfl ?_
      refine g_aload_n dX5_gatherRests_84 rfl ?_
      refine g_getR (f := 3) dX5_gatherRests_85 cl6 hv (by decide) (Or.inl (iw_5 3 rfl)) (Or.inl rfl) rfl hv3 ?_
      refine g_callV dX5_gatherRests_88 sX3_greatest (c_greatest M n (v + 14) A hA a0) cl4 hA.1 iX3_greatest vX3_greatest (iw_16 18 rfl) rfl rfl (Nat.le_of_ble_eq_true rfl) (Nat.le_of_ble_eq_true rfl) (Nat.le_of_ble_eq_true rfl) (Nat.le_of_ble_eq_true rfl) (Nat.le_of_ble_eq_true rfl) ?_
      intro r9 M9 n9 h9
      obtain ⟨h91, h92, h93⟩ := h9
      rw [h91, h92, h93]
      clear h91 h92 h93 r9 M9 n9
      refine g_i2l dX5_gatherRests_91 ?_
      rw [iZ_j a3.1 a3.2]
      refine g_mmaxJ dX5_gatherRests_92 (iw_22 4 rfl) (iw_17 3 rfl) (iw_9 19 rfl) (iw_17 4 rfl) (Nat.le_of_ble_eq_true rfl) (Nat.le_of_ble_eq_true rfl) (Nat.le_of_ble_eq_true rfl) (Nat.le_of_ble_eq_true rfl) ?_
      rw [jI_max (by constructor <;> omega) (by constructor <;> omega)]
      refine g_lstore dX5_gatherRests_95 (Nat.le_of_ble_eq_true rfl) ?_
      refine g_iconst (v := nI 0) dX5_gatherRests_97 rfl ?_
      refine g_istore dX5_gatherRests_98 (Nat.le_of_ble_eq_true rfl) ?_
      first
        | (refine k_rest (l := min (-(hi1 B)) (lo1 A)) (g := max (-(lo1 B)) (hi1 A)) hg0 hX hl h5 (by omega) (by omega) hv hv0 (fun M2 hO2 hI2 => ?_) (X.length + 1) 0 M (by omega) (by omega) Off.rf (by simpa using hU)
           exact g_vret dX5_gatherRests_136 rfl (Nat.le_refl _) (Nat.le_refl _) ⟨rfl, rfl, hO2, by rw [show lsZ B A = min (-(hi1 B)) (lo1 A) by unfold lsZ; rw [if_neg a0, if_neg b0], show gsZ B A = max (-(lo1 B)) (hi1 A) by unfold gsZ; rw [if_neg a0, if_neg b0]]; exact hI2⟩)
        | (refine k_rest (l := -(hi1 B)) (g := -(lo1 B)) hg0 hX hl h5 (by omega) (by omega) hv hv0 (fun M2 hO2 hI2 => ?_) (X.length + 1) 0 M (by omega) (by omega) Off.rf (by simpa using hU)
           exact g_vret dX5_gatherRests_136 rfl (Nat.le_refl _) (Nat.le_refl _) ⟨rfl, rfl, hO2, by rw [show lsZ B A = -(hi1 B) by unfold lsZ; rw [if_pos (dT c_66)], show gsZ B A = -(lo1 B) by unfold gsZ; rw [if_pos (dT c_66)]]; exact hI2⟩)
        | (refine k_rest (l := min 4294967296 (lo1 A)) (g := max 0 (hi1 A)) hg0 hX hl h5 (by omega) (by omega) hv hv0 (fun M2 hO2 hI2 => ?_) (X.length + 1) 0 M (by omega) (by omega) Off.rf (by simpa using hU)
           exact g_vret dX5_gatherRests_136 rfl (Nat.le_refl _) (Nat.le_refl _) ⟨rfl, rfl, hO2, by rw [show lsZ B A = min 4294967296 (lo1 A) by unfold lsZ; rw [if_neg a0, if_pos (dT c_35)], show gsZ B A = max 0 (hi1 A) by unfold gsZ; rw [if_neg a0, if_pos (dT c_35)]]; exact hI2⟩)
        | exact absurd ⟨dT c_35, dT c_66⟩ hne

set_option maxHeartbeats 4000000 in
set_option maxRecDepth 100000 in
theorem c_rests (M : gM) (n v x : Nat) (U X A B : List Sp) (hU : gt M (v + 1) U) (hX : cS M x X) (hl : U.length + 2 ≤ 16) (h5 : r5L U) (hv : mK M v = 6) (hv0 : mR M v 0 = some (v + 1)) (hB : cS M (v + 13) B) (hA : cS M (v + 14) A) (hBn : B ≠ [] → hi1 B ≤ -1) (hAp : A ≠ [] → 1 ≤ lo1 A) (hv2 : mR M v 2 = some (v + 13)) (hv3 : mR M v 3 = some (v + 14)) : GM μX5_gatherRests 2 53 0 0 [.ref v, .ref x] M n (fun r M1 n1 => r = none ∧ n1 = n ∧ Off M M1 (fY (v + 1)) ∧ gt M1 (v + 1) (U ++ (if B = [] ∧ A = [] then [] else X.flatMap (rsP (lsZ B A) (gsZ B A - 1))))) := by
  refine GM.ofW (by decide) rfl (Nat.le_of_ble_eq_true rfl) rfl ?_
  refine g_aload_n dX5_gatherRests_0 rfl ?_
  refine g_getR (f := 2) dX5_gatherRests_1 cl6 hv (by decide) (Or.inl (iw_5 2 rfl)) (Or.inl rfl) rfl hv2 ?_
  refine g_callV dX5_gatherRests_4 sX3_isNothing (c_isNothing M n (v + 13) B hB) cl4 hB.1 iX3_isNothing vX3_isNothing (iw_20 1 rfl) rfl rfl (Nat.le_of_ble_eq_true rfl) (Nat.le_of_ble_eq_true rfl) (Nat.le_of_ble_eq_true rfl) (Nat.le_of_ble_eq_true rfl) (Nat.le_of_ble_eq_true rfl) ?_
  intro r9 M9 n9 h9
  obtain ⟨h91, h92, h93⟩ := h9
  rw [h91, h92, h93]
  clear h91 h92 h93 r9 M9 n9
  refine g_if_eq (tgt := 21) dX5_gatherRests_7 (by decide) (fun c_7 => ?_) (fun c_7 => ?_)
  · skip
    have hne : ¬ (B = [] ∧ A = []) := by first | exact fun q => dF c_7 q.1 | exact fun q => dF c_17 q.2
    rw [if_neg hne]
    exact k_rest21 hU hU.g hX hl h5 hv hv0 hB hA hBn hAp hne hv2 hv3
  · skip
    refine g_aload_n dX5_gatherRests_10 rfl ?_
    refine g_getR (f := 3) dX5_gatherRests_11 cl6 hv (by decide) (Or.inl (iw_5 3 rfl)) (Or.inl rfl) rfl hv3 ?_
    refine g_callV dX5_gatherRests_14 sX3_isNothing (c_isNothing M n (v + 14) A hA) cl4 hA.1 iX3_isNothing vX3_isNothing (iw_20 1 rfl) rfl rfl (Nat.le_of_ble_eq_true rfl) (Nat.le_of_ble_eq_true rfl) (Nat.le_of_ble_eq_true rfl) (Nat.le_of_ble_eq_true rfl) (Nat.le_of_ble_eq_true rfl) ?_
    intro r9 M9 n9 h9
    obtain ⟨h91, h92, h93⟩ := h9
    rw [h91, h92, h93]
    clear h91 h92 h93 r9 M9 n9
    refine g_if_eq (tgt := 21) dX5_gatherRests_17 (by decide) (fun c_17 => ?_) (fun c_17 => ?_)
    · skip
      have hne : ¬ (B = [] ∧ A = []) := by first | exact fun q => dF c_7 q.1 | exact fun q => dF c_17 q.2
      rw [if_neg hne]
      exact k_rest21 hU hU.g hX hl h5 hv hv0 hB hA hBn hAp hne hv2 hv3
    · skip
      exact g_vret dX5_gatherRests_20 rfl (Nat.le_of_ble_eq_true rfl) (Nat.le_of_ble_eq_true rfl) ⟨rfl, rfl, Off.rf, by rw [if_pos ⟨dT c_7, dT c_17⟩, List.append_nil]; exact hU⟩

set_option maxHeartbeats 4000000 in
set_option maxRecDepth 100000 in
theorem c_split (M : gM) (n v y : Nat) (Y : List Sp) (h : sP M v) (hY : cS M y Y) (hy1 : y ≠ v + 13) (hy2 : y ≠ v + 14) : GM μX5_splitDivisor 2 53 0 0 [.ref v, .ref y] M n (fun r M1 n1 => r = none ∧ n1 = n ∧ Off M M1 (fun i _ => i = v + 13 ∨ i = v + 14) ∧ cS M1 (v + 13) (clip Y (-2147483648) (-1)) ∧ cS M1 (v + 14) (clip Y 1 2147483647)) := by
  refine GM.ofW (by decide) rfl (Nat.le_of_ble_eq_true rfl) rfl ?_
  refine g_aload_n dX5_splitDivisor_0 rfl ?_
  refine g_getR (f := 2) dX5_splitDivisor_1 cl6 h.1 (by decide) (Or.inl (iw_5 2 rfl)) (Or.inl rfl) rfl h.2.1.2.2.1 ?_
  refine g_aload_n dX5_splitDivisor_4 rfl ?_
  refine g_ldc2 (v := jI (-2147483648)) dX5_splitDivisor_5 (iw_16 16 rfl) ?_
  refine g_ldc2 (v := jI (-1)) dX5_splitDivisor_8 (iw_22 19 rfl) ?_
  refine g_callV dX5_splitDivisor_11 sX3_becomePart (c_part M n (v + 13) y Y (-2147483648) (-1) hy1 h.2.2.2.2.1 hY (by constructor <;> omega) (by constructor <;> omega)) cl4 h.2.2.2.2.1 iX3_becomePart vX3_becomePart (iw_16 22 rfl) rfl rfl (Nat.le_of_ble_eq_true rfl) (Nat.le_of_ble_eq_true rfl) (Nat.le_of_ble_eq_true rfl) (Nat.le_of_ble_eq_true rfl) (Nat.le_of_ble_eq_true rfl) ?_
  intro r9 M1 n9 h9
  obtain ⟨h91, h93, hO1, hI1⟩ := h9
  rw [h91, h93]
  clear h91 h93 r9 n9
  refine g_aload_n dX5_splitDivisor_14 rfl ?_
  refine g_getR (f := 3) dX5_splitDivisor_15 cl6 (h.off hO1).1 (by decide) (Or.inl (iw_5 3 rfl)) (Or.inl rfl) rfl (h.off hO1).2.1.2.2.2 ?_
  refine g_aload_n dX5_splitDivisor_18 rfl ?_
  refine g_lconst (v := jI 1) dX5_splitDivisor_19 rfl ?_
  refine g_ldc2 (v := jI (2147483647)) dX5_splitDivisor_20 (iw_16 17 rfl) ?_
  refine g_callV dX5_splitDivisor_23 sX3_becomePart (c_part M1 n (v + 14) y Y 1 2147483647 hy2 (h.off hO1).2.2.2.2.2 (hY.off hO1 (fun _ => hy1)) (by constructor <;> omega) (by constructor <;> omega)) cl4 (h.off hO1).2.2.2.2.2 iX3_becomePart vX3_becomePart (iw_16 22 rfl) rfl rfl (Nat.le_of_ble_eq_true rfl) (Nat.le_of_ble_eq_true rfl) (Nat.le_of_ble_eq_true rfl) (Nat.le_of_ble_eq_true rfl) (Nat.le_of_ble_eq_true rfl) ?_
  intro r9 M2 n9 h9
  obtain ⟨h91, h93, hO2, hI2⟩ := h9
  rw [h91, h93]
  clear h91 h93 r9 n9
  exact g_vret dX5_splitDivisor_26 rfl (Nat.le_of_ble_eq_true rfl) (Nat.le_of_ble_eq_true rfl) ⟨rfl, rfl, (hO1.mono (fun i k q => Or.inl q)).trans (hO2.mono (fun i k q => Or.inr q)), hI1.off hO2 (fun k q => by unfold fO at q; omega), hI2⟩

def fB (b : Nat) : Nat → Nat → Prop := fun i _ => b + 1 ≤ i ∧ i ≤ b + 8
def apS (a b : Nat) : Prop := a + 8 < b ∨ b + 8 < a
set_option maxHeartbeats 4000000 in
set_option maxRecDepth 100000 in
theorem k_copy {M : gM} {n a b : Nat} {G : Nat → List Sp} {Q : gθ} (hab : apS a b) (hE : sE M a G) (hb : sA M b) (hk : ∀ M1, Off M M1 (fB b) → sE M1 b G → GW μX8_copySets (gRm 1 21 0 0) Q 0 0 23 [some (.ref a), some (.ref b), none] [] M1 n) : ∀ (d : Nat) (j : Nat) (M1 : gM), 8 - j < d → j ≤ 8 → Off M M1 (fB b) → (∀ p, p < j → cS M1 (b + 1 + p) (G p)) → GW μX8_copySets (gRm 1 21 0 0) Q 0 0 2 [some (.ref a), some (.ref b), some (.int (nI j))] [] M1 n := by
  intro d
  induction d with
  | zero =>
    intro j M1 hd hj hO hI
    omega
  | succ d ih =>
    intro j M1 hd hj hO hI
    have hE1 := hE.off hO (fun i k h1 h2 => by unfold fB; unfold apS at hab; omega)
    have hb1 := hb.off hO
    refine g_iload_n dX8_copySets_2 rfl ?_
    refine g_bipush (v := nI 8) dX8_copySets_3 rfl ?_
    refine g_icmp_ge (tgt := 23) dX8_copySets_5 (by decide) (fun c_5 => ?_) (fun c_5 => ?_)
    · skip
      rw [nI_leI (by omega) (by omega)] at c_5
      refine g_drop 2 ?_
      exact hk M1 hO ⟨hb1, fun p hp => hI p (by omega)⟩
    · skip
      rw [nI_leI (by omega) (by omega)] at c_5
      have hjl : j < 8 := by omega
      refine g_aload_n dX8_copySets_8 rfl ?_
      refine g_iload_n dX8_copySets_9 rfl ?_
      refine g_aaloadS dX8_copySets_10 (j := j) hb1.1 hb1.2.1 rfl hjl (by decide) (hb1.2.2 j hjl).1 ?_
      refine g_aload_n dX8_copySets_11 rfl ?_
      refine g_iload_n dX8_copySets_12 rfl ?_
      refine g_aaloadS dX8_copySets_13 (j := j) hE1.1.1 hE1.1.2.1 rfl hjl (by decide) (hE1.1.2.2 j hjl).1 ?_
      refine g_callV dX8_copySets_14 sX3_becomeCopy (c_copy M1 n (b + 1 + j) (a + 1 + j) (G j) (hb1.2.2 j hjl).2 (hE1.2 j hjl)) cl4 (hb1.2.2 j hjl).2 iX3_becomeCopy vX3_becomeCopy (iw_15 16 rfl) rfl rfl (Nat.le_of_ble_eq_true rfl) (Nat.le_of_ble_eq_true rfl) (Nat.le_of_ble_eq_true rfl) (Nat.le_of_ble_eq_true rfl) (Nat.le_of_ble_eq_true rfl) ?_
      intro r9 M2 n9 h9
      obtain ⟨h91, h93, hO2, hI2⟩ := h9
      rw [h91, h93]
      clear h91 h93 r9 n9
      refine g_iinc dX8_copySets_17 rfl (nI_1 j) (Nat.le_of_ble_eq_true rfl) ?_
      refine g_goto (tgt := 2) dX8_copySets_20 (by decide) ?_
      have hE1 := hE.off hO (fun i k h1 h2 => by unfold fB; unfold apS at hab; omega)
      have hb1 := hb.off hO
      exact ih (j + 1) M2 (by omega) (by omega) (hO.trans (hO2.mono (fun i k q => by unfold fO at q; unfold fB; omega))) (fun p hp => by
        by_cases e : p = j
        · subst e; exact hI2
        · exact (hI p (by omega)).off hO2 (fun k q => by unfold fO at q; omega))

set_option maxHeartbeats 4000000 in
set_option maxRecDepth 100000 in
theorem c_copySets (M : gM) (n a b : Nat) (G : Nat → List Sp) (hab : apS a b) (hE : sE M a G) (hb : sA M b) : GM μX8_copySets 1 21 0 0 [.ref a, .ref b] M n (fun r M1 n1 => r = none ∧ n1 = n ∧ Off M M1 (fB b) ∧ sE M1 b G) := by
  refine GM.ofW (by decide) rfl (Nat.le_of_ble_eq_true rfl) rfl ?_
  refine g_iconst (v := nI 0) dX8_copySets_0 rfl ?_
  refine g_istore_n dX8_copySets_1 (Nat.le_of_ble_eq_true rfl) ?_
  refine k_copy hab hE hb (fun M2 hO2 hI2 => ?_) 9 0 M (by omega) (by omega) Off.rf (fun p hp => by omega)
  exact g_vret dX8_copySets_23 rfl (Nat.le_refl _) (Nat.le_refl _) ⟨rfl, rfl, hO2, hI2⟩

set_option maxHeartbeats 4000000 in
set_option maxRecDepth 100000 in
theorem c_isCond (M : gM) (n k : Nat) (hk : k ≤ 19) : GM μX8_isCondition 0 0 0 0 [.int (nI k)] M n (fun r M1 n1 => r = some (.int (bI (decide (11 ≤ k ∧ k ≤ 17)))) ∧ M1 = M ∧ n1 = n) := by
  refine GM.ofW (by decide) rfl (Nat.le_of_ble_eq_true rfl) rfl ?_
  refine g_iload_n dX8_isCondition_0 rfl ?_
  refine g_bipush (v := nI 11) dX8_isCondition_1 rfl ?_
  refine g_icmp_lt (tgt := 16) dX8_isCondition_3 (by decide) (fun c_3 => ?_) (fun c_3 => ?_)
  · skip
    refine g_iconst (v := nI 0) dX8_isCondition_16 rfl ?_
    exact g_iret dX8_isCondition_17 (Or.inr ⟨rfl, by first | exact Or.inl rfl | exact Or.inr rfl⟩) (Nat.le_of_ble_eq_true rfl) (Nat.le_of_ble_eq_true rfl) (by
      refine ⟨?_, rfl, rfl⟩
      (try rw [nI_ltI (by omega) (by omega)] at c_3)
      (try rw [nI_leI (by omega) (by omega)] at c_9)
      first | (rw [decide_eq_true (by omega)]; rfl) | (rw [decide_eq_false (by omega)]; rfl))
  · skip
    refine g_iload_n dX8_isCondition_6 rfl ?_
    refine g_bipush (v := nI 18) dX8_isCondition_7 rfl ?_
    refine g_icmp_ge (tgt := 16) dX8_isCondition_9 (by decide) (fun c_9 => ?_) (fun c_9 => ?_)
    · skip
      refine g_iconst (v := nI 0) dX8_isCondition_16 rfl ?_
      exact g_iret dX8_isCondition_17 (Or.inr ⟨rfl, by first | exact Or.inl rfl | exact Or.inr rfl⟩) (Nat.le_of_ble_eq_true rfl) (Nat.le_of_ble_eq_true rfl) (by
        refine ⟨?_, rfl, rfl⟩
        (try rw [nI_ltI (by omega) (by omega)] at c_3)
        (try rw [nI_leI (by omega) (by omega)] at c_9)
        first | (rw [decide_eq_true (by omega)]; rfl) | (rw [decide_eq_false (by omega)]; rfl))
    · skip
      refine g_iconst (v := nI 1) dX8_isCondition_12 rfl ?_
      refine g_goto (tgt := 17) dX8_isCondition_13 (by decide) ?_
      exact g_iret dX8_isCondition_17 (Or.inr ⟨rfl, by first | exact Or.inl rfl | exact Or.inr rfl⟩) (Nat.le_of_ble_eq_true rfl) (Nat.le_of_ble_eq_true rfl) (by
        refine ⟨?_, rfl, rfl⟩
        (try rw [nI_ltI (by omega) (by omega)] at c_3)
        (try rw [nI_leI (by omega) (by omega)] at c_9)
        first | (rw [decide_eq_true (by omega)]; rfl) | (rw [decide_eq_false (by omega)]; rfl))

set_option maxHeartbeats 4000000 in
set_option maxRecDepth 100000 in
theorem c_opp (M : gM) (n q : Nat) (hr : q < 7) : GM μX5_opposite 0 0 0 0 [.int (nI q)] M n (fun r M1 n1 => r = some (.int (nI (notR q))) ∧ M1 = M ∧ n1 = n) := by
  refine GM.ofW (by decide) rfl (Nat.le_of_ble_eq_true rfl) rfl ?_
  refine g_iload_n dX5_opposite_0 rfl ?_
  by_cases t_1_0 : (q : Int) = 0
  · skip
    refine g_tableIn (off := 39) (tgt := 40) dX5_opposite_1 (by rw [nI_t (by omega)]; omega) (by rw [nI_t (by omega)]; omega) (by rw [nI_t (by omega)]; rw [t_1_0]; rfl) (by decide) ?_
    refine g_iconst (v := nI 4) dX5_opposite_40 rfl ?_
    exact g_iret dX5_opposite_41 (Or.inl rfl) (Nat.le_of_ble_eq_true rfl) (Nat.le_of_ble_eq_true rfl) (by
      refine ⟨?_, rfl, rfl⟩
      first
        | (rw [show q = 0 by omega]; rfl)
        | (rw [show q = 1 by omega]; rfl)
        | (rw [show q = 2 by omega]; rfl)
        | (rw [show q = 3 by omega]; rfl)
        | (rw [show q = 4 by omega]; rfl)
        | (rw [show q = 5 by omega]; rfl)
        | (rw [show q = 6 by omega]; rfl))
  · skip
    by_cases t_1_1 : (q : Int) = 1
    · skip
      refine g_tableIn (off := 41) (tgt := 42) dX5_opposite_1 (by rw [nI_t (by omega)]; omega) (by rw [nI_t (by omega)]; omega) (by rw [nI_t (by omega)]; rw [t_1_1]; rfl) (by decide) ?_
      refine g_iconst (v := nI 5) dX5_opposite_42 rfl ?_
      exact g_iret dX5_opposite_43 (Or.inl rfl) (Nat.le_of_ble_eq_true rfl) (Nat.le_of_ble_eq_true rfl) (by
        refine ⟨?_, rfl, rfl⟩
        first
          | (rw [show q = 0 by omega]; rfl)
          | (rw [show q = 1 by omega]; rfl)
          | (rw [show q = 2 by omega]; rfl)
          | (rw [show q = 3 by omega]; rfl)
          | (rw [show q = 4 by omega]; rfl)
          | (rw [show q = 5 by omega]; rfl)
          | (rw [show q = 6 by omega]; rfl))
    · skip
      by_cases t_1_2 : (q : Int) = 2
      · skip
        refine g_tableIn (off := 43) (tgt := 44) dX5_opposite_1 (by rw [nI_t (by omega)]; omega) (by rw [nI_t (by omega)]; omega) (by rw [nI_t (by omega)]; rw [t_1_2]; rfl) (by decide) ?_
        refine g_iconst (v := nI 3) dX5_opposite_44 rfl ?_
        exact g_iret dX5_opposite_45 (Or.inl rfl) (Nat.le_of_ble_eq_true rfl) (Nat.le_of_ble_eq_true rfl) (by
          refine ⟨?_, rfl, rfl⟩
          first
            | (rw [show q = 0 by omega]; rfl)
            | (rw [show q = 1 by omega]; rfl)
            | (rw [show q = 2 by omega]; rfl)
            | (rw [show q = 3 by omega]; rfl)
            | (rw [show q = 4 by omega]; rfl)
            | (rw [show q = 5 by omega]; rfl)
            | (rw [show q = 6 by omega]; rfl))
      · skip
        by_cases t_1_3 : (q : Int) = 3
        · skip
          refine g_tableIn (off := 45) (tgt := 46) dX5_opposite_1 (by rw [nI_t (by omega)]; omega) (by rw [nI_t (by omega)]; omega) (by rw [nI_t (by omega)]; rw [t_1_3]; rfl) (by decide) ?_
          refine g_iconst (v := nI 2) dX5_opposite_46 rfl ?_
          exact g_iret dX5_opposite_47 (Or.inl rfl) (Nat.le_of_ble_eq_true rfl) (Nat.le_of_ble_eq_true rfl) (by
            refine ⟨?_, rfl, rfl⟩
            first
              | (rw [show q = 0 by omega]; rfl)
              | (rw [show q = 1 by omega]; rfl)
              | (rw [show q = 2 by omega]; rfl)
              | (rw [show q = 3 by omega]; rfl)
              | (rw [show q = 4 by omega]; rfl)
              | (rw [show q = 5 by omega]; rfl)
              | (rw [show q = 6 by omega]; rfl))
        · skip
          by_cases t_1_4 : (q : Int) = 4
          · skip
            refine g_tableIn (off := 47) (tgt := 48) dX5_opposite_1 (by rw [nI_t (by omega)]; omega) (by rw [nI_t (by omega)]; omega) (by rw [nI_t (by omega)]; rw [t_1_4]; rfl) (by decide) ?_
            refine g_iconst (v := nI 0) dX5_opposite_48 rfl ?_
            exact g_iret dX5_opposite_49 (Or.inl rfl) (Nat.le_of_ble_eq_true rfl) (Nat.le_of_ble_eq_true rfl) (by
              refine ⟨?_, rfl, rfl⟩
              first
                | (rw [show q = 0 by omega]; rfl)
                | (rw [show q = 1 by omega]; rfl)
                | (rw [show q = 2 by omega]; rfl)
                | (rw [show q = 3 by omega]; rfl)
                | (rw [show q = 4 by omega]; rfl)
                | (rw [show q = 5 by omega]; rfl)
                | (rw [show q = 6 by omega]; rfl))
          · skip
            by_cases t_1_5 : (q : Int) = 5
            · skip
              refine g_tableIn (off := 49) (tgt := 50) dX5_opposite_1 (by rw [nI_t (by omega)]; omega) (by rw [nI_t (by omega)]; omega) (by rw [nI_t (by omega)]; rw [t_1_5]; rfl) (by decide) ?_
              refine g_iconst (v := nI 1) dX5_opposite_50 rfl ?_
              exact g_iret dX5_opposite_51 (Or.inl rfl) (Nat.le_of_ble_eq_true rfl) (Nat.le_of_ble_eq_true rfl) (by
                refine ⟨?_, rfl, rfl⟩
                first
                  | (rw [show q = 0 by omega]; rfl)
                  | (rw [show q = 1 by omega]; rfl)
                  | (rw [show q = 2 by omega]; rfl)
                  | (rw [show q = 3 by omega]; rfl)
                  | (rw [show q = 4 by omega]; rfl)
                  | (rw [show q = 5 by omega]; rfl)
                  | (rw [show q = 6 by omega]; rfl))
            · skip
              refine g_tableOut (tgt := 52) dX5_opposite_1 (by rw [nI_t (by omega)]; omega) (by decide) ?_
              refine g_bipush (v := nI 7) dX5_opposite_52 rfl ?_
              exact g_iret dX5_opposite_54 (Or.inl rfl) (Nat.le_of_ble_eq_true rfl) (Nat.le_of_ble_eq_true rfl) (by
                refine ⟨?_, rfl, rfl⟩
                first
                  | (rw [show q = 0 by omega]; rfl)
                  | (rw [show q = 1 by omega]; rfl)
                  | (rw [show q = 2 by omega]; rfl)
                  | (rw [show q = 3 by omega]; rfl)
                  | (rw [show q = 4 by omega]; rfl)
                  | (rw [show q = 5 by omega]; rfl)
                  | (rw [show q = 6 by omega]; rfl))

