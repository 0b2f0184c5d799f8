/-! the class: public methods that change it -/
theorem c_tellK (M : gM) (n p u d bs : Nat) (E : Nat → Nat) (P : List St) (k a b c : Int32) (hk : k = nI (pl k)) (hW : wS M p u d bs E P) (hs : vS (pl k, a, b, c)) (hl : P.length < 40) (hb : bs ≤ n) (hp1 : 1 ≤ p) (hd : d = 0 ∨ bs ≤ d) : GM μX1_tell 7 179 11 257 [.ref p, .int k, .int a, .int b, .int c] M n (fun r M1 n1 => r = some (.int (nI P.length)) ∧ n ≤ n1 ∧ tlO M M1 n p u d bs P (pl k, a, b, c)) := by
  have h := c_tell M n p u d bs E P (pl k, a, b, c) hW hs hl hb hp1 hd
  dsimp only at h
  rw [← hk] at h
  exact h
theorem c_spanX (M : gM) (n a : Nat) (lo hi : Int32) (hk : mK M a = 4) (hp : lo ≤ hi) : GM μX3_becomeSpan 0 0 0 0 [.ref a, .int lo, .int hi] M n (fun r M1 n1 => r = none ∧ n1 = n ∧ Off M M1 (fO a) ∧ cS M1 a [(lo.toInt, hi.toInt)]) := by
  have h := c_span M n a (lo.toInt, hi.toInt) hk (okX_one (by rw [i_le] at hp; exact hp) (i_rng lo) (i_rng hi))
  dsimp only at h
  rw [← iZ_of lo, ← iZ_of hi] at h
  exact h
set_option maxHeartbeats 4000000 in
set_option maxRecDepth 100000 in
theorem c_op (M : gM) (n w : Nat) (σ : MS) (k a b c : Int32) (hK : kW M w σ) (hb : w + 58 ≤ n) : GX μX8_op 8 206 11 257 [.ref w, .int k, .int a, .int b, .int c] M n (yO M n w (opS σ k a b c) (opZ σ k a b c).1 (.int (nI (opZ σ k a b c).2))) (yX M n (opZ σ k a b c).1 "java/lang/IndexOutOfBoundsException" "java/lang/IllegalArgumentException" "java/lang/UnsupportedOperationException") := by
  refine GX.ofW (by decide) rfl (Nat.le_of_ble_eq_true rfl) rfl ?_
  obtain ⟨d, E, hC⟩ := hK
  have hC0 := hC
  obtain ⟨hV, hq, hok, h3, hh, hv, hF, hW, hR, hd, h2⟩ := hC
  have l40 := hok.1.1
  refine g_iload_n dX8_op_0 rfl ?_
  refine g_iload_n dX8_op_1 rfl ?_
  refine g_iload_n dX8_op_2 rfl ?_
  refine g_iload dX8_op_3 rfl ?_
  refine g_callS dX8_op_5 sX8_placesAreThere (c_places M n k a b c) tX8_placesAreThere (iw_7 6 rfl) rfl rfl (Nat.le_of_ble_eq_true rfl) (Nat.le_of_ble_eq_true rfl) (Nat.le_of_ble_eq_true rfl) (Nat.le_of_ble_eq_true rfl) (Nat.le_of_ble_eq_true rfl) ?_
  intro r9 M9 n9 h9
  obtain ⟨h91, h92, h93⟩ := h9
  rw [h91, h92, h93]
  clear h91 h92 h93 r9 M9 n9
  refine g_if_ne (tgt := 21) dX8_op_8 (by decide) (fun c_8 => ?_) (fun c_8 => ?_)
  · skip
    refine g_iload_n dX8_op_21 rfl ?_
    refine g_iload_n dX8_op_22 rfl ?_
    refine g_iload_n dX8_op_23 rfl ?_
    refine g_iload dX8_op_24 rfl ?_
    refine g_callS dX8_op_26 sX8_numbersAreSo (c_numbers M n k a b c) tX8_numbersAreSo (iw_7 15 rfl) rfl rfl (Nat.le_of_ble_eq_true rfl) (Nat.le_of_ble_eq_true rfl) (Nat.le_of_ble_eq_true rfl) (Nat.le_of_ble_eq_true rfl) (Nat.le_of_ble_eq_true rfl) ?_
    intro r9 M9 n9 h9
    obtain ⟨h91, h92, h93⟩ := h9
    rw [h91, h92, h93]
    clear h91 h92 h93 r9 M9 n9
    refine g_if_ne (tgt := 42) dX8_op_29 (by decide) (fun c_29 => ?_) (fun c_29 => ?_)
    · skip
      refine g_aload_n dX8_op_42 rfl ?_
      refine g_getR (f := 0) dX8_op_43 cl9 hV.1 (by decide) (Or.inl (iw_1 16 rfl)) (Or.inl rfl) rfl hV.2.1 ?_
      refine g_getR (f := 0) dX8_op_46 cl2 hW.1.1 (by decide) (Or.inr (List.mem_of_getElem? (i := 11) rfl)) (Or.inl rfl) rfl hW.1.2.1 ?_
      refine g_callV dX8_op_49 sJx4a65c_size_8abf5 (j_size M n (w + 2) d (zP σ).length E hW.2.2.1) cl0 hW.2.2.1.1 iJx4a65c_size_8abf5 vJx4a65c_size_8abf5 (iw_8 0 rfl) rfl rfl (Nat.le_of_ble_eq_true rfl) (Nat.le_of_ble_eq_true rfl) (Nat.le_of_ble_eq_true rfl) (Nat.le_of_ble_eq_true rfl) (Nat.le_of_ble_eq_true rfl) ?_
      intro r9 M9 n9 h9
      obtain ⟨h91, h92, h93⟩ := h9
      rw [h91, h92, h93]
      clear h91 h92 h93 r9 M9 n9
      refine g_bipush (v := nI 40) dX8_op_52 rfl ?_
      refine g_icmp_lt (tgt := 67) dX8_op_54 (by decide) (fun c_54 => ?_) (fun c_54 => ?_)
      · skip
        have g1 := dT c_8
        have g2 := dT c_29
        rw [nI_ltI' (by omega) (by omega)] at c_54
        obtain ⟨v1, v2, v3⟩ := op_vS g1 g2
        have e : opZ σ k a b c = (0, (zP σ).length) := by unfold opZ; rw [if_neg g1, if_neg (fun h => h g2), if_neg (by omega)]
        have e2 : opS σ k a b c = (zP σ ++ [(pl k, a, b, c)], zF σ, false, zH σ, zN σ) := by unfold opS; rw [e]; rfl
        rw [e, e2]
        clear e e2
        refine g_aload_n dX8_op_67 rfl ?_
        refine g_iconst (v := nI 0) dX8_op_68 rfl ?_
        refine g_putI (f := 3) dX8_op_69 cl9 hV.1 (by decide) (Or.inl (iw_2 1 rfl)) (Or.inl rfl) (Or.inl rfl) (Or.inr ⟨rfl, (Or.inl rfl)⟩) ?_
        have o1 : Off M (stI M w 3 (nI 0)) (fun i k => i = w ∧ k = 3) := Off.rf.stI ⟨rfl, rfl⟩
        have hC1 := hC0.off o1 (fun i k z => Or.inl z) (b := false) (up2_eq _ _ _ _) (fun q => by cases q)
        have r1 : Rw M (stI M w 3 (nI 0)) (w + 45) (w + 57) := Rw.off o1 (fun i k a b z => by omega)
        generalize stI M w 3 (nI 0) = M1 at o1 hC1 r1 ⊢
        have hW1 : wS M1 (w + 1) (w + 14) d (w + 58) E (zP σ) := hC1.2.2.2.2.2.2.2.1
        have hV1 : cV M1 w := hC1.1
        refine g_aload_n dX8_op_72 rfl ?_
        refine g_getR (f := 0) dX8_op_73 cl9 hV1.1 (by decide) (Or.inl (iw_1 16 rfl)) (Or.inl rfl) rfl hV1.2.1 ?_
        refine g_iload_n dX8_op_76 rfl ?_
        refine g_iload_n dX8_op_77 rfl ?_
        refine g_iload_n dX8_op_78 rfl ?_
        refine g_iload dX8_op_79 rfl ?_
        refine g_callV dX8_op_81 sX1_tell (c_tellK M1 n (w + 1) (w + 14) d (w + 58) E (zP σ) k a b c v2 hW1 v1 c_54 hb (by omega) hd) cl2 hW1.1.1 iX1_tell vX1_tell (iw_8 5 rfl) rfl rfl (Nat.le_of_ble_eq_true rfl) (Nat.le_of_ble_eq_true rfl) (Nat.le_of_ble_eq_true rfl) (Nat.le_of_ble_eq_true rfl) (Nat.le_of_ble_eq_true rfl) ?_
        intro r9 M2 n9 h9
        obtain ⟨h91, h93, ⟨d1, E1, hW2, hd2⟩, hf2⟩ := h9
        rw [h91]
        clear h91 r9
        exact g_xr (g_iret dX8_op_84 (Or.inl rfl) (Nat.le_of_ble_eq_true rfl) (Nat.le_of_ble_eq_true rfl) (by
          refine ⟨rfl, rfl, h93, ⟨d1, E1, ?_⟩, r1.trans (hf2.rw (by omega) (fun i x y z => by unfold fC at z; omega))⟩
          have r2 : ∀ lo hi, lo ≤ hi → w ≤ lo → hi < w + 58 → (hi < w + 2 ∨ w + 2 < lo) → (hi < w + 12 ∨ w + 13 < lo) → Rw M1 M2 lo hi := fun lo hi h0 h1 h2 h3 h4 => hf2.rw (by omega) (fun i x y z => by unfold fC at z; omega)
          have rw0 := r2 w w (by omega) (by omega) (by omega) (by omega) (by omega) w (by omega) (by omega)
          exact hC1.fr rw0.1 rw0.2.2.2.2 (by rw [rw0.2.2.1]; exact hC1.2.2.2.1) (r2 (w + 43) (w + 44) (by omega) (by omega) (by omega) (by omega) (by omega)) (hC1.2.2.2.2.2.2.1.rw (r2 (w + 3) (w + 11) (by omega) (by omega) (by omega) (by omega) (by omega)) (by omega) (by omega)) hok.2 hW2 hd2))
      · skip
        exact g_throw (E := "java/lang/UnsupportedOperationException") (ik := 65) (is := 67) (ic := 69) rfl rfl (by decide) (iw_7 4 rfl) (iw_7 5 rfl) (List.mem_of_getElem? (i := 2) rfl) xg_69 xb_69 (xo_69_65) (by decide +kernel) dX8_op_57 dX8_op_60 dX8_op_61 dX8_op_63 dX8_op_66 (Nat.le_of_ble_eq_true rfl) (Nat.le_of_ble_eq_true rfl) (Nat.le_of_ble_eq_true rfl) (Nat.le_of_ble_eq_true rfl) (Nat.le_of_ble_eq_true rfl) (Nat.le_of_ble_eq_true rfl) (fun n1 hn1 => ⟨rfl, hn1, Or.inr (Or.inr ⟨by unfold opZ; rw [nI_ltI' (by omega) (by omega)] at c_54; rw [if_neg (dT c_8), if_neg (fun h => h (dT c_29)), if_pos (by omega)], rfl⟩)⟩)
    · skip
      exact g_throw (E := "java/lang/IllegalArgumentException") (ik := 50) (is := 52) (ic := 54) rfl rfl (by decide) (iw_7 2 rfl) (iw_7 3 rfl) (List.mem_of_getElem? (i := 1) rfl) xg_54 xb_54 (xo_54_50) (by decide +kernel) dX8_op_32 dX8_op_35 dX8_op_36 dX8_op_38 dX8_op_41 (Nat.le_of_ble_eq_true rfl) (Nat.le_of_ble_eq_true rfl) (Nat.le_of_ble_eq_true rfl) (Nat.le_of_ble_eq_true rfl) (Nat.le_of_ble_eq_true rfl) (Nat.le_of_ble_eq_true rfl) (fun n1 hn1 => ⟨rfl, hn1, Or.inr (Or.inl ⟨by unfold opZ; rw [if_neg (dT c_8), if_pos (dF c_29)], rfl⟩)⟩)
  · skip
    exact g_throw (E := "java/lang/IndexOutOfBoundsException") (ik := 40) (is := 42) (ic := 44) rfl rfl (by decide) (iw_7 0 rfl) (iw_7 1 rfl) (List.mem_of_getElem? (i := 0) rfl) xg_44 xb_44 (xo_44_40) (by decide +kernel) dX8_op_11 dX8_op_14 dX8_op_15 dX8_op_17 dX8_op_20 (Nat.le_of_ble_eq_true rfl) (Nat.le_of_ble_eq_true rfl) (Nat.le_of_ble_eq_true rfl) (Nat.le_of_ble_eq_true rfl) (Nat.le_of_ble_eq_true rfl) (Nat.le_of_ble_eq_true rfl) (fun n1 hn1 => ⟨rfl, hn1, Or.inl ⟨by unfold opZ; rw [if_pos (Classical.not_not.mp (dF c_8))], rfl⟩⟩)

set_option maxHeartbeats 4000000 in
set_option maxRecDepth 100000 in
theorem c_begin (M : gM) (n w : Nat) (σ : MS) (p lo hi : Int32) (hK : kW M w σ) : GX μX8_begin 7 120 2 12 [.ref w, .int p, .int lo, .int hi] M n (yO M n w (bgS σ p lo hi) (bgZ p lo hi).1 (.long (jI (bgZ p lo hi).2))) (yX M n (bgZ p lo hi).1 "java/lang/IndexOutOfBoundsException" "java/lang/IllegalArgumentException" "") := by
  refine GX.ofW (by decide) rfl (Nat.le_of_ble_eq_true rfl) rfl ?_
  obtain ⟨d, E, hC⟩ := hK
  have hC0 := hC
  obtain ⟨hV, hq, hok, h3, hh, hv, hF, hW, hR, hd, h2⟩ := hC
  refine g_iload_n dX8_begin_0 rfl ?_
  refine g_callSX rfl dX8_begin_1 sX8_requirePlace (c_reqPlace M n p) tX8_requirePlace (iw_13 20 rfl) rfl rfl (Nat.le_of_ble_eq_true rfl) (Nat.le_of_ble_eq_true rfl) (Nat.le_of_ble_eq_true rfl) (Nat.le_of_ble_eq_true rfl) (Nat.le_of_ble_eq_true rfl) (fun E M1 n1 h => ⟨h.2.1, h.2.2.1, Or.inl ⟨by unfold bgZ; rw [if_pos h.2.2.2], h.1⟩⟩) (Nat.le_of_ble_eq_true rfl) (Nat.le_of_ble_eq_true rfl) ?_
  intro r9 M9 n9 h9
  obtain ⟨h91, h92, h93, hP⟩ := h9
  rw [h91, h92, h93]
  clear h91 h92 h93 r9 M9 n9
  refine g_iload_n dX8_begin_4 rfl ?_
  refine g_iload_n dX8_begin_5 rfl ?_
  refine g_icmp_ge (tgt := 19) dX8_begin_6 (by decide) (fun c_6 => ?_) (fun c_6 => ?_)
  · skip
    have e : bgZ p lo hi = (0, hi.toInt - lo.toInt + 1) := by unfold bgZ; rw [if_neg (fun q => q hP), if_neg (by rw [i_le] at c_6; rw [i_lt]; omega)]
    have e2 : bgS σ p lo hi = (zP σ, up1 (zF σ) (pl p) [(lo.toInt, hi.toInt)], false, zH σ, zN σ) := by unfold bgS; rw [e]; rfl
    rw [e, e2]
    clear e e2
    refine g_aload_n dX8_begin_19 rfl ?_
    refine g_iconst (v := nI 0) dX8_begin_20 rfl ?_
    refine g_putI (f := 3) dX8_begin_21 cl9 hV.1 (by decide) (Or.inl (iw_2 1 rfl)) (Or.inl rfl) (Or.inl rfl) (Or.inr ⟨rfl, (Or.inl rfl)⟩) ?_
    have o1 : Off M (stI M w 3 (nI 0)) (fun i k => i = w ∧ k = 3) := Off.rf.stI ⟨rfl, rfl⟩
    have hC1 := hC0.off o1 (fun i k z => Or.inl z) (b := false) (up2_eq _ _ _ _) (fun q => by cases q)
    have r1 : Rw M (stI M w 3 (nI 0)) (w + 45) (w + 57) := Rw.off o1 (fun i k a b z => by omega)
    generalize stI M w 3 (nI 0) = M1 at o1 hC1 r1 ⊢
    have hW1 : wS M1 (w + 1) (w + 14) d (w + 58) E (zP σ) := hC1.2.2.2.2.2.2.2.1
    have hV1 : cV M1 w := hC1.1
    have hp8 := hP.lt
    have hA1 : sA M1 (w + 3) := hW1.2.2.2.1
    refine g_aload_n dX8_begin_24 rfl ?_
    refine g_getR (f := 0) dX8_begin_25 cl9 hV1.1 (by decide) (Or.inl (iw_1 16 rfl)) (Or.inl rfl) rfl hV1.2.1 ?_
    refine g_getR (f := 1) dX8_begin_28 cl2 hW1.1.1 (by decide) (Or.inr (List.mem_of_getElem? (i := 12) rfl)) (Or.inl rfl) rfl hW1.1.2.2.1 ?_
    refine g_iload_n dX8_begin_31 rfl ?_
    refine g_aaloadS dX8_begin_32 (j := (pl p)) hA1.1 hA1.2.1 hP.eq hp8 (by decide) (hA1.2.2 (pl p) hp8).1 ?_
    refine g_iload_n dX8_begin_33 rfl ?_
    refine g_iload_n dX8_begin_34 rfl ?_
    refine g_callV dX8_begin_35 sX3_becomeSpan (c_spanX M1 n (w + 3 + 1 + pl p) lo hi (hA1.2.2 (pl p) hp8).2 c_6) cl4 (hA1.2.2 (pl p) hp8).2 iX3_becomeSpan vX3_becomeSpan (iw_13 23 rfl) rfl rfl (Nat.le_of_ble_eq_true rfl) (Nat.le_of_ble_eq_true rfl) (Nat.le_of_ble_eq_true rfl) (Nat.le_of_ble_eq_true rfl) (Nat.le_of_ble_eq_true rfl) ?_
    intro r9 M2 n9 h9
    obtain ⟨h91, h93, hO2, hc2⟩ := h9
    rw [h91, h93]
    clear h91 h93 r9 n9
    refine g_iload_n dX8_begin_38 rfl ?_
    refine g_i2l dX8_begin_39 ?_
    refine g_iload_n dX8_begin_40 rfl ?_
    refine g_i2l dX8_begin_41 ?_
    refine g_lsub dX8_begin_42 ?_
    refine g_lconst (v := 1) dX8_begin_43 rfl ?_
    refine g_ladd dX8_begin_44 ?_
    exact g_xr (g_lret dX8_begin_45 rfl (Nat.le_of_ble_eq_true rfl) (Nat.le_of_ble_eq_true rfl) (by
      refine ⟨by rw [i_j, i_j, jI_sub, show (1 : Int64) = jI 1 from rfl, jI_add], rfl, Nat.le_refl _, ⟨d, E, ?_⟩, r1.trans (Rw.off hO2 (fun i k a b z => by unfold fO at z; omega))⟩
      refine hC1.fr (by rw [hO2.1]) (by rw [hO2.2.2.1]) (by rw [hO2.i (by unfold fO; omega)]; exact hC1.2.2.2.1) (Rw.off hO2 (fun i k a b z => by unfold fO at z; omega)) (hC1.2.2.2.2.2.2.1.up hO2 (fun i k z a b => z) hc2) (fun q hq8 => ?_) (hW1.offG hO2 (fun i k z => by unfold fO at z; omega)) hd
      by_cases c : q = pl p
      · rw [c, up1_eq]; exact ⟨okX_one (by rw [i_le] at c_6; exact c_6) (i_rng lo) (i_rng hi), rfl⟩
      · rw [up1_ne _ _ c]; exact hok.2 q hq8))
  · skip
    exact g_throw (E := "java/lang/IllegalArgumentException") (ik := 50) (is := 78) (ic := 54) rfl rfl (by decide) (iw_7 2 rfl) (iw_7 3 rfl) (List.mem_of_getElem? (i := 3) rfl) xg_54 xb_54 (xo_54_50) (by decide +kernel) dX8_begin_9 dX8_begin_12 dX8_begin_13 dX8_begin_15 dX8_begin_18 (Nat.le_of_ble_eq_true rfl) (Nat.le_of_ble_eq_true rfl) (Nat.le_of_ble_eq_true rfl) (Nat.le_of_ble_eq_true rfl) (Nat.le_of_ble_eq_true rfl) (Nat.le_of_ble_eq_true rfl) (fun n1 hn1 => ⟨rfl, hn1, Or.inr (Or.inl ⟨by unfold bgZ; rw [if_neg (fun q => q hP), if_pos (by rw [i_le] at c_6; rw [i_lt]; omega)], rfl⟩)⟩)

theorem cV.off {M M1 : gM} {w : Nat} {S : Nat → Nat → Prop} (h : cV M w) (ho : Off M M1 S) : cV M1 w := ⟨by rw [ho.1]; exact h.1, by rw [ho.2.2.1]; exact h.2.1, by rw [ho.2.2.1]; exact h.2.2.1, by rw [ho.2.2.1]; exact h.2.2.2⟩
theorem fZ_at {u len i k bs : Nat} {E : Nat → Nat} (hE : ∀ t, t < len → bs ≤ E t) (hi : i < u ∨ u + 28 < i) (hb : i < bs) : ¬ fZ u E len i k := by
  rintro (h | ⟨t, ht, h1, h2, h3⟩)
  · omega
  · have := hE t ht; omega
set_option maxHeartbeats 4000000 in
set_option maxRecDepth 100000 in
theorem c_run (M : gM) (n w : Nat) (σ : MS) (hK : kW M w σ) : GM μX8_run 7 169 0 0 [.ref w] M n (yO M n w (zP σ, zF σ, true, zH σ, zN σ) 0 (.int (nI (runA (zP σ) (zF σ)).2.1))) := by
  refine GM.ofW (by decide) rfl (Nat.le_of_ble_eq_true rfl) rfl ?_
  obtain ⟨d, E, hC⟩ := hK
  have hC0 := hC
  obtain ⟨hV, hq, hok, h3, hh, hv, hF, hW, hR, hd, h2⟩ := hC
  have hE9 := hW.2.2.2.2.2.2.2.2.2.1
  have hgd := hok.gd
  refine g_aload_n dX8_run_0 rfl ?_
  refine g_getR (f := 1) dX8_run_1 cl9 hV.1 (by decide) (Or.inl (iw_1 20 rfl)) (Or.inl rfl) rfl hV.2.2.1 ?_
  refine g_callV dX8_run_4 sX2_prepare (c_prepare M n (w + 1) (w + 14) d (w + 58) E (zP σ) (zF σ) hW hF) cl3 hW.2.1.1 iX2_prepare vX2_prepare (iw_14 13 rfl) rfl rfl (Nat.le_of_ble_eq_true rfl) (Nat.le_of_ble_eq_true rfl) (Nat.le_of_ble_eq_true rfl) (Nat.le_of_ble_eq_true rfl) (Nat.le_of_ble_eq_true rfl) ?_
  intro r9 M2 n9 h9
  obtain ⟨h91, h93, hO2, s2, hS2, hq2, h52, h72⟩ := h9
  rw [h91, h93]
  clear h91 h93 r9 n9
  have hW2 := hW.off hO2
  have hF2 : sE M2 (w + 3) (zF σ) := hF.off hO2 (fun i k a b => fZ_at hE9 (by omega) (by omega))
  have hV2 := hV.off hO2
  refine g_aload_n dX8_run_7 rfl ?_
  refine g_getR (f := 1) dX8_run_8 cl9 hV2.1 (by decide) (Or.inl (iw_1 20 rfl)) (Or.inl rfl) rfl hV2.2.2.1 ?_
  refine g_callV dX8_run_11 sX2_doRounds (c_doRounds M2 n (w + 1) (w + 14) d (w + 58) E (zP σ) (zF σ) s2 hW2 hgd hS2 hq2 h52) cl3 hW2.2.1.1 iX2_doRounds vX2_doRounds (iw_15 22 rfl) rfl rfl (Nat.le_of_ble_eq_true rfl) (Nat.le_of_ble_eq_true rfl) (Nat.le_of_ble_eq_true rfl) (Nat.le_of_ble_eq_true rfl) (Nat.le_of_ble_eq_true rfl) ?_
  intro r9 M3 n9 h9
  obtain ⟨h91, h93, hI3⟩ := h9
  rw [h91, h93]
  clear h91 h93 r9 n9
  have hO3 : Off M2 M3 (fZ (w + 14) E (zP σ).length) := hI3.1.mono (fun i k z => fRd_Z z)
  obtain ⟨s3, hS3, -⟩ := hI3.2.2
  have hW3 := hW2.off hO3
  have hF3 : sE M3 (w + 3) (zF σ) := hF2.off hO3 (fun i k a b => fZ_at hE9 (by omega) (by omega))
  have hV3 := hV2.off hO3
  have h73 : mI M3 (w + 14) 7 = nI 0 := by
    rw [hI3.1.i (by rintro (z | z | ⟨t, ht, z1, z2, z3⟩); omega; omega; have := hE9 t ht; omega)]; exact h72
  have gdA3 := (fin_facts hok.1 hgd).2
  refine g_aload_n dX8_run_14 rfl ?_
  refine g_getR (f := 1) dX8_run_15 cl9 hV3.1 (by decide) (Or.inl (iw_1 20 rfl)) (Or.inl rfl) rfl hV3.2.2.1 ?_
  refine g_callV dX8_run_18 sX2_narrow (c_narrow M3 n (w + 1) (w + 14) d (w + 58) 0 E (zP σ) _ s3 (zF σ) hW3 hF3 hgd gdA3 hS3.1 h73) cl3 hW3.2.1.1 iX2_narrow vX2_narrow (iw_23 18 rfl) rfl rfl (Nat.le_of_ble_eq_true rfl) (Nat.le_of_ble_eq_true rfl) (Nat.le_of_ble_eq_true rfl) (Nat.le_of_ble_eq_true rfl) (Nat.le_of_ble_eq_true rfl) ?_
  intro r9 M4 n9 h9
  obtain ⟨h91, h93, hN4⟩ := h9
  rw [h91, h93]
  clear h91 h93 r9 n9
  have hO4 : Off M3 M4 (fZ (w + 14) E (zP σ).length) := hN4.1.mono (fun i k z => fNw_Z z)
  obtain ⟨s4, hS4⟩ := hN4.2.1
  have hW4 := hW3.off hO4
  have hF4 : sE M4 (w + 3) (zF σ) := hF3.off hO4 (fun i k a b => fZ_at hE9 (by omega) (by omega))
  have hV4 := hV3.off hO4
  have gdA4 := narK_gd hok.1 hgd gdA3 0 (zP σ).length (Nat.le_refl _)
  refine g_aload_n dX8_run_21 rfl ?_
  refine g_getR (f := 1) dX8_run_22 cl9 hV4.1 (by decide) (Or.inl (iw_1 20 rfl)) (Or.inl rfl) rfl hV4.2.2.1 ?_
  refine g_callV dX8_run_25 sX2_narrow (c_narrow M4 n (w + 1) (w + 14) d (w + 58) _ E (zP σ) _ s4 (zF σ) hW4 hF4 hgd gdA4 hS4 hN4.2.2) cl3 hW4.2.1.1 iX2_narrow vX2_narrow (iw_23 18 rfl) rfl rfl (Nat.le_of_ble_eq_true rfl) (Nat.le_of_ble_eq_true rfl) (Nat.le_of_ble_eq_true rfl) (Nat.le_of_ble_eq_true rfl) (Nat.le_of_ble_eq_true rfl) ?_
  intro r9 M5 n9 h9
  obtain ⟨h91, h93, hN5⟩ := h9
  rw [h91, h93]
  clear h91 h93 r9 n9
  have hO5 : Off M4 M5 (fZ (w + 14) E (zP σ).length) := hN5.1.mono (fun i k z => fNw_Z z)
  obtain ⟨s5, hS5⟩ := hN5.2.1
  have hW5 := hW4.off hO5
  have hV5 := hV4.off hO5
  have kp : ∀ k, k ≠ 7 → mI M5 (w + 14) k = mI M3 (w + 14) k := fun k hk => by
    have nn : ¬ fNw (w + 14) E (zP σ).length (w + 14) k := by
      rintro (z | z | ⟨t, ht, z1, z2, z3⟩)
      · omega
      · omega
      · have := hE9 t ht; omega
    rw [hN5.1.i nn, hN4.1.i nn]
  refine g_aload_n dX8_run_28 rfl ?_
  refine g_iconst (v := nI 1) dX8_run_29 rfl ?_
  refine g_putI (f := 3) dX8_run_30 cl9 hV5.1 (by decide) (Or.inl (iw_2 1 rfl)) (Or.inl rfl) (Or.inl rfl) (Or.inr ⟨rfl, (Or.inr rfl)⟩) ?_
  refine g_aload_n dX8_run_33 rfl ?_
  refine g_getR (f := 1) dX8_run_34 cl9 hV5.1 (by decide) (Or.inl (iw_1 20 rfl)) (Or.inl rfl) rfl hV5.2.2.1 ?_
  skip
  refine g_getI (f := 5) dX8_run_37 cl3 hW5.2.1.1 (by decide) (Or.inr (List.mem_of_getElem? (i := 13) rfl)) (Or.inl rfl) (Or.inl rfl) ?_
  have e40 : mI (stI M5 w 3 (nI 1)) (w + 14) 5 = nI (runA (zP σ) (zF σ)).2.1 := by
    show up2 (mI M5) w 3 (nI 1) (w + 14) 5 = _
    rw [up2_ne _ _ (by omega), kp 5 (by decide)]; exact hI3.2.1
  rw [e40]
  exact g_iret dX8_run_40 (Or.inl rfl) (Nat.le_of_ble_eq_true rfl) (Nat.le_of_ble_eq_true rfl) (by
    have oT : Off M M5 (fZ (w + 14) E (zP σ).length) := ((hO2.trans hO3).trans hO4).trans hO5
    have o6 : Off M5 (stI M5 w 3 (nI 1)) (fun i k => i = w ∧ k = 3) := Off.rf.stI ⟨rfl, rfl⟩
    refine ⟨rfl, rfl, Nat.le_refl _, ⟨d, E, hV5.off o6, (hq.off oT).off o6, hok, up2_eq _ _ _ _, ?_, ?_, (hF.off oT (fun i k a b => fZ_at hE9 (by omega) (by omega))).off o6 (fun i k a b z => by omega), hW5.offG o6 (fun i k z => by omega), fun _ => ⟨⟨s5, hS5.off o6 (fun j i k hj z a b => by have := hE9 j hj; omega)⟩, e40, ?_, ?_⟩, hd, h2⟩, (Rw.off oT (fun i k a b => fZ_at hE9 (by omega) (by omega))).trans (Rw.off o6 (fun i k a b z => by omega))⟩
    · rw [o6.i (by omega), oT.i (fZ_at hE9 (by omega) (by omega))]; exact hh
    · intro p hp; rw [o6.i (by omega), oT.i (fZ_at hE9 (by omega) (by omega))]; exact hv p hp
    · rw [o6.i (by omega), kp 6 (by decide)]
      refine hS3.2.trans ?_
      show _ = nI (aW (runA (zP σ) (zF σ)).1)
      rw [runA_aW]
    · rw [o6.i (by omega)]; exact hN5.2.2)

set_option maxHeartbeats 4000000 in
set_option maxRecDepth 100000 in
theorem c_clear (M : gM) (n w : Nat) (σ : MS) (hK : kW M w σ) (hb : w + 58 ≤ n) : GM μX8_clear 2 44 0 0 [.ref w] M n (yO M n w (clS σ) 0 (.int (nI (zP σ).length))) := by
  refine GM.ofW (by decide) rfl (Nat.le_of_ble_eq_true rfl) rfl ?_
  obtain ⟨d, E, hC⟩ := hK
  have hC0 := hC
  obtain ⟨hV, hq, hok, h3, hh, hv, hF, hW, hR, hd, h2⟩ := hC
  refine g_aload_n dX8_clear_0 rfl ?_
  refine g_getR (f := 0) dX8_clear_1 cl9 hV.1 (by decide) (Or.inl (iw_1 16 rfl)) (Or.inl rfl) rfl hV.2.1 ?_
  refine g_getR (f := 0) dX8_clear_4 cl2 hW.1.1 (by decide) (Or.inr (List.mem_of_getElem? (i := 11) rfl)) (Or.inl rfl) rfl hW.1.2.1 ?_
  refine g_callV dX8_clear_7 sJx4a65c_size_8abf5 (j_size M n (w + 2) d (zP σ).length E hW.2.2.1) cl0 hW.2.2.1.1 iJx4a65c_size_8abf5 vJx4a65c_size_8abf5 (iw_8 0 rfl) rfl rfl (Nat.le_of_ble_eq_true rfl) (Nat.le_of_ble_eq_true rfl) (Nat.le_of_ble_eq_true rfl) (Nat.le_of_ble_eq_true rfl) (Nat.le_of_ble_eq_true rfl) ?_
  intro r9 M9 n9 h9
  obtain ⟨h91, h92, h93⟩ := h9
  rw [h91, h92, h93]
  clear h91 h92 h93 r9 M9 n9
  refine g_istore_n dX8_clear_10 (Nat.le_of_ble_eq_true rfl) ?_
  refine g_aload_n dX8_clear_11 rfl ?_
  refine g_getR (f := 0) dX8_clear_12 cl9 hV.1 (by decide) (Or.inl (iw_1 16 rfl)) (Or.inl rfl) rfl hV.2.1 ?_
  refine g_callV dX8_clear_15 sX1_forget (c_forget M n (w + 1) (w + 14) d (w + 58) E (zP σ) hW hb (by omega) hd) cl2 hW.1.1 iX1_forget vX1_forget (iw_39 17 rfl) rfl rfl (Nat.le_of_ble_eq_true rfl) (Nat.le_of_ble_eq_true rfl) (Nat.le_of_ble_eq_true rfl) (Nat.le_of_ble_eq_true rfl) (Nat.le_of_ble_eq_true rfl) ?_
  intro r9 M2 n9 h9
  obtain ⟨h91, h93, hW2, hF2, hf2⟩ := h9
  rw [h91, h93]
  clear h91 h93 r9 n9
  have rr : ∀ lo hi, w ≤ lo → hi < w + 58 → (hi < w + 2 ∨ w + 13 < lo) → Rw M M2 lo hi := fun lo hi h1 h3 h4 => hf2.rw (by omega) (fun i x y z => by omega)
  have rw0 := rr w w (by omega) (by omega) (by omega) w (by omega) (by omega)
  have kw2 : mK M2 w = 9 := rw0.1.trans hV.1
  refine g_aload_n dX8_clear_18 rfl ?_
  refine g_iconst (v := nI 0) dX8_clear_19 rfl ?_
  refine g_putI (f := 3) dX8_clear_20 cl9 kw2 (by decide) (Or.inl (iw_2 1 rfl)) (Or.inl rfl) (Or.inl rfl) (Or.inr ⟨rfl, (Or.inl rfl)⟩) ?_
  refine g_iload_n dX8_clear_23 rfl ?_
  exact g_iret dX8_clear_24 (Or.inl rfl) (Nat.le_of_ble_eq_true rfl) (Nat.le_of_ble_eq_true rfl) (by
    have o3 : Off M2 (stI M2 w 3 (nI 0)) (fun i k => i = w ∧ k = 3) := Off.rf.stI ⟨rfl, rfl⟩
    refine ⟨rfl, rfl, Nat.le_refl _, ⟨d, E, ?_⟩, (rr (w + 45) (w + 57) (by omega) (by omega) (by omega)).trans (Rw.off o3 (fun i k a b z => by omega))⟩
    exact hC0.fr rw0.1 rw0.2.2.2.2 (up2_eq _ _ _ _) ((rr (w + 43) (w + 44) (by omega) (by omega) (by omega)).trans (Rw.off o3 (fun i k a b z => by omega))) (hF2.off o3 (fun i k a b z => by omega)) (fun p hp => ⟨okX_0, rfl⟩) (hW2.offG o3 (fun i k z => by omega)) hd)

set_option maxHeartbeats 4000000 in
set_option maxRecDepth 100000 in
theorem c_size (M : gM) (n w : Nat) (σ : MS) (hK : kW M w σ) : GM μX8_size 1 20 0 0 [.ref w] M n (yO M n w σ 0 (.int (nI (zP σ).length))) := by
  refine GM.ofW (by decide) rfl (Nat.le_of_ble_eq_true rfl) rfl ?_
  obtain ⟨d, E, hC⟩ := hK
  have hC0 := hC
  obtain ⟨hV, hq, hok, h3, hh, hv, hF, hW, hR, hd, h2⟩ := hC
  refine g_aload_n dX8_size_0 rfl ?_
  refine g_getR (f := 0) dX8_size_1 cl9 hV.1 (by decide) (Or.inl (iw_1 16 rfl)) (Or.inl rfl) rfl hV.2.1 ?_
  refine g_getR (f := 0) dX8_size_4 cl2 hW.1.1 (by decide) (Or.inr (List.mem_of_getElem? (i := 11) rfl)) (Or.inl rfl) rfl hW.1.2.1 ?_
  refine g_callV dX8_size_7 sJx4a65c_size_8abf5 (j_size M n (w + 2) d (zP σ).length E hW.2.2.1) cl0 hW.2.2.1.1 iJx4a65c_size_8abf5 vJx4a65c_size_8abf5 (iw_8 0 rfl) rfl rfl (Nat.le_of_ble_eq_true rfl) (Nat.le_of_ble_eq_true rfl) (Nat.le_of_ble_eq_true rfl) (Nat.le_of_ble_eq_true rfl) (Nat.le_of_ble_eq_true rfl) ?_
  intro r9 M9 n9 h9
  obtain ⟨h91, h92, h93⟩ := h9
  rw [h91, h92, h93]
  clear h91 h92 h93 r9 M9 n9
  exact g_iret dX8_size_10 (Or.inl rfl) (Nat.le_of_ble_eq_true rfl) (Nat.le_of_ble_eq_true rfl) ⟨rfl, rfl, Nat.le_refl _, ⟨d, E, hC0⟩, Rw.rf⟩

set_option maxHeartbeats 4000000 in
set_option maxRecDepth 100000 in
theorem c_ended (M : gM) (n w : Nat) (σ : MS) (hK : kW M w σ) : GM μX8_ended 0 0 0 0 [.ref w] M n (yO M n w σ 0 (.int (zH σ))) := by
  refine GM.ofW (by decide) rfl (Nat.le_of_ble_eq_true rfl) rfl ?_
  obtain ⟨d, E, hC⟩ := hK
  have hC0 := hC
  obtain ⟨hV, hq, hok, h3, hh, hv, hF, hW, hR, hd, h2⟩ := hC
  refine g_aload_n dX8_ended_0 rfl ?_
  refine g_getR (f := 2) dX8_ended_1 cl9 hV.1 (by decide) (Or.inl (iw_2 0 rfl)) (Or.inl rfl) rfl hV.2.2.2 ?_
  refine g_getI (f := 3) dX8_ended_4 cl8 hq.1 (by decide) (Or.inr (List.mem_of_getElem? (i := 9) rfl)) (Or.inl rfl) (Or.inl rfl) ?_
  rw [hh]
  exact g_iret dX8_ended_7 (Or.inl rfl) (Nat.le_of_ble_eq_true rfl) (Nat.le_of_ble_eq_true rfl) ⟨rfl, rfl, Nat.le_refl _, ⟨d, E, hC0⟩, Rw.rf⟩

