/-! the class: public methods that change it -/
theorem c_tellK (M : gM) (n p u d bs : Nat) (E : Nat → Nat) (P : List St) (k a b c : Int32) (hk : k = nI (pl k)) (hW : wS M p u d bs E P) (hs : vS (pl k, a, b, c)) (hl : P.length < 40) (hb : bs ≤ n) (hp1 : 1 ≤ p) (hd : d = 0 ∨ bs ≤ d) : GM μX1_tell 7 179 11 257 [.ref p, .int k, .int a, .int b, .int c] M n (fun r M1 n1 => r = some (.int (nI P.length)) ∧ n ≤ n1 ∧ tlO M M1 n p u d bs P (pl k, a, b, c)) := by
  have h := c_tell M n p u d bs E P (pl k, a, b, c) hW hs hl hb hp1 hd
  dsimp only at h
  rw [← hk] at h
  exact h
theorem c_spanX (M : gM) (n a : Nat) (lo hi : Int32) (hk : mK M a = 4) (hp : lo ≤ hi) : GM μX3_becomeSpan 0 0 0 0 [.ref a, .int lo, .int hi] M n (fun r M1 n1 => r = none ∧ n1 = n ∧ Off M M1 (fO a) ∧ cS M1 a [(lo.toInt, hi.toInt)]) := by
  have h := c_span M n a (lo.toInt, hi.toInt) hk (okX_one (by rw [i_le] at hp; exact hp) (i_rng lo) (i_rng hi))
  dsimp only at h
  rw [← iZ_of lo, ← iZ_of hi] at h
  exact h
set_option maxHeartbeats 4000000 in
set_option maxRecDepth 100000 in
theorem c_op (M : gM) (n w : Nat) (σ : MS) (k a b c : Int32) (hK : kW M w σ) (hb : w + 58 ≤ n) : GX μX8_op 8 206 11 257 [.ref w, .int k, .int a, .int b, .int c] M n (yO M n w (opS σ k a b c) (opZ σ k a b c).1 (.int (nI (opZ σ k a b c).2))) (yX M n (opZ σ k a b c).1 "java/lang/IndexOutOfBoundsException" "java/lang/IllegalArgumentException" "java/lang/UnsupportedOperationException") := by
  refine GX.ofW (by decide) rfl (Nat.le_of_ble_eq_true rfl) rfl ?_
  obtain ⟨d, E, hC⟩ := hK
  have hC0 := hC
  obtain ⟨hV, hq, hok, h3, hh, hv, hF, hW, hR, hd, h2⟩ := hC
  have l40 := hok.1.1
  refine g_iload_n dX8_op_0 rfl ?_
  refine g_iload_n dX8_op_1 rfl ?_
  refine g_iload_n dX8_op_2 rfl ?_
  refine g_iload dX8_op_3 rfl ?_
  refine g_callS dX8_op_5 sX8_placesAreThere (c_places M n k a b c) tX8_placesAreThere (iw_7 6 rfl) rfl rfl (Nat.le_of_ble_eq_true rfl) (Nat.le_of_ble_eq_true rfl) (Nat.le_of_ble_eq_true rfl) (Nat.le_of_ble_eq_true rfl) (Nat.le_of_ble_eq_true rfl) ?_
  intro r9 M9 n9 h9
  obtain ⟨h91, h92, h93⟩ := h9
  rw [h91, h92, h93]
  clear h91 h92 h93 r9 M9 n9
  refine g_if_ne (tgt := 21) dX8_op_8 (by decide) (fun c_8 => ?_) (fun c_8 => ?_)
  · skip
    refine g_iload_n dX8_op_21 rfl ?_
    refine g_iload_n dX8_op_22 rfl ?_
    refine g_iload_n dX8_op_23 rfl ?_
    refine g_iload dX8_op_24 rfl ?_
    refine g_callS dX8_op_26 sX8_numbersAreSo (c_numbers M n k a b c) tX8_numbersAreSo (iw_7 15 rfl) rfl rfl (Nat.le_of_ble_eq_true rfl) (Nat.le_of_ble_eq_true rfl) (Nat.le_of_ble_eq_true rfl) (Nat.le_of_ble_eq_true rfl) (Nat.le_of_ble_eq_true rfl) ?_
    intro r9 M9 n9 h9
    obtain ⟨h91, h92, h93⟩ := h9
    rw [h91, h92, h93]
    clear h91 h92 h93 r9 M9 n9
    refine g_if_ne (tgt := 42) dX8_op_29 (by decide) (fun c_29 => ?_) (fun c_29 => ?_)
    · skip
      refine g_aload_n dX8_op_42 rfl ?_
      refine g_getR (f := 0) dX8_op_43 cl9 hV.1 (by decide) (Or.inl (iw_1 16 rfl)) (Or.inl rfl) rfl hV.2.1 ?_
      refine g_getR (f := 0) dX8_op_46 cl2 hW.1.1 (by decide) (Or.inr (List.mem_of_getElem? (i := 11) rfl)) (Or.inl rfl) rfl hW.1.2.1 ?_
      refine g_callV dX8_op_49 sJx4a65c_size_8abf5 (j_size M n (w + 2) d (zP σ).length E hW.2.2.1) cl0 hW.2.2.1.1 iJx4a65c_size_8abf5 vJx4a65c_size_8abf5 (iw_8 0 rfl) rfl rfl (Nat.le_of_ble_eq_true rfl) (Nat.le_of_ble_eq_true rfl) (Nat.le_of_ble_eq_true rfl) (Nat.le_of_ble_eq_true rfl) (Nat.le_of_ble_eq_true rfl) ?_
      intro r9 M9 n9 h9
      obtain ⟨h91, h92, h93⟩ := h9
      rw [h91, h92, h93]
      clear h91 h92 h93 r9 M9 n9
      refine g_bipush (v := nI 40) dX8_op_52 rfl ?_
      refine g_icmp_lt (tgt := 67) dX8_op_54 (by decide) (fun c_54 => ?_) (fun c_54 => ?_)
      · skip
        have g1 := dT c_8
        have g2 := dT c_29
        rw [nI_ltI' (by omega) (by omega)] at c_54
        obtain ⟨v1, v2, v3⟩ := op_vS g1 g2
        have e : opZ σ k a b c = (0, (zP σ).length) := by unfold opZ; rw [if_neg g1, if_neg (fun h => h g2), if_neg (by omega)]
        have e2 : opS σ k a b c = (zP σ ++ [(pl k, a, b, c)], zF σ, false, zH σ, zN σ) := by unfold opS; rw [e]; rfl
        rw [e, e2]
        clear e e2
        refine g_aload_n dX8_op_67 rfl ?_
        refine g_iconst (v := nI 0) dX8_op_68 rfl ?_
        refine g_putI (f := 3) dX8_op_69 cl9 hV.1 (by decide) (Or.inl (iw_2 1 rfl)) (Or.inl rfl) (Or.inl rfl) (Or.inr ⟨rfl, (Or.inl rfl)⟩) ?_
        have o1 : Off M (stI M w 3 (nI 0)) (fun i k => i = w ∧ k = 3) := Off.rf.stI ⟨rfl, rfl⟩
        have hC1 := hC0.off o1 (fun i k z => Or.inl z) (b := false) (up2_eq _ _ _ _) (fun q => by cases q)
        have r1 : Rw M (stI M w 3 (nI 0)) (w + 45) (w + 57) := Rw.off o1 (fun i k a b z => by omega)
        generalize stI M w 3 (nI 0) = M1 at o1 hC1 r1 ⊢
        have hW1 : wS M1 (w + 1) (w + 14) d (w + 58) E (zP σ) := hC1.2.2.2.2.2.2.2.1
        have hV1 : cV M1 w := hC1.1
        refine g_aload_n dX8_op_72 rfl ?_
        refine g_getR (f := 0) dX8_op_73 cl9 hV1.1 (by decide) (Or.inl (iw_1 16 rfl)) (Or.inl rfl) rfl hV1.2.1 ?_
        refine g_iload_n dX8_op_76 rfl ?_
        refine g_iload_n dX8_op_77 rfl ?_
        refine g_iload_n dX8_op_78 rfl ?_
        refine g_iload dX8_op_79 rfl ?_
        refine g_callV dX8_op_81 sX1_tell (c_tellK M1 n (w + 1) (w + 14) d (w + 58) E (zP σ) k a b c v2 hW1 v1 c_54 hb (by omega) hd) cl2 hW1.1.1 iX1_tell vX1_tell (iw_8 5 rfl) rfl rfl (Nat.le_of_ble_eq_true rfl) (Nat.le_of_ble_eq_true rfl) (Nat.le_of_ble_eq_true rfl) (Nat.le_of_ble_eq_true rfl) (Nat.le_of_ble_eq_true rfl) ?_
        intro r9 M2 n9 h9
        obtain ⟨h91, h93, ⟨d1, E1, hW2, hd2⟩, hf2⟩ := h9
        rw [h91]
        clear h91 r9
        exact g_xr (g_iret dX8_op_84 (Or.inl rfl) (Nat.le_of_ble_eq_true rfl) (Nat.le_of_ble_eq_true rfl) (by
          refine ⟨rfl, rfl, h93, ⟨d1, E1, ?_⟩, r1.trans (hf2.rw (by omega) (fun i x y z => by unfold fC at z; omega))⟩
          have r2 : ∀ lo hi, lo ≤ hi → w ≤ lo → hi < w + 58 → (hi < w + 2 ∨ w + 2 < lo) → (hi < w + 12 ∨ w + 13 < lo) → Rw M1 M2 lo hi := fun lo hi h0 h1 h2 h3 h4 => hf2.rw (by omega) (fun i x y z => by unfold fC at z; omega)
          have rw0 := r2 w w (by omega) (by omega) (by omega) (by omega) (by omega) w (by omega) (by omega)
          exact hC1.fr rw0.1 rw0.2.2.2.2 (by rw [rw0.2.2.1]; exact hC1.2.2.2.1) (r2 (w + 43) (w + 44) (by omega) (by omega) (by omega) (by omega) (by omega)) (hC1.2.2.2.2.2.2.1.rw (r2 (w + 3) (w + 11) (by omega) (by omega) (by omega) (by omega) (by omega)) (by omega) (by omega)) hok.2 hW2 hd2))
      · skip
        exact g_throw (E := "java/lang/UnsupportedOperationException") (ik := 65) (is := 67) (ic := 69) rfl rfl (by decide) (iw_7 4 rfl) (iw_7 5 rfl) (List.mem_of_getElem? (i := 2) rfl) xg_69 xb_69 (xo_69_65) (by decide +kernel) dX8_op_57 dX8_op_60 dX8_op_61 dX8_op_63 dX8_op_66 (Nat.le_of_ble_eq_true rfl) (Nat.le_of_ble_eq_true rfl) (Nat.le_of_ble_eq_true rfl) (Nat.le_of_ble_eq_true rfl) (Nat.le_of_ble_eq_true rfl) (Nat.le_of_ble_eq_true rfl) (fun n1 hn1 => ⟨rfl, hn1, Or.inr (Or.inr ⟨by unfold opZ; rw [nI_ltI' (by omega) (by omega)] at c_54; rw [if_neg (dT c_8), if_neg (fun h => h (dT c_29)), if_pos (by omega)], rfl⟩)⟩)
    · skip
      exact g_throw (E := "java/lang/IllegalArgumentException") (ik := 50) (is := 52) (ic := 54) rfl rfl (by decide) (iw_7 2 rfl) (iw_7 3 rfl) (List.mem_of_getElem? (i := 1) rfl) xg_54 xb_54 (xo_54_50) (by decide +kernel) dX8_op_32 dX8_op_35 dX8_op_36 dX8_op_38 dX8_op_41 (Nat.le_of_ble_eq_true rfl) (Nat.le_of_ble_eq_true rfl) (Nat.le_of_ble_eq_true rfl) (Nat.le_of_ble_eq_true rfl) (Nat.le_of_ble_eq_true rfl) (Nat.le_of_ble_eq_true rfl) (fun n1 hn1 => ⟨rfl, hn1, Or.inr (Or.inl ⟨by unfold opZ; rw [if_neg (dT c_8), if_pos (dF c_29)], rfl⟩)⟩)
  · skip
    exact g_throw (E := "java/lang/IndexOutOfBoundsException") (ik := 40) (is := 42) (ic := 44) rfl rfl (by decide) (iw_7 0 rfl) (iw_7 1 rfl) (List.mem_of_getElem? (i := 0) rfl) xg_44 xb_44 (xo_44_40) (by decide +kernel) dX8_op_11 dX8_op_14 dX8_op_15 dX8_op_17 dX8_op_20 (Nat.le_of_ble_eq_true rfl) (Nat.le_of_ble_eq_true rfl) (Nat.le_of_ble_eq_true rfl) (Nat.le_of_ble_eq_true rfl) (Nat.le_of_ble_eq_true rfl) (Nat.le_of_ble_eq_true rfl) (fun n1 hn1 => ⟨rfl, hn1, Or.inl ⟨by unfold opZ; rw [if_pos (Classical.not_not.mp (dF c_8))], rfl⟩⟩)

