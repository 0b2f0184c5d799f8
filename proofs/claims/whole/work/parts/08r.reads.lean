/-! holds, had -/
set_option maxHeartbeats 4000000 in
set_option maxRecDepth 100000 in
theorem c_holds (M : gM) (n w : Nat) (σ : MS) (k s : Int32) (hK : kW M w σ) : GX μX8_holds 7 120 1 6 [.ref w, .int k, .int s] M n (yO M n w (hoS σ k s) (hoZ σ k s).1 (.int (nI (hoZ σ k s).2.1))) (yX M n (hoZ σ k s).1 "java/lang/IllegalArgumentException" "java/lang/IllegalStateException" "") := by
  refine GX.ofW (by decide) rfl (Nat.le_of_ble_eq_true rfl) rfl ?_
  obtain ⟨d, E, hC⟩ := hK
  have hC0 := hC
  obtain ⟨hV, hq, hok, h3, hh, hv, hF, hW, hR, hd, h2⟩ := hC
  refine g_iload_n dX8_holds_0 rfl ?_
  refine g_if_lt (tgt := 22) dX8_holds_1 (by decide) (fun c_1 => ?_) (fun c_1 => ?_)
  · skip
    exact g_throw (E := "java/lang/IllegalArgumentException") (ik := 50) (is := 173) (ic := 54) rfl rfl (by decide) (iw_7 2 rfl) (iw_7 3 rfl) (List.mem_of_getElem? (i := 7) rfl) xg_54 xb_54 (xo_54_50) (by decide +kernel) dX8_holds_22 dX8_holds_25 dX8_holds_26 dX8_holds_28 dX8_holds_31 (Nat.le_of_ble_eq_true rfl) (Nat.le_of_ble_eq_true rfl) (Nat.le_of_ble_eq_true rfl) (Nat.le_of_ble_eq_true rfl) (Nat.le_of_ble_eq_true rfl) (Nat.le_of_ble_eq_true rfl) (fun n1 hn1 => ⟨rfl, hn1, Or.inl ⟨(by
      unfold hoZ
      rw [if_pos (by
        rw [i_lt (a := s), i_eq (a := s), show (1 : Int32).toInt = 1 from rfl, show (2147483647 : Int32).toInt = 2147483647 from rfl]
        have := i_rng s
        first
        | (rw [i_le, show (2147483646 : Int32).toInt = 2147483646 from rfl] at c_19; omega)
        | (rw [i_lt, t_1] at c_13; omega)
        | (rw [i_lt, show (nI 5000).toInt = 5000 from rfl] at c_8; omega)
        | (rw [i_lt, t_0] at c_1; omega))]), rfl⟩⟩)
  · skip
    refine g_iload_n dX8_holds_4 rfl ?_
    refine g_sipush (v := nI 5000) dX8_holds_5 rfl ?_
    refine g_icmp_gt (tgt := 22) dX8_holds_8 (by decide) (fun c_8 => ?_) (fun c_8 => ?_)
    · skip
      exact g_throw (E := "java/lang/IllegalArgumentException") (ik := 50) (is := 173) (ic := 54) rfl rfl (by decide) (iw_7 2 rfl) (iw_7 3 rfl) (List.mem_of_getElem? (i := 7) rfl) xg_54 xb_54 (xo_54_50) (by decide +kernel) dX8_holds_22 dX8_holds_25 dX8_holds_26 dX8_holds_28 dX8_holds_31 (Nat.le_of_ble_eq_true rfl) (Nat.le_of_ble_eq_true rfl) (Nat.le_of_ble_eq_true rfl) (Nat.le_of_ble_eq_true rfl) (Nat.le_of_ble_eq_true rfl) (Nat.le_of_ble_eq_true rfl) (fun n1 hn1 => ⟨rfl, hn1, Or.inl ⟨(by
        unfold hoZ
        rw [if_pos (by
          rw [i_lt (a := s), i_eq (a := s), show (1 : Int32).toInt = 1 from rfl, show (2147483647 : Int32).toInt = 2147483647 from rfl]
          have := i_rng s
          first
          | (rw [i_le, show (2147483646 : Int32).toInt = 2147483646 from rfl] at c_19; omega)
          | (rw [i_lt, t_1] at c_13; omega)
          | (rw [i_lt, show (nI 5000).toInt = 5000 from rfl] at c_8; omega)
          | (rw [i_lt, t_0] at c_1; omega))]), rfl⟩⟩)
    · skip
      refine g_iload_n dX8_holds_11 rfl ?_
      refine g_iconst (v := nI 1) dX8_holds_12 rfl ?_
      refine g_icmp_lt (tgt := 22) dX8_holds_13 (by decide) (fun c_13 => ?_) (fun c_13 => ?_)
      · skip
        exact g_throw (E := "java/lang/IllegalArgumentException") (ik := 50) (is := 173) (ic := 54) rfl rfl (by decide) (iw_7 2 rfl) (iw_7 3 rfl) (List.mem_of_getElem? (i := 7) rfl) xg_54 xb_54 (xo_54_50) (by decide +kernel) dX8_holds_22 dX8_holds_25 dX8_holds_26 dX8_holds_28 dX8_holds_31 (Nat.le_of_ble_eq_true rfl) (Nat.le_of_ble_eq_true rfl) (Nat.le_of_ble_eq_true rfl) (Nat.le_of_ble_eq_true rfl) (Nat.le_of_ble_eq_true rfl) (Nat.le_of_ble_eq_true rfl) (fun n1 hn1 => ⟨rfl, hn1, Or.inl ⟨(by
          unfold hoZ
          rw [if_pos (by
            rw [i_lt (a := s), i_eq (a := s), show (1 : Int32).toInt = 1 from rfl, show (2147483647 : Int32).toInt = 2147483647 from rfl]
            have := i_rng s
            first
            | (rw [i_le, show (2147483646 : Int32).toInt = 2147483646 from rfl] at c_19; omega)
            | (rw [i_lt, t_1] at c_13; omega)
            | (rw [i_lt, show (nI 5000).toInt = 5000 from rfl] at c_8; omega)
            | (rw [i_lt, t_0] at c_1; omega))]), rfl⟩⟩)
      · skip
        refine g_iload_n dX8_holds_16 rfl ?_
        refine g_ldc (v := 2147483646) dX8_holds_17 (iw_36 2 rfl) ?_
        refine g_icmp_le (tgt := 32) dX8_holds_19 (by decide) (fun c_19 => ?_) (fun c_19 => ?_)
        · skip
          have hA : ¬ (¬ (0 ≤ k.toInt ∧ k.toInt ≤ 5000) ∨ s < 1 ∨ s = 2147483647) := by
            rw [i_lt, t_0] at c_1
            rw [i_lt, show (nI 5000).toInt = 5000 from rfl] at c_8
            rw [i_lt, t_1] at c_13
            rw [i_le, show (2147483646 : Int32).toInt = 2147483646 from rfl] at c_19
            rw [i_lt, i_eq, show (1 : Int32).toInt = 1 from rfl, show (2147483647 : Int32).toInt = 2147483647 from rfl]
            omega
          have hk9 : 0 ≤ k.toInt ∧ k.toInt ≤ 5000 := Classical.not_not.mp (fun q => hA (Or.inl q))
          have hs9 : okK s.toInt := by
            rw [i_lt, t_1] at c_13
            have := i_rng s
            exact ⟨by omega, by omega⟩
          refine g_aload_n dX8_holds_32 rfl ?_
          refine g_callVX rfl dX8_holds_33 sX8_requireSolved (c_reqSolved M n w (zR σ) hV.1 h3) cl9 hV.1 iX8_requireSolved vX8_requireSolved (iw_31 20 rfl) rfl rfl (Nat.le_of_ble_eq_true rfl) (Nat.le_of_ble_eq_true rfl) (Nat.le_of_ble_eq_true rfl) (Nat.le_of_ble_eq_true rfl) (Nat.le_of_ble_eq_true rfl) (fun E M1 n1 h => ⟨h.2.1, h.2.2.1, Or.inr (Or.inl ⟨by unfold hoZ; rw [if_neg hA, if_pos h.2.2.2], h.1⟩)⟩) (Nat.le_of_ble_eq_true rfl) (Nat.le_of_ble_eq_true rfl) ?_
          intro r9 M9 n9 h9
          obtain ⟨h91, h92, h93, hs⟩ := h9
          rw [h91, h92, h93]
          clear h91 h92 h93 r9 M9 n9
          have hzR : ¬ zR σ = false := by rw [hs]; exact fun q => by cases q
          obtain ⟨⟨st9, hf⟩, hr5, hr6, hr7⟩ := hR hs
          refine g_aload_n dX8_holds_36 rfl ?_
          refine g_getR (f := 2) dX8_holds_37 cl9 hV.1 (by decide) (Or.inl (iw_2 0 rfl)) (Or.inl rfl) rfl hV.2.2.2 ?_
          refine g_iload_n dX8_holds_40 rfl ?_
          refine g_iload_n dX8_holds_41 rfl ?_
          refine g_callV dX8_holds_42 sX7_follow (c_follow M n (w + 1) (w + 14) d (w + 58) (w + 43) E (zP σ) (zA σ) st9 (zF σ) (zN σ) k s hW hq hf (by omega) (by omega) hF hok.gd hk9 hs9 hv) cl8 hq.1 iX7_follow vX7_follow (iw_36 3 rfl) rfl rfl (Nat.le_of_ble_eq_true rfl) (Nat.le_of_ble_eq_true rfl) (Nat.le_of_ble_eq_true rfl) (Nat.le_of_ble_eq_true rfl) (Nat.le_of_ble_eq_true rfl) ?_
          intro r9 M2 n9 h9
          obtain ⟨h91, h93, hO2, hh2, hn2⟩ := h9
          rw [h91, h93]
          clear h91 h93 r9 n9
          exact g_xr (g_iret dX8_holds_45 (Or.inl rfl) (Nat.le_of_ble_eq_true rfl) (Nat.le_of_ble_eq_true rfl) (by
            have e : hoZ σ k s = (0, hlZ (zP σ) (zA σ) (pl k) 0 (dnK (zF σ) s.toInt (zN σ) 8).1 (dnK (zF σ) s.toInt (zN σ) 8).2 0) := by
              unfold hoZ; rw [if_neg hA, if_neg hzR]
            have e2 : hoS σ k s = (zP σ, zF σ, zR σ, (hlZ (zP σ) (zA σ) (pl k) 0 (dnK (zF σ) s.toInt (zN σ) 8).1 (dnK (zF σ) s.toInt (zN σ) 8).2 0).2.1, (hlZ (zP σ) (zA σ) (pl k) 0 (dnK (zF σ) s.toInt (zN σ) 8).1 (dnK (zF σ) s.toInt (zN σ) 8).2 0).2.2) := by unfold hoS; rw [e]
            rw [e, e2]
            exact ⟨rfl, rfl, Nat.le_refl _, ⟨d, E, hC0.tr hO2 hh2 hn2⟩, Rw.off hO2 (fun i k a b z => by unfold fQ at z; omega)⟩))
        · skip
          exact g_throw (E := "java/lang/IllegalArgumentException") (ik := 50) (is := 173) (ic := 54) rfl rfl (by decide) (iw_7 2 rfl) (iw_7 3 rfl) (List.mem_of_getElem? (i := 7) rfl) xg_54 xb_54 (xo_54_50) (by decide +kernel) dX8_holds_22 dX8_holds_25 dX8_holds_26 dX8_holds_28 dX8_holds_31 (Nat.le_of_ble_eq_true rfl) (Nat.le_of_ble_eq_true rfl) (Nat.le_of_ble_eq_true rfl) (Nat.le_of_ble_eq_true rfl) (Nat.le_of_ble_eq_true rfl) (Nat.le_of_ble_eq_true rfl) (fun n1 hn1 => ⟨rfl, hn1, Or.inl ⟨(by
            unfold hoZ
            rw [if_pos (by
              rw [i_lt (a := s), i_eq (a := s), show (1 : Int32).toInt = 1 from rfl, show (2147483647 : Int32).toInt = 2147483647 from rfl]
              have := i_rng s
              first
              | (rw [i_le, show (2147483646 : Int32).toInt = 2147483646 from rfl] at c_19; omega)
              | (rw [i_lt, t_1] at c_13; omega)
              | (rw [i_lt, show (nI 5000).toInt = 5000 from rfl] at c_8; omega)
              | (rw [i_lt, t_0] at c_1; omega))]), rfl⟩⟩)

set_option maxHeartbeats 4000000 in
set_option maxRecDepth 100000 in
theorem c_had (M : gM) (n w : Nat) (σ : MS) (p : Int32) (hK : kW M w σ) : GX μX8_had 7 120 2 12 [.ref w, .int p] M n (yO M n w σ (hdZ σ p).1 (.int (hdZ σ p).2)) (yX M n (hdZ σ p).1 "java/lang/IndexOutOfBoundsException" "" "") := by
  refine GX.ofW (by decide) rfl (Nat.le_of_ble_eq_true rfl) rfl ?_
  obtain ⟨d, E, hC⟩ := hK
  have hC0 := hC
  obtain ⟨hV, hq, hok, h3, hh, hv, hF, hW, hR, hd, h2⟩ := hC
  refine g_iload_n dX8_had_0 rfl ?_
  refine g_callSX rfl dX8_had_1 sX8_requirePlace (c_reqPlace M n p) tX8_requirePlace (iw_13 20 rfl) rfl rfl (Nat.le_of_ble_eq_true rfl) (Nat.le_of_ble_eq_true rfl) (Nat.le_of_ble_eq_true rfl) (Nat.le_of_ble_eq_true rfl) (Nat.le_of_ble_eq_true rfl) (fun E M1 n1 h => ⟨h.2.1, h.2.2.1, Or.inl ⟨by unfold hdZ; rw [if_neg (fun q => h.2.2.2 q.1)], h.1⟩⟩) (Nat.le_of_ble_eq_true rfl) (Nat.le_of_ble_eq_true rfl) ?_
  intro r9 M9 n9 h9
  obtain ⟨h91, h92, h93, hP⟩ := h9
  rw [h91, h92, h93]
  clear h91 h92 h93 r9 M9 n9
  refine g_aload_n dX8_had_4 rfl ?_
  refine g_getR (f := 2) dX8_had_5 cl9 hV.1 (by decide) (Or.inl (iw_2 0 rfl)) (Or.inl rfl) rfl hV.2.2.2 ?_
  refine g_getI (f := 3) dX8_had_8 cl8 hq.1 (by decide) (Or.inr (List.mem_of_getElem? (i := 9) rfl)) (Or.inl rfl) (Or.inl rfl) ?_
  rw [hh]
  refine g_iconst (v := (-1)) dX8_had_11 (by decide) ?_
  refine g_icmp_ne (tgt := 25) dX8_had_12 (by decide) (fun c_12 => ?_) (fun c_12 => ?_)
  · skip
    have e : hdZ σ p = (0, zN σ (pl p)) := by unfold hdZ; rw [if_pos ⟨hP, c_12⟩]
    rw [e]
    refine g_aload_n dX8_had_25 rfl ?_
    refine g_getR (f := 2) dX8_had_26 cl9 hV.1 (by decide) (Or.inl (iw_2 0 rfl)) (Or.inl rfl) rfl hV.2.2.2 ?_
    refine g_getR (f := 1) dX8_had_29 cl8 hq.1 (by decide) (Or.inr (List.mem_of_getElem? (i := 10) rfl)) (Or.inl rfl) rfl hq.2.2.1 ?_
    refine g_iload_n dX8_had_32 rfl ?_
    refine g_iaload dX8_had_33 (j := pl p) hq.2.2.2.1 hq.2.2.2.2 hP.eq hP.lt (by decide) ?_
    rw [hv (pl p) hP.lt]
    exact g_xr (g_iret dX8_had_34 (Or.inl rfl) (Nat.le_of_ble_eq_true rfl) (Nat.le_of_ble_eq_true rfl) ⟨rfl, rfl, Nat.le_refl _, ⟨d, E, hC0⟩, Rw.rf⟩)
  · skip
    exact g_throw (E := "java/lang/IndexOutOfBoundsException") (ik := 40) (is := 182) (ic := 44) rfl rfl (by decide) (iw_7 0 rfl) (iw_7 1 rfl) (List.mem_of_getElem? (i := 8) rfl) xg_44 xb_44 (xo_44_40) (by decide +kernel) dX8_had_15 dX8_had_18 dX8_had_19 dX8_had_21 dX8_had_24 (Nat.le_of_ble_eq_true rfl) (Nat.le_of_ble_eq_true rfl) (Nat.le_of_ble_eq_true rfl) (Nat.le_of_ble_eq_true rfl) (Nat.le_of_ble_eq_true rfl) (Nat.le_of_ble_eq_true rfl) (fun n1 hn1 => ⟨rfl, hn1, Or.inl ⟨by unfold hdZ; rw [if_neg (fun q => q.2 c_12)], rfl⟩⟩)

