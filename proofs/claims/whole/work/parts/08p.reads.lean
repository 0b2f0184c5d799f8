/-! end -/
set_option maxHeartbeats 4000000 in
set_option maxRecDepth 100000 in
theorem c_end (M : gM) (n w : Nat) (σ : MS) (x p k : Int32) (up : Bool) (hK : kW M w σ) : GX μX8_end 7 121 4 24 [.ref w, .int x, .int p, .int k, .int (bI up)] M n (yO M n w σ (enZ σ x p k up).1 (.int (iZ (enZ σ x p k up).2))) (yX M n (enZ σ x p k up).1 "java/lang/IndexOutOfBoundsException" "java/lang/IllegalStateException" "") := by
  refine GX.ofW (by decide) rfl (Nat.le_of_ble_eq_true rfl) rfl ?_
  obtain ⟨d, E, hC⟩ := hK
  have hC0 := hC
  obtain ⟨hV, hq, hok, h3, hh, hv, hF, hW, hR, hd, h2⟩ := hC
  refine g_aload_n dX8_end_0 rfl ?_
  refine g_iload_n dX8_end_1 rfl ?_
  refine g_callVX rfl dX8_end_2 sX8_requireStatement (c_reqStat M n w d (zP σ).length E x hV.1 hV.2.1 hW.1 hW.2.2.1) cl9 hV.1 iX8_requireStatement vX8_requireStatement (iw_31 15 rfl) rfl rfl (Nat.le_of_ble_eq_true rfl) (Nat.le_of_ble_eq_true rfl) (Nat.le_of_ble_eq_true rfl) (Nat.le_of_ble_eq_true rfl) (Nat.le_of_ble_eq_true rfl) (fun E M1 n1 h => ⟨h.2.1, h.2.2.1, Or.inl ⟨by unfold enZ; rw [if_pos (Or.inl h.2.2.2)], h.1⟩⟩) (Nat.le_of_ble_eq_true rfl) (Nat.le_of_ble_eq_true rfl) ?_
  intro r9 M9 n9 h9
  obtain ⟨h91, h92, h93, hN⟩ := h9
  rw [h91, h92, h93]
  clear h91 h92 h93 r9 M9 n9
  have hlt : pl x < (zP σ).length := isN_pl hN
  have hQ := (hW.2.2.2.2.2.2.1 (pl x) hlt).1
  refine g_iload_n dX8_end_5 rfl ?_
  refine g_callSX rfl dX8_end_6 sX8_requirePlace (c_reqPlace M n p) tX8_requirePlace (iw_13 20 rfl) rfl rfl (Nat.le_of_ble_eq_true rfl) (Nat.le_of_ble_eq_true rfl) (Nat.le_of_ble_eq_true rfl) (Nat.le_of_ble_eq_true rfl) (Nat.le_of_ble_eq_true rfl) (fun E M1 n1 h => ⟨h.2.1, h.2.2.1, Or.inl ⟨by unfold enZ; rw [if_pos (Or.inr h.2.2.2)], h.1⟩⟩) (Nat.le_of_ble_eq_true rfl) (Nat.le_of_ble_eq_true rfl) ?_
  intro r9 M9 n9 h9
  obtain ⟨h91, h92, h93, hP⟩ := h9
  rw [h91, h92, h93]
  clear h91 h92 h93 r9 M9 n9
  have hA : ¬ (¬ isT σ x ∨ ¬ isP p) := fun q => q.elim (fun z => z hN) (fun z => z hP)
  refine g_aload_n dX8_end_9 rfl ?_
  refine g_callVX rfl dX8_end_10 sX8_requireSolved (c_reqSolved M n w (zR σ) hV.1 h3) cl9 hV.1 iX8_requireSolved vX8_requireSolved (iw_31 20 rfl) rfl rfl (Nat.le_of_ble_eq_true rfl) (Nat.le_of_ble_eq_true rfl) (Nat.le_of_ble_eq_true rfl) (Nat.le_of_ble_eq_true rfl) (Nat.le_of_ble_eq_true rfl) (fun E M1 n1 h => ⟨h.2.1, h.2.2.1, Or.inr (Or.inl ⟨by unfold enZ; rw [if_neg hA, if_pos h.2.2.2], h.1⟩)⟩) (Nat.le_of_ble_eq_true rfl) (Nat.le_of_ble_eq_true rfl) ?_
  intro r9 M9 n9 h9
  obtain ⟨h91, h92, h93, hs⟩ := h9
  rw [h91, h92, h93]
  clear h91 h92 h93 r9 M9 n9
  have hzR : ¬ zR σ = false := by rw [hs]; exact fun q => by cases q
  obtain ⟨⟨st9, hf⟩, hr5, hr6, hr7⟩ := hR hs
  refine g_aload_n dX8_end_13 rfl ?_
  refine g_getR (f := 0) dX8_end_14 cl9 hV.1 (by decide) (Or.inl (iw_1 16 rfl)) (Or.inl rfl) rfl hV.2.1 ?_
  refine g_getR (f := 0) dX8_end_17 cl2 hW.1.1 (by decide) (Or.inr (List.mem_of_getElem? (i := 11) rfl)) (Or.inl rfl) rfl hW.1.2.1 ?_
  refine g_iload_n dX8_end_20 rfl ?_
  refine g_callV dX8_end_21 sJx4a65c_get_915e3 (j_getX M n (w + 2) d (zP σ).length x E hW.2.2.1 hN) cl0 hW.2.2.1.1 iJx4a65c_get_915e3 vJx4a65c_get_915e3 (iw_32 2 rfl) rfl rfl (Nat.le_of_ble_eq_true rfl) (Nat.le_of_ble_eq_true rfl) (Nat.le_of_ble_eq_true rfl) (Nat.le_of_ble_eq_true rfl) (Nat.le_of_ble_eq_true rfl) ?_
  intro r9 M9 n9 h9
  obtain ⟨h91, h92, h93⟩ := h9
  rw [h91, h92, h93]
  clear h91 h92 h93 r9 M9 n9
  refine g_castSt dX8_end_24 (iw_31 14 rfl) hQ.1 ?_
  refine g_astore dX8_end_27 (Nat.le_of_ble_eq_true rfl) ?_
  refine g_aload dX8_end_29 rfl ?_
  refine g_getR (f := 4) dX8_end_31 cl5 hQ.1 (by decide) (Or.inr (List.mem_of_getElem? (i := 1) rfl)) (Or.inl rfl) rfl hQ.2.2.2.2.2.1 ?_
  refine g_iload_n dX8_end_34 rfl ?_
  refine g_aaloadS dX8_end_35 (j := pl p) hQ.2.2.2.2.2.2.1 hQ.2.2.2.2.2.2.2.1 hP.eq hP.lt (by decide) (hQ.2.2.2.2.2.2.2.2 (pl p) hP.lt).1 ?_
  refine g_astore dX8_end_36 (Nat.le_of_ble_eq_true rfl) ?_
  refine g_aload dX8_end_38 rfl ?_
  refine g_getI (f := 6) dX8_end_40 cl5 hQ.1 (by decide) (Or.inr (List.mem_of_getElem? (i := 0) rfl)) (Or.inl rfl) (Or.inr rfl) ?_
  rw [(hf (pl x) hlt).1]
  refine g_if_eq (tgt := 59) dX8_end_43 (by decide) (fun c_43 => ?_) (fun c_43 => ?_)
  · skip
    exact g_throw (E := "java/lang/IndexOutOfBoundsException") (ik := 40) (is := 124) (ic := 44) rfl rfl (by decide) (iw_7 0 rfl) (iw_7 1 rfl) (List.mem_of_getElem? (i := 4) rfl) xg_44 xb_44 (xo_44_40) (by decide +kernel) dX8_end_59 dX8_end_62 dX8_end_63 dX8_end_65 dX8_end_68 (Nat.le_of_ble_eq_true rfl) (Nat.le_of_ble_eq_true rfl) (Nat.le_of_ble_eq_true rfl) (Nat.le_of_ble_eq_true rfl) (Nat.le_of_ble_eq_true rfl) (Nat.le_of_ble_eq_true rfl) (fun n1 hn1 => ⟨rfl, hn1, Or.inl ⟨(by
      unfold enZ
      rw [if_neg hA, if_neg hzR, if_pos (by
        first
        | (rw [i_lt, nI_t (by omega)] at c_56; exact Or.inr (fun q => by omega))
        | (rw [i_lt, t_0] at c_47; exact Or.inr (fun q => by omega))
        | (rw [bI_eq0] at c_43; exact Or.inl c_43))]), rfl⟩⟩)
  · skip
    have hkn : aR (zA σ) (pl x) = true := by rw [bI_eq0, Bool.not_eq_false] at c_43; exact c_43
    have hcS := ((hf (pl x) hlt).2.2.2 hkn).2 (pl p) hP.lt
    have hl2 : (aF (zA σ) (pl x) (pl p)).length ≤ 2 := hcS.2.1.2.1
    refine g_iload_n dX8_end_46 rfl ?_
    refine g_if_lt (tgt := 59) dX8_end_47 (by decide) (fun c_47 => ?_) (fun c_47 => ?_)
    · skip
      exact g_throw (E := "java/lang/IndexOutOfBoundsException") (ik := 40) (is := 124) (ic := 44) rfl rfl (by decide) (iw_7 0 rfl) (iw_7 1 rfl) (List.mem_of_getElem? (i := 4) rfl) xg_44 xb_44 (xo_44_40) (by decide +kernel) dX8_end_59 dX8_end_62 dX8_end_63 dX8_end_65 dX8_end_68 (Nat.le_of_ble_eq_true rfl) (Nat.le_of_ble_eq_true rfl) (Nat.le_of_ble_eq_true rfl) (Nat.le_of_ble_eq_true rfl) (Nat.le_of_ble_eq_true rfl) (Nat.le_of_ble_eq_true rfl) (fun n1 hn1 => ⟨rfl, hn1, Or.inl ⟨(by
        unfold enZ
        rw [if_neg hA, if_neg hzR, if_pos (by
          first
          | (rw [i_lt, nI_t (by omega)] at c_56; exact Or.inr (fun q => by omega))
          | (rw [i_lt, t_0] at c_47; exact Or.inr (fun q => by omega))
          | (rw [bI_eq0] at c_43; exact Or.inl c_43))]), rfl⟩⟩)
    · skip
      refine g_iload_n dX8_end_50 rfl ?_
      refine g_aload dX8_end_51 rfl ?_
      refine g_getI (f := 0) dX8_end_53 cl4 (hQ.2.2.2.2.2.2.2.2 (pl p) hP.lt).2 (by decide) (Or.inr (List.mem_of_getElem? (i := 2) rfl)) (Or.inl rfl) (Or.inl rfl) ?_
      rw [hcS.2.2.1]
      refine g_icmp_lt (tgt := 69) dX8_end_56 (by decide) (fun c_56 => ?_) (fun c_56 => ?_)
      · skip
        have hk0 : 0 ≤ k.toInt := by rw [i_lt, t_0] at c_47; omega
        have hkl : k.toInt < ((aF (zA σ) (pl x) (pl p)).length : Int) := by rw [i_lt, nI_t (by omega)] at c_56; exact c_56
        have hkp : pl k < (aF (zA σ) (pl x) (pl p)).length := by have e9 : pl k = k.toInt.toNat := rfl; omega
        have e : enZ σ x p k up = (0, if up = true then ((aF (zA σ) (pl x) (pl p)).getD (pl k) (0, 0)).2 else ((aF (zA σ) (pl x) (pl p)).getD (pl k) (0, 0)).1) := by
          unfold enZ
          rw [if_neg hA, if_neg hzR, if_neg (fun q => q.elim (fun z => by rw [hkn] at z; cases z) (fun z => z ⟨hk0, by omega⟩))]
        rw [e]
        clear e
        refine g_iload dX8_end_69 rfl ?_
        refine g_if_eq (tgt := 83) dX8_end_71 (by decide) (fun c_71 => ?_) (fun c_71 => ?_)
        · skip
          refine g_aload dX8_end_83 rfl ?_
          refine g_iload_n dX8_end_85 rfl ?_
          refine g_callV dX8_end_86 sX3_low (c_lowX M n (E (pl x) + 1 + 1 + pl p) k _ hcS hk0 hkp) cl4 (hQ.2.2.2.2.2.2.2.2 (pl p) hP.lt).2 iX3_low vX3_low (iw_33 6 rfl) rfl rfl (Nat.le_of_ble_eq_true rfl) (Nat.le_of_ble_eq_true rfl) (Nat.le_of_ble_eq_true rfl) (Nat.le_of_ble_eq_true rfl) (Nat.le_of_ble_eq_true rfl) ?_
          intro r9 M9 n9 h9
          obtain ⟨h91, h92, h93⟩ := h9
          rw [h91, h92, h93]
          clear h91 h92 h93 r9 M9 n9
          exact g_xr (g_iret dX8_end_89 (Or.inl rfl) (Nat.le_of_ble_eq_true rfl) (Nat.le_of_ble_eq_true rfl) (by
            first
            | (rw [if_pos (by rw [bI_eq0, Bool.not_eq_false] at c_71; exact c_71)]; exact ⟨rfl, rfl, Nat.le_refl _, ⟨d, E, hC0⟩, Rw.rf⟩)
            | (rw [if_neg (by rw [bI_eq0] at c_71; rw [c_71]; exact fun q => by cases q)]; exact ⟨rfl, rfl, Nat.le_refl _, ⟨d, E, hC0⟩, Rw.rf⟩)))
        · skip
          refine g_aload dX8_end_74 rfl ?_
          refine g_iload_n dX8_end_76 rfl ?_
          refine g_callV dX8_end_77 sX3_high (c_highX M n (E (pl x) + 1 + 1 + pl p) k _ hcS hk0 hkp) cl4 (hQ.2.2.2.2.2.2.2.2 (pl p) hP.lt).2 iX3_high vX3_high (iw_33 5 rfl) rfl rfl (Nat.le_of_ble_eq_true rfl) (Nat.le_of_ble_eq_true rfl) (Nat.le_of_ble_eq_true rfl) (Nat.le_of_ble_eq_true rfl) (Nat.le_of_ble_eq_true rfl) ?_
          intro r9 M9 n9 h9
          obtain ⟨h91, h92, h93⟩ := h9
          rw [h91, h92, h93]
          clear h91 h92 h93 r9 M9 n9
          refine g_goto (tgt := 89) dX8_end_80 (by decide) ?_
          exact g_xr (g_iret dX8_end_89 (Or.inl rfl) (Nat.le_of_ble_eq_true rfl) (Nat.le_of_ble_eq_true rfl) (by
            first
            | (rw [if_pos (by rw [bI_eq0, Bool.not_eq_false] at c_71; exact c_71)]; exact ⟨rfl, rfl, Nat.le_refl _, ⟨d, E, hC0⟩, Rw.rf⟩)
            | (rw [if_neg (by rw [bI_eq0] at c_71; rw [c_71]; exact fun q => by cases q)]; exact ⟨rfl, rfl, Nat.le_refl _, ⟨d, E, hC0⟩, Rw.rf⟩)))
      · skip
        exact g_throw (E := "java/lang/IndexOutOfBoundsException") (ik := 40) (is := 124) (ic := 44) rfl rfl (by decide) (iw_7 0 rfl) (iw_7 1 rfl) (List.mem_of_getElem? (i := 4) rfl) xg_44 xb_44 (xo_44_40) (by decide +kernel) dX8_end_59 dX8_end_62 dX8_end_63 dX8_end_65 dX8_end_68 (Nat.le_of_ble_eq_true rfl) (Nat.le_of_ble_eq_true rfl) (Nat.le_of_ble_eq_true rfl) (Nat.le_of_ble_eq_true rfl) (Nat.le_of_ble_eq_true rfl) (Nat.le_of_ble_eq_true rfl) (fun n1 hn1 => ⟨rfl, hn1, Or.inl ⟨(by
          unfold enZ
          rw [if_neg hA, if_neg hzR, if_pos (by
            first
            | (rw [i_lt, nI_t (by omega)] at c_56; exact Or.inr (fun q => by omega))
            | (rw [i_lt, t_0] at c_47; exact Or.inr (fun q => by omega))
            | (rw [bI_eq0] at c_43; exact Or.inl c_43))]), rfl⟩⟩)

