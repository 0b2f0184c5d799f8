/-! the class: one step of a trial, and all -/
def dnN (s : St) (a : Nat) (l : Int) (now : Nat → Int32) : Int32 := if s.1 = 19 then nI 40 else if (stZ s a l now).2.2.2 = 1 then -1 else nI (stZ s a l now).1
theorem vI.put {M M1 : gM} {q a : Nat} {l : Int} {now : Nat → Int32} {x : Int32} (h : vI M M1 q l now) (ha : a < 8) : vI M (stI M1 (q + 1) a x) q l (up1 now a x) := by
  obtain ⟨h1, h2, h3, h4⟩ := h
  refine ⟨h1.stI (Or.inr rfl), h2, h3, fun p hp => ?_⟩
  rw [mI_st]
  by_cases e : p = a
  · rw [if_pos ⟨rfl, e⟩, e, up1_eq]
  · rw [if_neg (fun z => e z.2), up1_ne _ _ e]; exact h4 p hp
theorem vI.link {M M1 : gM} {q : Nat} {l l1 : Int} {now : Nat → Int32} (h : vI M M1 q l now) (h1 : okK l1) : vI M (stJ M1 q 2 (jI l1)) q l1 now := by
  obtain ⟨g1, g2, g3, g4⟩ := h
  refine ⟨g1.stJ (Or.inl ⟨rfl, Or.inl rfl⟩), ?_, h1, fun p hp => ?_⟩
  · rw [mJ_st, if_pos ⟨rfl, rfl⟩]
  · rw [mI_sJ]; exact g4 p hp
set_option maxHeartbeats 4000000 in
set_option maxRecDepth 100000 in
theorem c_doOne (M M1 : gM) (n q p e a : Nat) (s : St) (l : Int) (now : Nat → Int32) (hq0 : qR M q p) (hs0 : sQ M e s) (hv : vS s) (hne : e ≠ q ∧ e ≠ q + 1) (hI : vI M M1 q l now) : GM μX7_doOne 2 45 0 0 [.ref q, .ref e, .int (nI (a + 1))] M1 n (fun r M2 n1 => r = some (.int (dnN s a l now)) ∧ n1 = n ∧ vI M M2 q (stZ s a l now).2.1 (stZ s a l now).2.2.1) := by
  refine GM.ofW (by decide) rfl (Nat.le_of_ble_eq_true rfl) rfl ?_
  have h19 := hv.1
  have hq := hq0.off hI.1
  have hs := hs0.off hI.1 (fun k _ z => by unfold fQ at z; omega)
  obtain ⟨-, hl, h0, hn⟩ := id hI
  refine g_aload_n dX7_doOne_0 rfl ?_
  refine g_getI (f := 0) dX7_doOne_1 cl5 hs.1 (by decide) (Or.inr (List.mem_of_getElem? (i := 37) rfl)) (Or.inl rfl) (Or.inl rfl) ?_
  rw [hs.2.1]
  refine g_bipush (v := nI 19) dX7_doOne_4 rfl ?_
  refine g_icmp_ne (tgt := 12) dX7_doOne_6 (by decide) (fun c_6 => ?_) (fun c_6 => ?_)
  · skip
    rw [nI_inj (by omega) (by omega)] at c_6
    refine g_aload_n dX7_doOne_12 rfl ?_
    refine g_getI (f := 0) dX7_doOne_13 cl5 hs.1 (by decide) (Or.inr (List.mem_of_getElem? (i := 37) rfl)) (Or.inl rfl) (Or.inl rfl) ?_
    rw [hs.2.1]
    refine g_bipush (v := nI 18) dX7_doOne_16 rfl ?_
    refine g_icmp_ne (tgt := 26) dX7_doOne_18 (by decide) (fun c_18 => ?_) (fun c_18 => ?_)
    · skip
      rw [nI_inj (by omega) (by omega)] at c_18
      refine g_aload_n dX7_doOne_26 rfl ?_
      refine g_getI (f := 0) dX7_doOne_27 cl5 hs.1 (by decide) (Or.inr (List.mem_of_getElem? (i := 37) rfl)) (Or.inl rfl) (Or.inl rfl) ?_
      rw [hs.2.1]
      refine g_callSN dX7_doOne_30 sX8_isCondition (c_isCond M1 n s.1 h19) tX8_isCondition (List.mem_of_getElem? (i := 16) rfl) rfl rfl (Nat.le_of_ble_eq_true rfl) (Nat.le_of_ble_eq_true rfl) (Nat.le_of_ble_eq_true rfl) (Nat.le_of_ble_eq_true rfl) (Nat.le_of_ble_eq_true rfl) ?_
      intro r9 M9 n9 h9
      obtain ⟨h91, h92, h93⟩ := h9
      rw [h91, h92, h93]
      clear h91 h92 h93 r9 M9 n9
      refine g_if_eq (tgt := 76) dX7_doOne_33 (by decide) (fun c_33 => ?_) (fun c_33 => ?_)
      · skip
        have t := dF c_33
        refine g_aload_n dX7_doOne_76 rfl ?_
        refine g_getI (f := 0) dX7_doOne_77 cl5 hs.1 (by decide) (Or.inr (List.mem_of_getElem? (i := 37) rfl)) (Or.inl rfl) (Or.inl rfl) ?_
        rw [hs.2.1]
        refine g_bipush (v := nI 7) dX7_doOne_80 rfl ?_
        refine g_icmp_eq (tgt := 94) dX7_doOne_82 (by decide) (fun c_82 => ?_) (fun c_82 => ?_)
        · skip
          have h78 : s.1 = 7 ∨ s.1 = 8 := by
            first
              | (rw [nI_inj (by omega) (by omega)] at c_91; omega)
              | (rw [nI_inj (by omega) (by omega)] at c_82; omega)
          have ha := hv.2.1 (by omega)
          have hb := hv.2.2.1 (by omega)
          have hc := hv.2.2.2.1 (by omega)
          have ab : atP now s.2.2.1 = now (pl s.2.2.1) := by unfold atP; rw [if_pos hb]
          have ac : atP now s.2.2.2 = now (pl s.2.2.2) := by unfold atP; rw [if_pos hc]
          refine g_aload_n dX7_doOne_94 rfl ?_
          refine g_getR (f := 1) dX7_doOne_95 cl8 hq.1 (by decide) (Or.inl (iw_5 13 rfl)) (Or.inl rfl) rfl hq.2.2.1 ?_
          refine g_aload_n dX7_doOne_98 rfl ?_
          refine g_getI (f := 3) dX7_doOne_99 cl5 hs.1 (by decide) (Or.inr (List.mem_of_getElem? (i := 32) rfl)) (Or.inl rfl) (Or.inl rfl) ?_
          rw [hs.2.2.2.2.1]
          refine g_iaload dX7_doOne_102 (j := pl s.2.2.2) hq.2.2.2.1 hq.2.2.2.2 hc.eq hc.lt (by decide) ?_
          rw [hn _ hc.lt]
          refine g_istore_n dX7_doOne_103 (Nat.le_of_ble_eq_true rfl) ?_
          refine g_iload_n dX7_doOne_104 rfl ?_
          refine g_if_ne (tgt := 110) dX7_doOne_105 (by decide) (fun c_105 => ?_) (fun c_105 => ?_)
          · skip
            have ez : stZ s a l now = (a + 1, l, up1 now (pl s.2.1) (vV s (now (pl s.2.2.1)) (now (pl s.2.2.2)) l), -1) := by unfold stZ; rw [if_neg c_6, if_neg c_18, if_neg (show ¬ 11 ≤ s.1 by omega), if_neg (fun z => c_105 (by rw [← ac]; exact z.2)), if_neg (show ¬ s.1 = 10 by omega), ab, ac]
            refine g_aload_n dX7_doOne_110 rfl ?_
            refine g_getR (f := 1) dX7_doOne_111 cl8 hq.1 (by decide) (Or.inl (iw_5 13 rfl)) (Or.inl rfl) rfl hq.2.2.1 ?_
            refine g_aload_n dX7_doOne_114 rfl ?_
            refine g_getI (f := 1) dX7_doOne_115 cl5 hs.1 (by decide) (Or.inr (List.mem_of_getElem? (i := 38) rfl)) (Or.inl rfl) (Or.inl rfl) ?_
            rw [hs.2.2.1]
            refine g_aload_n dX7_doOne_118 rfl ?_
            refine g_getI (f := 0) dX7_doOne_119 cl5 hs.1 (by decide) (Or.inr (List.mem_of_getElem? (i := 37) rfl)) (Or.inl rfl) (Or.inl rfl) ?_
            rw [hs.2.1]
            refine g_bipush (v := nI 7) dX7_doOne_122 rfl ?_
            refine g_icmp_ne (tgt := 141) dX7_doOne_124 (by decide) (fun c_124 => ?_) (fun c_124 => ?_)
            · skip
              rw [nI_inj (by omega) (by omega)] at c_124
              refine g_aload_n dX7_doOne_141 rfl ?_
              refine g_getR (f := 1) dX7_doOne_142 cl8 hq.1 (by decide) (Or.inl (iw_5 13 rfl)) (Or.inl rfl) rfl hq.2.2.1 ?_
              refine g_aload_n dX7_doOne_145 rfl ?_
              refine g_getI (f := 2) dX7_doOne_146 cl5 hs.1 (by decide) (Or.inr (List.mem_of_getElem? (i := 39) rfl)) (Or.inl rfl) (Or.inl rfl) ?_
              rw [hs.2.2.2.1]
              refine g_iaload dX7_doOne_149 (j := pl s.2.2.1) hq.2.2.2.1 hq.2.2.2.2 hb.eq hb.lt (by decide) ?_
              rw [hn _ hb.lt]
              refine g_iload_n dX7_doOne_150 rfl ?_
              refine g_irem dX7_doOne_151 c_105 ?_
              first
                | rw [i_div, show iZ ((now (pl s.2.2.1)).toInt.tdiv (now (pl s.2.2.2)).toInt) = vV s (now (pl s.2.2.1)) (now (pl s.2.2.2)) l by unfold vV; rw [if_neg (show ¬ s.1 = 0 by omega), if_neg (show ¬ s.1 = 1 by omega), if_neg (show ¬ s.1 = 2 by omega), if_neg (show ¬ s.1 = 3 by omega), if_neg (show ¬ s.1 = 4 by omega), if_neg (show ¬ s.1 = 5 by omega), if_neg (show ¬ s.1 = 6 by omega), if_pos c_124]]
                | rw [i_mod, show iZ ((now (pl s.2.2.1)).toInt.tmod (now (pl s.2.2.2)).toInt) = vV s (now (pl s.2.2.1)) (now (pl s.2.2.2)) l by unfold vV; rw [if_neg (show ¬ s.1 = 0 by omega), if_neg (show ¬ s.1 = 1 by omega), if_neg (show ¬ s.1 = 2 by omega), if_neg (show ¬ s.1 = 3 by omega), if_neg (show ¬ s.1 = 4 by omega), if_neg (show ¬ s.1 = 5 by omega), if_neg (show ¬ s.1 = 6 by omega), if_neg (show ¬ s.1 = 7 by omega), if_pos (show s.1 = 8 by omega)]]
              refine g_iastore dX7_doOne_152 (j := pl s.2.1) hq.2.2.2.1 hq.2.2.2.2 ha.eq ha.lt (by decide) ?_
              refine g_iload_n dX7_doOne_153 rfl ?_
              exact g_iret dX7_doOne_154 (Or.inl rfl) (Nat.le_of_ble_eq_true rfl) (Nat.le_of_ble_eq_true rfl) ⟨by unfold dnN; rw [if_neg c_6, ez, if_neg (show ¬ ((-1 : Int32) = 1) by decide)], rfl, by rw [ez]; exact hI.put ha.lt⟩
            · skip
              rw [nI_inj (by omega) (by omega)] at c_124
              refine g_aload_n dX7_doOne_127 rfl ?_
              refine g_getR (f := 1) dX7_doOne_128 cl8 hq.1 (by decide) (Or.inl (iw_5 13 rfl)) (Or.inl rfl) rfl hq.2.2.1 ?_
              refine g_aload_n dX7_doOne_131 rfl ?_
              refine g_getI (f := 2) dX7_doOne_132 cl5 hs.1 (by decide) (Or.inr (List.mem_of_getElem? (i := 39) rfl)) (Or.inl rfl) (Or.inl rfl) ?_
              rw [hs.2.2.2.1]
              refine g_iaload dX7_doOne_135 (j := pl s.2.2.1) hq.2.2.2.1 hq.2.2.2.2 hb.eq hb.lt (by decide) ?_
              rw [hn _ hb.lt]
              refine g_iload_n dX7_doOne_136 rfl ?_
              refine g_idiv dX7_doOne_137 c_105 ?_
              refine g_goto (tgt := 152) dX7_doOne_138 (by decide) ?_
              first
                | rw [i_div, show iZ ((now (pl s.2.2.1)).toInt.tdiv (now (pl s.2.2.2)).toInt) = vV s (now (pl s.2.2.1)) (now (pl s.2.2.2)) l by unfold vV; rw [if_neg (show ¬ s.1 = 0 by omega), if_neg (show ¬ s.1 = 1 by omega), if_neg (show ¬ s.1 = 2 by omega), if_neg (show ¬ s.1 = 3 by omega), if_neg (show ¬ s.1 = 4 by omega), if_neg (show ¬ s.1 = 5 by omega), if_neg (show ¬ s.1 = 6 by omega), if_pos c_124]]
                | rw [i_mod, show iZ ((now (pl s.2.2.1)).toInt.tmod (now (pl s.2.2.2)).toInt) = vV s (now (pl s.2.2.1)) (now (pl s.2.2.2)) l by unfold vV; rw [if_neg (show ¬ s.1 = 0 by omega), if_neg (show ¬ s.1 = 1 by omega), if_neg (show ¬ s.1 = 2 by omega), if_neg (show ¬ s.1 = 3 by omega), if_neg (show ¬ s.1 = 4 by omega), if_neg (show ¬ s.1 = 5 by omega), if_neg (show ¬ s.1 = 6 by omega), if_neg (show ¬ s.1 = 7 by omega), if_pos (show s.1 = 8 by omega)]]
              refine g_iastore dX7_doOne_152 (j := pl s.2.1) hq.2.2.2.1 hq.2.2.2.2 ha.eq ha.lt (by decide) ?_
              refine g_iload_n dX7_doOne_153 rfl ?_
              exact g_iret dX7_doOne_154 (Or.inl rfl) (Nat.le_of_ble_eq_true rfl) (Nat.le_of_ble_eq_true rfl) ⟨by unfold dnN; rw [if_neg c_6, ez, if_neg (show ¬ ((-1 : Int32) = 1) by decide)], rfl, by rw [ez]; exact hI.put ha.lt⟩
          · skip
            have ez : stZ s a l now = (a, l, now, 1) := by unfold stZ; rw [if_neg c_6, if_neg c_18, if_neg (show ¬ 11 ≤ s.1 by omega), if_pos ⟨h78, by rw [ac]; exact c_105⟩]
            refine g_iconst (v := (-1)) dX7_doOne_108 (by decide) ?_
            exact g_iret dX7_doOne_109 (Or.inl rfl) (Nat.le_of_ble_eq_true rfl) (Nat.le_of_ble_eq_true rfl) ⟨by unfold dnN; rw [if_neg c_6, ez, if_pos rfl], rfl, by rw [ez]; exact hI⟩
        · skip
          rw [nI_inj (by omega) (by omega)] at c_82
          refine g_aload_n dX7_doOne_85 rfl ?_
          refine g_getI (f := 0) dX7_doOne_86 cl5 hs.1 (by decide) (Or.inr (List.mem_of_getElem? (i := 37) rfl)) (Or.inl rfl) (Or.inl rfl) ?_
          rw [hs.2.1]
          refine g_bipush (v := nI 8) dX7_doOne_89 rfl ?_
          refine g_icmp_ne (tgt := 155) dX7_doOne_91 (by decide) (fun c_91 => ?_) (fun c_91 => ?_)
          · skip
            rw [nI_inj (by omega) (by omega)] at c_91
            have ha := hv.2.1 (by omega)
            have ez : stZ s a l now = (a + 1, if s.1 = 10 then lk1 l else l, up1 now (pl s.2.1) (vV s (atP now s.2.2.1) (atP now s.2.2.2) l), -1) := by unfold stZ; rw [if_neg c_6, if_neg c_18, if_neg (show ¬ 11 ≤ s.1 by omega), if_neg (fun z => by have := z.1; omega)]
            refine g_aload_n dX7_doOne_155 rfl ?_
            refine g_getR (f := 1) dX7_doOne_156 cl8 hq.1 (by decide) (Or.inl (iw_5 13 rfl)) (Or.inl rfl) rfl hq.2.2.1 ?_
            refine g_aload_n dX7_doOne_159 rfl ?_
            refine g_getI (f := 1) dX7_doOne_160 cl5 hs.1 (by decide) (Or.inr (List.mem_of_getElem? (i := 38) rfl)) (Or.inl rfl) (Or.inl rfl) ?_
            rw [hs.2.2.1]
            refine g_aload_n dX7_doOne_163 rfl ?_
            refine g_aload_n dX7_doOne_164 rfl ?_
            refine g_callV dX7_doOne_165 sX7_resultOf (c_result M1 n q p e s l now hq hs hv hl h0 hn (by omega)) cl8 hq.1 iX7_resultOf vX7_resultOf (iw_37 8 rfl) rfl rfl (Nat.le_of_ble_eq_true rfl) (Nat.le_of_ble_eq_true rfl) (Nat.le_of_ble_eq_true rfl) (Nat.le_of_ble_eq_true rfl) (Nat.le_of_ble_eq_true rfl) ?_
            intro r9 M9 n9 h9
            obtain ⟨h91, h92, h93⟩ := h9
            rw [h91, h92, h93]
            clear h91 h92 h93 r9 M9 n9
            have hI2 : vI M (if s.1 = 10 then stJ M1 q 2 (jI (lk1 l)) else M1) q (if s.1 = 10 then lk1 l else l) now := by
              by_cases t10 : s.1 = 10
              · rw [if_pos t10, if_pos t10]; exact hI.link (lk1_ok l)
              · rw [if_neg t10, if_neg t10]; exact hI
            generalize (if s.1 = 10 then stJ M1 q 2 (jI (lk1 l)) else M1) = M2 at hI2 ⊢
            have hq2 := hq0.off hI2.1
            refine g_iastore dX7_doOne_168 (j := pl s.2.1) hq2.2.2.2.1 hq2.2.2.2.2 ha.eq ha.lt (by decide) ?_
            refine g_iload_n dX7_doOne_169 rfl ?_
            exact g_iret dX7_doOne_170 (Or.inl rfl) (Nat.le_of_ble_eq_true rfl) (Nat.le_of_ble_eq_true rfl) ⟨by unfold dnN; rw [if_neg c_6, ez, if_neg (show ¬ ((-1 : Int32) = 1) by decide)], rfl, by rw [ez]; exact hI2.put ha.lt⟩
          · skip
            have h78 : s.1 = 7 ∨ s.1 = 8 := by
              first
                | (rw [nI_inj (by omega) (by omega)] at c_91; omega)
                | (rw [nI_inj (by omega) (by omega)] at c_82; omega)
            have ha := hv.2.1 (by omega)
            have hb := hv.2.2.1 (by omega)
            have hc := hv.2.2.2.1 (by omega)
            have ab : atP now s.2.2.1 = now (pl s.2.2.1) := by unfold atP; rw [if_pos hb]
            have ac : atP now s.2.2.2 = now (pl s.2.2.2) := by unfold atP; rw [if_pos hc]
            refine g_aload_n dX7_doOne_94 rfl ?_
            refine g_getR (f := 1) dX7_doOne_95 cl8 hq.1 (by decide) (Or.inl (iw_5 13 rfl)) (Or.inl rfl) rfl hq.2.2.1 ?_
            refine g_aload_n dX7_doOne_98 rfl ?_
            refine g_getI (f := 3) dX7_doOne_99 cl5 hs.1 (by decide) (Or.inr (List.mem_of_getElem? (i := 32) rfl)) (Or.inl rfl) (Or.inl rfl) ?_
            rw [hs.2.2.2.2.1]
            refine g_iaload dX7_doOne_102 (j := pl s.2.2.2) hq.2.2.2.1 hq.2.2.2.2 hc.eq hc.lt (by decide) ?_
            rw [hn _ hc.lt]
            refine g_istore_n dX7_doOne_103 (Nat.le_of_ble_eq_true rfl) ?_
            refine g_iload_n dX7_doOne_104 rfl ?_
            refine g_if_ne (tgt := 110) dX7_doOne_105 (by decide) (fun c_105 => ?_) (fun c_105 => ?_)
            · skip
              have ez : stZ s a l now = (a + 1, l, up1 now (pl s.2.1) (vV s (now (pl s.2.2.1)) (now (pl s.2.2.2)) l), -1) := by unfold stZ; rw [if_neg c_6, if_neg c_18, if_neg (show ¬ 11 ≤ s.1 by omega), if_neg (fun z => c_105 (by rw [← ac]; exact z.2)), if_neg (show ¬ s.1 = 10 by omega), ab, ac]
              refine g_aload_n dX7_doOne_110 rfl ?_
              refine g_getR (f := 1) dX7_doOne_111 cl8 hq.1 (by decide) (Or.inl (iw_5 13 rfl)) (Or.inl rfl) rfl hq.2.2.1 ?_
              refine g_aload_n dX7_doOne_114 rfl ?_
              refine g_getI (f := 1) dX7_doOne_115 cl5 hs.1 (by decide) (Or.inr (List.mem_of_getElem? (i := 38) rfl)) (Or.inl rfl) (Or.inl rfl) ?_
              rw [hs.2.2.1]
              refine g_aload_n dX7_doOne_118 rfl ?_
              refine g_getI (f := 0) dX7_doOne_119 cl5 hs.1 (by decide) (Or.inr (List.mem_of_getElem? (i := 37) rfl)) (Or.inl rfl) (Or.inl rfl) ?_
              rw [hs.2.1]
              refine g_bipush (v := nI 7) dX7_doOne_122 rfl ?_
              refine g_icmp_ne (tgt := 141) dX7_doOne_124 (by decide) (fun c_124 => ?_) (fun c_124 => ?_)
              · skip
                rw [nI_inj (by omega) (by omega)] at c_124
                refine g_aload_n dX7_doOne_141 rfl ?_
                refine g_getR (f := 1) dX7_doOne_142 cl8 hq.1 (by decide) (Or.inl (iw_5 13 rfl)) (Or.inl rfl) rfl hq.2.2.1 ?_
                refine g_aload_n dX7_doOne_145 rfl ?_
                refine g_getI (f := 2) dX7_doOne_146 cl5 hs.1 (by decide) (Or.inr (List.mem_of_getElem? (i := 39) rfl)) (Or.inl rfl) (Or.inl rfl) ?_
                rw [hs.2.2.2.1]
                refine g_iaload dX7_doOne_149 (j := pl s.2.2.1) hq.2.2.2.1 hq.2.2.2.2 hb.eq hb.lt (by decide) ?_
                rw [hn _ hb.lt]
                refine g_iload_n dX7_doOne_150 rfl ?_
                refine g_irem dX7_doOne_151 c_105 ?_
                first
                  | rw [i_div, show iZ ((now (pl s.2.2.1)).toInt.tdiv (now (pl s.2.2.2)).toInt) = vV s (now (pl s.2.2.1)) (now (pl s.2.2.2)) l by unfold vV; rw [if_neg (show ¬ s.1 = 0 by omega), if_neg (show ¬ s.1 = 1 by omega), if_neg (show ¬ s.1 = 2 by omega), if_neg (show ¬ s.1 = 3 by omega), if_neg (show ¬ s.1 = 4 by omega), if_neg (show ¬ s.1 = 5 by omega), if_neg (show ¬ s.1 = 6 by omega), if_pos c_124]]
                  | rw [i_mod, show iZ ((now (pl s.2.2.1)).toInt.tmod (now (pl s.2.2.2)).toInt) = vV s (now (pl s.2.2.1)) (now (pl s.2.2.2)) l by unfold vV; rw [if_neg (show ¬ s.1 = 0 by omega), if_neg (show ¬ s.1 = 1 by omega), if_neg (show ¬ s.1 = 2 by omega), if_neg (show ¬ s.1 = 3 by omega), if_neg (show ¬ s.1 = 4 by omega), if_neg (show ¬ s.1 = 5 by omega), if_neg (show ¬ s.1 = 6 by omega), if_neg (show ¬ s.1 = 7 by omega), if_pos (show s.1 = 8 by omega)]]
                refine g_iastore dX7_doOne_152 (j := pl s.2.1) hq.2.2.2.1 hq.2.2.2.2 ha.eq ha.lt (by decide) ?_
                refine g_iload_n dX7_doOne_153 rfl ?_
                exact g_iret dX7_doOne_154 (Or.inl rfl) (Nat.le_of_ble_eq_true rfl) (Nat.le_of_ble_eq_true rfl) ⟨by unfold dnN; rw [if_neg c_6, ez, if_neg (show ¬ ((-1 : Int32) = 1) by decide)], rfl, by rw [ez]; exact hI.put ha.lt⟩
              · skip
                rw [nI_inj (by omega) (by omega)] at c_124
                refine g_aload_n dX7_doOne_127 rfl ?_
                refine g_getR (f := 1) dX7_doOne_128 cl8 hq.1 (by decide) (Or.inl (iw_5 13 rfl)) (Or.inl rfl) rfl hq.2.2.1 ?_
                refine g_aload_n dX7_doOne_131 rfl ?_
                refine g_getI (f := 2) dX7_doOne_132 cl5 hs.1 (by decide) (Or.inr (List.mem_of_getElem? (i := 39) rfl)) (Or.inl rfl) (Or.inl rfl) ?_
                rw [hs.2.2.2.1]
                refine g_iaload dX7_doOne_135 (j := pl s.2.2.1) hq.2.2.2.1 hq.2.2.2.2 hb.eq hb.lt (by decide) ?_
                rw [hn _ hb.lt]
                refine g_iload_n dX7_doOne_136 rfl ?_
                refine g_idiv dX7_doOne_137 c_105 ?_
                refine g_goto (tgt := 152) dX7_doOne_138 (by decide) ?_
                first
                  | rw [i_div, show iZ ((now (pl s.2.2.1)).toInt.tdiv (now (pl s.2.2.2)).toInt) = vV s (now (pl s.2.2.1)) (now (pl s.2.2.2)) l by unfold vV; rw [if_neg (show ¬ s.1 = 0 by omega), if_neg (show ¬ s.1 = 1 by omega), if_neg (show ¬ s.1 = 2 by omega), if_neg (show ¬ s.1 = 3 by omega), if_neg (show ¬ s.1 = 4 by omega), if_neg (show ¬ s.1 = 5 by omega), if_neg (show ¬ s.1 = 6 by omega), if_pos c_124]]
                  | rw [i_mod, show iZ ((now (pl s.2.2.1)).toInt.tmod (now (pl s.2.2.2)).toInt) = vV s (now (pl s.2.2.1)) (now (pl s.2.2.2)) l by unfold vV; rw [if_neg (show ¬ s.1 = 0 by omega), if_neg (show ¬ s.1 = 1 by omega), if_neg (show ¬ s.1 = 2 by omega), if_neg (show ¬ s.1 = 3 by omega), if_neg (show ¬ s.1 = 4 by omega), if_neg (show ¬ s.1 = 5 by omega), if_neg (show ¬ s.1 = 6 by omega), if_neg (show ¬ s.1 = 7 by omega), if_pos (show s.1 = 8 by omega)]]
                refine g_iastore dX7_doOne_152 (j := pl s.2.1) hq.2.2.2.1 hq.2.2.2.2 ha.eq ha.lt (by decide) ?_
                refine g_iload_n dX7_doOne_153 rfl ?_
                exact g_iret dX7_doOne_154 (Or.inl rfl) (Nat.le_of_ble_eq_true rfl) (Nat.le_of_ble_eq_true rfl) ⟨by unfold dnN; rw [if_neg c_6, ez, if_neg (show ¬ ((-1 : Int32) = 1) by decide)], rfl, by rw [ez]; exact hI.put ha.lt⟩
            · skip
              have ez : stZ s a l now = (a, l, now, 1) := by unfold stZ; rw [if_neg c_6, if_neg c_18, if_neg (show ¬ 11 ≤ s.1 by omega), if_pos ⟨h78, by rw [ac]; exact c_105⟩]
              refine g_iconst (v := (-1)) dX7_doOne_108 (by decide) ?_
              exact g_iret dX7_doOne_109 (Or.inl rfl) (Nat.le_of_ble_eq_true rfl) (Nat.le_of_ble_eq_true rfl) ⟨by unfold dnN; rw [if_neg c_6, ez, if_pos rfl], rfl, by rw [ez]; exact hI⟩
      · skip
        have t := dT c_33
        have ha := hv.2.1 (by omega)
        have hb := hv.2.2.1 (by omega)
        have ab : atP now s.2.2.1 = now (pl s.2.2.1) := by unfold atP; rw [if_pos hb]
        have ez : stZ s a l now = (if hlN (s.1 - 11) (now (pl s.2.1)).toInt (now (pl s.2.2.1)).toInt = true then pl s.2.2.2 else a + 1, l, now, -1) := by unfold stZ; rw [if_neg c_6, if_neg c_18, if_pos t.1, ab]
        have h40 := hv.2.2.2.2.2.2.2.2.1 (by omega)
        refine g_aload_n dX7_doOne_36 rfl ?_
        refine g_getI (f := 0) dX7_doOne_37 cl5 hs.1 (by decide) (Or.inr (List.mem_of_getElem? (i := 37) rfl)) (Or.inl rfl) (Or.inl rfl) ?_
        rw [hs.2.1]
        refine g_bipush (v := nI 11) dX7_doOne_40 rfl ?_
        refine g_isub dX7_doOne_42 ?_
        rw [nI_s (by omega)]
        refine g_aload_n dX7_doOne_43 rfl ?_
        refine g_getR (f := 1) dX7_doOne_44 cl8 hq.1 (by decide) (Or.inl (iw_5 13 rfl)) (Or.inl rfl) rfl hq.2.2.1 ?_
        refine g_aload_n dX7_doOne_47 rfl ?_
        refine g_getI (f := 1) dX7_doOne_48 cl5 hs.1 (by decide) (Or.inr (List.mem_of_getElem? (i := 38) rfl)) (Or.inl rfl) (Or.inl rfl) ?_
        rw [hs.2.2.1]
        refine g_iaload dX7_doOne_51 (j := pl s.2.1) hq.2.2.2.1 hq.2.2.2.2 ha.eq ha.lt (by decide) ?_
        rw [hn _ ha.lt]
        refine g_aload_n dX7_doOne_52 rfl ?_
        refine g_getR (f := 1) dX7_doOne_53 cl8 hq.1 (by decide) (Or.inl (iw_5 13 rfl)) (Or.inl rfl) rfl hq.2.2.1 ?_
        refine g_aload_n dX7_doOne_56 rfl ?_
        refine g_getI (f := 2) dX7_doOne_57 cl5 hs.1 (by decide) (Or.inr (List.mem_of_getElem? (i := 39) rfl)) (Or.inl rfl) (Or.inl rfl) ?_
        rw [hs.2.2.2.1]
        refine g_iaload dX7_doOne_60 (j := pl s.2.2.1) hq.2.2.2.1 hq.2.2.2.2 hb.eq hb.lt (by decide) ?_
        rw [hn _ hb.lt]
        refine g_callS dX7_doOne_61 sX7_isSo (c_isSo M1 n (s.1 - 11) (now (pl s.2.1)) (now (pl s.2.2.1)) (by omega)) tX7_isSo (iw_37 4 rfl) rfl rfl (Nat.le_of_ble_eq_true rfl) (Nat.le_of_ble_eq_true rfl) (Nat.le_of_ble_eq_true rfl) (Nat.le_of_ble_eq_true rfl) (Nat.le_of_ble_eq_true rfl) ?_
        intro r9 M9 n9 h9
        obtain ⟨h91, h92, h93⟩ := h9
        rw [h91, h92, h93]
        clear h91 h92 h93 r9 M9 n9
        refine g_if_eq (tgt := 74) dX7_doOne_64 (by decide) (fun c_64 => ?_) (fun c_64 => ?_)
        · skip
          refine g_iload_n dX7_doOne_74 rfl ?_
          exact g_iret dX7_doOne_75 (Or.inl rfl) (Nat.le_of_ble_eq_true rfl) (Nat.le_of_ble_eq_true rfl) (by
            refine ⟨?_, rfl, by rw [ez]; exact hI⟩
            unfold dnN
            rw [if_neg c_6, ez, if_neg (show ¬ ((-1 : Int32) = 1) by decide)]
            rw [bI_eq0] at c_64
            first
              | (rw [Bool.not_eq_false] at c_64; rw [if_pos c_64]; simp only; rw [← pl_eq h40.1])
              | (rw [if_neg (by rw [c_64]; decide)]))
        · skip
          refine g_aload_n dX7_doOne_67 rfl ?_
          refine g_getI (f := 3) dX7_doOne_68 cl5 hs.1 (by decide) (Or.inr (List.mem_of_getElem? (i := 32) rfl)) (Or.inl rfl) (Or.inl rfl) ?_
          rw [hs.2.2.2.2.1]
          refine g_goto (tgt := 75) dX7_doOne_71 (by decide) ?_
          exact g_iret dX7_doOne_75 (Or.inl rfl) (Nat.le_of_ble_eq_true rfl) (Nat.le_of_ble_eq_true rfl) (by
            refine ⟨?_, rfl, by rw [ez]; exact hI⟩
            unfold dnN
            rw [if_neg c_6, ez, if_neg (show ¬ ((-1 : Int32) = 1) by decide)]
            rw [bI_eq0] at c_64
            first
              | (rw [Bool.not_eq_false] at c_64; rw [if_pos c_64]; simp only; rw [← pl_eq h40.1])
              | (rw [if_neg (by rw [c_64]; decide)]))
    · skip
      rw [nI_inj (by omega) (by omega)] at c_18
      have ez : stZ s a l now = (pl s.2.1, l, now, -1) := by unfold stZ; rw [if_neg c_6, if_pos c_18]
      have h40 := hv.2.2.2.2.2.2.2.2.2 c_18
      refine g_aload_n dX7_doOne_21 rfl ?_
      refine g_getI (f := 1) dX7_doOne_22 cl5 hs.1 (by decide) (Or.inr (List.mem_of_getElem? (i := 38) rfl)) (Or.inl rfl) (Or.inl rfl) ?_
      rw [hs.2.2.1]
      exact g_iret dX7_doOne_25 (Or.inl rfl) (Nat.le_of_ble_eq_true rfl) (Nat.le_of_ble_eq_true rfl) ⟨by unfold dnN; rw [if_neg c_6, ez, if_neg (show ¬ ((-1 : Int32) = 1) by decide)]; rw [← pl_eq h40.1], rfl, by rw [ez]; exact hI⟩
  · skip
    rw [nI_inj (by omega) (by omega)] at c_6
    have ez : stZ s a l now = (a, l, now, 0) := by unfold stZ; rw [if_pos c_6]
    refine g_bipush (v := nI 40) dX7_doOne_9 rfl ?_
    exact g_iret dX7_doOne_11 (Or.inl rfl) (Nat.le_of_ble_eq_true rfl) (Nat.le_of_ble_eq_true rfl) ⟨by unfold dnN; rw [if_pos c_6], rfl, by rw [ez]; exact hI⟩

theorem wtK_no {F : Ev} {now : Nat → Int32} {b : Bool} : ∀ {j k : Nat}, wtK F now b j = false → j ≤ k → wtK F now b k = false
  | j, 0, h, hk => by rw [show (0 : Nat) = j by omega]; exact h
  | j, k + 1, h, hk => by
    by_cases e : j = k + 1
    · rw [← e]; exact h
    · rw [wtK_s, wtK_no h (by omega)]; rfl
set_option maxHeartbeats 4000000 in
set_option maxRecDepth 100000 in
theorem k_lw {M : gM} {n q p e : Nat} {s : St} {F : Ev} {now : Nat → Int32} {b : Bool} (hq : qR M q p) (hs : sQ M e s) (h6 : mI M e 6 = bI b) (hE : b = true → sE M (e + 1) F) (hn : ∀ p, p < 8 → mI M (q + 1) p = now p) : ∀ (d9 : Nat) (j : Nat), 8 - j < d9 → j ≤ 8 → b = true ∧ wtK F now b j = true → GW μX7_liesWithin (gRm 1 21 0 0) (gTh (fun r M1 n1 => r = some (.int (bI (wtK F now b 8))) ∧ M1 = M ∧ n1 = n) 0 0) 0 0 11 [some (.ref q), some (.ref e), some (.int (nI j))] [] M n := by
  intro d9
  induction d9 with
  | zero =>
    intro j hd hj hw
    omega
  | succ d9 ih =>
    intro j hd hj hw
    refine g_iload_n dX7_liesWithin_11 rfl ?_
    refine g_bipush (v := nI 8) dX7_liesWithin_12 rfl ?_
    refine g_icmp_ge (tgt := 43) dX7_liesWithin_14 (by decide) (fun c_14 => ?_) (fun c_14 => ?_)
    · skip
      refine g_iconst (v := nI 1) dX7_liesWithin_43 rfl ?_
      exact g_iret dX7_liesWithin_44 (Or.inr ⟨rfl, by first | exact Or.inl rfl | exact Or.inr rfl⟩) (Nat.le_of_ble_eq_true rfl) (Nat.le_of_ble_eq_true rfl) (by
        rw [nI_leI (by omega) (by omega)] at c_14
        rw [show j = 8 by omega] at hw
        rw [hw.2]
        exact ⟨rfl, rfl, rfl⟩)
    · skip
      rw [nI_leI (by omega) (by omega)] at c_14
      have hjl : j < 8 := by omega
      have es := wtK_s F now b j
      rw [hw.2, Bool.true_and] at es
      refine g_aload_n dX7_liesWithin_17 rfl ?_
      refine g_getR (f := 4) dX7_liesWithin_18 cl5 hs.1 (by decide) (Or.inr (List.mem_of_getElem? (i := 36) rfl)) (Or.inl rfl) rfl hs.2.2.2.2.2.1 ?_
      refine g_iload_n dX7_liesWithin_21 rfl ?_
      refine g_aaloadS dX7_liesWithin_22 (j := j) (hE hw.1).1.1 (hE hw.1).1.2.1 rfl hjl (by decide) ((hE hw.1).1.2.2 j hjl).1 ?_
      refine g_aload_n dX7_liesWithin_23 rfl ?_
      refine g_getR (f := 1) dX7_liesWithin_24 cl8 hq.1 (by decide) (Or.inl (iw_5 13 rfl)) (Or.inl rfl) rfl hq.2.2.1 ?_
      refine g_iload_n dX7_liesWithin_27 rfl ?_
      refine g_iaload dX7_liesWithin_28 (j := j) hq.2.2.2.1 hq.2.2.2.2 rfl hjl (by decide) ?_
      rw [hn j hjl]
      refine g_callV dX7_liesWithin_29 sX3_has (c_has M n (e + 1 + 1 + j) (F j) (now j) ((hE hw.1).2 j hjl)) cl4 ((hE hw.1).2 j hjl).1 iX3_has vX3_has (iw_36 23 rfl) rfl rfl (Nat.le_of_ble_eq_true rfl) (Nat.le_of_ble_eq_true rfl) (Nat.le_of_ble_eq_true rfl) (Nat.le_of_ble_eq_true rfl) (Nat.le_of_ble_eq_true rfl) ?_
      intro r9 M9 n9 h9
      obtain ⟨h91, h92, h93⟩ := h9
      rw [h91, h92, h93]
      clear h91 h92 h93 r9 M9 n9
      refine g_if_ne (tgt := 37) dX7_liesWithin_32 (by decide) (fun c_32 => ?_) (fun c_32 => ?_)
      · skip
        refine g_iinc dX7_liesWithin_37 rfl (nI_1 j) (Nat.le_of_ble_eq_true rfl) ?_
        refine g_goto (tgt := 11) dX7_liesWithin_40 (by decide) ?_
        rw [bI_eq0, Bool.not_eq_false] at c_32
        exact ih (j + 1) (by omega) (by omega) ⟨hw.1, by rw [es]; exact c_32⟩
      · skip
        refine g_iconst (v := nI 0) dX7_liesWithin_35 rfl ?_
        exact g_iret dX7_liesWithin_36 (Or.inr ⟨rfl, by first | exact Or.inl rfl | exact Or.inr rfl⟩) (Nat.le_of_ble_eq_true rfl) (Nat.le_of_ble_eq_true rfl) (by
          rw [bI_eq0] at c_32
          rw [c_32] at es
          rw [wtK_no es (by omega)]
          exact ⟨rfl, rfl, rfl⟩)

set_option maxHeartbeats 4000000 in
set_option maxRecDepth 100000 in
theorem c_lies (M : gM) (n q p e : Nat) (s : St) (F : Ev) (now : Nat → Int32) (b : Bool) (hq : qR M q p) (hs : sQ M e s) (h6 : mI M e 6 = bI b) (hE : b = true → sE M (e + 1) F) (hn : ∀ p, p < 8 → mI M (q + 1) p = now p) : GM μX7_liesWithin 1 21 0 0 [.ref q, .ref e] M n (fun r M1 n1 => r = some (.int (bI (wtK F now b 8))) ∧ M1 = M ∧ n1 = n) := by
  refine GM.ofW (by decide) rfl (Nat.le_of_ble_eq_true rfl) rfl ?_
  refine g_aload_n dX7_liesWithin_0 rfl ?_
  refine g_getI (f := 6) dX7_liesWithin_1 cl5 hs.1 (by decide) (Or.inr (List.mem_of_getElem? (i := 35) rfl)) (Or.inl rfl) (Or.inr rfl) ?_
  rw [h6]
  refine g_if_ne (tgt := 9) dX7_liesWithin_4 (by decide) (fun c_4 => ?_) (fun c_4 => ?_)
  · skip
    refine g_iconst (v := nI 0) dX7_liesWithin_9 rfl ?_
    refine g_istore_n dX7_liesWithin_10 (Nat.le_of_ble_eq_true rfl) ?_
    rw [bI_eq0, Bool.not_eq_false] at c_4
    exact k_lw hq hs h6 hE hn 9 0 (by omega) (by omega) ⟨c_4, c_4⟩
  · skip
    refine g_iconst (v := nI 0) dX7_liesWithin_7 rfl ?_
    exact g_iret dX7_liesWithin_8 (Or.inr ⟨rfl, by first | exact Or.inl rfl | exact Or.inr rfl⟩) (Nat.le_of_ble_eq_true rfl) (Nat.le_of_ble_eq_true rfl) (by
      rw [bI_eq0] at c_4
      rw [wtK_no (j := 0) (show wtK F now b 0 = false from c_4) (by omega)]
      exact ⟨rfl, rfl, rfl⟩)

set_option maxHeartbeats 4000000 in
set_option maxRecDepth 100000 in
theorem c_how (M : gM) (n q p d len : Nat) (E : Nat → Nat) (x : Int32) (b : Bool) (hq : qR M q p) (hp : pR M p) (hL : aL M (p + 1) d len E) : GM μX7_howItEnded 2 41 0 0 [.ref q, .int x, .int (bI b)] M n (fun r M1 n1 => r = some (.int (if x = -1 then 1 else if ¬ isN len x then 0 else if b = true then 2 else 3)) ∧ M1 = M ∧ n1 = n) := by
  refine GM.ofW (by decide) rfl (Nat.le_of_ble_eq_true rfl) rfl ?_
  refine g_iload_n dX7_howItEnded_0 rfl ?_
  refine g_iconst (v := (-1)) dX7_howItEnded_1 (by decide) ?_
  refine g_icmp_ne (tgt := 7) dX7_howItEnded_2 (by decide) (fun c_2 => ?_) (fun c_2 => ?_)
  · skip
    refine g_aload_n dX7_howItEnded_7 rfl ?_
    refine g_getR (f := 0) dX7_howItEnded_8 cl8 hq.1 (by decide) (Or.inl (iw_5 15 rfl)) (Or.inl rfl) rfl hq.2.1 ?_
    refine g_iload_n dX7_howItEnded_11 rfl ?_
    refine g_callV dX7_howItEnded_12 sX1_isThere (c_isThere M n p d len E x hp hL) cl2 hp.1 iX1_isThere vX1_isThere (iw_36 17 rfl) rfl rfl (Nat.le_of_ble_eq_true rfl) (Nat.le_of_ble_eq_true rfl) (Nat.le_of_ble_eq_true rfl) (Nat.le_of_ble_eq_true rfl) (Nat.le_of_ble_eq_true rfl) ?_
    intro r9 M9 n9 h9
    obtain ⟨h91, h92, h93⟩ := h9
    rw [h91, h92, h93]
    clear h91 h92 h93 r9 M9 n9
    refine g_if_ne (tgt := 20) dX7_howItEnded_15 (by decide) (fun c_15 => ?_) (fun c_15 => ?_)
    · skip
      refine g_iload_n dX7_howItEnded_20 rfl ?_
      refine g_if_eq (tgt := 28) dX7_howItEnded_21 (by decide) (fun c_21 => ?_) (fun c_21 => ?_)
      · skip
        refine g_iconst (v := nI 3) dX7_howItEnded_28 rfl ?_
        exact g_iret dX7_howItEnded_29 (Or.inl rfl) (Nat.le_of_ble_eq_true rfl) (Nat.le_of_ble_eq_true rfl) (by
          refine ⟨?_, rfl, rfl⟩
          rw [if_neg c_2, if_neg (fun z => z (dT c_15))]
          rw [bI_eq0] at c_21
          first
            | (rw [Bool.not_eq_false] at c_21; rw [if_pos c_21]; rfl)
            | (rw [if_neg (by rw [c_21]; decide)]; rfl))
      · skip
        refine g_iconst (v := nI 2) dX7_howItEnded_24 rfl ?_
        refine g_goto (tgt := 29) dX7_howItEnded_25 (by decide) ?_
        exact g_iret dX7_howItEnded_29 (Or.inl rfl) (Nat.le_of_ble_eq_true rfl) (Nat.le_of_ble_eq_true rfl) (by
          refine ⟨?_, rfl, rfl⟩
          rw [if_neg c_2, if_neg (fun z => z (dT c_15))]
          rw [bI_eq0] at c_21
          first
            | (rw [Bool.not_eq_false] at c_21; rw [if_pos c_21]; rfl)
            | (rw [if_neg (by rw [c_21]; decide)]; rfl))
    · skip
      refine g_iconst (v := nI 0) dX7_howItEnded_18 rfl ?_
      exact g_iret dX7_howItEnded_19 (Or.inl rfl) (Nat.le_of_ble_eq_true rfl) (Nat.le_of_ble_eq_true rfl) ⟨by rw [if_neg c_2, if_pos (dF c_15)]; rfl, rfl, rfl⟩
  · skip
    refine g_iconst (v := nI 1) dX7_howItEnded_5 rfl ?_
    exact g_iret dX7_howItEnded_6 (Or.inl rfl) (Nat.le_of_ble_eq_true rfl) (Nat.le_of_ble_eq_true rfl) ⟨by rw [if_pos c_2]; rfl, rfl, rfl⟩

