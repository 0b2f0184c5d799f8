/-! the class: touching ones are united, then the closest -/
def utP (L K : List Sp) (q : Sp) (i : Nat) : Prop := cn (K ++ [q]) ∧ r5L (K ++ [q]) ∧ (∀ z, inL (K ++ [q]) z ↔ inL (L.take i) z) ∧ (∀ k, i ≤ k → k < L.length → q.1 ≤ (L.getD k (0, 0)).1) ∧ K.length < i
theorem utP.touch {L K : List Sp} {q : Sp} {i : Nat} (h : utP L K q i) (hi : i < L.length) (hs : sr L) (hw : wl L) (c : (L.getD i (0, 0)).1 ≤ q.2 + 1) : utP L K (q.1, if q.2 < (L.getD i (0, 0)).2 then (L.getD i (0, 0)).2 else q.2) (i + 1) := by
  obtain ⟨h1, h2, h3, h4, h5⟩ := h
  have hp := hw.1 _ (getD_mem hi)
  have hr := hw.2 _ (getD_mem hi)
  have e : utS K q (L.getD i (0, 0)) = K ++ [(q.1, if q.2 < (L.getD i (0, 0)).2 then (L.getD i (0, 0)).2 else q.2)] := by unfold utS; rw [if_pos c]
  refine ⟨by rw [← e]; exact utS_cn h1 hp, ?_, fun z => ?_, fun k hk hk2 => h4 k (by omega) hk2, by omega⟩
  · rw [r5L_app] at h2 ⊢
    refine ⟨h2.1, fun x hx => ?_⟩
    have := h2.2 q (by simp)
    simp at hx
    rw [hx]
    refine ⟨this.1, ?_⟩
    simp only
    split
    · exact hr.2
    · exact this.2
  · rw [← e, utS_in h1 hp (h4 i (Nat.le_refl _) hi), h3 z, take_one hi, inL_app, inL_one]
theorem utP.next {L K : List Sp} {q : Sp} {i : Nat} (h : utP L K q i) (hi : i < L.length) (hs : sr L) (hw : wl L) (c : ¬ (L.getD i (0, 0)).1 ≤ q.2 + 1) : utP L (K ++ [q]) (L.getD i (0, 0)) (i + 1) := by
  obtain ⟨h1, h2, h3, h4, h5⟩ := h
  have hp := hw.1 _ (getD_mem hi)
  have hr := hw.2 _ (getD_mem hi)
  have e : utS K q (L.getD i (0, 0)) = (K ++ [q]) ++ [(L.getD i (0, 0))] := by unfold utS; rw [if_neg c]
  refine ⟨by rw [← e]; exact utS_cn h1 hp, r5L_app.mpr ⟨h2, fun x hx => ?_⟩, fun z => ?_, fun k hk hk2 => hs i k (by omega) hk2, by simp; omega⟩
  · simp at hx
    rw [hx]; exact hr
  · rw [← e, utS_in h1 hp (h4 i (Nat.le_refl _) hi), h3 z, take_one hi, inL_app, inL_one]
def utI (M M1 : gM) (g : Nat) (L N : List Sp) (i : Nat) : Prop := Off M M1 (fY g) ∧ mI M1 g 2 = nI L.length ∧ (∀ k, k < N.length → ro M1 g k (N.getD k (0, 0))) ∧ ∀ k, i ≤ k → k < L.length → ro M1 g k (L.getD k (0, 0))
theorem gd_app {K : List Sp} {q : Sp} {k : Nat} (h : k < K.length) : ((K ++ [q]).getD k (0, 0)) = (K.getD k (0, 0)) := getD_app h
theorem gd_last {K : List Sp} {q : Sp} : ((K ++ [q]).getD K.length (0, 0)) = q := getD_last
theorem utI.touch {M M1 : gM} {g i : Nat} {L K : List Sp} {q : Sp} (h : utI M M1 g L (K ++ [q]) i) (hi : K.length < i) (x : Int) : utI M (stI M1 (g + 2) K.length (iZ x)) g L (K ++ [(q.1, x)]) (i + 1) := by
  obtain ⟨h1, h2, h3, h4⟩ := h
  refine ⟨h1.stI (Or.inr (Or.inr rfl)), by rw [mI_st, if_neg (by omega)]; exact h2, fun k hk => ?_, fun k hk hk2 => ?_⟩
  · simp at hk
    have h9 := h3 k (by simp; omega)
    by_cases e : k = K.length
    · subst e
      rw [gd_last] at h9 ⊢
      unfold ro at h9 ⊢
      rw [mI_st, if_neg (by omega), mI_st, if_pos ⟨rfl, rfl⟩]
      exact ⟨h9.1, rfl⟩
    · rw [gd_app (by omega)] at h9 ⊢
      unfold ro at h9 ⊢
      rw [mI_st, if_neg (by omega), mI_st, if_neg (by omega)]
      exact h9
  · have h9 := h4 k (by omega) hk2
    unfold ro at h9 ⊢
    rw [mI_st, if_neg (by omega), mI_st, if_neg (by omega)]
    exact h9
theorem utI.next {M M1 : gM} {g i : Nat} {L K : List Sp} {q p : Sp} (h : utI M M1 g L (K ++ [q]) i) (hi : K.length < i) : utI M (stI (stI M1 (g + 1) (K.length + 1) (iZ p.1)) (g + 2) (K.length + 1) (iZ p.2)) g L ((K ++ [q]) ++ [p]) (i + 1) := by
  obtain ⟨h1, h2, h3, h4⟩ := h
  refine ⟨(h1.stI (Or.inr (Or.inl rfl))).stI (Or.inr (Or.inr rfl)), by rw [mI_st, if_neg (by omega), mI_st, if_neg (by omega)]; exact h2, fun k hk => ?_, fun k hk hk2 => ?_⟩
  · rw [List.length_append, List.length_append] at hk
    simp only [List.length_singleton] at hk
    by_cases e : k = K.length + 1
    · have e2 : (((K ++ [q]) ++ [p]).getD k (0, 0)) = p := by
        rw [e, show K.length + 1 = (K ++ [q]).length by simp]
        exact gd_last
      rw [e2, e]
      unfold ro
      rw [mI_st, if_neg (by omega), mI_st, if_pos ⟨rfl, rfl⟩, mI_st, if_pos ⟨rfl, rfl⟩]
      exact ⟨rfl, rfl⟩
    · have h9 := h3 k (by simp; omega)
      rw [gd_app (by simp; omega)]
      unfold ro at h9 ⊢
      rw [mI_st, if_neg (by omega), mI_st, if_neg (by omega), mI_st, if_neg (by omega), mI_st, if_neg (by omega)]
      exact h9
  · have h9 := h4 k (by omega) hk2
    unfold ro at h9 ⊢
    rw [mI_st, if_neg (by omega), mI_st, if_neg (by omega), mI_st, if_neg (by omega), mI_st, if_neg (by omega)]
    exact h9
theorem nrm_perm {L U : List Sp} (h : L.Perm U) (hw : okL U) : nrm L = nrm U := nrm_eq ((okL_perm h).mpr hw) hw (fun z => inL_perm h z)
set_option maxHeartbeats 4000000 in
set_option maxRecDepth 100000 in
theorem l_touch {M : gM} {n g : Nat} {L : List Sp} {Q : gθ} (hg0 : gG M g) (hl : L.length ≤ 16) (hs : sr L) (hw : wl L) (hk : ∀ M1 K q, utI M M1 g L (K ++ [q]) L.length → utP L K q L.length → GW μX0_uniteTouching (gRm 0 0 0 0) Q 0 0 104 [some (.ref g), some (.int (nI K.length)), none] [] M1 n) : ∀ (d : Nat) (i : Nat) (K : List Sp) (q : Sp) (M1 : gM), L.length - i < d → i ≤ L.length → utI M M1 g L (K ++ [q]) i → utP L K q i → GW μX0_uniteTouching (gRm 0 0 0 0) Q 0 0 4 [some (.ref g), some (.int (nI K.length)), some (.int (nI i))] [] M1 n := by
  intro d
  induction d with
  | zero =>
    intro i K q M1 hd hi hI hP
    omega
  | succ d ih =>
    intro i K q M1 hd hi hI hP
    have hg := hg0.off hI.1
    have hki := hP.2.2.2.2
    refine g_iload_n dX0_uniteTouching_4 rfl ?_
    refine g_aload_n dX0_uniteTouching_5 rfl ?_
    refine g_getI (f := 2) dX0_uniteTouching_6 cl1 hg.1 (by decide) (Or.inl (iw_18 14 rfl)) (Or.inl rfl) (Or.inl rfl) ?_
    rw [hI.2.1]
    refine g_icmp_ge (tgt := 104) dX0_uniteTouching_9 (by decide) (fun c_9 => ?_) (fun c_9 => ?_)
    · skip
      rw [nI_leI (by omega) (by omega)] at c_9
      have hil : i = L.length := by omega
      refine g_drop 2 ?_
      rw [hil] at hI hP
      exact hk M1 K q hI hP
    · skip
      rw [nI_leI (by omega) (by omega)] at c_9
      have hil : i < L.length := by omega
      have hr := hw.2 _ (getD_mem hil)
      have hq := hP.2.1 q (by simp)
      have eI := hI.2.2.2 i (Nat.le_refl _) hil
      have eK := hI.2.2.1 K.length (by simp)
      rw [gd_last] at eK
      refine g_aload_n dX0_uniteTouching_12 rfl ?_
      refine g_getR (f := 0) dX0_uniteTouching_13 cl1 hg.1 (by decide) (Or.inl (iw_5 7 rfl)) (Or.inl rfl) rfl hg.2.1 ?_
      refine g_iload_n dX0_uniteTouching_16 rfl ?_
      refine g_iaload dX0_uniteTouching_17 (j := i) hg.2.2.2.1 hg.2.2.2.2.2.1 rfl (by omega) (by decide) ?_
      rw [eI.1]
      refine g_i2l dX0_uniteTouching_18 ?_
      rw [iZ_j hr.1.1 hr.1.2]
      refine g_aload_n dX0_uniteTouching_19 rfl ?_
      refine g_getR (f := 1) dX0_uniteTouching_20 cl1 hg.1 (by decide) (Or.inl (iw_5 8 rfl)) (Or.inl rfl) rfl hg.2.2.1 ?_
      refine g_iload_n dX0_uniteTouching_23 rfl ?_
      refine g_iaload dX0_uniteTouching_24 (j := K.length) hg.2.2.2.2.1 hg.2.2.2.2.2.2 rfl (by omega) (by decide) ?_
      rw [eK.2]
      refine g_i2l dX0_uniteTouching_25 ?_
      rw [iZ_j hq.2.1 hq.2.2]
      refine g_lconst (v := jI 1) dX0_uniteTouching_26 rfl ?_
      refine g_ladd dX0_uniteTouching_27 ?_
      rw [jI_add]
      refine g_lcmp dX0_uniteTouching_28 ?_
      skip
      refine g_if_gt (tgt := 71) dX0_uniteTouching_29 (by decide) (fun c_29 => ?_) (fun c_29 => ?_)
      · skip
        rw [jc_gt (by constructor <;> omega) (by constructor <;> omega)] at c_29
        have hP2 := hP.next hil hs hw (by omega)
        refine g_iinc dX0_uniteTouching_71 rfl (nI_1 K.length) (Nat.le_of_ble_eq_true rfl) ?_
        refine g_aload_n dX0_uniteTouching_74 rfl ?_
        refine g_getR (f := 0) dX0_uniteTouching_75 cl1 hg.1 (by decide) (Or.inl (iw_5 7 rfl)) (Or.inl rfl) rfl hg.2.1 ?_
        refine g_iload_n dX0_uniteTouching_78 rfl ?_
        refine g_aload_n dX0_uniteTouching_79 rfl ?_
        refine g_getR (f := 0) dX0_uniteTouching_80 cl1 hg.1 (by decide) (Or.inl (iw_5 7 rfl)) (Or.inl rfl) rfl hg.2.1 ?_
        refine g_iload_n dX0_uniteTouching_83 rfl ?_
        refine g_iaload dX0_uniteTouching_84 (j := i) hg.2.2.2.1 hg.2.2.2.2.2.1 rfl (by omega) (by decide) ?_
        rw [eI.1]
        refine g_iastore dX0_uniteTouching_85 (j := K.length + 1) hg.2.2.2.1 hg.2.2.2.2.2.1 rfl (by omega) (by decide) ?_
        refine g_aload_n dX0_uniteTouching_86 rfl ?_
        refine g_getR (f := 1) dX0_uniteTouching_87 cl1 hg.1 (by decide) (Or.inl (iw_5 8 rfl)) (Or.inl rfl) rfl hg.2.2.1 ?_
        refine g_iload_n dX0_uniteTouching_90 rfl ?_
        refine g_aload_n dX0_uniteTouching_91 rfl ?_
        refine g_getR (f := 1) dX0_uniteTouching_92 cl1 hg.1 (by decide) (Or.inl (iw_5 8 rfl)) (Or.inl rfl) rfl hg.2.2.1 ?_
        refine g_iload_n dX0_uniteTouching_95 rfl ?_
        refine g_iaload dX0_uniteTouching_96 (j := i) hg.2.2.2.2.1 hg.2.2.2.2.2.2 rfl (by omega) (by decide) ?_
        rw [mI_st, if_neg (by omega), eI.2]
        refine g_iastore dX0_uniteTouching_97 (j := K.length + 1) hg.2.2.2.2.1 hg.2.2.2.2.2.2 rfl (by omega) (by decide) ?_
        refine g_iinc dX0_uniteTouching_98 rfl (nI_1 i) (Nat.le_of_ble_eq_true rfl) ?_
        refine g_goto (tgt := 4) dX0_uniteTouching_101 (by decide) ?_
        have hg := hg0.off hI.1
        have hki := hP.2.2.2.2
        first
          | exact ih (i + 1) K _ _ (by omega) (by omega) (hI.touch hki _) hP2
          | (rw [show nI (K.length + 1) = nI (K ++ [q]).length by simp]
             exact ih (i + 1) (K ++ [q]) _ _ (by omega) (by omega) (hI.next hki) hP2)
      · skip
        rw [jc_gt (by constructor <;> omega) (by constructor <;> omega)] at c_29
        have hP2 := hP.touch hil hs hw (by omega)
        refine g_aload_n dX0_uniteTouching_32 rfl ?_
        refine g_getR (f := 1) dX0_uniteTouching_33 cl1 hg.1 (by decide) (Or.inl (iw_5 8 rfl)) (Or.inl rfl) rfl hg.2.2.1 ?_
        refine g_iload_n dX0_uniteTouching_36 rfl ?_
        refine g_aload_n dX0_uniteTouching_37 rfl ?_
        refine g_getR (f := 1) dX0_uniteTouching_38 cl1 hg.1 (by decide) (Or.inl (iw_5 8 rfl)) (Or.inl rfl) rfl hg.2.2.1 ?_
        refine g_iload_n dX0_uniteTouching_41 rfl ?_
        refine g_iaload dX0_uniteTouching_42 (j := i) hg.2.2.2.2.1 hg.2.2.2.2.2.2 rfl (by omega) (by decide) ?_
        refine g_aload_n dX0_uniteTouching_43 rfl ?_
        refine g_getR (f := 1) dX0_uniteTouching_44 cl1 hg.1 (by decide) (Or.inl (iw_5 8 rfl)) (Or.inl rfl) rfl hg.2.2.1 ?_
        refine g_iload_n dX0_uniteTouching_47 rfl ?_
        refine g_iaload dX0_uniteTouching_48 (j := K.length) hg.2.2.2.2.1 hg.2.2.2.2.2.2 rfl (by omega) (by decide) ?_
        rw [eI.2, eK.2]
        refine g_icmp_le (tgt := 61) dX0_uniteTouching_49 (by decide) (fun c_49 => ?_) (fun c_49 => ?_)
        · skip
          rw [iZ_le hr.2 hq.2] at c_49
          rw [if_neg (by omega)] at hP2
          refine g_aload_n dX0_uniteTouching_61 rfl ?_
          refine g_getR (f := 1) dX0_uniteTouching_62 cl1 hg.1 (by decide) (Or.inl (iw_5 8 rfl)) (Or.inl rfl) rfl hg.2.2.1 ?_
          refine g_iload_n dX0_uniteTouching_65 rfl ?_
          refine g_iaload dX0_uniteTouching_66 (j := K.length) hg.2.2.2.2.1 hg.2.2.2.2.2.2 rfl (by omega) (by decide) ?_
          first | rw [eI.2] | rw [eK.2]
          refine g_iastore dX0_uniteTouching_67 (j := K.length) hg.2.2.2.2.1 hg.2.2.2.2.2.2 rfl (by omega) (by decide) ?_
          refine g_goto (tgt := 98) dX0_uniteTouching_68 (by decide) ?_
          refine g_iinc dX0_uniteTouching_98 rfl (nI_1 i) (Nat.le_of_ble_eq_true rfl) ?_
          refine g_goto (tgt := 4) dX0_uniteTouching_101 (by decide) ?_
          have hg := hg0.off hI.1
          have hki := hP.2.2.2.2
          first
            | exact ih (i + 1) K _ _ (by omega) (by omega) (hI.touch hki _) hP2
            | (rw [show nI (K.length + 1) = nI (K ++ [q]).length by simp]
               exact ih (i + 1) (K ++ [q]) _ _ (by omega) (by omega) (hI.next hki) hP2)
        · skip
          rw [iZ_le hr.2 hq.2] at c_49
          rw [if_pos (by omega)] at hP2
          refine g_aload_n dX0_uniteTouching_52 rfl ?_
          refine g_getR (f := 1) dX0_uniteTouching_53 cl1 hg.1 (by decide) (Or.inl (iw_5 8 rfl)) (Or.inl rfl) rfl hg.2.2.1 ?_
          refine g_iload_n dX0_uniteTouching_56 rfl ?_
          refine g_iaload dX0_uniteTouching_57 (j := i) hg.2.2.2.2.1 hg.2.2.2.2.2.2 rfl (by omega) (by decide) ?_
          refine g_goto (tgt := 67) dX0_uniteTouching_58 (by decide) ?_
          first | rw [eI.2] | rw [eK.2]
          refine g_iastore dX0_uniteTouching_67 (j := K.length) hg.2.2.2.2.1 hg.2.2.2.2.2.2 rfl (by omega) (by decide) ?_
          refine g_goto (tgt := 98) dX0_uniteTouching_68 (by decide) ?_
          refine g_iinc dX0_uniteTouching_98 rfl (nI_1 i) (Nat.le_of_ble_eq_true rfl) ?_
          refine g_goto (tgt := 4) dX0_uniteTouching_101 (by decide) ?_
          have hg := hg0.off hI.1
          have hki := hP.2.2.2.2
          first
            | exact ih (i + 1) K _ _ (by omega) (by omega) (hI.touch hki _) hP2
            | (rw [show nI (K.length + 1) = nI (K ++ [q]).length by simp]
               exact ih (i + 1) (K ++ [q]) _ _ (by omega) (by omega) (hI.next hki) hP2)

set_option maxHeartbeats 4000000 in
set_option maxRecDepth 100000 in
theorem c_touch (M : gM) (n g : Nat) (U : List Sp) (h : gt M g U) (hw : wl U) : GM μX0_uniteTouching 0 0 0 0 [.ref g] M n (fun r M1 n1 => r = none ∧ n1 = n ∧ Off M M1 (fY g) ∧ gL M1 g (nrm U)) := by
  refine GM.ofW (by decide) rfl (Nat.le_of_ble_eq_true rfl) rfl ?_
  obtain ⟨L, hL1, hL2, hL3⟩ := h
  have hg := hL3.1
  rw [← nrm_perm hL1 hw.1]
  have hwL : wl L := ⟨(okL_perm hL1).mpr hw.1, (r5L_perm hL1).mpr hw.2⟩
  refine g_iconst (v := nI 0) dX0_uniteTouching_0 rfl ?_
  refine g_istore_n dX0_uniteTouching_1 (Nat.le_of_ble_eq_true rfl) ?_
  refine g_iconst (v := nI 1) dX0_uniteTouching_2 rfl ?_
  refine g_istore_n dX0_uniteTouching_3 (Nat.le_of_ble_eq_true rfl) ?_
  by_cases hL0 : L = []
  · skip
    subst hL0
    refine g_iload_n dX0_uniteTouching_4 rfl ?_
    refine g_aload_n dX0_uniteTouching_5 rfl ?_
    refine g_getI (f := 2) dX0_uniteTouching_6 cl1 hg.1 (by decide) (Or.inl (iw_18 14 rfl)) (Or.inl rfl) (Or.inl rfl) ?_
    rw [hL3.2.2.1]
    refine g_icmp_ge (tgt := 104) dX0_uniteTouching_9 (by decide) (fun c_9 => ?_) (fun c_9 => absurd (by decide) c_9)
    refine g_aload_n dX0_uniteTouching_104 rfl ?_
    refine g_aload_n dX0_uniteTouching_105 rfl ?_
    refine g_getI (f := 2) dX0_uniteTouching_106 cl1 hg.1 (by decide) (Or.inl (iw_18 14 rfl)) (Or.inl rfl) (Or.inl rfl) ?_
    rw [hL3.2.2.1]
    refine g_if_ne (tgt := 116) dX0_uniteTouching_109 (by decide) (fun c_9 => absurd rfl c_9) (fun c_9 => ?_)
    refine g_iconst (v := nI 0) dX0_uniteTouching_112 rfl ?_
    refine g_goto (tgt := 119) dX0_uniteTouching_113 (by decide) ?_
    refine g_putI (f := 2) dX0_uniteTouching_119 cl1 hg.1 (by decide) (Or.inl (iw_18 14 rfl)) (Or.inl rfl) (Or.inl rfl) (Or.inl rfl) ?_
    exact g_vret dX0_uniteTouching_122 rfl (Nat.le_refl _) (Nat.le_refl _) ⟨rfl, rfl, Off.rf.stI (Or.inl rfl), hg, by simp [nrm], by rw [mI_st, if_pos ⟨rfl, rfl⟩]; rfl, fun k hk => by simp [nrm] at hk⟩
  · skip
    have hl0 := List.length_pos_iff.mpr hL0
    have hl16 := hL3.2.1
    refine l_touch hg hL3.2.1 hL2 hwL (fun M2 K q hI hP => ?_) (L.length + 1) 1 [] (L.getD 0 (0, 0)) M (by omega) (by omega) ⟨Off.rf, hL3.2.2.1, fun k hk => by
      have e : k = 0 := by simpa using hk
      subst e
      exact hL3.2.2.2 0 hl0, fun k h1 h2 => hL3.2.2.2 k h2⟩ ⟨hwL.1 _ (getD_mem hl0), fun x hx => by simp at hx; rw [hx]; exact hwL.2 _ (getD_mem hl0), fun z => by
        rw [take_one hl0]; simp, fun k h1 h2 => hL2 0 k (by omega) h2, by simp⟩
    have hg2 := hg.off hI.1
    have eN : K ++ [q] = nrm L := nrm_of hP.1 hwL.1 (fun z => by rw [hP.2.2.1 z, List.take_of_length_le (Nat.le_refl _)])
    have hkl := hP.2.2.2.2
    refine g_aload_n dX0_uniteTouching_104 rfl ?_
    refine g_aload_n dX0_uniteTouching_105 rfl ?_
    refine g_getI (f := 2) dX0_uniteTouching_106 cl1 hg2.1 (by decide) (Or.inl (iw_18 14 rfl)) (Or.inl rfl) (Or.inl rfl) ?_
    rw [hI.2.1]
    refine g_if_ne (tgt := 116) dX0_uniteTouching_109 (by decide) (fun c_109 => ?_) (fun c_109 => ?_)
    · skip
      refine g_iload_n dX0_uniteTouching_116 rfl ?_
      refine g_iconst (v := nI 1) dX0_uniteTouching_117 rfl ?_
      refine g_iadd dX0_uniteTouching_118 ?_
      rw [nI_add]
      refine g_putI (f := 2) dX0_uniteTouching_119 cl1 hg2.1 (by decide) (Or.inl (iw_18 14 rfl)) (Or.inl rfl) (Or.inl rfl) (Or.inl rfl) ?_
      exact g_vret dX0_uniteTouching_122 rfl (Nat.le_of_ble_eq_true rfl) (Nat.le_of_ble_eq_true rfl) (by
        rw [← eN]
        refine ⟨rfl, rfl, hI.1.stI (Or.inl rfl), hg2, by simp; omega, by rw [mI_st, if_pos ⟨rfl, rfl⟩]; simp, fun k hk => ?_⟩
        have h9 := hI.2.2.1 k hk
        unfold ro at h9 ⊢
        rw [mI_st, if_neg (by omega), mI_st, if_neg (by omega)]
        exact h9)
    · skip
      rw [show (0 : Int32) = nI 0 from rfl, nI_inj (by omega) (by omega)] at c_109
      omega

