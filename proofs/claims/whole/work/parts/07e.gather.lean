/-! the class: what is gathered -/
/-- a Gathering at g, its rows behind it -/
def gG (M : gM) (g : Nat) : Prop := mK M g = 1 ∧ mR M g 0 = some (g + 1) ∧ mR M g 1 = some (g + 2) ∧ mK M (g + 1) = 11 ∧ mK M (g + 2) = 11 ∧ mN M (g + 1) = 16 ∧ mN M (g + 2) = 16
theorem gG.off {M M1 : gM} {g : Nat} {S : Nat → Nat → Prop} (h : gG M g) (ho : Off M M1 S) : gG M1 g := by
  unfold gG
  rw [ho.1, ho.2.1, ho.2.2.1]
  exact h
def fY (g : Nat) : Nat → Nat → Prop := fun i _ => i = g ∨ i = g + 1 ∨ i = g + 2
/-- the k-th span that lies in the rows -/
def ro (M : gM) (g k : Nat) (p : Sp) : Prop := mI M (g + 1) k = iZ p.1 ∧ mI M (g + 2) k = iZ p.2
def gL (M : gM) (g : Nat) (L : List Sp) : Prop := gG M g ∧ L.length ≤ 16 ∧ mI M g 2 = nI L.length ∧ ∀ k, k < L.length → ro M g k (L.getD k (0, 0))
/-- what is gathered: these, in some order, rising -/
def gt (M : gM) (g : Nat) (U : List Sp) : Prop := ∃ L : List Sp, L.Perm U ∧ sr L ∧ gL M g L
theorem gL.off {M M1 : gM} {g : Nat} {L : List Sp} {S : Nat → Nat → Prop} (h : gL M g L) (ho : Off M M1 S) (hs : ∀ i k, fY g i k → ¬ S i k) : gL M1 g L := by
  obtain ⟨h1, h2, h3, h4⟩ := h
  refine ⟨h1.off ho, h2, (ho.i (hs _ _ (Or.inl rfl))).trans h3, fun k hk => ⟨(ho.i (hs _ _ (Or.inr (Or.inl rfl)))).trans (h4 k hk).1, (ho.i (hs _ _ (Or.inr (Or.inr rfl)))).trans (h4 k hk).2⟩⟩
theorem gt.off {M M1 : gM} {g : Nat} {U : List Sp} {S : Nat → Nat → Prop} (h : gt M g U) (ho : Off M M1 S) (hs : ∀ i k, fY g i k → ¬ S i k) : gt M1 g U := by
  obtain ⟨L, h1, h2, h3⟩ := h
  exact ⟨L, h1, h2, h3.off ho hs⟩
theorem gt.g {M : gM} {g : Nat} {U : List Sp} (h : gt M g U) : gG M g := by
  obtain ⟨L, -, -, h⟩ := h
  exact h.1
theorem nI_p {j : Nat} (h : 0 < j) : nI j - nI 1 = nI (j - 1) := by
  rw [nI_iZ, nI_iZ, nI_iZ, iZ_sub]
  congr 1
  omega
theorem nI_m {j : Nat} (h : 0 < j) : nI j + Int32.ofInt (-1) = nI (j - 1) := by
  have e : Int32.ofInt (-1) = iZ (-1) := rfl
  rw [nI_iZ, nI_iZ, e, iZ_add]
  congr 1
  omega
theorem gt.nil {M : gM} {g : Nat} (h : gG M g) (hc : mI M g 2 = nI 0) : gt M g [] := ⟨[], List.Perm.refl _, fun i j _ hj => by simp at hj, h, by simp, hc, fun k hk => by simp at hk⟩
set_option maxHeartbeats 4000000 in
set_option maxRecDepth 100000 in
theorem c_anew (M : gM) (n g : Nat) (hg : gG M g) : GM μX0_startAnew 0 0 0 0 [.ref g] M n (fun r M1 n1 => r = none ∧ n1 = n ∧ Off M M1 (fY g) ∧ gt M1 g []) := by
  refine GM.ofW (by decide) rfl (Nat.le_of_ble_eq_true rfl) rfl ?_
  refine g_aload_n dX0_startAnew_0 rfl ?_
  refine g_iconst (v := nI 0) dX0_startAnew_1 rfl ?_
  refine g_putI (f := 2) dX0_startAnew_2 cl1 hg.1 (by decide) (Or.inl (iw_18 14 rfl)) (Or.inl rfl) (Or.inl rfl) (Or.inl rfl) ?_
  exact g_vret dX0_startAnew_5 rfl (Nat.le_of_ble_eq_true rfl) (Nat.le_of_ble_eq_true rfl) ⟨rfl, rfl, Off.rf.stI (Or.inl rfl), gt.nil hg (by rw [mI_st, if_pos ⟨rfl, rfl⟩])⟩

def adI (M M1 : gM) (g : Nat) (L : List Sp) (j : Nat) : Prop := Off M M1 (fY g) ∧ mI M1 g 2 = nI L.length ∧ (∀ k, k < j → ro M1 g k (L.getD k (0, 0))) ∧ ∀ k, j < k → k ≤ L.length → ro M1 g k (L.getD (k - 1) (0, 0))
theorem adI.dn {M M1 : gM} {g j : Nat} {L : List Sp} (h : adI M M1 g L j) (hj : 0 < j) : adI M (stI (stI M1 (g + 1) j (mI M1 (g + 1) (j - 1))) (g + 2) j (mI (stI M1 (g + 1) j (mI M1 (g + 1) (j - 1))) (g + 2) (j - 1))) g L (j - 1) := by
  obtain ⟨h1, h2, h3, h4⟩ := h
  refine ⟨(h1.stI (Or.inr (Or.inl rfl))).stI (Or.inr (Or.inr rfl)), ?_, fun k hk => ?_, fun k hk hk2 => ?_⟩
  · rw [mI_st, if_neg (by omega), mI_st, if_neg (by omega)]; exact h2
  · have := h3 k (by omega)
    unfold ro at this ⊢
    rw [mI_st, if_neg (by omega), mI_st, if_neg (by omega), mI_st, if_neg (by omega), mI_st, if_neg (by omega)]
    exact this
  · by_cases e : k = j
    · subst e
      have := h3 (k - 1) (by omega)
      unfold ro at this ⊢
      rw [mI_st, if_neg (by omega), mI_st, if_pos ⟨rfl, rfl⟩, mI_st, if_pos ⟨rfl, rfl⟩, mI_st, if_neg (by omega)]
      exact this
    · have := h4 k (by omega) hk2
      unfold ro at this ⊢
      rw [mI_st, if_neg (by omega), mI_st, if_neg (by omega), mI_st, if_neg (by omega), mI_st, if_neg (by omega)]
      exact this
theorem adI.end {M M1 : gM} {g j : Nat} {L : List Sp} {p : Sp} (hg : gG M g) (h : adI M M1 g L j) (hj : j ≤ L.length) (hl : L.length < 16) {v : Int32} (hv : v = nI (L.length + 1)) : Off M (stI (stI (stI M1 (g + 1) j (iZ p.1)) (g + 2) j (iZ p.2)) g 2 v) (fY g) ∧ gL (stI (stI (stI M1 (g + 1) j (iZ p.1)) (g + 2) j (iZ p.2)) g 2 v) g (put L j p) := by
  obtain ⟨h1, h2, h3, h4⟩ := h
  have ho : Off M (stI (stI (stI M1 (g + 1) j (iZ p.1)) (g + 2) j (iZ p.2)) g 2 v) (fY g) := ((h1.stI (Or.inr (Or.inl rfl))).stI (Or.inr (Or.inr rfl))).stI (Or.inl rfl)
  refine ⟨ho, hg.off ho, by rw [put_len p hj]; omega, ?_, fun k hk => ?_⟩
  · rw [mI_st, if_pos ⟨rfl, rfl⟩, put_len p hj]; exact hv
  · rw [put_len p hj] at hk
    rw [put_getD p hj]
    have e : ∀ x : Sp, ro (stI (stI (stI M1 (g + 1) j (iZ p.1)) (g + 2) j (iZ p.2)) g 2 v) g k x ↔ ro (stI (stI M1 (g + 1) j (iZ p.1)) (g + 2) j (iZ p.2)) g k x := fun x => by
      unfold ro
      rw [mI_st _ g, if_neg (by omega), mI_st _ g, if_neg (by omega)]
    rw [e]
    by_cases c : k < j
    · rw [if_pos c]
      have := h3 k c
      unfold ro at this ⊢
      rw [mI_st, if_neg (by omega), mI_st, if_neg (by omega), mI_st, if_neg (by omega), mI_st, if_neg (by omega)]
      exact this
    · rw [if_neg c]
      by_cases c2 : k = j
      · subst c2
        rw [if_pos rfl]
        unfold ro
        rw [mI_st, if_neg (by omega), mI_st, if_pos ⟨rfl, rfl⟩, mI_st, if_pos ⟨rfl, rfl⟩]
        exact ⟨rfl, rfl⟩
      · rw [if_neg c2]
        have := h4 k (by omega) (by omega)
        unfold ro at this ⊢
        rw [mI_st, if_neg (by omega), mI_st, if_neg (by omega), mI_st, if_neg (by omega), mI_st, if_neg (by omega)]
        exact this
set_option maxHeartbeats 4000000 in
set_option maxRecDepth 100000 in
theorem l_add {M : gM} {n g : Nat} {L : List Sp} {p : Sp} (hg0 : gG M g) (hl : L.length < 16) (hs : sr L) (h5 : r5L L) (hp : r5 p.1) : ∀ (d : Nat) (j : Nat) (M1 : gM), j < d → j ≤ L.length → adI M M1 g L j → (∀ k, j ≤ k → k < L.length → p.1 ≤ (L.getD k (0, 0)).1) → GW μX0_add (gRm 0 0 0 0) (gTh (fun r M1 n1 => r = none ∧ n1 = n ∧ Off M M1 (fY g) ∧ ∃ j, gL M1 g (put L j p) ∧ j ≤ L.length ∧ (∀ k, k < j → (L.getD k (0, 0)).1 ≤ p.1) ∧ ∀ k, j ≤ k → k < L.length → p.1 ≤ (L.getD k (0, 0)).1) 0 0) 0 0 15 [some (.ref g), some (.int (iZ p.1)), some (.int (iZ p.2)), some (.int (nI j))] [] M1 n := by
  intro d
  induction d with
  | zero =>
    intro j M1 hd hj hI hup
    omega
  | succ d ih =>
    intro j M1 hd hj hI hup
    have hg := hg0.off hI.1
    refine g_iload_n dX0_add_15 rfl ?_
    refine g_if_le (tgt := 65) dX0_add_16 (by decide) (fun c_16 => ?_) (fun c_16 => ?_)
    · skip
      have hlow : ∀ k, k < j → (L.getD k (0, 0)).1 ≤ p.1 := by
        intro k hk
        first
          | (rw [iZ_le hr.1 hp] at c_28
             by_cases e : k = j - 1
             · rw [e]; exact c_28
             · exact Int.le_trans (hs k (j - 1) (by omega) (by omega)) c_28)
          | (rw [show (0 : Int32) = nI 0 from rfl, nI_leI (by omega) (by omega)] at c_16; omega)
      refine g_aload_n dX0_add_65 rfl ?_
      refine g_getR (f := 0) dX0_add_66 cl1 hg.1 (by decide) (Or.inl (iw_5 7 rfl)) (Or.inl rfl) rfl hg.2.1 ?_
      refine g_iload_n dX0_add_69 rfl ?_
      refine g_iload_n dX0_add_70 rfl ?_
      refine g_iastore dX0_add_71 (j := j) hg.2.2.2.1 hg.2.2.2.2.2.1 rfl (by omega) (by decide) ?_
      refine g_aload_n dX0_add_72 rfl ?_
      refine g_getR (f := 1) dX0_add_73 cl1 hg.1 (by decide) (Or.inl (iw_5 8 rfl)) (Or.inl rfl) rfl hg.2.2.1 ?_
      refine g_iload_n dX0_add_76 rfl ?_
      refine g_iload_n dX0_add_77 rfl ?_
      refine g_iastore dX0_add_78 (j := j) hg.2.2.2.2.1 hg.2.2.2.2.2.2 rfl (by omega) (by decide) ?_
      refine g_aload_n dX0_add_79 rfl ?_
      refine g_dup dX0_add_80 rfl ?_
      refine g_getI (f := 2) dX0_add_81 cl1 hg.1 (by decide) (Or.inl (iw_18 14 rfl)) (Or.inl rfl) (Or.inl rfl) ?_
      refine g_iconst (v := nI 1) dX0_add_84 rfl ?_
      refine g_iadd dX0_add_85 ?_
      rw [mI_st, if_neg (by omega), mI_st, if_neg (by omega), hI.2.1, nI_add]
      refine g_putI (f := 2) dX0_add_86 cl1 hg.1 (by decide) (Or.inl (iw_18 14 rfl)) (Or.inl rfl) (Or.inl rfl) (Or.inl rfl) ?_
      exact g_vret dX0_add_89 rfl (Nat.le_of_ble_eq_true rfl) (Nat.le_of_ble_eq_true rfl) (by
        have h9 := hI.end hg0 (p := p) hj hl rfl
        exact ⟨rfl, rfl, h9.1, j, h9.2, hj, hlow, hup⟩)
    · skip
      rw [show (0 : Int32) = nI 0 from rfl, nI_leI (by omega) (by omega)] at c_16
      have hr := h5 _ (getD_mem (show j - 1 < L.length by omega))
      refine g_aload_n dX0_add_19 rfl ?_
      refine g_getR (f := 0) dX0_add_20 cl1 hg.1 (by decide) (Or.inl (iw_5 7 rfl)) (Or.inl rfl) rfl hg.2.1 ?_
      refine g_iload_n dX0_add_23 rfl ?_
      refine g_iconst (v := nI 1) dX0_add_24 rfl ?_
      refine g_isub dX0_add_25 ?_
      refine g_iaload dX0_add_26 (j := j - 1) hg.2.2.2.1 hg.2.2.2.2.2.1 (nI_p (by omega)) (by omega) (by decide) ?_
      rw [(hI.2.2.1 (j - 1) (by omega)).1]
      refine g_iload_n dX0_add_27 rfl ?_
      refine g_icmp_le (tgt := 65) dX0_add_28 (by decide) (fun c_28 => ?_) (fun c_28 => ?_)
      · skip
        have hlow : ∀ k, k < j → (L.getD k (0, 0)).1 ≤ p.1 := by
          intro k hk
          first
            | (rw [iZ_le hr.1 hp] at c_28
               by_cases e : k = j - 1
               · rw [e]; exact c_28
               · exact Int.le_trans (hs k (j - 1) (by omega) (by omega)) c_28)
            | (rw [show (0 : Int32) = nI 0 from rfl, nI_leI (by omega) (by omega)] at c_16; omega)
        refine g_aload_n dX0_add_65 rfl ?_
        refine g_getR (f := 0) dX0_add_66 cl1 hg.1 (by decide) (Or.inl (iw_5 7 rfl)) (Or.inl rfl) rfl hg.2.1 ?_
        refine g_iload_n dX0_add_69 rfl ?_
        refine g_iload_n dX0_add_70 rfl ?_
        refine g_iastore dX0_add_71 (j := j) hg.2.2.2.1 hg.2.2.2.2.2.1 rfl (by omega) (by decide) ?_
        refine g_aload_n dX0_add_72 rfl ?_
        refine g_getR (f := 1) dX0_add_73 cl1 hg.1 (by decide) (Or.inl (iw_5 8 rfl)) (Or.inl rfl) rfl hg.2.2.1 ?_
        refine g_iload_n dX0_add_76 rfl ?_
        refine g_iload_n dX0_add_77 rfl ?_
        refine g_iastore dX0_add_78 (j := j) hg.2.2.2.2.1 hg.2.2.2.2.2.2 rfl (by omega) (by decide) ?_
        refine g_aload_n dX0_add_79 rfl ?_
        refine g_dup dX0_add_80 rfl ?_
        refine g_getI (f := 2) dX0_add_81 cl1 hg.1 (by decide) (Or.inl (iw_18 14 rfl)) (Or.inl rfl) (Or.inl rfl) ?_
        refine g_iconst (v := nI 1) dX0_add_84 rfl ?_
        refine g_iadd dX0_add_85 ?_
        rw [mI_st, if_neg (by omega), mI_st, if_neg (by omega), hI.2.1, nI_add]
        refine g_putI (f := 2) dX0_add_86 cl1 hg.1 (by decide) (Or.inl (iw_18 14 rfl)) (Or.inl rfl) (Or.inl rfl) (Or.inl rfl) ?_
        exact g_vret dX0_add_89 rfl (Nat.le_of_ble_eq_true rfl) (Nat.le_of_ble_eq_true rfl) (by
          have h9 := hI.end hg0 (p := p) hj hl rfl
          exact ⟨rfl, rfl, h9.1, j, h9.2, hj, hlow, hup⟩)
      · skip
        rw [iZ_le hr.1 hp] at c_28
        refine g_aload_n dX0_add_31 rfl ?_
        refine g_getR (f := 0) dX0_add_32 cl1 hg.1 (by decide) (Or.inl (iw_5 7 rfl)) (Or.inl rfl) rfl hg.2.1 ?_
        refine g_iload_n dX0_add_35 rfl ?_
        refine g_aload_n dX0_add_36 rfl ?_
        refine g_getR (f := 0) dX0_add_37 cl1 hg.1 (by decide) (Or.inl (iw_5 7 rfl)) (Or.inl rfl) rfl hg.2.1 ?_
        refine g_iload_n dX0_add_40 rfl ?_
        refine g_iconst (v := nI 1) dX0_add_41 rfl ?_
        refine g_isub dX0_add_42 ?_
        refine g_iaload dX0_add_43 (j := j - 1) hg.2.2.2.1 hg.2.2.2.2.2.1 (nI_p (by omega)) (by omega) (by decide) ?_
        refine g_iastore dX0_add_44 (j := j) hg.2.2.2.1 hg.2.2.2.2.2.1 rfl (by omega) (by decide) ?_
        refine g_aload_n dX0_add_45 rfl ?_
        refine g_getR (f := 1) dX0_add_46 cl1 hg.1 (by decide) (Or.inl (iw_5 8 rfl)) (Or.inl rfl) rfl hg.2.2.1 ?_
        refine g_iload_n dX0_add_49 rfl ?_
        refine g_aload_n dX0_add_50 rfl ?_
        refine g_getR (f := 1) dX0_add_51 cl1 hg.1 (by decide) (Or.inl (iw_5 8 rfl)) (Or.inl rfl) rfl hg.2.2.1 ?_
        refine g_iload_n dX0_add_54 rfl ?_
        refine g_iconst (v := nI 1) dX0_add_55 rfl ?_
        refine g_isub dX0_add_56 ?_
        refine g_iaload dX0_add_57 (j := j - 1) hg.2.2.2.2.1 hg.2.2.2.2.2.2 (nI_p (by omega)) (by omega) (by decide) ?_
        refine g_iastore dX0_add_58 (j := j) hg.2.2.2.2.1 hg.2.2.2.2.2.2 rfl (by omega) (by decide) ?_
        refine g_iinc dX0_add_59 rfl (nI_m (by omega)) (Nat.le_of_ble_eq_true rfl) ?_
        refine g_goto (tgt := 15) dX0_add_62 (by decide) ?_
        have hg := hg0.off hI.1
        exact ih (j - 1) _ (by omega) (by omega) (hI.dn (by omega)) (fun k hk1 hk2 => by
            by_cases e : k = j - 1
            · rw [e]; omega
            · exact hup k (by omega) hk2)

set_option maxHeartbeats 4000000 in
set_option maxRecDepth 100000 in
theorem c_add (M : gM) (n g : Nat) (U : List Sp) (p : Sp) (h : gt M g U) (hl : U.length < 16) (h5 : r5L U) (hp : r5 p.1) : GM μX0_add 0 0 0 0 [.ref g, .int (iZ p.1), .int (iZ p.2)] M n (fun r M1 n1 => r = none ∧ n1 = n ∧ Off M M1 (fY g) ∧ gt M1 g (U ++ [p])) := by
  refine GM.ofW (by decide) rfl (Nat.le_of_ble_eq_true rfl) rfl ?_
  obtain ⟨L, hL1, hL2, hL3⟩ := h
  have hg := hL3.1
  have hln := hL1.length_eq
  refine g_aload_n dX0_add_0 rfl ?_
  refine g_getI (f := 2) dX0_add_1 cl1 hg.1 (by decide) (Or.inl (iw_18 14 rfl)) (Or.inl rfl) (Or.inl rfl) ?_
  refine g_bipush (v := nI 16) dX0_add_4 rfl ?_
  rw [hL3.2.2.1]
  refine g_icmp_lt (tgt := 10) dX0_add_6 (by decide) (fun c_6 => ?_) (fun c_6 => ?_)
  · skip
    refine g_aload_n dX0_add_10 rfl ?_
    refine g_getI (f := 2) dX0_add_11 cl1 hg.1 (by decide) (Or.inl (iw_18 14 rfl)) (Or.inl rfl) (Or.inl rfl) ?_
    refine g_istore_n dX0_add_14 (Nat.le_of_ble_eq_true rfl) ?_
    rw [hL3.2.2.1]
    refine GW.post (fun r M1 n1 h9 => ?_) (l_add hg (by omega) hL2 ((r5L_perm hL1).mpr h5) hp (L.length + 1) L.length M (by omega) (Nat.le_refl _) ⟨Off.rf, hL3.2.2.1, fun k hk => hL3.2.2.2 k hk, fun k h1 h2 => by omega⟩ (fun k h1 h2 => by omega))
    obtain ⟨h91, h92, h93, j, h94, h95, h96, h97⟩ := h9
    exact ⟨h91, h92, h93, put L j p, (put_perm L j p).trans (hL1.append_right [p]), put_sr h95 hL2 h96 h97, h94⟩
  · skip
    rw [show nI 16 = nI 16 from rfl, Int32.not_lt, nI_leI (by omega) (by omega)] at c_6
    omega

theorem cS.offY {M M1 : gM} {a g : Nat} {X : List Sp} (h : cS M a X) (hg : gG M g) (ho : Off M M1 (fY g)) : cS M1 a X := h.off ho (fun k q => by
  have h1 := h.1
  rcases q with rfl | rfl | rfl
  · rw [hg.1] at h1; cases h1
  · rw [hg.2.2.2.1] at h1; cases h1
  · rw [hg.2.2.2.2.1] at h1; cases h1)
set_option maxHeartbeats 4000000 in
set_option maxRecDepth 100000 in
theorem l_addAll {M : gM} {n g a : Nat} {U X : List Sp} {Q : gθ} (hg0 : gG M g) (hX : cS M a X) (hl : U.length + X.length ≤ 16) (h5 : r5L U) (hk : ∀ M1, Off M M1 (fY g) → gt M1 g (U ++ X) → GW μX0_addAll (gRm 1 23 0 0) Q 0 0 30 [some (.ref g), some (.ref a), none] [] M1 n) : ∀ (d : Nat) (k : Nat) (M1 : gM), X.length - k < d → k ≤ X.length → Off M M1 (fY g) → gt M1 g (U ++ X.take k) → GW μX0_addAll (gRm 1 23 0 0) Q 0 0 2 [some (.ref g), some (.ref a), some (.int (nI k))] [] M1 n := by
  intro d
  induction d with
  | zero =>
    intro k M1 hd hk1 hO hI
    omega
  | succ d ih =>
    intro k M1 hd hk1 hO hI
    have hx1 := hX.offY hg0 hO
    have l2 := hX.2.1.2.1
    refine g_iload_n dX0_addAll_2 rfl ?_
    refine g_aload_n dX0_addAll_3 rfl ?_
    refine g_getI (f := 0) dX0_addAll_4 cl4 hx1.1 (by decide) (Or.inr (List.mem_of_getElem? (i := 14) rfl)) (Or.inl rfl) (Or.inl rfl) ?_
    rw [hx1.2.2.1]
    refine g_icmp_ge (tgt := 30) dX0_addAll_7 (by decide) (fun c_7 => ?_) (fun c_7 => ?_)
    · skip
      rw [nI_leI (by omega) (by omega)] at c_7
      refine g_drop 2 ?_
      exact hk M1 hO (by rw [List.take_of_length_le (by omega)] at hI; exact hI)
    · skip
      rw [nI_leI (by omega) (by omega)] at c_7
      have hkl : k < X.length := by omega
      have hr := hX.r hkl
      refine g_aload_n dX0_addAll_10 rfl ?_
      refine g_aload_n dX0_addAll_11 rfl ?_
      refine g_iload_n dX0_addAll_12 rfl ?_
      refine g_callV dX0_addAll_13 sX3_low (c_low M1 n a k X hx1 hkl) cl4 hx1.1 iX3_low vX3_low (iw_18 15 rfl) rfl rfl (Nat.le_of_ble_eq_true rfl) (Nat.le_of_ble_eq_true rfl) (Nat.le_of_ble_eq_true rfl) (Nat.le_of_ble_eq_true rfl) (Nat.le_of_ble_eq_true rfl) ?_
      intro r9 M9 n9 h9
      obtain ⟨h91, h92, h93⟩ := h9
      rw [h91, h92, h93]
      clear h91 h92 h93 r9 M9 n9
      refine g_aload_n dX0_addAll_16 rfl ?_
      refine g_iload_n dX0_addAll_17 rfl ?_
      refine g_callV dX0_addAll_18 sX3_high (c_high M1 n a k X hx1 hkl) cl4 hx1.1 iX3_high vX3_high (iw_18 16 rfl) rfl rfl (Nat.le_of_ble_eq_true rfl) (Nat.le_of_ble_eq_true rfl) (Nat.le_of_ble_eq_true rfl) (Nat.le_of_ble_eq_true rfl) (Nat.le_of_ble_eq_true rfl) ?_
      intro r9 M9 n9 h9
      obtain ⟨h91, h92, h93⟩ := h9
      rw [h91, h92, h93]
      clear h91 h92 h93 r9 M9 n9
      refine g_callV dX0_addAll_21 sX0_add (c_add M1 n g (U ++ X.take k) (X.getD k (0, 0)) hI (by rw [List.length_append, List.length_take]; omega) (r5L_app.mpr ⟨h5, (okX_take hX.2.1 k).2.2⟩) hr.1) cl1 hI.g.1 iX0_add vX0_add (iw_18 17 rfl) rfl rfl (Nat.le_of_ble_eq_true rfl) (Nat.le_of_ble_eq_true rfl) (Nat.le_of_ble_eq_true rfl) (Nat.le_of_ble_eq_true rfl) (Nat.le_of_ble_eq_true rfl) ?_
      intro r9 M2 n9 h9
      obtain ⟨h91, h93, hO2, hI2⟩ := h9
      rw [h91, h93]
      clear h91 h93 r9 n9
      refine g_iinc dX0_addAll_24 rfl (nI_1 k) (Nat.le_of_ble_eq_true rfl) ?_
      refine g_goto (tgt := 2) dX0_addAll_27 (by decide) ?_
      have hx1 := hX.offY hg0 hO
      have l2 := hX.2.1.2.1
      exact ih (k + 1) M2 (by omega) (by omega) (hO.trans hO2) (by rw [take_one hkl, ← List.append_assoc]; exact hI2)

set_option maxHeartbeats 4000000 in
set_option maxRecDepth 100000 in
theorem c_addAll (M : gM) (n g a : Nat) (U X : List Sp) (h : gt M g U) (hX : cS M a X) (hl : U.length + X.length ≤ 16) (h5 : r5L U) : GM μX0_addAll 1 23 0 0 [.ref g, .ref a] M n (fun r M1 n1 => r = none ∧ n1 = n ∧ Off M M1 (fY g) ∧ gt M1 g (U ++ X)) := by
  refine GM.ofW (by decide) rfl (Nat.le_of_ble_eq_true rfl) rfl ?_
  refine g_iconst (v := nI 0) dX0_addAll_0 rfl ?_
  refine g_istore_n dX0_addAll_1 (Nat.le_of_ble_eq_true rfl) ?_
  refine l_addAll h.g hX hl h5 (fun M2 hO2 hI2 => ?_) (X.length + 1) 0 M (by omega) (by omega) Off.rf (by simpa using h)
  exact g_vret dX0_addAll_30 rfl (Nat.le_refl _) (Nat.le_refl _) ⟨rfl, rfl, hO2, hI2⟩

theorem jc_lt' {a b : Int} (ha : -9223372036854775808 ≤ a ∧ a < 9223372036854775808) (hb : -9223372036854775808 ≤ b ∧ b < 9223372036854775808) : lg_cmp (jI a) (jI b) < 0 ↔ a < b := by
  rw [lg_cmp_lt, Int64.lt_iff_toInt_lt, jI_t ha.1 ha.2, jI_t hb.1 hb.2]
theorem wl_rnd {e w : Int} (lo hi : Int) (hw : 0 < w) (h3 : -2147483648 ≤ e) (h4 : e + w - 1 ≤ 2147483647) : wl (rnd e w lo hi) := ⟨rnd_ok lo hi hw, rnd_r5 lo hi hw h3 h4⟩
set_option maxHeartbeats 4000000 in
set_option maxRecDepth 100000 in
theorem c_round (M : gM) (n g : Nat) (U : List Sp) (a b e w : Int) (h : gt M g U) (hl : U.length + 2 ≤ 16) (h5 : r5L U) (hw : w = 256 ∨ w = 65536 ∨ w = 4294967296) (he : -2147483648 ≤ e) (he2 : e + w - 1 ≤ 2147483647) (hab : a ≤ b) (ha : -4611686018427387904 ≤ a) (hb : b ≤ 4611686018427387904) (hd : b - a ≤ 9223372034707292160) : GM μX0_addRound 1 23 0 0 [.ref g, .long (jI a), .long (jI b), .long (jI e), .long (jI w)] M n (fun r M1 n1 => r = none ∧ n1 = n ∧ Off M M1 (fY g) ∧ gt M1 g (U ++ rnd e w a b)) := by
  refine GM.ofW (by decide) rfl (Nat.le_of_ble_eq_true rfl) rfl ?_
  have mk : ∀ z : Int, jI z &&& jI (w - 1) = jI (z % w) := fun z => by
    rcases hw with rfl | rfl | rfl
    · exact jI_m8 z
    · exact jI_m16 z
    · exact jI_m32 z
  have hw0 : 0 < w := by omega
  have b1 := bm_r (z := a) (e := e) hw0
  have b2 := bm_r (z := b) (e := e) hw0
  have w1 := wl_rnd a b hw0 he he2
  refine g_lload dX0_addRound_0 rfl ?_
  refine g_lload dX0_addRound_2 rfl ?_
  refine g_ladd dX0_addRound_4 ?_
  rw [jI_add]
  refine g_lconst (v := jI 1) dX0_addRound_5 rfl ?_
  refine g_lsub dX0_addRound_6 ?_
  rw [jI_sub]
  refine g_lstore dX0_addRound_7 (Nat.le_of_ble_eq_true rfl) ?_
  refine g_lload_n dX0_addRound_9 rfl ?_
  refine g_lload_n dX0_addRound_10 rfl ?_
  refine g_lsub dX0_addRound_11 ?_
  rw [jI_sub]
  refine g_lload dX0_addRound_12 rfl ?_
  refine g_lconst (v := jI 1) dX0_addRound_14 rfl ?_
  refine g_lsub dX0_addRound_15 ?_
  rw [jI_sub]
  refine g_lcmp dX0_addRound_16 ?_
  refine g_if_lt (tgt := 31) dX0_addRound_17 (by decide) (fun c_17 => ?_) (fun c_17 => ?_)
  · skip
    rw [jc_lt' (by omega) (by omega)] at c_17
    refine g_lload dX0_addRound_31 rfl ?_
    refine g_lload_n dX0_addRound_33 rfl ?_
    refine g_lload dX0_addRound_34 rfl ?_
    refine g_lsub dX0_addRound_36 ?_
    rw [jI_sub]
    refine g_lload dX0_addRound_37 rfl ?_
    refine g_lconst (v := jI 1) dX0_addRound_39 rfl ?_
    refine g_lsub dX0_addRound_40 ?_
    rw [jI_sub]
    refine g_land dX0_addRound_41 ?_
    rw [mk]
    refine g_ladd dX0_addRound_42 ?_
    rw [jI_add]
    refine g_lstore dX0_addRound_43 (Nat.le_of_ble_eq_true rfl) ?_
    refine g_lload dX0_addRound_45 rfl ?_
    refine g_lload_n dX0_addRound_47 rfl ?_
    refine g_lload dX0_addRound_48 rfl ?_
    refine g_lsub dX0_addRound_50 ?_
    rw [jI_sub]
    refine g_lload dX0_addRound_51 rfl ?_
    refine g_lconst (v := jI 1) dX0_addRound_53 rfl ?_
    refine g_lsub dX0_addRound_54 ?_
    rw [jI_sub]
    refine g_land dX0_addRound_55 ?_
    rw [mk]
    refine g_ladd dX0_addRound_56 ?_
    rw [jI_add]
    refine g_lstore dX0_addRound_57 (Nat.le_of_ble_eq_true rfl) ?_
    refine g_lload dX0_addRound_59 rfl ?_
    refine g_lload dX0_addRound_61 rfl ?_
    refine g_lcmp dX0_addRound_63 ?_
    refine g_if_gt (tgt := 80) dX0_addRound_64 (by decide) (fun c_64 => ?_) (fun c_64 => ?_)
    · skip
      rw [jc_gt (by constructor <;> omega) (by constructor <;> omega)] at c_64
      have er : rnd e w a b = [(e, e + (b - e) % w), (e + (a - e) % w, e + w - 1)] := by unfold rnd; rw [if_neg (by omega), if_neg (by omega)]
      refine g_aload_n dX0_addRound_80 rfl ?_
      refine g_lload dX0_addRound_81 rfl ?_
      refine g_l2i dX0_addRound_83 ?_
      rw [jI_i]
      refine g_lload dX0_addRound_84 rfl ?_
      refine g_l2i dX0_addRound_86 ?_
      rw [jI_i]
      refine g_callV dX0_addRound_87 sX0_add (c_add M n g U (e, e + (b - e) % w) h (by omega) h5 (by constructor <;> (simp only; omega))) cl1 h.g.1 iX0_add vX0_add (iw_18 17 rfl) rfl rfl (Nat.le_of_ble_eq_true rfl) (Nat.le_of_ble_eq_true rfl) (Nat.le_of_ble_eq_true rfl) (Nat.le_of_ble_eq_true rfl) (Nat.le_of_ble_eq_true rfl) ?_
      intro r9 M2 n9 h9
      obtain ⟨h91, h93, hO2, hI2⟩ := h9
      rw [h91, h93]
      clear h91 h93 r9 n9
      refine g_aload_n dX0_addRound_90 rfl ?_
      refine g_lload dX0_addRound_91 rfl ?_
      refine g_l2i dX0_addRound_93 ?_
      rw [jI_i]
      refine g_lload dX0_addRound_94 rfl ?_
      refine g_l2i dX0_addRound_96 ?_
      rw [jI_i]
      refine g_callV dX0_addRound_97 sX0_add (c_add M2 n g (U ++ [(e, e + (b - e) % w)]) (e + (a - e) % w, e + w - 1) hI2 (by simp; omega) (r5L_app.mpr ⟨h5, by rw [er] at w1; exact fun p hp => w1.2 p (by simp at hp; simp [hp])⟩) (by constructor <;> (simp only; omega))) cl1 hI2.g.1 iX0_add vX0_add (iw_18 17 rfl) rfl rfl (Nat.le_of_ble_eq_true rfl) (Nat.le_of_ble_eq_true rfl) (Nat.le_of_ble_eq_true rfl) (Nat.le_of_ble_eq_true rfl) (Nat.le_of_ble_eq_true rfl) ?_
      intro r9 M3 n9 h9
      obtain ⟨h91, h93, hO3, hI3⟩ := h9
      rw [h91, h93]
      clear h91 h93 r9 n9
      exact g_vret dX0_addRound_100 rfl (Nat.le_of_ble_eq_true rfl) (Nat.le_of_ble_eq_true rfl) (by
        first
          | exact ⟨rfl, rfl, hO2.trans hO3, by rw [er]; rw [List.append_assoc] at hI3; exact hI3⟩
          | exact ⟨rfl, rfl, hO2, by rw [er]; exact hI2⟩)
    · skip
      rw [jc_gt (by constructor <;> omega) (by constructor <;> omega)] at c_64
      have er : rnd e w a b = [(e + (a - e) % w, e + (b - e) % w)] := by unfold rnd; rw [if_neg (by omega), if_pos (by omega)]
      refine g_aload_n dX0_addRound_67 rfl ?_
      refine g_lload dX0_addRound_68 rfl ?_
      refine g_l2i dX0_addRound_70 ?_
      rw [jI_i]
      refine g_lload dX0_addRound_71 rfl ?_
      refine g_l2i dX0_addRound_73 ?_
      rw [jI_i]
      refine g_callV dX0_addRound_74 sX0_add (c_add M n g U (e + (a - e) % w, e + (b - e) % w) h (by omega) h5 (by constructor <;> (simp only; omega))) cl1 h.g.1 iX0_add vX0_add (iw_18 17 rfl) rfl rfl (Nat.le_of_ble_eq_true rfl) (Nat.le_of_ble_eq_true rfl) (Nat.le_of_ble_eq_true rfl) (Nat.le_of_ble_eq_true rfl) (Nat.le_of_ble_eq_true rfl) ?_
      intro r9 M2 n9 h9
      obtain ⟨h91, h93, hO2, hI2⟩ := h9
      rw [h91, h93]
      clear h91 h93 r9 n9
      refine g_goto (tgt := 100) dX0_addRound_77 (by decide) ?_
      exact g_vret dX0_addRound_100 rfl (Nat.le_of_ble_eq_true rfl) (Nat.le_of_ble_eq_true rfl) (by
        first
          | exact ⟨rfl, rfl, hO2.trans hO3, by rw [er]; rw [List.append_assoc] at hI3; exact hI3⟩
          | exact ⟨rfl, rfl, hO2, by rw [er]; exact hI2⟩)
  · skip
    rw [jc_lt' (by omega) (by omega)] at c_17
    have er : rnd e w a b = [(e, e + w - 1)] := by unfold rnd; rw [if_pos (by omega)]
    refine g_aload_n dX0_addRound_20 rfl ?_
    refine g_lload dX0_addRound_21 rfl ?_
    refine g_l2i dX0_addRound_23 ?_
    rw [jI_i]
    refine g_lload dX0_addRound_24 rfl ?_
    refine g_l2i dX0_addRound_26 ?_
    rw [jI_i]
    refine g_callV dX0_addRound_27 sX0_add (c_add M n g U (e, e + w - 1) h (by omega) h5 (by constructor <;> (simp only; omega))) cl1 h.g.1 iX0_add vX0_add (iw_18 17 rfl) rfl rfl (Nat.le_of_ble_eq_true rfl) (Nat.le_of_ble_eq_true rfl) (Nat.le_of_ble_eq_true rfl) (Nat.le_of_ble_eq_true rfl) (Nat.le_of_ble_eq_true rfl) ?_
    intro r9 M2 n9 h9
    obtain ⟨h91, h93, hO2, hI2⟩ := h9
    rw [h91, h93]
    clear h91 h93 r9 n9
    exact g_vret dX0_addRound_30 rfl (Nat.le_of_ble_eq_true rfl) (Nat.le_of_ble_eq_true rfl) ⟨rfl, rfl, hO2, by rw [er]; exact hI2⟩

