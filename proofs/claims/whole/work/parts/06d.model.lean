/-! the reference: two spans become one -/
set_option maxHeartbeats 4000000 in
set_option maxRecDepth 100000 in
theorem l_unite {M : gM} {n m a b : Nat} {L : List Sp} {post : gPo} (hm : gMod M m) (hab : a < b) (hb : b < L.length) (hl : L.length ≤ 64) (hq : ∀ M1, Off M M1 (fL m) → iL M1 m (unL L a b) → post none M1 n) : ∀ (d : Nat) (k : Nat) (M1 : gM), L.length - k < d → b ≤ k → k ≤ L.length - 1 → Off M M1 (fL m) → mI M1 m 3 = nI (L.length - 1) → (∀ j, j < k → j < L.length - 1 → (mJ M1 (m + 3) j = jI ((unL L a b).getD j (0, 0)).1 ∧ mJ M1 (m + 4) j = jI ((unL L a b).getD j (0, 0)).2)) → (∀ j, k ≤ j → j < L.length → (mJ M1 (m + 3) j = jI (L.getD j (0, 0)).1 ∧ mJ M1 (m + 4) j = jI (L.getD j (0, 0)).2)) → GW μX9_unite (gRm 1 23 0 0) (gTh post 0 0) 0 0 54 [some (.ref m), some (.int (nI a)), some (.int (nI b)), some (.int (nI k))] [] M1 n := by
  intro d
  induction d with
  | zero =>
    intro k M1 hd hbk hk hO hc h1 h2
    omega
  | succ d ih =>
    intro k M1 hd hbk hk hO hc h1 h2
    have hm1 : gMod M1 m := hm.off hO
    refine g_iload_n dX9_unite_54 rfl ?_
    refine g_aload_n dX9_unite_55 rfl ?_
    refine g_getI (f := 3) dX9_unite_56 cl10 hm1.1 (by decide) (Or.inl (iw_25 19 rfl)) (Or.inl rfl) (Or.inl rfl) ?_
    rw [hc]
    refine g_icmp_ge (tgt := 96) dX9_unite_59 (by decide) (fun c_59 => ?_) (fun c_59 => ?_)
    · skip
      rw [nI_leI (by omega) (by omega)] at c_59
      exact g_vret dX9_unite_96 rfl (Nat.le_of_ble_eq_true rfl) (Nat.le_of_ble_eq_true rfl) (hq M1 hO ⟨by rw [unL_len hb]; exact hc, fun j hj => by rw [unL_len hb] at hj; exact h1 j (by omega) hj⟩)
    · skip
      rw [nI_leI (by omega) (by omega)] at c_59
      refine g_aload_n dX9_unite_62 rfl ?_
      refine g_getR (f := 4) dX9_unite_63 cl10 hm1.1 (by decide) (Or.inl (iw_5 22 rfl)) (Or.inl rfl) rfl hm1.r_from ?_
      refine g_iload_n dX9_unite_66 rfl ?_
      refine g_aload_n dX9_unite_67 rfl ?_
      refine g_getR (f := 4) dX9_unite_68 cl10 hm1.1 (by decide) (Or.inl (iw_5 22 rfl)) (Or.inl rfl) rfl hm1.r_from ?_
      refine g_iload_n dX9_unite_71 rfl ?_
      refine g_iconst (v := nI 1) dX9_unite_72 rfl ?_
      refine g_iadd dX9_unite_73 ?_
      refine g_laload dX9_unite_74 (j := k + 1) hm1.k_from hm1.n_from (by simp only [pk_mul, nI_add]) (by omega) (by decide) ?_
      refine g_lastore dX9_unite_75 (j := k) hm1.k_from hm1.n_from rfl (by omega) (by decide) ?_
      refine g_aload_n dX9_unite_76 rfl ?_
      refine g_getR (f := 5) dX9_unite_77 cl10 hm1.1 (by decide) (Or.inl (iw_5 23 rfl)) (Or.inl rfl) rfl hm1.r_to ?_
      refine g_iload_n dX9_unite_80 rfl ?_
      refine g_aload_n dX9_unite_81 rfl ?_
      refine g_getR (f := 5) dX9_unite_82 cl10 hm1.1 (by decide) (Or.inl (iw_5 23 rfl)) (Or.inl rfl) rfl hm1.r_to ?_
      refine g_iload_n dX9_unite_85 rfl ?_
      refine g_iconst (v := nI 1) dX9_unite_86 rfl ?_
      refine g_iadd dX9_unite_87 ?_
      refine g_laload dX9_unite_88 (j := k + 1) hm1.k_to hm1.n_to (by simp only [pk_mul, nI_add]) (by omega) (by decide) ?_
      refine g_lastore dX9_unite_89 (j := k) hm1.k_to hm1.n_to rfl (by omega) (by decide) ?_
      refine g_iinc dX9_unite_90 rfl (nI_1 k) (Nat.le_of_ble_eq_true rfl) ?_
      refine g_goto (tgt := 54) dX9_unite_93 (by decide) ?_
      have g1 := h2 (k + 1) (by omega) (by omega)
      refine ih (k + 1) _ (by omega) (by omega) (by omega) ((hO.stJ (Or.inr (Or.inl rfl))).stJ (Or.inr (Or.inr rfl))) hc (fun j hj hj2 => ?_) (fun j hj hj2 => ?_)
      · by_cases e : j = k
        · subst e
          rw [unL_getD hab hb hj2, if_neg (by omega), if_neg (by omega)]
          simp only [mJ_st]
          simp
          exact g1
        · have g2 := h1 j (by omega) hj2
          simp only [mJ_st]
          rw [if_neg (by omega), if_neg (by omega), if_neg (by omega), if_neg (by omega)]
          exact g2
      · have g2 := h2 j (by omega) hj2
        simp only [mJ_st]
        rw [if_neg (by omega), if_neg (by omega), if_neg (by omega), if_neg (by omega)]
        exact g2

set_option maxHeartbeats 4000000 in
set_option maxRecDepth 100000 in
theorem m_unite (M : gM) (n m a b : Nat) (L : List Sp) (hm : gMod M m) (hab : a < b) (hb : b < L.length) (hl : L.length ≤ 64) (hI : iL M m L) (hr : r5L L) : GM μX9_unite 1 23 0 0 [.ref m, .int (nI a), .int (nI b)] M n (fun r M1 n1 => r = none ∧ n1 = n ∧ Off M M1 (fL m) ∧ iL M1 m (unL L a b)) := by
  refine GM.ofW (by decide) rfl (Nat.le_of_ble_eq_true rfl) rfl ?_
  have ha : a < L.length := by omega
  obtain ⟨ra1, ra2⟩ := r5_getD hr ha
  obtain ⟨rb1, rb2⟩ := r5_getD hr hb
  obtain ⟨ea1, ea2⟩ := hI.2 a ha
  obtain ⟨eb1, eb2⟩ := hI.2 b hb
  refine g_aload_n dX9_unite_0 rfl ?_
  refine g_getR (f := 4) dX9_unite_1 cl10 hm.1 (by decide) (Or.inl (iw_5 22 rfl)) (Or.inl rfl) rfl hm.r_from ?_
  refine g_iload_n dX9_unite_4 rfl ?_
  refine g_aload_n dX9_unite_5 rfl ?_
  refine g_getR (f := 4) dX9_unite_6 cl10 hm.1 (by decide) (Or.inl (iw_5 22 rfl)) (Or.inl rfl) rfl hm.r_from ?_
  refine g_iload_n dX9_unite_9 rfl ?_
  refine g_laload dX9_unite_10 (j := a) hm.k_from hm.n_from rfl (by omega) (by decide) ?_
  refine g_aload_n dX9_unite_11 rfl ?_
  refine g_getR (f := 4) dX9_unite_12 cl10 hm.1 (by decide) (Or.inl (iw_5 22 rfl)) (Or.inl rfl) rfl hm.r_from ?_
  refine g_iload_n dX9_unite_15 rfl ?_
  refine g_laload dX9_unite_16 (j := b) hm.k_from hm.n_from rfl (by omega) (by decide) ?_
  rw [ea1, eb1]
  refine g_callS (As := [.long (jI (L.getD a (0, 0)).1), .long (jI (L.getD b (0, 0)).1)]) dX9_unite_17 sX9_lesser (m_lesser M n (jI (L.getD a (0, 0)).1) (jI (L.getD b (0, 0)).1)) tX9_lesser (iw_26 12 rfl) rfl rfl (Nat.le_of_ble_eq_true rfl) (Nat.le_of_ble_eq_true rfl) (Nat.le_of_ble_eq_true rfl) (Nat.le_of_ble_eq_true rfl) (Nat.le_of_ble_eq_true rfl) ?_
  intro r9 M9 n9 h9
  obtain ⟨h91, h92, h93⟩ := h9
  rw [h91, h92, h93]
  clear h91 h92 h93 r9 M9 n9
  rw [jI_min (r6_of ra1) (r6_of rb1)]
  refine g_lastore dX9_unite_20 (j := a) hm.k_from hm.n_from rfl (by omega) (by decide) ?_
  refine g_aload_n dX9_unite_21 rfl ?_
  refine g_getR (f := 5) dX9_unite_22 cl10 hm.1 (by decide) (Or.inl (iw_5 23 rfl)) (Or.inl rfl) rfl hm.r_to ?_
  refine g_iload_n dX9_unite_25 rfl ?_
  refine g_aload_n dX9_unite_26 rfl ?_
  refine g_getR (f := 5) dX9_unite_27 cl10 hm.1 (by decide) (Or.inl (iw_5 23 rfl)) (Or.inl rfl) rfl hm.r_to ?_
  refine g_iload_n dX9_unite_30 rfl ?_
  refine g_laload dX9_unite_31 (j := a) hm.k_to hm.n_to rfl (by omega) (by decide) ?_
  refine g_aload_n dX9_unite_32 rfl ?_
  refine g_getR (f := 5) dX9_unite_33 cl10 hm.1 (by decide) (Or.inl (iw_5 23 rfl)) (Or.inl rfl) rfl hm.r_to ?_
  refine g_iload_n dX9_unite_36 rfl ?_
  refine g_laload dX9_unite_37 (j := b) hm.k_to hm.n_to rfl (by omega) (by decide) ?_
  rw [show mJ (stJ M (m + 3) a (jI (min (L.getD a (0, 0)).1 (L.getD b (0, 0)).1))) (m + 4) a = jI (L.getD a (0, 0)).2 by rw [mJ_st, if_neg (by omega)]; exact ea2, show mJ (stJ M (m + 3) a (jI (min (L.getD a (0, 0)).1 (L.getD b (0, 0)).1))) (m + 4) b = jI (L.getD b (0, 0)).2 by rw [mJ_st, if_neg (by omega)]; exact eb2]
  refine g_callS (As := [.long (jI (L.getD a (0, 0)).2), .long (jI (L.getD b (0, 0)).2)]) dX9_unite_38 sX9_greater (m_greater _ n (jI (L.getD a (0, 0)).2) (jI (L.getD b (0, 0)).2)) tX9_greater (iw_27 7 rfl) rfl rfl (Nat.le_of_ble_eq_true rfl) (Nat.le_of_ble_eq_true rfl) (Nat.le_of_ble_eq_true rfl) (Nat.le_of_ble_eq_true rfl) (Nat.le_of_ble_eq_true rfl) ?_
  intro r9 M9 n9 h9
  obtain ⟨h91, h92, h93⟩ := h9
  rw [h91, h92, h93]
  clear h91 h92 h93 r9 M9 n9
  rw [jI_max (r6_of ra2) (r6_of rb2)]
  refine g_lastore dX9_unite_41 (j := a) hm.k_to hm.n_to rfl (by omega) (by decide) ?_
  refine g_aload_n dX9_unite_42 rfl ?_
  refine g_dup dX9_unite_43 rfl ?_
  refine g_getI (f := 3) dX9_unite_44 cl10 hm.1 (by decide) (Or.inl (iw_25 19 rfl)) (Or.inl rfl) (Or.inl rfl) ?_
  refine g_iconst (v := nI 1) dX9_unite_47 rfl ?_
  refine g_isub dX9_unite_48 ?_
  refine g_putI (f := 3) dX9_unite_49 cl10 hm.1 (by decide) (Or.inl (iw_25 19 rfl)) (Or.inl rfl) (Or.inl rfl) (Or.inl rfl) ?_
  refine g_iload_n dX9_unite_52 rfl ?_
  refine g_istore_n dX9_unite_53 (Nat.le_of_ble_eq_true rfl) ?_
  refine l_unite hm hab hb hl (fun M1 h1 h2 => ⟨rfl, rfl, h1, h2⟩) (L.length + 1) b _ (by omega) (by omega) (by omega) (((Off.rf.stJ (Or.inr (Or.inl rfl))).stJ (Or.inr (Or.inr rfl))).stI (Or.inl ⟨rfl, rfl⟩)) ?_ (fun j hj hj2 => ?_) (fun j hj hj2 => ?_)
  · rw [mI_st, if_pos ⟨rfl, rfl⟩, mI_sJ, mI_sJ, hI.1]
    exact pk_sub (by omega)
  · rw [mJ_sI, mJ_sI, unL_getD hab hb hj2]
    by_cases e : j = a
    · subst e
      simp [mJ_st]
    · rw [if_neg e, if_pos hj]
      simp only [mJ_st]
      rw [if_neg (by omega), if_neg (by omega), if_neg (by omega), if_neg (by omega)]
      exact hI.2 j (by omega)
  · rw [mJ_sI, mJ_sI]
    simp only [mJ_st]
    rw [if_neg (by omega), if_neg (by omega), if_neg (by omega), if_neg (by omega)]
    exact hI.2 j hj2

