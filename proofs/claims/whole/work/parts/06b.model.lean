/-! the reference: sets copied, compared, read; spans laid -/
set_option maxHeartbeats 4000000 in
set_option maxRecDepth 100000 in
theorem l_copy {M : gM} {n m to fr : Nat} {post : gPo} (hm : gMod M m) (ht : to < 360) (hf : fr < 360) (hq : ∀ M1, Off M M1 (fS m to) → mI M1 (m + 1) to = mI M (m + 1) fr → (∀ j, j < 4 → mJ M1 (m + 2) (4 * to + j) = mJ M (m + 2) (4 * fr + j)) → post none M1 n) : ∀ (d : Nat) (k : Nat) (M1 : gM), 4 - k < d → k ≤ 4 → (Off M M1 (fS m to) ∧ mI M1 (m + 1) to = mI M (m + 1) fr ∧ (∀ j, j < k → mJ M1 (m + 2) (4 * to + j) = mJ M (m + 2) (4 * fr + j)) ∧ (∀ j, k ≤ j → j < 4 → mJ M1 (m + 2) (4 * to + j) = mJ M (m + 2) (4 * to + j))) → GW μX9_copy (gRm 0 0 0 0) (gTh post 0 0) 0 0 14 [some (.ref m), some (.int (nI to)), some (.int (nI fr)), some (.int (nI k))] [] M1 n := by
  intro d
  induction d with
  | zero =>
    intro k M1 hd hk hI
    omega
  | succ d ih =>
    intro k M1 hd hk hI
    have hm1 : gMod M1 m := hm.off hI.1
    refine g_iload_n dX9_copy_14 rfl ?_
    refine g_iconst (v := nI 4) dX9_copy_15 rfl ?_
    refine g_icmp_ge (tgt := 45) dX9_copy_16 (by decide) (fun c_16 => ?_) (fun c_16 => ?_)
    · skip
      rw [nI_leI (by omega) (by omega)] at c_16
      exact g_vret dX9_copy_45 rfl (Nat.le_of_ble_eq_true rfl) (Nat.le_of_ble_eq_true rfl) (hq M1 hI.1 hI.2.1 (fun j hj => hI.2.2.1 j (by omega)))
    · skip
      rw [nI_leI (by omega) (by omega)] at c_16
      refine g_aload_n dX9_copy_19 rfl ?_
      refine g_getR (f := 2) dX9_copy_20 cl10 hm1.1 (by decide) (Or.inl (iw_5 21 rfl)) (Or.inl rfl) rfl hm1.r_ends ?_
      refine g_iconst (v := nI 4) dX9_copy_23 rfl ?_
      refine g_iload_n dX9_copy_24 rfl ?_
      refine g_imul dX9_copy_25 ?_
      refine g_iload_n dX9_copy_26 rfl ?_
      refine g_iadd dX9_copy_27 ?_
      refine g_aload_n dX9_copy_28 rfl ?_
      refine g_getR (f := 2) dX9_copy_29 cl10 hm1.1 (by decide) (Or.inl (iw_5 21 rfl)) (Or.inl rfl) rfl hm1.r_ends ?_
      refine g_iconst (v := nI 4) dX9_copy_32 rfl ?_
      refine g_iload_n dX9_copy_33 rfl ?_
      refine g_imul dX9_copy_34 ?_
      refine g_iload_n dX9_copy_35 rfl ?_
      refine g_iadd dX9_copy_36 ?_
      refine g_laload dX9_copy_37 (j := 4 * fr + k) hm1.k_ends hm1.n_ends (by simp only [pk_mul, nI_add]) (by omega) (by decide) ?_
      refine g_lastore dX9_copy_38 (j := 4 * to + k) hm1.k_ends hm1.n_ends (by simp only [pk_mul, nI_add]) (by omega) (by decide) ?_
      refine g_iinc dX9_copy_39 rfl (nI_1 k) (Nat.le_of_ble_eq_true rfl) ?_
      refine g_goto (tgt := 14) dX9_copy_42 (by decide) ?_
      refine ih (k + 1) _ (by omega) (by omega) ⟨hI.1.stJ (Or.inr ⟨rfl, by omega, by omega⟩), ?_, fun j hj => ?_, fun j h1 h2 => ?_⟩
      · exact hI.2.1
      · rw [mJ_st]
        by_cases hjk : j = k
        · subst hjk
          rw [if_pos ⟨rfl, rfl⟩]
          by_cases e : fr = to
          · subst e; exact hI.2.2.2 j (Nat.le_refl _) (by omega)
          · exact hI.1.j (by unfold fS; omega)
        · rw [if_neg (by omega)]; exact hI.2.2.1 j (by omega)
      · rw [mJ_st, if_neg (by omega)]; exact hI.2.2.2 j (by omega) h2

set_option maxHeartbeats 4000000 in
set_option maxRecDepth 100000 in
theorem m_copy (M : gM) (n m to fr : Nat) (hm : gMod M m) (ht : to < 360) (hf : fr < 360) : GM μX9_copy 0 0 0 0 [.ref m, .int (nI to), .int (nI fr)] M n (fun r M1 n1 => r = none ∧ n1 = n ∧ Off M M1 (fS m to) ∧ ∀ X, iS M m fr X → iS M1 m to X) := by
  refine GM.ofW (by decide) rfl (Nat.le_of_ble_eq_true rfl) rfl ?_
  refine g_aload_n dX9_copy_0 rfl ?_
  refine g_getR (f := 1) dX9_copy_1 cl10 hm.1 (by decide) (Or.inl (iw_5 20 rfl)) (Or.inl rfl) rfl hm.r_many ?_
  refine g_iload_n dX9_copy_4 rfl ?_
  refine g_aload_n dX9_copy_5 rfl ?_
  refine g_getR (f := 1) dX9_copy_6 cl10 hm.1 (by decide) (Or.inl (iw_5 20 rfl)) (Or.inl rfl) rfl hm.r_many ?_
  refine g_iload_n dX9_copy_9 rfl ?_
  refine g_iaload dX9_copy_10 (j := fr) hm.k_many hm.n_many rfl (by omega) (by decide) ?_
  refine g_iastore dX9_copy_11 (j := to) hm.k_many hm.n_many rfl (by omega) (by decide) ?_
  refine g_iconst (v := nI 0) dX9_copy_12 rfl ?_
  refine g_istore_n dX9_copy_13 (Nat.le_of_ble_eq_true rfl) ?_
  refine l_copy hm ht hf (fun M1 h1 h2 h3 => ⟨rfl, rfl, h1, fun X hX => ⟨hX.1, h2.trans hX.2.1, fun k hk => ?_⟩⟩) 5 0 _ (by omega) (by omega) ⟨Off.rf.stI (Or.inl ⟨rfl, rfl⟩), ?_, fun j hj => absurd hj (by omega), fun j _ _ => rfl⟩
  · rw [mI_st, if_pos ⟨rfl, rfl⟩]
  · have := hX.1
    rw [h3 (2 * k) (by omega), show 4 * to + 2 * k + 1 = 4 * to + (2 * k + 1) by omega, h3 (2 * k + 1) (by omega)]
    exact hX.2.2 k hk

set_option maxHeartbeats 4000000 in
set_option maxRecDepth 100000 in
theorem m_one (M : gM) (n m s : Nat) (a b : Int) (hm : gMod M m) (hs : s < 360) (ha : r6 a) (hb : r6 b) : GM μX9_one 0 0 0 0 [.ref m, .int (nI s), .long (jI a), .long (jI b)] M n (fun r M1 n1 => r = none ∧ n1 = n ∧ Off M M1 (fS m s) ∧ iS M1 m s (if a ≤ b then [(a, b)] else [])) := by
  refine GM.ofW (by decide) rfl (Nat.le_of_ble_eq_true rfl) rfl ?_
  refine g_aload_n dX9_one_0 rfl ?_
  refine g_getR (f := 1) dX9_one_1 cl10 hm.1 (by decide) (Or.inl (iw_5 20 rfl)) (Or.inl rfl) rfl hm.r_many ?_
  refine g_iload_n dX9_one_4 rfl ?_
  refine g_lload_n dX9_one_5 rfl ?_
  refine g_lload dX9_one_6 rfl ?_
  refine g_lcmp dX9_one_8 ?_
  refine g_if_gt (tgt := 16) dX9_one_9 (by decide) (fun c_9 => ?_) (fun c_9 => ?_)
  · skip
    rw [jc_gt ha hb] at c_9
    refine g_iconst (v := nI 0) dX9_one_16 rfl ?_
    refine g_iastore dX9_one_17 (j := s) hm.k_many hm.n_many rfl (by omega) (by decide) ?_
    refine g_aload_n dX9_one_18 rfl ?_
    refine g_getR (f := 2) dX9_one_19 cl10 hm.1 (by decide) (Or.inl (iw_5 21 rfl)) (Or.inl rfl) rfl hm.r_ends ?_
    refine g_iconst (v := nI 4) dX9_one_22 rfl ?_
    refine g_iload_n dX9_one_23 rfl ?_
    refine g_imul dX9_one_24 ?_
    refine g_lload_n dX9_one_25 rfl ?_
    refine g_lastore dX9_one_26 (j := 4 * s) hm.k_ends hm.n_ends (by simp only [pk_mul, nI_add]) (by omega) (by decide) ?_
    refine g_aload_n dX9_one_27 rfl ?_
    refine g_getR (f := 2) dX9_one_28 cl10 hm.1 (by decide) (Or.inl (iw_5 21 rfl)) (Or.inl rfl) rfl hm.r_ends ?_
    refine g_iconst (v := nI 4) dX9_one_31 rfl ?_
    refine g_iload_n dX9_one_32 rfl ?_
    refine g_imul dX9_one_33 ?_
    refine g_iconst (v := nI 1) dX9_one_34 rfl ?_
    refine g_iadd dX9_one_35 ?_
    refine g_lload dX9_one_36 rfl ?_
    refine g_lastore dX9_one_38 (j := 4 * s + 1) hm.k_ends hm.n_ends (by simp only [pk_mul, nI_add]) (by omega) (by decide) ?_
    exact g_vret dX9_one_39 rfl (Nat.le_of_ble_eq_true rfl) (Nat.le_of_ble_eq_true rfl) (by
      refine ⟨rfl, rfl, ((Off.rf.stI (Or.inl ⟨rfl, rfl⟩)).stJ (Or.inr ⟨rfl, by omega, by omega⟩)).stJ (Or.inr ⟨rfl, by omega, by omega⟩), ?_⟩
      first
        | (rw [if_pos (by omega)]
           refine ⟨by simp, ?_, fun k hk => ?_⟩
           · rw [mI_sJ, mI_sJ, mI_st, if_pos ⟨rfl, rfl⟩]; rfl
           · have hk0 : k = 0 := by simp at hk; omega
             subst hk0
             simp [mJ_st])
        | (rw [if_neg (by omega)]
           refine ⟨by simp, ?_, fun k hk => absurd hk (by simp)⟩
           rw [mI_sJ, mI_sJ, mI_st, if_pos ⟨rfl, rfl⟩]; rfl))
  · skip
    rw [jc_gt ha hb] at c_9
    refine g_iconst (v := nI 1) dX9_one_12 rfl ?_
    refine g_goto (tgt := 17) dX9_one_13 (by decide) ?_
    refine g_iastore dX9_one_17 (j := s) hm.k_many hm.n_many rfl (by omega) (by decide) ?_
    refine g_aload_n dX9_one_18 rfl ?_
    refine g_getR (f := 2) dX9_one_19 cl10 hm.1 (by decide) (Or.inl (iw_5 21 rfl)) (Or.inl rfl) rfl hm.r_ends ?_
    refine g_iconst (v := nI 4) dX9_one_22 rfl ?_
    refine g_iload_n dX9_one_23 rfl ?_
    refine g_imul dX9_one_24 ?_
    refine g_lload_n dX9_one_25 rfl ?_
    refine g_lastore dX9_one_26 (j := 4 * s) hm.k_ends hm.n_ends (by simp only [pk_mul, nI_add]) (by omega) (by decide) ?_
    refine g_aload_n dX9_one_27 rfl ?_
    refine g_getR (f := 2) dX9_one_28 cl10 hm.1 (by decide) (Or.inl (iw_5 21 rfl)) (Or.inl rfl) rfl hm.r_ends ?_
    refine g_iconst (v := nI 4) dX9_one_31 rfl ?_
    refine g_iload_n dX9_one_32 rfl ?_
    refine g_imul dX9_one_33 ?_
    refine g_iconst (v := nI 1) dX9_one_34 rfl ?_
    refine g_iadd dX9_one_35 ?_
    refine g_lload dX9_one_36 rfl ?_
    refine g_lastore dX9_one_38 (j := 4 * s + 1) hm.k_ends hm.n_ends (by simp only [pk_mul, nI_add]) (by omega) (by decide) ?_
    exact g_vret dX9_one_39 rfl (Nat.le_of_ble_eq_true rfl) (Nat.le_of_ble_eq_true rfl) (by
      refine ⟨rfl, rfl, ((Off.rf.stI (Or.inl ⟨rfl, rfl⟩)).stJ (Or.inr ⟨rfl, by omega, by omega⟩)).stJ (Or.inr ⟨rfl, by omega, by omega⟩), ?_⟩
      first
        | (rw [if_pos (by omega)]
           refine ⟨by simp, ?_, fun k hk => ?_⟩
           · rw [mI_sJ, mI_sJ, mI_st, if_pos ⟨rfl, rfl⟩]; rfl
           · have hk0 : k = 0 := by simp at hk; omega
             subst hk0
             simp [mJ_st])
        | (rw [if_neg (by omega)]
           refine ⟨by simp, ?_, fun k hk => absurd hk (by simp)⟩
           rw [mI_sJ, mI_sJ, mI_st, if_pos ⟨rfl, rfl⟩]; rfl))

set_option maxHeartbeats 4000000 in
set_option maxRecDepth 100000 in
theorem m_lay (M : gM) (n m : Nat) (a b : Int) (L : List Sp) (hm : gMod M m) (hL : iL M m L) (hl : L.length < 64) (ha : r6 a) (hb : r6 b) : GM μX9_lay 0 0 0 0 [.ref m, .long (jI a), .long (jI b)] M n (fun r M1 n1 => r = none ∧ n1 = n ∧ Off M M1 (fL m) ∧ iL M1 m (if a ≤ b then L ++ [(a, b)] else L)) := by
  refine GM.ofW (by decide) rfl (Nat.le_of_ble_eq_true rfl) rfl ?_
  refine g_lload_n dX9_lay_0 rfl ?_
  refine g_lload_n dX9_lay_1 rfl ?_
  refine g_lcmp dX9_lay_2 ?_
  refine g_if_gt (tgt := 36) dX9_lay_3 (by decide) (fun c_3 => ?_) (fun c_3 => ?_)
  · skip
    try rw [jc_gt ha hb] at c_3
    exact g_vret dX9_lay_36 rfl (Nat.le_of_ble_eq_true rfl) (Nat.le_of_ble_eq_true rfl) (by
      first
        | (refine ⟨rfl, rfl, Off.rf, ?_⟩
           rw [if_neg (by omega)]; exact hL)
        | (refine ⟨rfl, rfl, ((Off.rf.stJ (Or.inr (Or.inl rfl))).stJ (Or.inr (Or.inr rfl))).stI (Or.inl ⟨rfl, rfl⟩), ?_⟩
           rw [if_pos (by omega)]
           refine ⟨?_, fun k hk => ?_⟩
           · rw [mI_st, if_pos ⟨rfl, rfl⟩, mI_sJ, mI_sJ, hL.1, List.length_append]
             exact nI_add _ _
           · rw [mJ_sI, mJ_sI]
             rw [List.length_append, List.length_singleton] at hk
             by_cases h : k = L.length
             · subst h
               rw [getD_last]
               simp [mJ_st]
             · rw [getD_app (by omega)]
               have := hL.2 k (by omega)
               simp only [mJ_st]
               rw [if_neg (by omega), if_neg (by omega), if_neg (by omega), if_neg (by omega)]
               exact this))
  · skip
    rw [jc_gt ha hb] at c_3
    refine g_aload_n dX9_lay_6 rfl ?_
    refine g_getR (f := 4) dX9_lay_7 cl10 hm.1 (by decide) (Or.inl (iw_5 22 rfl)) (Or.inl rfl) rfl hm.r_from ?_
    refine g_aload_n dX9_lay_10 rfl ?_
    refine g_getI (f := 3) dX9_lay_11 cl10 hm.1 (by decide) (Or.inl (iw_25 19 rfl)) (Or.inl rfl) (Or.inl rfl) ?_
    refine g_lload_n dX9_lay_14 rfl ?_
    refine g_lastore dX9_lay_15 (j := L.length) hm.k_from hm.n_from hL.1 hl (by decide) ?_
    refine g_aload_n dX9_lay_16 rfl ?_
    refine g_getR (f := 5) dX9_lay_17 cl10 hm.1 (by decide) (Or.inl (iw_5 23 rfl)) (Or.inl rfl) rfl hm.r_to ?_
    refine g_aload_n dX9_lay_20 rfl ?_
    refine g_getI (f := 3) dX9_lay_21 cl10 hm.1 (by decide) (Or.inl (iw_25 19 rfl)) (Or.inl rfl) (Or.inl rfl) ?_
    refine g_lload_n dX9_lay_24 rfl ?_
    refine g_lastore dX9_lay_25 (j := L.length) hm.k_to hm.n_to hL.1 hl (by decide) ?_
    refine g_aload_n dX9_lay_26 rfl ?_
    refine g_dup dX9_lay_27 rfl ?_
    refine g_getI (f := 3) dX9_lay_28 cl10 hm.1 (by decide) (Or.inl (iw_25 19 rfl)) (Or.inl rfl) (Or.inl rfl) ?_
    refine g_iconst (v := nI 1) dX9_lay_31 rfl ?_
    refine g_iadd dX9_lay_32 ?_
    refine g_putI (f := 3) dX9_lay_33 cl10 hm.1 (by decide) (Or.inl (iw_25 19 rfl)) (Or.inl rfl) (Or.inl rfl) (Or.inl rfl) ?_
    try rw [jc_gt ha hb] at c_3
    exact g_vret dX9_lay_36 rfl (Nat.le_of_ble_eq_true rfl) (Nat.le_of_ble_eq_true rfl) (by
      first
        | (refine ⟨rfl, rfl, Off.rf, ?_⟩
           rw [if_neg (by omega)]; exact hL)
        | (refine ⟨rfl, rfl, ((Off.rf.stJ (Or.inr (Or.inl rfl))).stJ (Or.inr (Or.inr rfl))).stI (Or.inl ⟨rfl, rfl⟩), ?_⟩
           rw [if_pos (by omega)]
           refine ⟨?_, fun k hk => ?_⟩
           · rw [mI_st, if_pos ⟨rfl, rfl⟩, mI_sJ, mI_sJ, hL.1, List.length_append]
             exact nI_add _ _
           · rw [mJ_sI, mJ_sI]
             rw [List.length_append, List.length_singleton] at hk
             by_cases h : k = L.length
             · subst h
               rw [getD_last]
               simp [mJ_st]
             · rw [getD_app (by omega)]
               have := hL.2 k (by omega)
               simp only [mJ_st]
               rw [if_neg (by omega), if_neg (by omega), if_neg (by omega), if_neg (by omega)]
               exact this))

