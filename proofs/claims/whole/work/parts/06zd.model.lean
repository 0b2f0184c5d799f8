/-! the reference: threshold, ways, op, a new one -/
theorem thI_s (P : List St) (v : Int) (j : Nat) : thI P v (j + 1) = if v = 2147483647 then none else thI P (nxt P (v + 1) true) j := rfl
set_option maxHeartbeats 4000000 in
set_option maxRecDepth 100000 in
theorem l_thr {M M1 : gM} {n m : Nat} {σ : MS} {k : Int32} {S : Nat → List Sp} (hO1 : Off M M1 (fX m)) (hQ1 : rQ M1 m σ S) (h0 : mI M1 m 0 = nI 0) (hk0 : 0 ≤ k.toInt) (hk : ¬ k < 0) : ∀ (d : Nat) (i : Nat) (v : Int), pl k - i < d → i ≤ pl k → r5 v → thI (zP σ) (-2147483648) (pl k) = thI (zP σ) v (pl k - i) → GW μX9_threshold (gRm 1 30 0 0) (gTh (fun r M1 n1 => r = some (.int (iZ (thZ σ k).2)) ∧ n1 = n ∧ Off M M1 (fX m) ∧ rM M1 m σ ∧ mI M1 m 0 = nI (thZ σ k).1) 0 0) 0 0 22 [some (.ref m), some (.int k), some (.long (jI v)), none, some (.int (nI i))] [] M1 n := by
  intro d
  induction d with
  | zero =>
    intro i v hd hi hv he
    omega
  | succ d ih =>
    intro i v hd hi hv he
    have ek : k = nI (pl k) := pl_eq hk0
    have hkr := i_rng k
    have hp : pl k < 2147483648 := by unfold pl; omega
    refine g_iload dX9_threshold_22 rfl ?_
    refine g_iload_n dX9_threshold_24 rfl ?_
    refine g_icmp_ge (tgt := 57) dX9_threshold_25 (by decide) (fun c_25 => ?_) (fun c_25 => ?_)
    · skip
      rw [ek, nI_leI (by omega) (by omega)] at c_25
      refine g_lload_n dX9_threshold_57 rfl ?_
      refine g_l2i dX9_threshold_58 ?_
      rw [jI_i]
      exact g_iret dX9_threshold_59 (Or.inl rfl) (Nat.le_of_ble_eq_true rfl) (Nat.le_of_ble_eq_true rfl) (by
        have e : thZ σ k = (0, v) := by
          unfold thZ
          rw [if_neg hk, he, show pl k - i = 0 by omega]
          rfl
        exact ⟨by rw [e], rfl, hO1, ⟨S, hQ1⟩, by rw [e]; exact h0⟩)
    · skip
      rw [ek, nI_leI (by omega) (by omega)] at c_25
      refine g_lload_n dX9_threshold_28 rfl ?_
      refine g_ldc2 (v := jI (2147483647)) dX9_threshold_29 (iw_27 21 rfl) ?_
      refine g_lcmp dX9_threshold_32 ?_
      refine g_if_ne (tgt := 42) dX9_threshold_33 (by decide) (fun c_33 => ?_) (fun c_33 => ?_)
      · skip
        rw [jc_eq (r6_of hv) (by constructor <;> omega)] at c_33
        refine g_aload_n dX9_threshold_42 rfl ?_
        refine g_lload_n dX9_threshold_43 rfl ?_
        refine g_lconst (v := jI 1) dX9_threshold_44 rfl ?_
        refine g_ladd dX9_threshold_45 ?_
        rw [jI_add]
        refine g_iconst (v := bI true) dX9_threshold_46 rfl ?_
        refine g_callV dX9_threshold_47 sX9_next (m_next M1 n m (zP σ) (v + 1) true hQ1.1.1 hQ1.2.1 (by constructor <;> omega)) cl10 hQ1.1.1.1 iX9_next vX9_next (iw_30 13 rfl) rfl rfl (Nat.le_of_ble_eq_true rfl) (Nat.le_of_ble_eq_true rfl) (Nat.le_of_ble_eq_true rfl) (Nat.le_of_ble_eq_true rfl) (Nat.le_of_ble_eq_true rfl) ?_
        intro r9 M9 n9 h9
        obtain ⟨h91, h92, h93⟩ := h9
        rw [h91, h92, h93]
        clear h91 h92 h93 r9 M9 n9
        refine g_lstore_n dX9_threshold_50 (Nat.le_of_ble_eq_true rfl) ?_
        refine g_iinc dX9_threshold_51 rfl (nI_1 i) (Nat.le_of_ble_eq_true rfl) ?_
        refine g_goto (tgt := 22) dX9_threshold_54 (by decide) ?_
        have ek : k = nI (pl k) := pl_eq hk0
        have hkr := i_rng k
        have hp : pl k < 2147483648 := by unfold pl; omega
        refine ih (i + 1) _ (by omega) (by omega) (nxt_r _ _ _) ?_
        rw [he, show pl k - i = (pl k - (i + 1)) + 1 by omega]
        show (if v = 2147483647 then none else _) = _
        rw [if_neg c_33]
      · skip
        rw [jc_eq (r6_of hv) (by constructor <;> omega)] at c_33
        refine g_aload_n dX9_threshold_36 rfl ?_
        refine g_iconst (v := nI 1) dX9_threshold_37 rfl ?_
        refine g_callV dX9_threshold_38 sX9_fail (m_fail M1 n m (nI 1) hQ1.1.1) cl10 hQ1.1.1.1 iX9_fail vX9_fail (iw_13 5 rfl) rfl rfl (Nat.le_of_ble_eq_true rfl) (Nat.le_of_ble_eq_true rfl) (Nat.le_of_ble_eq_true rfl) (Nat.le_of_ble_eq_true rfl) (Nat.le_of_ble_eq_true rfl) ?_
        intro r9 M9 n9 h9
        obtain ⟨h91, h92, h93⟩ := h9
        rw [h91, h92, h93]
        clear h91 h92 h93 r9 M9 n9
        exact g_iret dX9_threshold_41 (Or.inl rfl) (Nat.le_of_ble_eq_true rfl) (Nat.le_of_ble_eq_true rfl) (by
          have e : thZ σ k = (1, 0) := by
            unfold thZ
            rw [if_neg hk, he, show pl k - i = (pl k - (i + 1)) + 1 by omega]
            rw [thI_s, if_pos c_33]
          exact ⟨by rw [e]; rfl, rfl, hO1.stI ⟨by omega, by omega⟩, ⟨S, hQ1.thr _⟩, by rw [e, mI_st, if_pos ⟨rfl, rfl⟩]⟩)

set_option maxHeartbeats 4000000 in
set_option maxRecDepth 100000 in
theorem s_threshold (M : gM) (n m : Nat) (σ : MS) (k : Int32) (hQ : rM M m σ) : GM μX9_threshold 1 30 0 0 [.ref m, .int k] M n (fun r M1 n1 => r = some (.int (iZ (thZ σ k).2)) ∧ n1 = n ∧ Off M M1 (fX m) ∧ rM M1 m σ ∧ mI M1 m 0 = nI (thZ σ k).1) := by
  refine GM.ofW (by decide) rfl (Nat.le_of_ble_eq_true rfl) rfl ?_
  obtain ⟨S, hQ⟩ := hQ
  have l40 := hQ.2.1.2.1
  refine g_aload_n dX9_threshold_0 rfl ?_
  refine g_iconst (v := nI 0) dX9_threshold_1 rfl ?_
  refine g_putI (f := 0) dX9_threshold_2 cl10 hQ.1.1.1 (by decide) (Or.inl (iw_12 11 rfl)) (Or.inl rfl) (Or.inl rfl) (Or.inl rfl) ?_
  have hO1 : Off M (stI M m 0 (nI 0)) (fX m) := Off.rf.stI ⟨by omega, by omega⟩
  have hQ1 := hQ.thr (nI 0)
  have h0 : mI (stI M m 0 (nI 0)) m 0 = nI 0 := by rw [mI_st, if_pos ⟨rfl, rfl⟩]
  generalize stI M m 0 (nI 0) = M1 at hO1 hQ1 h0 ⊢
  have hG := hQ1.1
  have hP := hQ1.2.1
  refine g_iload_n dX9_threshold_5 rfl ?_
  refine g_if_ge (tgt := 15) dX9_threshold_6 (by decide) (fun c_6 => ?_) (fun c_6 => ?_)
  · skip
    have hk0 : 0 ≤ k.toInt := by rw [Int32.le_iff_toInt_le] at c_6; simpa using c_6
    refine g_ldc2 (v := jI (-2147483648)) dX9_threshold_15 (iw_27 20 rfl) ?_
    refine g_lstore_n dX9_threshold_18 (Nat.le_of_ble_eq_true rfl) ?_
    refine g_iconst (v := nI 0) dX9_threshold_19 rfl ?_
    refine g_istore dX9_threshold_20 (Nat.le_of_ble_eq_true rfl) ?_
    exact l_thr hO1 hQ1 h0 hk0 (by rw [Int32.lt_iff_toInt_lt]; rw [Int32.le_iff_toInt_le] at c_6; omega) (pl k + 1) 0 _ (by omega) (by omega) (by constructor <;> omega) rfl
  · skip
    refine g_aload_n dX9_threshold_9 rfl ?_
    refine g_iconst (v := nI 1) dX9_threshold_10 rfl ?_
    refine g_callV dX9_threshold_11 sX9_fail (m_fail M1 n m (nI 1) hG.1) cl10 hG.1.1 iX9_fail vX9_fail (iw_13 5 rfl) rfl rfl (Nat.le_of_ble_eq_true rfl) (Nat.le_of_ble_eq_true rfl) (Nat.le_of_ble_eq_true rfl) (Nat.le_of_ble_eq_true rfl) (Nat.le_of_ble_eq_true rfl) ?_
    intro r9 M9 n9 h9
    obtain ⟨h91, h92, h93⟩ := h9
    rw [h91, h92, h93]
    clear h91 h92 h93 r9 M9 n9
    exact g_iret dX9_threshold_14 (Or.inl rfl) (Nat.le_of_ble_eq_true rfl) (Nat.le_of_ble_eq_true rfl) (by
      have e : thZ σ k = (1, 0) := by
        unfold thZ
        rw [if_pos (by rw [Int32.lt_iff_toInt_lt]; rw [Int32.le_iff_toInt_le] at c_6; omega)]
      exact ⟨by rw [e]; rfl, rfl, hO1.stI ⟨by omega, by omega⟩, ⟨S, hQ1.thr _⟩, by rw [e, mI_st, if_pos ⟨rfl, rfl⟩]⟩)

theorem rQ.goes {M M1 : gM} {m : Nat} {σ : MS} {S S1 : Nat → List Sp} (h : rQ M m σ S) (ho : Off M M1 (fA m)) (hG : rS M1 m S1) (ag : agr S S1 gvP) : rQ M1 m σ S1 := by
  obtain ⟨h1, h2, h3, h4, h5, h6, h7, h8⟩ := h
  refine ⟨hG, h2.offA ho, h3, fun p hp => by rw [ag _ (by unfold gvP; omega)]; exact h4 p hp, (ho.i (by unfold fA; omega)).trans h5, (ho.i (by unfold fA; omega)).trans h6, fun p hp => (ho.i (by unfold fA; omega)).trans (h7 p hp), fun hr => ?_⟩
  obtain ⟨a1, a2, a3⟩ := h8 hr
  exact ⟨(a1.off ho).agr ag (fun u h => by unfold gvP at h; omega), (ho.i (by unfold fA; omega)).trans a2, (ho.i (by unfold fA; omega)).trans a3⟩
set_option maxHeartbeats 4000000 in
set_option maxRecDepth 100000 in
theorem p_wy134 {M M1 : gM} {n m : Nat} {σ : MS} {x : Int32} {S : Nat → List Sp} (hO1 : Off M M1 (fX m)) (hQ1 : rQ M1 m σ S) (h0 : mI M1 m 0 = nI 0) (hx : isT σ x) (hr : zR σ = true) (hR : aR (zA σ) (pl x) = true) : GW μX9_ways (gRm 7 177 0 0) (gTh (fun r M1 n1 => r = some (.int (nI (wyZ σ x).2)) ∧ n1 = n ∧ Off M M1 (fX m) ∧ rM M1 m σ ∧ mI M1 m 0 = nI (wyZ σ x).1) 0 0) 0 0 134 [some (.ref m), some (.int x), none, some (.int (nI ((if ((zP σ).getD (pl x) st0).1 = 7 ∨ ((zP σ).getD (pl x) st0).1 = 8 then (if hasB ((aF (zA σ) (pl x)) (pl ((zP σ).getD (pl x) st0).2.2.2)) 0 = true then 1 else 0) else 0) + (if (gvn ((zP σ).getD (pl x) st0) (aF (zA σ) (pl x)) true).isSome = true then 2 else 0) + (if (gvn ((zP σ).getD (pl x) st0) (aF (zA σ) (pl x)) false).isSome = true then 4 else 0))))] [] M1 n := by
  have l40 := hQ1.2.1.2.1
  have l1 := hx.lt
  have ex := hx.eq
  have hG := hQ1.1
  have hP := hQ1.2.1
  have hz := hQ1.2.2.1
  obtain ⟨hA, h13, h15⟩ := hQ1.2.2.2.2.2.2.2 hr
  have hT := (hP.2.2 (pl x) l1).1
  have hv := (hP.2.2 (pl x) l1).2
  have hk19 := hv.1
  have hd := zA_gd hz (pl x) l1 hR
  have hF : ∀ p, p < 8 → S (8 * pl x + p) = aF (zA σ) (pl x) p := fun p hp => hA.2.2.2 (pl x) (by omega) hR p hp
  have e0 : wyZ σ x = (0, (if ((zP σ).getD (pl x) st0).1 = 7 ∨ ((zP σ).getD (pl x) st0).1 = 8 then (if hasB ((aF (zA σ) (pl x)) (pl ((zP σ).getD (pl x) st0).2.2.2)) 0 = true then 1 else 0) else 0) + (if (gvn ((zP σ).getD (pl x) st0) (aF (zA σ) (pl x)) true).isSome = true then 2 else 0) + (if (gvn ((zP σ).getD (pl x) st0) (aF (zA σ) (pl x)) false).isSome = true then 4 else 0) + (if ((zP σ).getD (pl x) st0).1 = 19 then 8 else 0)) := by
    unfold wyZ
    rw [if_neg (fun h => h hx), if_neg (by rw [hr]; decide), if_neg (by rw [hR]; decide)]
  refine g_iload_n dX9_ways_134 rfl ?_
  refine g_aload_n dX9_ways_135 rfl ?_
  refine g_getR (f := 7) dX9_ways_136 cl10 hG.1.1 (by decide) (Or.inl (iw_6 0 rfl)) (Or.inl rfl) rfl hG.1.r_kind ?_
  refine g_iload_n dX9_ways_139 rfl ?_
  refine g_iaload dX9_ways_140 (j := pl x) hG.1.k_kind hG.1.n_kind ex (by omega) (by decide) ?_
  rw [hT.1]
  refine g_bipush (v := nI 19) dX9_ways_141 rfl ?_
  refine g_icmp_ne (tgt := 151) dX9_ways_143 (by decide) (fun c_143 => ?_) (fun c_143 => ?_)
  · skip
    rw [nI_inj (by omega) (by omega)] at c_143
    refine g_iconst (v := nI 0) dX9_ways_151 rfl ?_
    refine g_iadd dX9_ways_152 ?_
    rw [nI_add]
    exact g_iret dX9_ways_153 (Or.inl rfl) (Nat.le_of_ble_eq_true rfl) (Nat.le_of_ble_eq_true rfl) ⟨by
      rw [e0]
      first
        | rw [if_pos (show ((zP σ).getD (pl x) st0).1 = 19 from c_143)]
        | rw [if_neg (show ¬ ((zP σ).getD (pl x) st0).1 = 19 from c_143)], rfl, hO1, ⟨S, hQ1⟩, by rw [e0]; exact h0⟩
  · skip
    rw [nI_inj (by omega) (by omega)] at c_143
    refine g_bipush (v := nI 8) dX9_ways_146 rfl ?_
    refine g_goto (tgt := 152) dX9_ways_148 (by decide) ?_
    refine g_iadd dX9_ways_152 ?_
    rw [nI_add]
    exact g_iret dX9_ways_153 (Or.inl rfl) (Nat.le_of_ble_eq_true rfl) (Nat.le_of_ble_eq_true rfl) ⟨by
      rw [e0]
      first
        | rw [if_pos (show ((zP σ).getD (pl x) st0).1 = 19 from c_143)]
        | rw [if_neg (show ¬ ((zP σ).getD (pl x) st0).1 = 19 from c_143)], rfl, hO1, ⟨S, hQ1⟩, by rw [e0]; exact h0⟩

theorem s_goesX (M : gM) (n m a : Nat) (x : Int32) (s : St) (S : Nat → List Sp) (F : Nat → List Sp) (nm : Bool) (hx : x = nI a) (hG : rS M m S) (ha : a < 40) (hT : sT M m a s) (hv : vS s) (hF : ∀ p, p < 8 → S (8 * a + p) = F p) (hn : gdF F) : GM μX9_goes 6 150 0 0 [.ref m, .int x, .int (bI nm)] M n (fun r M1 n1 => r = some (.int (bI (gvn s F nm).isSome)) ∧ n1 = n ∧ Off M M1 (fA m) ∧ ∃ S1, rS M1 m S1 ∧ (∀ G, gvn s F nm = some G → ∀ p, p < 8 → S1 (328 + p) = G p) ∧ agr S S1 gvP) := by
  subst hx
  exact s_goesA M n m a s S F nm hG ha hT hv hF hn
set_option maxHeartbeats 4000000 in
set_option maxRecDepth 100000 in
theorem p_wy117 {M M1 : gM} {n m : Nat} {σ : MS} {x : Int32} {S : Nat → List Sp} (hO1 : Off M M1 (fX m)) (hQ1 : rQ M1 m σ S) (h0 : mI M1 m 0 = nI 0) (hx : isT σ x) (hr : zR σ = true) (hR : aR (zA σ) (pl x) = true) : GW μX9_ways (gRm 7 177 0 0) (gTh (fun r M1 n1 => r = some (.int (nI (wyZ σ x).2)) ∧ n1 = n ∧ Off M M1 (fX m) ∧ rM M1 m σ ∧ mI M1 m 0 = nI (wyZ σ x).1) 0 0) 0 0 117 [some (.ref m), some (.int x), none, some (.int (nI ((if ((zP σ).getD (pl x) st0).1 = 7 ∨ ((zP σ).getD (pl x) st0).1 = 8 then (if hasB ((aF (zA σ) (pl x)) (pl ((zP σ).getD (pl x) st0).2.2.2)) 0 = true then 1 else 0) else 0) + (if (gvn ((zP σ).getD (pl x) st0) (aF (zA σ) (pl x)) true).isSome = true then 2 else 0))))] [] M1 n := by
  have l40 := hQ1.2.1.2.1
  have l1 := hx.lt
  have ex := hx.eq
  have hG := hQ1.1
  have hP := hQ1.2.1
  have hz := hQ1.2.2.1
  obtain ⟨hA, h13, h15⟩ := hQ1.2.2.2.2.2.2.2 hr
  have hT := (hP.2.2 (pl x) l1).1
  have hv := (hP.2.2 (pl x) l1).2
  have hk19 := hv.1
  have hd := zA_gd hz (pl x) l1 hR
  have hF : ∀ p, p < 8 → S (8 * pl x + p) = aF (zA σ) (pl x) p := fun p hp => hA.2.2.2 (pl x) (by omega) hR p hp
  have e0 : wyZ σ x = (0, (if ((zP σ).getD (pl x) st0).1 = 7 ∨ ((zP σ).getD (pl x) st0).1 = 8 then (if hasB ((aF (zA σ) (pl x)) (pl ((zP σ).getD (pl x) st0).2.2.2)) 0 = true then 1 else 0) else 0) + (if (gvn ((zP σ).getD (pl x) st0) (aF (zA σ) (pl x)) true).isSome = true then 2 else 0) + (if (gvn ((zP σ).getD (pl x) st0) (aF (zA σ) (pl x)) false).isSome = true then 4 else 0) + (if ((zP σ).getD (pl x) st0).1 = 19 then 8 else 0)) := by
    unfold wyZ
    rw [if_neg (fun h => h hx), if_neg (by rw [hr]; decide), if_neg (by rw [hR]; decide)]
  refine g_iload_n dX9_ways_117 rfl ?_
  refine g_aload_n dX9_ways_118 rfl ?_
  refine g_iload_n dX9_ways_119 rfl ?_
  refine g_iconst (v := bI false) dX9_ways_120 rfl ?_
  refine g_callV dX9_ways_121 sX9_goes (s_goesX M1 n m (pl x) x ((zP σ).getD (pl x) st0) S (aF (zA σ) (pl x)) false ex hG (by omega) hT hv hF hd) cl10 hG.1.1 iX9_goes vX9_goes (iw_25 7 rfl) rfl rfl (Nat.le_of_ble_eq_true rfl) (Nat.le_of_ble_eq_true rfl) (Nat.le_of_ble_eq_true rfl) (Nat.le_of_ble_eq_true rfl) (Nat.le_of_ble_eq_true rfl) ?_
  intro r9 M2 n9 h9
  obtain ⟨h91, h93, hO2, S2, hG2, e2, ag2⟩ := h9
  rw [h91, h93]
  clear h91 h93 r9 n9
  refine g_if_eq (tgt := 131) dX9_ways_124 (by decide) (fun c_124 => ?_) (fun c_124 => ?_)
  · skip
    rw [bI_eq0] at c_124
    refine g_iconst (v := nI 0) dX9_ways_131 rfl ?_
    refine g_iadd dX9_ways_132 ?_
    rw [nI_add]
    refine g_istore_n dX9_ways_133 (Nat.le_of_ble_eq_true rfl) ?_
    have hQ2 := hQ1.goes hO2 hG2 ag2
    have h02 : mI M2 m 0 = nI 0 := (hO2.i (by unfold fA; omega)).trans h0
    have hp := p_wy134 (n := n) (hO1.trans (hO2.mono (fun i k h => fA_X h))) hQ2 h02 hx hr hR
    first
      | (rw [if_pos (show (gvn ((zP σ).getD (pl x) st0) (aF (zA σ) (pl x)) false).isSome = true from c_124)] at hp; exact hp)
      | (rw [if_neg (show ¬ (gvn ((zP σ).getD (pl x) st0) (aF (zA σ) (pl x)) false).isSome = true by rw [c_124]; decide)] at hp; exact hp)
  · skip
    rw [bI_eq0, Bool.not_eq_false] at c_124
    refine g_iconst (v := nI 4) dX9_ways_127 rfl ?_
    refine g_goto (tgt := 132) dX9_ways_128 (by decide) ?_
    refine g_iadd dX9_ways_132 ?_
    rw [nI_add]
    refine g_istore_n dX9_ways_133 (Nat.le_of_ble_eq_true rfl) ?_
    have hQ2 := hQ1.goes hO2 hG2 ag2
    have h02 : mI M2 m 0 = nI 0 := (hO2.i (by unfold fA; omega)).trans h0
    have hp := p_wy134 (n := n) (hO1.trans (hO2.mono (fun i k h => fA_X h))) hQ2 h02 hx hr hR
    first
      | (rw [if_pos (show (gvn ((zP σ).getD (pl x) st0) (aF (zA σ) (pl x)) false).isSome = true from c_124)] at hp; exact hp)
      | (rw [if_neg (show ¬ (gvn ((zP σ).getD (pl x) st0) (aF (zA σ) (pl x)) false).isSome = true by rw [c_124]; decide)] at hp; exact hp)

set_option maxHeartbeats 4000000 in
set_option maxRecDepth 100000 in
theorem p_wy100 {M M1 : gM} {n m : Nat} {σ : MS} {x : Int32} {S : Nat → List Sp} (hO1 : Off M M1 (fX m)) (hQ1 : rQ M1 m σ S) (h0 : mI M1 m 0 = nI 0) (hx : isT σ x) (hr : zR σ = true) (hR : aR (zA σ) (pl x) = true) : GW μX9_ways (gRm 7 177 0 0) (gTh (fun r M1 n1 => r = some (.int (nI (wyZ σ x).2)) ∧ n1 = n ∧ Off M M1 (fX m) ∧ rM M1 m σ ∧ mI M1 m 0 = nI (wyZ σ x).1) 0 0) 0 0 100 [some (.ref m), some (.int x), none, some (.int (nI ((if ((zP σ).getD (pl x) st0).1 = 7 ∨ ((zP σ).getD (pl x) st0).1 = 8 then (if hasB ((aF (zA σ) (pl x)) (pl ((zP σ).getD (pl x) st0).2.2.2)) 0 = true then 1 else 0) else 0))))] [] M1 n := by
  have l40 := hQ1.2.1.2.1
  have l1 := hx.lt
  have ex := hx.eq
  have hG := hQ1.1
  have hP := hQ1.2.1
  have hz := hQ1.2.2.1
  obtain ⟨hA, h13, h15⟩ := hQ1.2.2.2.2.2.2.2 hr
  have hT := (hP.2.2 (pl x) l1).1
  have hv := (hP.2.2 (pl x) l1).2
  have hk19 := hv.1
  have hd := zA_gd hz (pl x) l1 hR
  have hF : ∀ p, p < 8 → S (8 * pl x + p) = aF (zA σ) (pl x) p := fun p hp => hA.2.2.2 (pl x) (by omega) hR p hp
  have e0 : wyZ σ x = (0, (if ((zP σ).getD (pl x) st0).1 = 7 ∨ ((zP σ).getD (pl x) st0).1 = 8 then (if hasB ((aF (zA σ) (pl x)) (pl ((zP σ).getD (pl x) st0).2.2.2)) 0 = true then 1 else 0) else 0) + (if (gvn ((zP σ).getD (pl x) st0) (aF (zA σ) (pl x)) true).isSome = true then 2 else 0) + (if (gvn ((zP σ).getD (pl x) st0) (aF (zA σ) (pl x)) false).isSome = true then 4 else 0) + (if ((zP σ).getD (pl x) st0).1 = 19 then 8 else 0)) := by
    unfold wyZ
    rw [if_neg (fun h => h hx), if_neg (by rw [hr]; decide), if_neg (by rw [hR]; decide)]
  refine g_iload_n dX9_ways_100 rfl ?_
  refine g_aload_n dX9_ways_101 rfl ?_
  refine g_iload_n dX9_ways_102 rfl ?_
  refine g_iconst (v := bI true) dX9_ways_103 rfl ?_
  refine g_callV dX9_ways_104 sX9_goes (s_goesX M1 n m (pl x) x ((zP σ).getD (pl x) st0) S (aF (zA σ) (pl x)) true ex hG (by omega) hT hv hF hd) cl10 hG.1.1 iX9_goes vX9_goes (iw_25 7 rfl) rfl rfl (Nat.le_of_ble_eq_true rfl) (Nat.le_of_ble_eq_true rfl) (Nat.le_of_ble_eq_true rfl) (Nat.le_of_ble_eq_true rfl) (Nat.le_of_ble_eq_true rfl) ?_
  intro r9 M2 n9 h9
  obtain ⟨h91, h93, hO2, S2, hG2, e2, ag2⟩ := h9
  rw [h91, h93]
  clear h91 h93 r9 n9
  refine g_if_eq (tgt := 114) dX9_ways_107 (by decide) (fun c_107 => ?_) (fun c_107 => ?_)
  · skip
    rw [bI_eq0] at c_107
    refine g_iconst (v := nI 0) dX9_ways_114 rfl ?_
    refine g_iadd dX9_ways_115 ?_
    rw [nI_add]
    refine g_istore_n dX9_ways_116 (Nat.le_of_ble_eq_true rfl) ?_
    have hQ2 := hQ1.goes hO2 hG2 ag2
    have h02 : mI M2 m 0 = nI 0 := (hO2.i (by unfold fA; omega)).trans h0
    have hp := p_wy117 (n := n) (hO1.trans (hO2.mono (fun i k h => fA_X h))) hQ2 h02 hx hr hR
    first
      | (rw [if_pos (show (gvn ((zP σ).getD (pl x) st0) (aF (zA σ) (pl x)) true).isSome = true from c_107)] at hp; exact hp)
      | (rw [if_neg (show ¬ (gvn ((zP σ).getD (pl x) st0) (aF (zA σ) (pl x)) true).isSome = true by rw [c_107]; decide)] at hp; exact hp)
  · skip
    rw [bI_eq0, Bool.not_eq_false] at c_107
    refine g_iconst (v := nI 2) dX9_ways_110 rfl ?_
    refine g_goto (tgt := 115) dX9_ways_111 (by decide) ?_
    refine g_iadd dX9_ways_115 ?_
    rw [nI_add]
    refine g_istore_n dX9_ways_116 (Nat.le_of_ble_eq_true rfl) ?_
    have hQ2 := hQ1.goes hO2 hG2 ag2
    have h02 : mI M2 m 0 = nI 0 := (hO2.i (by unfold fA; omega)).trans h0
    have hp := p_wy117 (n := n) (hO1.trans (hO2.mono (fun i k h => fA_X h))) hQ2 h02 hx hr hR
    first
      | (rw [if_pos (show (gvn ((zP σ).getD (pl x) st0) (aF (zA σ) (pl x)) true).isSome = true from c_107)] at hp; exact hp)
      | (rw [if_neg (show ¬ (gvn ((zP σ).getD (pl x) st0) (aF (zA σ) (pl x)) true).isSome = true by rw [c_107]; decide)] at hp; exact hp)

set_option maxHeartbeats 4000000 in
set_option maxRecDepth 100000 in
theorem s_ways (M : gM) (n m : Nat) (σ : MS) (x : Int32) (hQ : rM M m σ) : GM μX9_ways 7 177 0 0 [.ref m, .int x] M n (fun r M1 n1 => r = some (.int (nI (wyZ σ x).2)) ∧ n1 = n ∧ Off M M1 (fX m) ∧ rM M1 m σ ∧ mI M1 m 0 = nI (wyZ σ x).1) := by
  refine GM.ofW (by decide) rfl (Nat.le_of_ble_eq_true rfl) rfl ?_
  obtain ⟨S, hQ⟩ := hQ
  have l40 := hQ.2.1.2.1
  refine g_aload_n dX9_ways_0 rfl ?_
  refine g_iconst (v := nI 0) dX9_ways_1 rfl ?_
  refine g_putI (f := 0) dX9_ways_2 cl10 hQ.1.1.1 (by decide) (Or.inl (iw_12 11 rfl)) (Or.inl rfl) (Or.inl rfl) (Or.inl rfl) ?_
  have hO1 : Off M (stI M m 0 (nI 0)) (fX m) := Off.rf.stI ⟨by omega, by omega⟩
  have hQ1 := hQ.thr (nI 0)
  have h0 : mI (stI M m 0 (nI 0)) m 0 = nI 0 := by rw [mI_st, if_pos ⟨rfl, rfl⟩]
  generalize stI M m 0 (nI 0) = M1 at hO1 hQ1 h0 ⊢
  have hG := hQ1.1
  have hP := hQ1.2.1
  refine g_aload_n dX9_ways_5 rfl ?_
  refine g_iload_n dX9_ways_6 rfl ?_
  refine g_callV dX9_ways_7 sX9_isStatement (m_isSt M1 n m σ x hG.1 hP) cl10 hG.1.1 iX9_isStatement vX9_isStatement (iw_32 7 rfl) rfl rfl (Nat.le_of_ble_eq_true rfl) (Nat.le_of_ble_eq_true rfl) (Nat.le_of_ble_eq_true rfl) (Nat.le_of_ble_eq_true rfl) (Nat.le_of_ble_eq_true rfl) ?_
  intro r9 M9 n9 h9
  obtain ⟨h91, h92, h93⟩ := h9
  rw [h91, h92, h93]
  clear h91 h92 h93 r9 M9 n9
  refine g_if_ne (tgt := 19) dX9_ways_10 (by decide) (fun c_10 => ?_) (fun c_10 => ?_)
  · skip
    rw [bI_eq0, decide_eq_false_iff_not, Classical.not_not] at c_10
    have l1 := c_10.lt
    refine g_aload_n dX9_ways_19 rfl ?_
    refine g_getI (f := 11) dX9_ways_20 cl10 hG.1.1 (by decide) (Or.inl (iw_12 21 rfl)) (Or.inl rfl) (Or.inr rfl) ?_
    rw [hQ1.2.2.2.2.1]
    refine g_if_ne (tgt := 32) dX9_ways_23 (by decide) (fun c_23 => ?_) (fun c_23 => ?_)
    · skip
      rw [bI_eq0, Bool.not_eq_false] at c_23
      obtain ⟨hA, h13, h15⟩ := hQ1.2.2.2.2.2.2.2 c_23
      refine g_aload_n dX9_ways_32 rfl ?_
      refine g_getR (f := 12) dX9_ways_33 cl10 hG.1.1 (by decide) (Or.inl (iw_6 5 rfl)) (Or.inl rfl) rfl hG.1.r_reached ?_
      refine g_iload_n dX9_ways_36 rfl ?_
      refine g_baload dX9_ways_37 (j := pl x) hG.1.k_reached hG.1.n_reached c_10.eq (by have := c_10.lt; omega) (by decide) ?_
      rw [hA.1 (pl x) (by omega)]
      refine g_if_ne (tgt := 43) dX9_ways_38 (by decide) (fun c_38 => ?_) (fun c_38 => ?_)
      · skip
        rw [bI_eq0, Bool.not_eq_false] at c_38
        have hT := (hP.2.2 (pl x) l1).1
        have hv := (hP.2.2 (pl x) l1).2
        have hk19 := hv.1
        have hd := zA_gd hQ1.2.2.1 (pl x) l1 c_38
        refine g_aload_n dX9_ways_43 rfl ?_
        refine g_getR (f := 7) dX9_ways_44 cl10 hG.1.1 (by decide) (Or.inl (iw_6 0 rfl)) (Or.inl rfl) rfl hG.1.r_kind ?_
        refine g_iload_n dX9_ways_47 rfl ?_
        refine g_iaload dX9_ways_48 (j := pl x) hG.1.k_kind hG.1.n_kind c_10.eq (by omega) (by decide) ?_
        rw [hT.1]
        refine g_bipush (v := nI 7) dX9_ways_49 rfl ?_
        refine g_icmp_eq (tgt := 65) dX9_ways_51 (by decide) (fun c_51 => ?_) (fun c_51 => ?_)
        · skip
          try rw [nI_inj (by omega) (by omega)] at c_51
          try rw [nI_inj (by omega) (by omega)] at c_62
          have h78 : ((zP σ).getD (pl x) st0).1 = 7 ∨ ((zP σ).getD (pl x) st0).1 = 8 := by omega
          have pc := hv.2.2.2.1 (by omega)
          have pcl := pc.lt
          have hS := (hG.2.1 (8 * pl x + pl ((zP σ).getD (pl x) st0).2.2.2) (by omega)).1
          rw [hA.2.2.2 (pl x) (by omega) c_38 _ pcl] at hS
          refine g_aload_n dX9_ways_65 rfl ?_
          refine g_aload_n dX9_ways_66 rfl ?_
          refine g_iload_n dX9_ways_67 rfl ?_
          refine g_aload_n dX9_ways_68 rfl ?_
          refine g_getR (f := 10) dX9_ways_69 cl10 hG.1.1 (by decide) (Or.inl (iw_6 3 rfl)) (Or.inl rfl) rfl hG.1.r_argC ?_
          refine g_iload_n dX9_ways_72 rfl ?_
          refine g_iaload dX9_ways_73 (j := pl x) hG.1.k_argC hG.1.n_argC c_10.eq (by omega) (by decide) ?_
          rw [hT.2.2.2]
          refine g_callV dX9_ways_74 sX9_fact (m_factX M1 n m (pl x) (pl ((zP σ).getD (pl x) st0).2.2.2) x ((zP σ).getD (pl x) st0).2.2.2 c_10.eq pc.eq) cl10 hG.1.1 iX9_fact vX9_fact (iw_24 23 rfl) rfl rfl (Nat.le_of_ble_eq_true rfl) (Nat.le_of_ble_eq_true rfl) (Nat.le_of_ble_eq_true rfl) (Nat.le_of_ble_eq_true rfl) (Nat.le_of_ble_eq_true rfl) ?_
          intro r9 M9 n9 h9
          obtain ⟨h91, h92, h93⟩ := h9
          rw [h91, h92, h93]
          clear h91 h92 h93 r9 M9 n9
          refine g_lconst (v := jI 0) dX9_ways_77 rfl ?_
          refine g_callV dX9_ways_78 sX9_has (m_has M1 n m (8 * pl x + pl ((zP σ).getD (pl x) st0).2.2.2) 0 ((aF (zA σ) (pl x)) (pl ((zP σ).getD (pl x) st0).2.2.2)) hG.1 (by omega) hS (hd _ pc.lt).1.2.2 (by constructor <;> omega)) cl10 hG.1.1 iX9_has vX9_has (iw_34 8 rfl) rfl rfl (Nat.le_of_ble_eq_true rfl) (Nat.le_of_ble_eq_true rfl) (Nat.le_of_ble_eq_true rfl) (Nat.le_of_ble_eq_true rfl) (Nat.le_of_ble_eq_true rfl) ?_
          intro r9 M9 n9 h9
          obtain ⟨h91, h92, h93⟩ := h9
          rw [h91, h92, h93]
          clear h91 h92 h93 r9 M9 n9
          refine g_if_eq (tgt := 88) dX9_ways_81 (by decide) (fun c_81 => ?_) (fun c_81 => ?_)
          · skip
            try rw [bI_eq0] at c_81
            try rw [nI_inj (by omega) (by omega)] at c_51
            try rw [nI_inj (by omega) (by omega)] at c_62
            refine g_iconst (v := nI 0) dX9_ways_88 rfl ?_
            refine g_istore_n dX9_ways_89 (Nat.le_of_ble_eq_true rfl) ?_
            refine g_iload_n dX9_ways_90 rfl ?_
            refine g_if_eq (tgt := 98) dX9_ways_91 (by decide) (fun c_91 => ?_) (fun c_91 => ?_)
            · skip
              refine g_iconst (v := nI 0) dX9_ways_98 rfl ?_
              refine g_istore_n dX9_ways_99 (Nat.le_of_ble_eq_true rfl) ?_
              first
                | exact absurd c_91 (by decide)
                | exact absurd rfl c_91
                | (refine g_drop 2 ?_
                   have hp := p_wy100 (n := n) hO1 hQ1 h0 c_10 c_23 c_38
                   first
                     | (rw [if_pos h78, if_pos (show hasB ((aF (zA σ) (pl x)) (pl ((zP σ).getD (pl x) st0).2.2.2)) 0 = true from c_81)] at hp; exact hp)
                     | (rw [if_pos h78, if_neg (show ¬ hasB ((aF (zA σ) (pl x)) (pl ((zP σ).getD (pl x) st0).2.2.2)) 0 = true by rw [show hasB ((aF (zA σ) (pl x)) (pl ((zP σ).getD (pl x) st0).2.2.2)) 0 = false from c_81]; decide)] at hp; exact hp)
                     | (rw [if_neg (show ¬ (((zP σ).getD (pl x) st0).1 = 7 ∨ ((zP σ).getD (pl x) st0).1 = 8) by omega)] at hp; exact hp))
            · skip
              refine g_iconst (v := nI 1) dX9_ways_94 rfl ?_
              refine g_goto (tgt := 99) dX9_ways_95 (by decide) ?_
              refine g_istore_n dX9_ways_99 (Nat.le_of_ble_eq_true rfl) ?_
              first
                | exact absurd c_91 (by decide)
                | exact absurd rfl c_91
                | (refine g_drop 2 ?_
                   have hp := p_wy100 (n := n) hO1 hQ1 h0 c_10 c_23 c_38
                   first
                     | (rw [if_pos h78, if_pos (show hasB ((aF (zA σ) (pl x)) (pl ((zP σ).getD (pl x) st0).2.2.2)) 0 = true from c_81)] at hp; exact hp)
                     | (rw [if_pos h78, if_neg (show ¬ hasB ((aF (zA σ) (pl x)) (pl ((zP σ).getD (pl x) st0).2.2.2)) 0 = true by rw [show hasB ((aF (zA σ) (pl x)) (pl ((zP σ).getD (pl x) st0).2.2.2)) 0 = false from c_81]; decide)] at hp; exact hp)
                     | (rw [if_neg (show ¬ (((zP σ).getD (pl x) st0).1 = 7 ∨ ((zP σ).getD (pl x) st0).1 = 8) by omega)] at hp; exact hp))
          · skip
            rw [bI_eq0, Bool.not_eq_false] at c_81
            refine g_iconst (v := nI 1) dX9_ways_84 rfl ?_
            refine g_goto (tgt := 89) dX9_ways_85 (by decide) ?_
            refine g_istore_n dX9_ways_89 (Nat.le_of_ble_eq_true rfl) ?_
            refine g_iload_n dX9_ways_90 rfl ?_
            refine g_if_eq (tgt := 98) dX9_ways_91 (by decide) (fun c_91 => ?_) (fun c_91 => ?_)
            · skip
              refine g_iconst (v := nI 0) dX9_ways_98 rfl ?_
              refine g_istore_n dX9_ways_99 (Nat.le_of_ble_eq_true rfl) ?_
              first
                | exact absurd c_91 (by decide)
                | exact absurd rfl c_91
                | (refine g_drop 2 ?_
                   have hp := p_wy100 (n := n) hO1 hQ1 h0 c_10 c_23 c_38
                   first
                     | (rw [if_pos h78, if_pos (show hasB ((aF (zA σ) (pl x)) (pl ((zP σ).getD (pl x) st0).2.2.2)) 0 = true from c_81)] at hp; exact hp)
                     | (rw [if_pos h78, if_neg (show ¬ hasB ((aF (zA σ) (pl x)) (pl ((zP σ).getD (pl x) st0).2.2.2)) 0 = true by rw [show hasB ((aF (zA σ) (pl x)) (pl ((zP σ).getD (pl x) st0).2.2.2)) 0 = false from c_81]; decide)] at hp; exact hp)
                     | (rw [if_neg (show ¬ (((zP σ).getD (pl x) st0).1 = 7 ∨ ((zP σ).getD (pl x) st0).1 = 8) by omega)] at hp; exact hp))
            · skip
              refine g_iconst (v := nI 1) dX9_ways_94 rfl ?_
              refine g_goto (tgt := 99) dX9_ways_95 (by decide) ?_
              refine g_istore_n dX9_ways_99 (Nat.le_of_ble_eq_true rfl) ?_
              first
                | exact absurd c_91 (by decide)
                | exact absurd rfl c_91
                | (refine g_drop 2 ?_
                   have hp := p_wy100 (n := n) hO1 hQ1 h0 c_10 c_23 c_38
                   first
                     | (rw [if_pos h78, if_pos (show hasB ((aF (zA σ) (pl x)) (pl ((zP σ).getD (pl x) st0).2.2.2)) 0 = true from c_81)] at hp; exact hp)
                     | (rw [if_pos h78, if_neg (show ¬ hasB ((aF (zA σ) (pl x)) (pl ((zP σ).getD (pl x) st0).2.2.2)) 0 = true by rw [show hasB ((aF (zA σ) (pl x)) (pl ((zP σ).getD (pl x) st0).2.2.2)) 0 = false from c_81]; decide)] at hp; exact hp)
                     | (rw [if_neg (show ¬ (((zP σ).getD (pl x) st0).1 = 7 ∨ ((zP σ).getD (pl x) st0).1 = 8) by omega)] at hp; exact hp))
        · skip
          refine g_aload_n dX9_ways_54 rfl ?_
          refine g_getR (f := 7) dX9_ways_55 cl10 hG.1.1 (by decide) (Or.inl (iw_6 0 rfl)) (Or.inl rfl) rfl hG.1.r_kind ?_
          refine g_iload_n dX9_ways_58 rfl ?_
          refine g_iaload dX9_ways_59 (j := pl x) hG.1.k_kind hG.1.n_kind c_10.eq (by omega) (by decide) ?_
          rw [hT.1]
          refine g_bipush (v := nI 8) dX9_ways_60 rfl ?_
          refine g_icmp_ne (tgt := 88) dX9_ways_62 (by decide) (fun c_62 => ?_) (fun c_62 => ?_)
          · skip
            try rw [bI_eq0] at c_81
            try rw [nI_inj (by omega) (by omega)] at c_51
            try rw [nI_inj (by omega) (by omega)] at c_62
            refine g_iconst (v := nI 0) dX9_ways_88 rfl ?_
            refine g_istore_n dX9_ways_89 (Nat.le_of_ble_eq_true rfl) ?_
            refine g_iload_n dX9_ways_90 rfl ?_
            refine g_if_eq (tgt := 98) dX9_ways_91 (by decide) (fun c_91 => ?_) (fun c_91 => ?_)
            · skip
              refine g_iconst (v := nI 0) dX9_ways_98 rfl ?_
              refine g_istore_n dX9_ways_99 (Nat.le_of_ble_eq_true rfl) ?_
              first
                | exact absurd c_91 (by decide)
                | exact absurd rfl c_91
                | (refine g_drop 2 ?_
                   have hp := p_wy100 (n := n) hO1 hQ1 h0 c_10 c_23 c_38
                   first
                     | (rw [if_pos h78, if_pos (show hasB ((aF (zA σ) (pl x)) (pl ((zP σ).getD (pl x) st0).2.2.2)) 0 = true from c_81)] at hp; exact hp)
                     | (rw [if_pos h78, if_neg (show ¬ hasB ((aF (zA σ) (pl x)) (pl ((zP σ).getD (pl x) st0).2.2.2)) 0 = true by rw [show hasB ((aF (zA σ) (pl x)) (pl ((zP σ).getD (pl x) st0).2.2.2)) 0 = false from c_81]; decide)] at hp; exact hp)
                     | (rw [if_neg (show ¬ (((zP σ).getD (pl x) st0).1 = 7 ∨ ((zP σ).getD (pl x) st0).1 = 8) by omega)] at hp; exact hp))
            · skip
              refine g_iconst (v := nI 1) dX9_ways_94 rfl ?_
              refine g_goto (tgt := 99) dX9_ways_95 (by decide) ?_
              refine g_istore_n dX9_ways_99 (Nat.le_of_ble_eq_true rfl) ?_
              first
                | exact absurd c_91 (by decide)
                | exact absurd rfl c_91
                | (refine g_drop 2 ?_
                   have hp := p_wy100 (n := n) hO1 hQ1 h0 c_10 c_23 c_38
                   first
                     | (rw [if_pos h78, if_pos (show hasB ((aF (zA σ) (pl x)) (pl ((zP σ).getD (pl x) st0).2.2.2)) 0 = true from c_81)] at hp; exact hp)
                     | (rw [if_pos h78, if_neg (show ¬ hasB ((aF (zA σ) (pl x)) (pl ((zP σ).getD (pl x) st0).2.2.2)) 0 = true by rw [show hasB ((aF (zA σ) (pl x)) (pl ((zP σ).getD (pl x) st0).2.2.2)) 0 = false from c_81]; decide)] at hp; exact hp)
                     | (rw [if_neg (show ¬ (((zP σ).getD (pl x) st0).1 = 7 ∨ ((zP σ).getD (pl x) st0).1 = 8) by omega)] at hp; exact hp))
          · skip
            try rw [nI_inj (by omega) (by omega)] at c_51
            try rw [nI_inj (by omega) (by omega)] at c_62
            have h78 : ((zP σ).getD (pl x) st0).1 = 7 ∨ ((zP σ).getD (pl x) st0).1 = 8 := by omega
            have pc := hv.2.2.2.1 (by omega)
            have pcl := pc.lt
            have hS := (hG.2.1 (8 * pl x + pl ((zP σ).getD (pl x) st0).2.2.2) (by omega)).1
            rw [hA.2.2.2 (pl x) (by omega) c_38 _ pcl] at hS
            refine g_aload_n dX9_ways_65 rfl ?_
            refine g_aload_n dX9_ways_66 rfl ?_
            refine g_iload_n dX9_ways_67 rfl ?_
            refine g_aload_n dX9_ways_68 rfl ?_
            refine g_getR (f := 10) dX9_ways_69 cl10 hG.1.1 (by decide) (Or.inl (iw_6 3 rfl)) (Or.inl rfl) rfl hG.1.r_argC ?_
            refine g_iload_n dX9_ways_72 rfl ?_
            refine g_iaload dX9_ways_73 (j := pl x) hG.1.k_argC hG.1.n_argC c_10.eq (by omega) (by decide) ?_
            rw [hT.2.2.2]
            refine g_callV dX9_ways_74 sX9_fact (m_factX M1 n m (pl x) (pl ((zP σ).getD (pl x) st0).2.2.2) x ((zP σ).getD (pl x) st0).2.2.2 c_10.eq pc.eq) cl10 hG.1.1 iX9_fact vX9_fact (iw_24 23 rfl) rfl rfl (Nat.le_of_ble_eq_true rfl) (Nat.le_of_ble_eq_true rfl) (Nat.le_of_ble_eq_true rfl) (Nat.le_of_ble_eq_true rfl) (Nat.le_of_ble_eq_true rfl) ?_
            intro r9 M9 n9 h9
            obtain ⟨h91, h92, h93⟩ := h9
            rw [h91, h92, h93]
            clear h91 h92 h93 r9 M9 n9
            refine g_lconst (v := jI 0) dX9_ways_77 rfl ?_
            refine g_callV dX9_ways_78 sX9_has (m_has M1 n m (8 * pl x + pl ((zP σ).getD (pl x) st0).2.2.2) 0 ((aF (zA σ) (pl x)) (pl ((zP σ).getD (pl x) st0).2.2.2)) hG.1 (by omega) hS (hd _ pc.lt).1.2.2 (by constructor <;> omega)) cl10 hG.1.1 iX9_has vX9_has (iw_34 8 rfl) rfl rfl (Nat.le_of_ble_eq_true rfl) (Nat.le_of_ble_eq_true rfl) (Nat.le_of_ble_eq_true rfl) (Nat.le_of_ble_eq_true rfl) (Nat.le_of_ble_eq_true rfl) ?_
            intro r9 M9 n9 h9
            obtain ⟨h91, h92, h93⟩ := h9
            rw [h91, h92, h93]
            clear h91 h92 h93 r9 M9 n9
            refine g_if_eq (tgt := 88) dX9_ways_81 (by decide) (fun c_81 => ?_) (fun c_81 => ?_)
            · skip
              try rw [bI_eq0] at c_81
              try rw [nI_inj (by omega) (by omega)] at c_51
              try rw [nI_inj (by omega) (by omega)] at c_62
              refine g_iconst (v := nI 0) dX9_ways_88 rfl ?_
              refine g_istore_n dX9_ways_89 (Nat.le_of_ble_eq_true rfl) ?_
              refine g_iload_n dX9_ways_90 rfl ?_
              refine g_if_eq (tgt := 98) dX9_ways_91 (by decide) (fun c_91 => ?_) (fun c_91 => ?_)
              · skip
                refine g_iconst (v := nI 0) dX9_ways_98 rfl ?_
                refine g_istore_n dX9_ways_99 (Nat.le_of_ble_eq_true rfl) ?_
                first
                  | exact absurd c_91 (by decide)
                  | exact absurd rfl c_91
                  | (refine g_drop 2 ?_
                     have hp := p_wy100 (n := n) hO1 hQ1 h0 c_10 c_23 c_38
                     first
                       | (rw [if_pos h78, if_pos (show hasB ((aF (zA σ) (pl x)) (pl ((zP σ).getD (pl x) st0).2.2.2)) 0 = true from c_81)] at hp; exact hp)
                       | (rw [if_pos h78, if_neg (show ¬ hasB ((aF (zA σ) (pl x)) (pl ((zP σ).getD (pl x) st0).2.2.2)) 0 = true by rw [show hasB ((aF (zA σ) (pl x)) (pl ((zP σ).getD (pl x) st0).2.2.2)) 0 = false from c_81]; decide)] at hp; exact hp)
                       | (rw [if_neg (show ¬ (((zP σ).getD (pl x) st0).1 = 7 ∨ ((zP σ).getD (pl x) st0).1 = 8) by omega)] at hp; exact hp))
              · skip
                refine g_iconst (v := nI 1) dX9_ways_94 rfl ?_
                refine g_goto (tgt := 99) dX9_ways_95 (by decide) ?_
                refine g_istore_n dX9_ways_99 (Nat.le_of_ble_eq_true rfl) ?_
                first
                  | exact absurd c_91 (by decide)
                  | exact absurd rfl c_91
                  | (refine g_drop 2 ?_
                     have hp := p_wy100 (n := n) hO1 hQ1 h0 c_10 c_23 c_38
                     first
                       | (rw [if_pos h78, if_pos (show hasB ((aF (zA σ) (pl x)) (pl ((zP σ).getD (pl x) st0).2.2.2)) 0 = true from c_81)] at hp; exact hp)
                       | (rw [if_pos h78, if_neg (show ¬ hasB ((aF (zA σ) (pl x)) (pl ((zP σ).getD (pl x) st0).2.2.2)) 0 = true by rw [show hasB ((aF (zA σ) (pl x)) (pl ((zP σ).getD (pl x) st0).2.2.2)) 0 = false from c_81]; decide)] at hp; exact hp)
                       | (rw [if_neg (show ¬ (((zP σ).getD (pl x) st0).1 = 7 ∨ ((zP σ).getD (pl x) st0).1 = 8) by omega)] at hp; exact hp))
            · skip
              rw [bI_eq0, Bool.not_eq_false] at c_81
              refine g_iconst (v := nI 1) dX9_ways_84 rfl ?_
              refine g_goto (tgt := 89) dX9_ways_85 (by decide) ?_
              refine g_istore_n dX9_ways_89 (Nat.le_of_ble_eq_true rfl) ?_
              refine g_iload_n dX9_ways_90 rfl ?_
              refine g_if_eq (tgt := 98) dX9_ways_91 (by decide) (fun c_91 => ?_) (fun c_91 => ?_)
              · skip
                refine g_iconst (v := nI 0) dX9_ways_98 rfl ?_
                refine g_istore_n dX9_ways_99 (Nat.le_of_ble_eq_true rfl) ?_
                first
                  | exact absurd c_91 (by decide)
                  | exact absurd rfl c_91
                  | (refine g_drop 2 ?_
                     have hp := p_wy100 (n := n) hO1 hQ1 h0 c_10 c_23 c_38
                     first
                       | (rw [if_pos h78, if_pos (show hasB ((aF (zA σ) (pl x)) (pl ((zP σ).getD (pl x) st0).2.2.2)) 0 = true from c_81)] at hp; exact hp)
                       | (rw [if_pos h78, if_neg (show ¬ hasB ((aF (zA σ) (pl x)) (pl ((zP σ).getD (pl x) st0).2.2.2)) 0 = true by rw [show hasB ((aF (zA σ) (pl x)) (pl ((zP σ).getD (pl x) st0).2.2.2)) 0 = false from c_81]; decide)] at hp; exact hp)
                       | (rw [if_neg (show ¬ (((zP σ).getD (pl x) st0).1 = 7 ∨ ((zP σ).getD (pl x) st0).1 = 8) by omega)] at hp; exact hp))
              · skip
                refine g_iconst (v := nI 1) dX9_ways_94 rfl ?_
                refine g_goto (tgt := 99) dX9_ways_95 (by decide) ?_
                refine g_istore_n dX9_ways_99 (Nat.le_of_ble_eq_true rfl) ?_
                first
                  | exact absurd c_91 (by decide)
                  | exact absurd rfl c_91
                  | (refine g_drop 2 ?_
                     have hp := p_wy100 (n := n) hO1 hQ1 h0 c_10 c_23 c_38
                     first
                       | (rw [if_pos h78, if_pos (show hasB ((aF (zA σ) (pl x)) (pl ((zP σ).getD (pl x) st0).2.2.2)) 0 = true from c_81)] at hp; exact hp)
                       | (rw [if_pos h78, if_neg (show ¬ hasB ((aF (zA σ) (pl x)) (pl ((zP σ).getD (pl x) st0).2.2.2)) 0 = true by rw [show hasB ((aF (zA σ) (pl x)) (pl ((zP σ).getD (pl x) st0).2.2.2)) 0 = false from c_81]; decide)] at hp; exact hp)
                       | (rw [if_neg (show ¬ (((zP σ).getD (pl x) st0).1 = 7 ∨ ((zP σ).getD (pl x) st0).1 = 8) by omega)] at hp; exact hp))
      · skip
        rw [bI_eq0] at c_38
        refine g_iconst (v := nI 0) dX9_ways_41 rfl ?_
        exact g_iret dX9_ways_42 (Or.inl rfl) (Nat.le_of_ble_eq_true rfl) (Nat.le_of_ble_eq_true rfl) (by
          have e : wyZ σ x = (0, 0) := by
            unfold wyZ
            rw [if_neg (fun h => h c_10), if_neg (by rw [c_23]; decide), if_pos (show aR (zA σ) (pl x) = false from c_38)]
          exact ⟨by rw [e]; (try rfl), rfl, hO1, ⟨S, hQ1⟩, by rw [e]; exact h0⟩)
    · skip
      rw [bI_eq0] at c_23
      refine g_aload_n dX9_ways_26 rfl ?_
      refine g_iconst (v := nI 2) dX9_ways_27 rfl ?_
      refine g_callV dX9_ways_28 sX9_fail (m_fail M1 n m (nI 2) hG.1) cl10 hG.1.1 iX9_fail vX9_fail (iw_13 5 rfl) rfl rfl (Nat.le_of_ble_eq_true rfl) (Nat.le_of_ble_eq_true rfl) (Nat.le_of_ble_eq_true rfl) (Nat.le_of_ble_eq_true rfl) (Nat.le_of_ble_eq_true rfl) ?_
      intro r9 M9 n9 h9
      obtain ⟨h91, h92, h93⟩ := h9
      rw [h91, h92, h93]
      clear h91 h92 h93 r9 M9 n9
      exact g_iret dX9_ways_31 (Or.inl rfl) (Nat.le_of_ble_eq_true rfl) (Nat.le_of_ble_eq_true rfl) (by
        have e : wyZ σ x = (2, 0) := by
          unfold wyZ
          rw [if_neg (fun h => h c_10), if_pos c_23]
        exact ⟨by rw [e]; rfl, rfl, hO1.stI ⟨by omega, by omega⟩, ⟨S, hQ1.thr _⟩, by rw [e, mI_st, if_pos ⟨rfl, rfl⟩]⟩)
  · skip
    rw [bI_eq0, decide_eq_false_iff_not] at c_10
    refine g_aload_n dX9_ways_13 rfl ?_
    refine g_iconst (v := nI 1) dX9_ways_14 rfl ?_
    refine g_callV dX9_ways_15 sX9_fail (m_fail M1 n m (nI 1) hG.1) cl10 hG.1.1 iX9_fail vX9_fail (iw_13 5 rfl) rfl rfl (Nat.le_of_ble_eq_true rfl) (Nat.le_of_ble_eq_true rfl) (Nat.le_of_ble_eq_true rfl) (Nat.le_of_ble_eq_true rfl) (Nat.le_of_ble_eq_true rfl) ?_
    intro r9 M9 n9 h9
    obtain ⟨h91, h92, h93⟩ := h9
    rw [h91, h92, h93]
    clear h91 h92 h93 r9 M9 n9
    exact g_iret dX9_ways_18 (Or.inl rfl) (Nat.le_of_ble_eq_true rfl) (Nat.le_of_ble_eq_true rfl) (by
      have e : wyZ σ x = (1, 0) := by
        unfold wyZ
        rw [if_pos c_10]
      exact ⟨by rw [e]; rfl, rfl, hO1.stI ⟨by omega, by omega⟩, ⟨S, hQ1.thr _⟩, by rw [e, mI_st, if_pos ⟨rfl, rfl⟩]⟩)

