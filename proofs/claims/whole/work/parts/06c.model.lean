/-! the reference: sets read and compared, laid whole -/
def hasB (X : List Sp) (z : Int) : Bool := X.any (fun p => decide (p.1 ≤ z) && decide (z ≤ p.2))
theorem hasB_iff (X : List Sp) (z : Int) : hasB X z = true ↔ inL X z := by
  simp [hasB, inL]
theorem r5_getD {X : List Sp} (h : r5L X) {k : Nat} (hk : k < X.length) : r5 (X.getD k (0, 0)).1 ∧ r5 (X.getD k (0, 0)).2 := h _ (getD_mem hk)
theorem r6_of {z : Int} (h : r5 z) : r6 z := by constructor <;> omega
theorem bI_0 : bI false = nI 0 := rfl
theorem bI_1 : bI true = nI 1 := rfl
theorem bI_01 (x : Bool) : bI x = 0 ∨ bI x = 1 := by cases x <;> simp [bI]
theorem bI_eq0 (x : Bool) : bI x = 0 ↔ x = false := by cases x <;> simp [bI]
theorem hasB_take {X : List Sp} {k : Nat} (hk : k < X.length) (z : Int) : hasB (X.take (k + 1)) z = (hasB (X.take k) z || (decide ((X.getD k (0, 0)).1 ≤ z) && decide (z ≤ (X.getD k (0, 0)).2))) := by
  unfold hasB
  rw [List.take_succ, List.any_append, List.getD_eq_getElem?_getD, List.getElem?_eq_getElem hk]
  simp
set_option maxHeartbeats 4000000 in
set_option maxRecDepth 100000 in
theorem m_least (M : gM) (n m s : Nat) (hm : gMod M m) (hs : s < 360) : GM μX9_least 1 22 0 0 [.ref m, .int (nI s)] M n (fun r M1 n1 => r = some (.long (mJ M (m + 2) (4 * s))) ∧ M1 = M ∧ n1 = n) := by
  refine GM.ofW (by decide) rfl (Nat.le_of_ble_eq_true rfl) rfl ?_
  refine g_aload_n dX9_least_0 rfl ?_
  refine g_iload_n dX9_least_1 rfl ?_
  refine g_iconst (v := nI 0) dX9_least_2 rfl ?_
  refine g_callV (As := [.int (nI s), .int (nI 0)]) dX9_least_3 sX9_low (m_low M n m s 0 hm hs (by omega)) cl10 hm.1 iX9_low vX9_low (iw_26 0 rfl) rfl rfl (Nat.le_of_ble_eq_true rfl) (Nat.le_of_ble_eq_true rfl) (Nat.le_of_ble_eq_true rfl) (Nat.le_of_ble_eq_true rfl) (Nat.le_of_ble_eq_true rfl) ?_
  intro r9 M9 n9 h9
  obtain ⟨h91, h92, h93⟩ := h9
  rw [h91, h92, h93]
  clear h91 h92 h93 r9 M9 n9
  exact g_lret dX9_least_6 rfl (Nat.le_of_ble_eq_true rfl) (Nat.le_of_ble_eq_true rfl) ⟨rfl, rfl, rfl⟩

set_option maxHeartbeats 4000000 in
set_option maxRecDepth 100000 in
theorem m_most (M : gM) (n m s : Nat) (X : List Sp) (hm : gMod M m) (hs : s < 360) (hX : iS M m s X) (h0 : 0 < X.length) : GM μX9_most 1 22 0 0 [.ref m, .int (nI s)] M n (fun r M1 n1 => r = some (.long (jI (X.getD (X.length - 1) (0, 0)).2)) ∧ M1 = M ∧ n1 = n) := by
  refine GM.ofW (by decide) rfl (Nat.le_of_ble_eq_true rfl) rfl ?_
  refine g_aload_n dX9_most_0 rfl ?_
  refine g_iload_n dX9_most_1 rfl ?_
  refine g_aload_n dX9_most_2 rfl ?_
  refine g_getR (f := 1) dX9_most_3 cl10 hm.1 (by decide) (Or.inl (iw_5 20 rfl)) (Or.inl rfl) rfl hm.r_many ?_
  refine g_iload_n dX9_most_6 rfl ?_
  refine g_iaload dX9_most_7 (j := s) hm.k_many hm.n_many rfl (by omega) (by decide) ?_
  refine g_iconst (v := nI 1) dX9_most_8 rfl ?_
  refine g_isub dX9_most_9 ?_
  rw [hX.2.1, pk_sub (by omega)]
  refine g_callV (As := [.int (nI s), .int (nI (X.length - 1))]) dX9_most_10 sX9_high (m_high M n m s (X.length - 1) hm hs (by have := hX.1; omega)) cl10 hm.1 iX9_high vX9_high (iw_26 4 rfl) rfl rfl (Nat.le_of_ble_eq_true rfl) (Nat.le_of_ble_eq_true rfl) (Nat.le_of_ble_eq_true rfl) (Nat.le_of_ble_eq_true rfl) (Nat.le_of_ble_eq_true rfl) ?_
  intro r9 M9 n9 h9
  obtain ⟨h91, h92, h93⟩ := h9
  rw [h91, h92, h93]
  clear h91 h92 h93 r9 M9 n9
  exact g_lret dX9_most_13 rfl (Nat.le_of_ble_eq_true rfl) (Nat.le_of_ble_eq_true rfl) ⟨by rw [(hX.2.2 (X.length - 1) (by omega)).2], rfl, rfl⟩

set_option maxHeartbeats 4000000 in
set_option maxRecDepth 100000 in
theorem l_has {M : gM} {n m s : Nat} {v : Int} {X : List Sp} {post : gPo} (hm : gMod M m) (hs : s < 360) (hX : iS M m s X) (hr : r5L X) (hv : r6 v) (hq : post (some (.int (bI (hasB X v)))) M n) : ∀ (d : Nat) (k : Nat), X.length - k < d → k ≤ X.length → GW μX9_has (gRm 1 22 0 0) (gTh post 0 0) 0 0 6 [some (.ref m), some (.int (nI s)), some (.long (jI v)), none, some (.int (bI (hasB (X.take k) v))), some (.int (nI k))] [] M n := by
  intro d
  induction d with
  | zero =>
    intro k hd hk
    omega
  | succ d ih =>
    intro k hd hk
    refine g_iload dX9_has_6 rfl ?_
    refine g_aload_n dX9_has_8 rfl ?_
    refine g_getR (f := 1) dX9_has_9 cl10 hm.1 (by decide) (Or.inl (iw_5 20 rfl)) (Or.inl rfl) rfl hm.r_many ?_
    refine g_iload_n dX9_has_12 rfl ?_
    refine g_iaload dX9_has_13 (j := s) hm.k_many hm.n_many rfl (by omega) (by decide) ?_
    rw [hX.2.1]
    have hX1 := hX.1
    refine g_icmp_ge (tgt := 59) dX9_has_14 (by decide) (fun c_14 => ?_) (fun c_14 => ?_)
    · skip
      rw [nI_leI (by omega) (by omega)] at c_14
      rw [List.take_of_length_le (by omega)]
      refine g_iload dX9_has_59 rfl ?_
      exact g_iret dX9_has_61 (Or.inr ⟨rfl, bI_01 _⟩) (Nat.le_of_ble_eq_true rfl) (Nat.le_of_ble_eq_true rfl) hq
    · skip
      rw [nI_leI (by omega) (by omega)] at c_14
      have hk2 : k < X.length := by omega
      obtain ⟨b1, b2⟩ := r5_getD hr hk2
      have e1 := (hX.2.2 k hk2).1
      have e2 := (hX.2.2 k hk2).2
      refine g_iload dX9_has_17 rfl ?_
      refine g_if_ne (tgt := 46) dX9_has_19 (by decide) (fun c_19 => ?_) (fun c_19 => ?_)
      · skip
        have hh : hasB (X.take (k + 1)) v = true := by
          rw [hasB_take hk2]
          first
            | (rw [bI_eq0] at c_19; simp only [Bool.not_eq_false] at c_19; rw [c_19]; rfl)
            | (rw [jc_gt hv (r6_of b2)] at c_43; rw [decide_eq_true (by omega), decide_eq_true (by omega)]; simp)
        refine g_iconst (v := nI 1) dX9_has_46 rfl ?_
        refine g_goto (tgt := 51) dX9_has_47 (by decide) ?_
        refine g_istore dX9_has_51 (Nat.le_of_ble_eq_true rfl) ?_
        refine g_iinc dX9_has_53 rfl (nI_1 k) (Nat.le_of_ble_eq_true rfl) ?_
        refine g_goto (tgt := 6) dX9_has_56 (by decide) ?_
        have hg := ih (k + 1) (by omega) (by omega)
        rw [hh] at hg
        exact hg
      · skip
        refine g_lload_n dX9_has_22 rfl ?_
        refine g_aload_n dX9_has_23 rfl ?_
        refine g_iload_n dX9_has_24 rfl ?_
        refine g_iload dX9_has_25 rfl ?_
        refine g_callV (As := [.int (nI s), .int (nI k)]) dX9_has_27 sX9_low (m_low M n m s k hm hs (by have := hX.1; omega)) cl10 hm.1 iX9_low vX9_low (iw_26 0 rfl) rfl rfl (Nat.le_of_ble_eq_true rfl) (Nat.le_of_ble_eq_true rfl) (Nat.le_of_ble_eq_true rfl) (Nat.le_of_ble_eq_true rfl) (Nat.le_of_ble_eq_true rfl) ?_
        intro r9 M9 n9 h9
        obtain ⟨h91, h92, h93⟩ := h9
        rw [h91, h92, h93]
        clear h91 h92 h93 r9 M9 n9
        rw [show (some (Value.long (mJ M (m + 2) (4 * s + 2 * k)))).toList = [Value.long (jI (X.getD k (0, 0)).1)] by rw [e1]; rfl]
        refine g_lcmp dX9_has_30 ?_
        refine g_if_lt (tgt := 50) dX9_has_31 (by decide) (fun c_31 => ?_) (fun c_31 => ?_)
        · skip
          have hh : hasB (X.take (k + 1)) v = false := by
            rw [hasB_take hk2]
            rw [bI_eq0] at c_19
            rw [c_19]
            first
              | (rw [jc_lt hv (r6_of b1)] at c_31; rw [decide_eq_false (by omega)]; rfl)
              | (rw [jc_gt hv (r6_of b2)] at c_43; rw [decide_eq_false (p := v ≤ _) (by omega)]; simp)
          refine g_iconst (v := nI 0) dX9_has_50 rfl ?_
          refine g_istore dX9_has_51 (Nat.le_of_ble_eq_true rfl) ?_
          refine g_iinc dX9_has_53 rfl (nI_1 k) (Nat.le_of_ble_eq_true rfl) ?_
          refine g_goto (tgt := 6) dX9_has_56 (by decide) ?_
          have hg := ih (k + 1) (by omega) (by omega)
          rw [hh] at hg
          exact hg
        · skip
          rw [jc_lt hv (r6_of b1)] at c_31
          refine g_lload_n dX9_has_34 rfl ?_
          refine g_aload_n dX9_has_35 rfl ?_
          refine g_iload_n dX9_has_36 rfl ?_
          refine g_iload dX9_has_37 rfl ?_
          refine g_callV (As := [.int (nI s), .int (nI k)]) dX9_has_39 sX9_high (m_high M n m s k hm hs (by have := hX.1; omega)) cl10 hm.1 iX9_high vX9_high (iw_26 4 rfl) rfl rfl (Nat.le_of_ble_eq_true rfl) (Nat.le_of_ble_eq_true rfl) (Nat.le_of_ble_eq_true rfl) (Nat.le_of_ble_eq_true rfl) (Nat.le_of_ble_eq_true rfl) ?_
          intro r9 M9 n9 h9
          obtain ⟨h91, h92, h93⟩ := h9
          rw [h91, h92, h93]
          clear h91 h92 h93 r9 M9 n9
          rw [show (some (Value.long (mJ M (m + 2) (4 * s + 2 * k + 1)))).toList = [Value.long (jI (X.getD k (0, 0)).2)] by rw [e2]; rfl]
          refine g_lcmp dX9_has_42 ?_
          refine g_if_gt (tgt := 50) dX9_has_43 (by decide) (fun c_43 => ?_) (fun c_43 => ?_)
          · skip
            have hh : hasB (X.take (k + 1)) v = false := by
              rw [hasB_take hk2]
              rw [bI_eq0] at c_19
              rw [c_19]
              first
                | (rw [jc_lt hv (r6_of b1)] at c_31; rw [decide_eq_false (by omega)]; rfl)
                | (rw [jc_gt hv (r6_of b2)] at c_43; rw [decide_eq_false (p := v ≤ _) (by omega)]; simp)
            refine g_iconst (v := nI 0) dX9_has_50 rfl ?_
            refine g_istore dX9_has_51 (Nat.le_of_ble_eq_true rfl) ?_
            refine g_iinc dX9_has_53 rfl (nI_1 k) (Nat.le_of_ble_eq_true rfl) ?_
            refine g_goto (tgt := 6) dX9_has_56 (by decide) ?_
            have hg := ih (k + 1) (by omega) (by omega)
            rw [hh] at hg
            exact hg
          · skip
            have hh : hasB (X.take (k + 1)) v = true := by
              rw [hasB_take hk2]
              first
                | (rw [bI_eq0] at c_19; simp only [Bool.not_eq_false] at c_19; rw [c_19]; rfl)
                | (rw [jc_gt hv (r6_of b2)] at c_43; rw [decide_eq_true (by omega), decide_eq_true (by omega)]; simp)
            refine g_iconst (v := nI 1) dX9_has_46 rfl ?_
            refine g_goto (tgt := 51) dX9_has_47 (by decide) ?_
            refine g_istore dX9_has_51 (Nat.le_of_ble_eq_true rfl) ?_
            refine g_iinc dX9_has_53 rfl (nI_1 k) (Nat.le_of_ble_eq_true rfl) ?_
            refine g_goto (tgt := 6) dX9_has_56 (by decide) ?_
            have hg := ih (k + 1) (by omega) (by omega)
            rw [hh] at hg
            exact hg

set_option maxHeartbeats 4000000 in
set_option maxRecDepth 100000 in
theorem m_has (M : gM) (n m s : Nat) (v : Int) (X : List Sp) (hm : gMod M m) (hs : s < 360) (hX : iS M m s X) (hr : r5L X) (hv : r6 v) : GM μX9_has 1 22 0 0 [.ref m, .int (nI s), .long (jI v)] M n (fun r M1 n1 => r = some (.int (bI (hasB X v))) ∧ M1 = M ∧ n1 = n) := by
  refine GM.ofW (by decide) rfl (Nat.le_of_ble_eq_true rfl) rfl ?_
  refine g_iconst (v := nI 0) dX9_has_0 rfl ?_
  refine g_istore dX9_has_1 (Nat.le_of_ble_eq_true rfl) ?_
  refine g_iconst (v := nI 0) dX9_has_3 rfl ?_
  refine g_istore dX9_has_4 (Nat.le_of_ble_eq_true rfl) ?_
  exact l_has hm hs hX hr hv ⟨rfl, rfl, rfl⟩ (X.length + 1) 0 (by omega) (by omega)

set_option maxHeartbeats 4000000 in
set_option maxRecDepth 100000 in
theorem l_layAll {M : gM} {n m s : Nat} {X L : List Sp} {post : gPo} (hm : gMod M m) (hs : s < 360) (hX : iS M m s X) (hr : r5L X) (hok : okL X) (hl : L.length + X.length ≤ 64) (hq : ∀ M1, Off M M1 (fL m) → iL M1 m (L ++ X) → post none M1 n) : ∀ (d : Nat) (k : Nat) (M1 : gM), X.length - k < d → k ≤ X.length → Off M M1 (fL m) → iL M1 m (L ++ X.take k) → GW μX9_layAll (gRm 1 24 0 0) (gTh post 0 0) 0 0 2 [some (.ref m), some (.int (nI s)), some (.int (nI k))] [] M1 n := by
  intro d
  induction d with
  | zero =>
    intro k M1 hd hk hO hI
    omega
  | succ d ih =>
    intro k M1 hd hk hO hI
    have hm1 : gMod M1 m := hm.off hO
    have hX1 : iS M1 m s X := hX.off hO (fun i k h1 h2 => by unfold fS at h1; unfold fL at h2; omega)
    refine g_iload_n dX9_layAll_2 rfl ?_
    refine g_aload_n dX9_layAll_3 rfl ?_
    refine g_getR (f := 1) dX9_layAll_4 cl10 hm1.1 (by decide) (Or.inl (iw_5 20 rfl)) (Or.inl rfl) rfl hm1.r_many ?_
    refine g_iload_n dX9_layAll_7 rfl ?_
    refine g_iaload dX9_layAll_8 (j := s) hm1.k_many hm1.n_many rfl hs (by decide) ?_
    rw [hX1.2.1]
    have hX2 := hX1.1
    refine g_icmp_ge (tgt := 34) dX9_layAll_9 (by decide) (fun c_9 => ?_) (fun c_9 => ?_)
    · skip
      rw [nI_leI (by omega) (by omega)] at c_9
      exact g_vret dX9_layAll_34 rfl (Nat.le_of_ble_eq_true rfl) (Nat.le_of_ble_eq_true rfl) (hq M1 hO (by rw [List.take_of_length_le (by omega)] at hI; exact hI))
    · skip
      rw [nI_leI (by omega) (by omega)] at c_9
      have hk2 : k < X.length := by omega
      obtain ⟨b1, b2⟩ := r5_getD hr hk2
      have e1 := (hX1.2.2 k hk2).1
      have e2 := (hX1.2.2 k hk2).2
      refine g_aload_n dX9_layAll_12 rfl ?_
      refine g_aload_n dX9_layAll_13 rfl ?_
      refine g_iload_n dX9_layAll_14 rfl ?_
      refine g_iload_n dX9_layAll_15 rfl ?_
      refine g_callV (As := [.int (nI s), .int (nI k)]) dX9_layAll_16 sX9_low (m_low M1 n m s k hm1 hs (by have := hX.1; omega)) cl10 hm1.1 iX9_low vX9_low (iw_26 0 rfl) rfl rfl (Nat.le_of_ble_eq_true rfl) (Nat.le_of_ble_eq_true rfl) (Nat.le_of_ble_eq_true rfl) (Nat.le_of_ble_eq_true rfl) (Nat.le_of_ble_eq_true rfl) ?_
      intro r9 M9 n9 h9
      obtain ⟨h91, h92, h93⟩ := h9
      rw [h91, h92, h93]
      clear h91 h92 h93 r9 M9 n9
      rw [show (some (Value.long (mJ M1 (m + 2) (4 * s + 2 * k)))).toList = [Value.long (jI (X.getD k (0, 0)).1)] by rw [e1]; rfl]
      refine g_aload_n dX9_layAll_19 rfl ?_
      refine g_iload_n dX9_layAll_20 rfl ?_
      refine g_iload_n dX9_layAll_21 rfl ?_
      refine g_callV (As := [.int (nI s), .int (nI k)]) dX9_layAll_22 sX9_high (m_high M1 n m s k hm1 hs (by have := hX.1; omega)) cl10 hm1.1 iX9_high vX9_high (iw_26 4 rfl) rfl rfl (Nat.le_of_ble_eq_true rfl) (Nat.le_of_ble_eq_true rfl) (Nat.le_of_ble_eq_true rfl) (Nat.le_of_ble_eq_true rfl) (Nat.le_of_ble_eq_true rfl) ?_
      intro r9 M9 n9 h9
      obtain ⟨h91, h92, h93⟩ := h9
      rw [h91, h92, h93]
      clear h91 h92 h93 r9 M9 n9
      rw [show (some (Value.long (mJ M1 (m + 2) (4 * s + 2 * k + 1)))).toList = [Value.long (jI (X.getD k (0, 0)).2)] by rw [e2]; rfl]
      refine g_callV (As := [.long (jI (X.getD k (0, 0)).1), .long (jI (X.getD k (0, 0)).2)]) dX9_layAll_25 sX9_lay (m_lay M1 n m (X.getD k (0, 0)).1 (X.getD k (0, 0)).2 (L ++ X.take k) hm1 hI (by rw [List.length_append, List.length_take]; omega) (r6_of b1) (r6_of b2)) cl10 hm1.1 iX9_lay vX9_lay (iw_25 15 rfl) rfl rfl (Nat.le_of_ble_eq_true rfl) (Nat.le_of_ble_eq_true rfl) (Nat.le_of_ble_eq_true rfl) (Nat.le_of_ble_eq_true rfl) (Nat.le_of_ble_eq_true rfl) ?_
      intro r9 M2 n9 h9
      obtain ⟨h91, h93, hO2, hI2⟩ := h9
      rw [h91, h93]
      clear h91 h93 r9 n9
      refine g_iinc dX9_layAll_28 rfl (nI_1 k) (Nat.le_of_ble_eq_true rfl) ?_
      refine g_goto (tgt := 2) dX9_layAll_31 (by decide) ?_
      refine ih (k + 1) _ (by omega) (by omega) (hO.trans hO2) ?_
      rw [if_pos (hok _ (getD_mem hk2))] at hI2
      rw [List.take_succ, List.getElem?_eq_getElem hk2]
      rw [List.getD_eq_getElem?_getD, List.getElem?_eq_getElem hk2] at hI2
      rw [← List.append_assoc]
      exact hI2

set_option maxHeartbeats 4000000 in
set_option maxRecDepth 100000 in
theorem m_layAll (M : gM) (n m s : Nat) (X L : List Sp) (hm : gMod M m) (hs : s < 360) (hX : iS M m s X) (hr : r5L X) (hok : okL X) (hI : iL M m L) (hl : L.length + X.length ≤ 64) : GM μX9_layAll 1 24 0 0 [.ref m, .int (nI s)] M n (fun r M1 n1 => r = none ∧ n1 = n ∧ Off M M1 (fL m) ∧ iL M1 m (L ++ X)) := by
  refine GM.ofW (by decide) rfl (Nat.le_of_ble_eq_true rfl) rfl ?_
  refine g_iconst (v := nI 0) dX9_layAll_0 rfl ?_
  refine g_istore_n dX9_layAll_1 (Nat.le_of_ble_eq_true rfl) ?_
  exact l_layAll hm hs hX hr hok hl (fun M1 h1 h2 => ⟨rfl, rfl, h1, h2⟩) (X.length + 1) 0 _ (by omega) (by omega) Off.rf (by rw [List.take_zero, List.append_nil]; exact hI)

