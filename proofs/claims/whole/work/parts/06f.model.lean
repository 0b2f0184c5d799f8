/-! the reference: sets joined, in common; spans wrapped -/
set_option maxHeartbeats 4000000 in
set_option maxRecDepth 100000 in
theorem m_join (M : gM) (n m s a b : Nat) (X Y : List Sp) (hm : gMod M m) (hs : s < 360) (ha : a < 360) (hb : b < 360) (hI : iL M m []) (hX : iS M m a X) (hY : iS M m b Y) (oX : okX X) (oY : okX Y) : GM μX9_join 3 74 0 0 [.ref m, .int (nI s), .int (nI a), .int (nI b)] M n (fun r M1 n1 => r = none ∧ n1 = n ∧ Off M M1 (fM m s) ∧ iL M1 m [] ∧ iS M1 m s (mkS (X ++ Y)) ∧ okX (mkS (X ++ Y))) := by
  refine GM.ofW (by decide) rfl (Nat.le_of_ble_eq_true rfl) rfl ?_
  refine g_aload_n dX9_join_0 rfl ?_
  refine g_iload_n dX9_join_1 rfl ?_
  refine g_callV (As := [.int (nI a)]) dX9_join_2 sX9_layAll (m_layAll M n m a X [] hm ha hX oX.2.2 (cn_okL oX.1) hI (by have := oX.2.1; simp; omega)) cl10 hm.1 iX9_layAll vX9_layAll (iw_25 20 rfl) rfl rfl (Nat.le_of_ble_eq_true rfl) (Nat.le_of_ble_eq_true rfl) (Nat.le_of_ble_eq_true rfl) (Nat.le_of_ble_eq_true rfl) (Nat.le_of_ble_eq_true rfl) ?_
  intro r9 M1 n9 h9
  obtain ⟨h91, h93, hO1, hI1⟩ := h9
  rw [h91, h93]
  clear h91 h93 r9 n9
  have hm1 : gMod M1 m := hm.off hO1
  have hY1 : iS M1 m b Y := hY.off hO1 (fun i k h1 h2 => by unfold fS at h1; unfold fL at h2; omega)
  refine g_aload_n dX9_join_5 rfl ?_
  refine g_iload_n dX9_join_6 rfl ?_
  refine g_callV (As := [.int (nI b)]) dX9_join_7 sX9_layAll (m_layAll M1 n m b Y ([] ++ X) hm1 hb hY1 oY.2.2 (cn_okL oY.1) hI1 (by have := oX.2.1; have := oY.2.1; simp; omega)) cl10 hm1.1 iX9_layAll vX9_layAll (iw_25 20 rfl) rfl rfl (Nat.le_of_ble_eq_true rfl) (Nat.le_of_ble_eq_true rfl) (Nat.le_of_ble_eq_true rfl) (Nat.le_of_ble_eq_true rfl) (Nat.le_of_ble_eq_true rfl) ?_
  intro r9 M2 n9 h9
  obtain ⟨h91, h93, hO2, hI2⟩ := h9
  rw [h91, h93]
  clear h91 h93 r9 n9
  have hm2 : gMod M2 m := hm1.off hO2
  refine g_aload_n dX9_join_10 rfl ?_
  refine g_iload_n dX9_join_11 rfl ?_
  refine g_callV (As := [.int (nI s)]) dX9_join_12 sX9_made (m_made M2 n m s (([] ++ X) ++ Y) hm2 hs hI2 (okL_app.mpr ⟨cn_okL oX.1, cn_okL oY.1⟩) (r5L_app.mpr ⟨oX.2.2, oY.2.2⟩) (by have := oX.2.1; have := oY.2.1; simp; omega)) cl10 hm2.1 iX9_made vX9_made (iw_28 2 rfl) rfl rfl (Nat.le_of_ble_eq_true rfl) (Nat.le_of_ble_eq_true rfl) (Nat.le_of_ble_eq_true rfl) (Nat.le_of_ble_eq_true rfl) (Nat.le_of_ble_eq_true rfl) ?_
  intro r9 M3 n9 h9
  obtain ⟨h91, h93, hO3, hI3, hS3, hk3⟩ := h9
  rw [h91, h93]
  clear h91 h93 r9 n9
  exact g_vret dX9_join_15 rfl (Nat.le_of_ble_eq_true rfl) (Nat.le_of_ble_eq_true rfl) ⟨rfl, rfl, ((hO1.trans hO2).mono (fun i k h => Or.inl h)).trans hO3, hI3, hS3, hk3⟩

set_option maxHeartbeats 4000000 in
set_option maxRecDepth 100000 in
theorem l_cm2 {M : gM} {n m s a b : Nat} {X Y : List Sp} {Q : gθ} (hm : gMod M m) (ha : a < 360) (hb : b < 360) (hX : iS M m a X) (hY : iS M m b Y) (oX : okX X) (oY : okX Y) {i : Nat} {L : List Sp} (hi : i < X.length) (hl : L.length + 2 ≤ 64) (hk : ∀ (jj : Nat) (M1 : gM), Off M M1 (fL m) → iL M1 m (L ++ (Y.map (cmp2 (X.getD i (0, 0)))).filter okp) → GW μX9_common (gRm 3 74 0 0) Q 0 0 72 [some (.ref m), some (.int (nI s)), some (.int (nI a)), some (.int (nI b)), some (.int (nI i)), some (.int (nI jj))] [] M1 n) : ∀ (d : Nat) (j : Nat) (M1 : gM), Y.length - j < d → j ≤ Y.length → Off M M1 (fL m) → iL M1 m (L ++ ((Y.take j).map (cmp2 (X.getD i (0, 0)))).filter okp) → GW μX9_common (gRm 3 74 0 0) Q 0 0 17 [some (.ref m), some (.int (nI s)), some (.int (nI a)), some (.int (nI b)), some (.int (nI i)), some (.int (nI j))] [] M1 n := by
  intro d
  induction d with
  | zero =>
    intro j M1 hd hj hO hI
    omega
  | succ d ih =>
    intro j M1 hd hj hO hI
    have hm1 : gMod M1 m := hm.off hO
    have hX1 : iS M1 m a X := hX.off hO (fun i k h1 h2 => by unfold fS at h1; unfold fL at h2; omega)
    have hY1 : iS M1 m b Y := hY.off hO (fun i k h1 h2 => by unfold fS at h1; unfold fL at h2; omega)
    have hX2 := oX.2.1
    have hY2 := oY.2.1
    refine g_iload dX9_common_17 rfl ?_
    refine g_aload_n dX9_common_19 rfl ?_
    refine g_getR (f := 1) dX9_common_20 cl10 hm1.1 (by decide) (Or.inl (iw_5 20 rfl)) (Or.inl rfl) rfl hm1.r_many ?_
    refine g_iload_n dX9_common_23 rfl ?_
    refine g_iaload dX9_common_24 (j := b) hm1.k_many hm1.n_many rfl (by omega) (by decide) ?_
    rw [hY1.2.1]
    refine g_icmp_ge (tgt := 72) dX9_common_25 (by decide) (fun c_25 => ?_) (fun c_25 => ?_)
    · skip
      rw [nI_leI (by omega) (by omega)] at c_25
      refine hk j M1 hO ?_
      rw [List.take_of_length_le (by omega)] at hI
      exact hI
    · skip
      rw [nI_leI (by omega) (by omega)] at c_25
      have hj2 : j < Y.length := by omega
      obtain ⟨bx1, bx2⟩ := r5_getD oX.2.2 hi
      obtain ⟨by1, by2⟩ := r5_getD oY.2.2 hj2
      obtain ⟨e1, e2⟩ := hX1.2.2 i hi
      obtain ⟨e3, e4⟩ := hY1.2.2 j hj2
      refine g_aload_n dX9_common_28 rfl ?_
      refine g_aload_n dX9_common_29 rfl ?_
      refine g_iload_n dX9_common_30 rfl ?_
      refine g_iload dX9_common_31 rfl ?_
      refine g_callV (As := [.int (nI a), .int (nI i)]) dX9_common_33 sX9_low (m_low M1 n m a i hm1 (by omega) (by omega)) cl10 hm1.1 iX9_low vX9_low (iw_26 0 rfl) rfl rfl (Nat.le_of_ble_eq_true rfl) (Nat.le_of_ble_eq_true rfl) (Nat.le_of_ble_eq_true rfl) (Nat.le_of_ble_eq_true rfl) (Nat.le_of_ble_eq_true rfl) ?_
      intro r9 M9 n9 h9
      obtain ⟨h91, h92, h93⟩ := h9
      rw [h91, h92, h93]
      clear h91 h92 h93 r9 M9 n9
      rw [show (some (Value.long (mJ M1 (m + 2) (4 * a + 2 * i)))).toList = [Value.long (jI (X.getD i (0, 0)).1)] by rw [e1]; rfl]
      refine g_aload_n dX9_common_36 rfl ?_
      refine g_iload_n dX9_common_37 rfl ?_
      refine g_iload dX9_common_38 rfl ?_
      refine g_callV (As := [.int (nI b), .int (nI j)]) dX9_common_40 sX9_low (m_low M1 n m b j hm1 (by omega) (by omega)) cl10 hm1.1 iX9_low vX9_low (iw_26 0 rfl) rfl rfl (Nat.le_of_ble_eq_true rfl) (Nat.le_of_ble_eq_true rfl) (Nat.le_of_ble_eq_true rfl) (Nat.le_of_ble_eq_true rfl) (Nat.le_of_ble_eq_true rfl) ?_
      intro r9 M9 n9 h9
      obtain ⟨h91, h92, h93⟩ := h9
      rw [h91, h92, h93]
      clear h91 h92 h93 r9 M9 n9
      rw [show (some (Value.long (mJ M1 (m + 2) (4 * b + 2 * j)))).toList = [Value.long (jI (Y.getD j (0, 0)).1)] by rw [e3]; rfl]
      refine g_callS (As := [.long (jI (X.getD i (0, 0)).1), .long (jI (Y.getD j (0, 0)).1)]) dX9_common_43 sX9_greater (m_greater M1 n (jI (X.getD i (0, 0)).1) (jI (Y.getD j (0, 0)).1)) tX9_greater (iw_27 7 rfl) rfl rfl (Nat.le_of_ble_eq_true rfl) (Nat.le_of_ble_eq_true rfl) (Nat.le_of_ble_eq_true rfl) (Nat.le_of_ble_eq_true rfl) (Nat.le_of_ble_eq_true rfl) ?_
      intro r9 M9 n9 h9
      obtain ⟨h91, h92, h93⟩ := h9
      rw [h91, h92, h93]
      clear h91 h92 h93 r9 M9 n9
      rw [jI_max (r6_of bx1) (r6_of by1)]
      refine g_aload_n dX9_common_46 rfl ?_
      refine g_iload_n dX9_common_47 rfl ?_
      refine g_iload dX9_common_48 rfl ?_
      refine g_callV (As := [.int (nI a), .int (nI i)]) dX9_common_50 sX9_high (m_high M1 n m a i hm1 (by omega) (by omega)) cl10 hm1.1 iX9_high vX9_high (iw_26 4 rfl) rfl rfl (Nat.le_of_ble_eq_true rfl) (Nat.le_of_ble_eq_true rfl) (Nat.le_of_ble_eq_true rfl) (Nat.le_of_ble_eq_true rfl) (Nat.le_of_ble_eq_true rfl) ?_
      intro r9 M9 n9 h9
      obtain ⟨h91, h92, h93⟩ := h9
      rw [h91, h92, h93]
      clear h91 h92 h93 r9 M9 n9
      rw [show (some (Value.long (mJ M1 (m + 2) (4 * a + 2 * i + 1)))).toList = [Value.long (jI (X.getD i (0, 0)).2)] by rw [e2]; rfl]
      refine g_aload_n dX9_common_53 rfl ?_
      refine g_iload_n dX9_common_54 rfl ?_
      refine g_iload dX9_common_55 rfl ?_
      refine g_callV (As := [.int (nI b), .int (nI j)]) dX9_common_57 sX9_high (m_high M1 n m b j hm1 (by omega) (by omega)) cl10 hm1.1 iX9_high vX9_high (iw_26 4 rfl) rfl rfl (Nat.le_of_ble_eq_true rfl) (Nat.le_of_ble_eq_true rfl) (Nat.le_of_ble_eq_true rfl) (Nat.le_of_ble_eq_true rfl) (Nat.le_of_ble_eq_true rfl) ?_
      intro r9 M9 n9 h9
      obtain ⟨h91, h92, h93⟩ := h9
      rw [h91, h92, h93]
      clear h91 h92 h93 r9 M9 n9
      rw [show (some (Value.long (mJ M1 (m + 2) (4 * b + 2 * j + 1)))).toList = [Value.long (jI (Y.getD j (0, 0)).2)] by rw [e4]; rfl]
      refine g_callS (As := [.long (jI (X.getD i (0, 0)).2), .long (jI (Y.getD j (0, 0)).2)]) dX9_common_60 sX9_lesser (m_lesser M1 n (jI (X.getD i (0, 0)).2) (jI (Y.getD j (0, 0)).2)) tX9_lesser (iw_26 12 rfl) rfl rfl (Nat.le_of_ble_eq_true rfl) (Nat.le_of_ble_eq_true rfl) (Nat.le_of_ble_eq_true rfl) (Nat.le_of_ble_eq_true rfl) (Nat.le_of_ble_eq_true rfl) ?_
      intro r9 M9 n9 h9
      obtain ⟨h91, h92, h93⟩ := h9
      rw [h91, h92, h93]
      clear h91 h92 h93 r9 M9 n9
      rw [jI_min (r6_of bx2) (r6_of by2)]
      refine g_callV (As := [.long (jI (max (X.getD i (0, 0)).1 (Y.getD j (0, 0)).1)), .long (jI (min (X.getD i (0, 0)).2 (Y.getD j (0, 0)).2))]) dX9_common_63 sX9_lay (m_lay M1 n m (max (X.getD i (0, 0)).1 (Y.getD j (0, 0)).1) (min (X.getD i (0, 0)).2 (Y.getD j (0, 0)).2) _ hm1 hI (by have h9 := List.length_filter_le okp ((Y.take j).map (cmp2 (X.getD i (0, 0)))); rw [List.length_map, List.length_take] at h9; rw [List.length_append]; omega) (by constructor <;> omega) (by constructor <;> omega)) cl10 hm1.1 iX9_lay vX9_lay (iw_25 15 rfl) rfl rfl (Nat.le_of_ble_eq_true rfl) (Nat.le_of_ble_eq_true rfl) (Nat.le_of_ble_eq_true rfl) (Nat.le_of_ble_eq_true rfl) (Nat.le_of_ble_eq_true rfl) ?_
      intro r9 M2 n9 h9
      obtain ⟨h91, h93, hO2, hI2⟩ := h9
      rw [h91, h93]
      clear h91 h93 r9 n9
      refine g_iinc dX9_common_66 rfl (nI_1 j) (Nat.le_of_ble_eq_true rfl) ?_
      refine g_goto (tgt := 17) dX9_common_69 (by decide) ?_
      refine ih (j + 1) _ (by omega) (by omega) (hO.trans hO2) ?_
      rw [take_one hj2, List.map_append, List.filter_append, ← List.append_assoc]
      rw [show List.map (cmp2 (X.getD i (0, 0))) [Y.getD j (0, 0)] = [cmp2 (X.getD i (0, 0)) (Y.getD j (0, 0))] from rfl, filter_one]
      exact hI2

set_option maxHeartbeats 4000000 in
set_option maxRecDepth 100000 in
theorem l_cm1 {M : gM} {n m s a b : Nat} {X Y : List Sp} {Q : gθ} (hm : gMod M m) (ha : a < 360) (hb : b < 360) (hX : iS M m a X) (hY : iS M m b Y) (oX : okX X) (oY : okX Y) (hk : ∀ (M1 : gM), Off M M1 (fL m) → iL M1 m (cmL X Y) → GW μX9_common (gRm 3 74 0 0) Q 0 0 78 [some (.ref m), some (.int (nI s)), some (.int (nI a)), some (.int (nI b)), none, none] [] M1 n) : ∀ (d : Nat) (i : Nat) (M1 : gM), X.length - i < d → i ≤ X.length → Off M M1 (fL m) → iL M1 m (((X.take i).flatMap fun x => Y.map (cmp2 x)).filter okp) → GW μX9_common (gRm 3 74 0 0) Q 0 0 3 [some (.ref m), some (.int (nI s)), some (.int (nI a)), some (.int (nI b)), some (.int (nI i)), none] [] M1 n := by
  intro d
  induction d with
  | zero =>
    intro i M1 hd hi hO hI
    omega
  | succ d ih =>
    intro i M1 hd hi hO hI
    have hm1 : gMod M1 m := hm.off hO
    have hX1 : iS M1 m a X := hX.off hO (fun i k h1 h2 => by unfold fS at h1; unfold fL at h2; omega)
    have hY1 : iS M1 m b Y := hY.off hO (fun i k h1 h2 => by unfold fS at h1; unfold fL at h2; omega)
    have hX2 := oX.2.1
    have hY2 := oY.2.1
    refine g_iload dX9_common_3 rfl ?_
    refine g_aload_n dX9_common_5 rfl ?_
    refine g_getR (f := 1) dX9_common_6 cl10 hm1.1 (by decide) (Or.inl (iw_5 20 rfl)) (Or.inl rfl) rfl hm1.r_many ?_
    refine g_iload_n dX9_common_9 rfl ?_
    refine g_iaload dX9_common_10 (j := a) hm1.k_many hm1.n_many rfl (by omega) (by decide) ?_
    rw [hX1.2.1]
    refine g_icmp_ge (tgt := 78) dX9_common_11 (by decide) (fun c_11 => ?_) (fun c_11 => ?_)
    · skip
      rw [nI_leI (by omega) (by omega)] at c_11
      refine g_drop 4 ?_
      refine hk M1 hO ?_
      rw [List.take_of_length_le (by omega)] at hI
      exact hI
    · skip
      refine g_iconst (v := nI 0) dX9_common_14 rfl ?_
      refine g_istore dX9_common_15 (Nat.le_of_ble_eq_true rfl) ?_
      rw [nI_leI (by omega) (by omega)] at c_11
      have hi2 : i < X.length := by omega
      have hlen : (((X.take i).flatMap fun x => Y.map (cmp2 x)).filter okp).length ≤ 4 := Nat.le_trans (cmL_len (X := X.take i) (Y := Y) (by rw [List.length_take]; omega) hY2) (Nat.le_refl _)
      refine l_cm2 hm (s := s) ha hb hX hY oX oY hi2 (L := ((X.take i).flatMap fun x => Y.map (cmp2 x)).filter okp) (by omega) (fun jj M2 hO2 hI2 => ?_) (Y.length + 1) 0 M1 (by omega) (by omega) hO (by simpa using hI)
      refine g_iinc dX9_common_72 rfl (nI_1 i) (Nat.le_of_ble_eq_true rfl) ?_
      refine g_goto (tgt := 3) dX9_common_75 (by decide) ?_
      refine g_drop 5 ?_
      refine ih (i + 1) M2 (by omega) (by omega) hO2 ?_
      rw [take_one hi2, List.flatMap_append, List.filter_append]
      simpa using hI2

set_option maxHeartbeats 4000000 in
set_option maxRecDepth 100000 in
theorem m_common (M : gM) (n m s a b : Nat) (X Y : List Sp) (hm : gMod M m) (hs : s < 360) (ha : a < 360) (hb : b < 360) (hI : iL M m []) (hX : iS M m a X) (hY : iS M m b Y) (oX : okX X) (oY : okX Y) : GM μX9_common 3 74 0 0 [.ref m, .int (nI s), .int (nI a), .int (nI b)] M n (fun r M1 n1 => r = none ∧ n1 = n ∧ Off M M1 (fM m s) ∧ iL M1 m [] ∧ iS M1 m s (mkS (cmL X Y)) ∧ okX (mkS (cmL X Y))) := by
  refine GM.ofW (by decide) rfl (Nat.le_of_ble_eq_true rfl) rfl ?_
  refine g_iconst (v := nI 0) dX9_common_0 rfl ?_
  refine g_istore dX9_common_1 (Nat.le_of_ble_eq_true rfl) ?_
  have hX2 := oX.2.1
  refine l_cm1 hm ha hb hX hY oX oY (fun M1 hO1 hI1 => ?_) (X.length + 1) 0 M (by omega) (by omega) Off.rf (by simpa using hI)
  have hm1 : gMod M1 m := hm.off hO1
  refine g_aload_n dX9_common_78 rfl ?_
  refine g_iload_n dX9_common_79 rfl ?_
  refine g_callV (As := [.int (nI s)]) dX9_common_80 sX9_made (m_made M1 n m s (cmL X Y) hm1 hs hI1 (cmL_ok X Y) (cmL_r5 oX.2.2 oY.2.2) (by have := cmL_len oX.2.1 oY.2.1; omega)) cl10 hm1.1 iX9_made vX9_made (iw_28 2 rfl) rfl rfl (Nat.le_of_ble_eq_true rfl) (Nat.le_of_ble_eq_true rfl) (Nat.le_of_ble_eq_true rfl) (Nat.le_of_ble_eq_true rfl) (Nat.le_of_ble_eq_true rfl) ?_
  intro r9 M2 n9 h9
  obtain ⟨h91, h93, hO2, hI2, hS2, hk2⟩ := h9
  rw [h91, h93]
  exact g_vret dX9_common_83 rfl (Nat.le_of_ble_eq_true rfl) (Nat.le_of_ble_eq_true rfl) ⟨rfl, rfl, (hO1.mono (fun i k h => Or.inl h)).trans hO2, hI2, hS2, hk2⟩

