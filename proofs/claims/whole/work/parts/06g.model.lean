/-! the reference: what the acts lay -/
theorem GM.imp {μ : gμ} {F L mc ms : Nat} {As : List Value} {M : gM} {n : Nat} {post post2 : gPo} (h : GM μ F L mc ms As M n post) (hi : ∀ r M1 n1, post r M1 n1 → post2 r M1 n1) : GM μ F L mc ms As M n post2 := by
  intro l hl D cy b p e h1 h2 h3 s m args below h4 h5 h6 h7
  obtain ⟨N, o, q1, q2, q3, ⟨⟨r, M1, n1, e1, hp, hP⟩, hF⟩, q5⟩ := h l hl D cy b p e h1 h2 h3 s m args below h4 h5 h6 h7
  exact ⟨N, o, q1, q2, q3, ⟨⟨r, M1, n1, e1, hi r M1 n1 hp, hP⟩, hF⟩, q5⟩
theorem jw_lt {a b : Int} (h1 : -9223372036854775808 ≤ a) (h2 : a < 9223372036854775808) (hb : r6 b) : lg_cmp (jI a) (jI b) < 0 ↔ a < b := by
  rw [lg_cmp_lt, Int64.lt_iff_toInt_lt, jI_t h1 h2, jI_t (by omega) (by omega)]
theorem m_mn (M : gM) (n : Nat) (a b : Int) (ha : r6 a) (hb : r6 b) : GM μX9_lesser 0 0 0 0 [.long (jI a), .long (jI b)] M n (fun r M1 n1 => r = some (.long (jI (min a b))) ∧ M1 = M ∧ n1 = n) := GM.imp (m_lesser M n _ _) (fun r M1 n1 h => ⟨by rw [h.1, jI_min ha hb], h.2⟩)

theorem m_mx (M : gM) (n : Nat) (a b : Int) (ha : r6 a) (hb : r6 b) : GM μX9_greater 0 0 0 0 [.long (jI a), .long (jI b)] M n (fun r M1 n1 => r = some (.long (jI (max a b))) ∧ M1 = M ∧ n1 = n) := GM.imp (m_greater M n _ _) (fun r M1 n1 h => ⟨by rw [h.1, jI_max ha hb], h.2⟩)

theorem m_loX (M : gM) (n m s k : Nat) (X : List Sp) (hm : gMod M m) (hs : s < 360) (hX : iS M m s X) (hk : k < X.length) : GM μX9_low 0 0 0 0 [.ref m, .int (nI s), .int (nI k)] M n (fun r M1 n1 => r = some (.long (jI (X.getD k (0, 0)).1)) ∧ M1 = M ∧ n1 = n) := GM.imp (m_low M n m s k hm hs (by have := hX.1; omega)) (fun r M1 n1 h => ⟨by rw [h.1, (hX.2.2 k hk).1], h.2⟩)

theorem m_hiX (M : gM) (n m s k : Nat) (X : List Sp) (hm : gMod M m) (hs : s < 360) (hX : iS M m s X) (hk : k < X.length) : GM μX9_high 0 0 0 0 [.ref m, .int (nI s), .int (nI k)] M n (fun r M1 n1 => r = some (.long (jI (X.getD k (0, 0)).2)) ∧ M1 = M ∧ n1 = n) := GM.imp (m_high M n m s k hm hs (by have := hX.1; omega)) (fun r M1 n1 h => ⟨by rw [h.1, (hX.2.2 k hk).2], h.2⟩)

theorem m_leX (M : gM) (n m s : Nat) (X : List Sp) (hm : gMod M m) (hs : s < 360) (hX : iS M m s X) (hk : 0 < X.length) : GM μX9_least 1 22 0 0 [.ref m, .int (nI s)] M n (fun r M1 n1 => r = some (.long (jI (X.getD 0 (0, 0)).1)) ∧ M1 = M ∧ n1 = n) := GM.imp (m_least M n m s hm hs) (fun r M1 n1 h => ⟨by rw [h.1]; have := (hX.2.2 0 hk).1; rw [show 4 * s + 2 * 0 = 4 * s from rfl] at this; rw [this], h.2⟩)

theorem m_lay1 (M : gM) (n m : Nat) (a b : Int) (L : List Sp) (hm : gMod M m) (hL : iL M m L) (hl : L.length < 64) (ha : r6 a) (hb : r6 b) (hab : a ≤ b) : GM μX9_lay 0 0 0 0 [.ref m, .long (jI a), .long (jI b)] M n (fun r M1 n1 => r = none ∧ n1 = n ∧ Off M M1 (fL m) ∧ iL M1 m (L ++ [(a, b)])) := GM.imp (m_lay M n m a b L hm hL hl ha hb) (fun r M1 n1 h => ⟨h.1, h.2.1, h.2.2.1, by have := h.2.2.2; rw [if_pos hab] at this; exact this⟩)

set_option maxHeartbeats 4000000 in
set_option maxRecDepth 100000 in
theorem m_layW (M : gM) (n m : Nat) (lo hi : Int) (L : List Sp) (hm : gMod M m) (hL : iL M m L) (hl : L.length + 2 ≤ 64) (h1 : r6 lo) (h2 : r6 hi) (h3 : hi - lo < 9223372036854775808) (h4 : -9223372036854775808 ≤ hi - lo) : GM μX9_layWrapped 1 24 0 0 [.ref m, .long (jI lo), .long (jI hi)] M n (fun r M1 n1 => r = none ∧ n1 = n ∧ Off M M1 (fL m) ∧ iL M1 m (L ++ wrW lo hi)) := by
  refine GM.ofW (by decide) rfl (Nat.le_of_ble_eq_true rfl) rfl ?_
  have hw1 := wrp_r5 lo
  have hw2 := wrp_r5 hi
  refine g_lload_n dX9_layWrapped_0 rfl ?_
  refine g_lload_n dX9_layWrapped_1 rfl ?_
  refine g_lsub dX9_layWrapped_2 ?_
  refine g_ldc2 (v := jI (4294967295)) dX9_layWrapped_3 (iw_27 19 rfl) ?_
  rw [jI_sub]
  refine g_lcmp dX9_layWrapped_6 ?_
  refine g_if_lt (tgt := 21) dX9_layWrapped_7 (by decide) (fun c_7 => ?_) (fun c_7 => ?_)
  · skip
    rw [jw_lt h4 h3 (by constructor <;> omega)] at c_7
    refine g_lload_n dX9_layWrapped_21 rfl ?_
    refine g_l2i dX9_layWrapped_22 ?_
    refine g_i2l dX9_layWrapped_23 ?_
    rw [jI_wrp]
    refine g_lstore dX9_layWrapped_24 (Nat.le_of_ble_eq_true rfl) ?_
    refine g_lload_n dX9_layWrapped_26 rfl ?_
    refine g_l2i dX9_layWrapped_27 ?_
    refine g_i2l dX9_layWrapped_28 ?_
    rw [jI_wrp]
    refine g_lstore dX9_layWrapped_29 (Nat.le_of_ble_eq_true rfl) ?_
    refine g_lload dX9_layWrapped_31 rfl ?_
    refine g_lload dX9_layWrapped_33 rfl ?_
    refine g_lcmp dX9_layWrapped_35 ?_
    refine g_if_gt (tgt := 50) dX9_layWrapped_36 (by decide) (fun c_36 => ?_) (fun c_36 => ?_)
    · skip
      rw [jc_gt (r6_of hw1) (r6_of hw2)] at c_36
      refine g_aload_n dX9_layWrapped_50 rfl ?_
      refine g_ldc2 (v := jI (-2147483648)) dX9_layWrapped_51 (iw_27 20 rfl) ?_
      refine g_lload dX9_layWrapped_54 rfl ?_
      refine g_callV dX9_layWrapped_56 sX9_lay (m_lay1 M n m (-2147483648) (wrp hi) L hm hL (by omega) (by constructor <;> omega) (by constructor <;> omega) (by omega)) cl10 hm.1 iX9_lay vX9_lay (iw_25 15 rfl) rfl rfl (Nat.le_of_ble_eq_true rfl) (Nat.le_of_ble_eq_true rfl) (Nat.le_of_ble_eq_true rfl) (Nat.le_of_ble_eq_true rfl) (Nat.le_of_ble_eq_true rfl) ?_
      intro r9 M2 n9 h9
      obtain ⟨h91, h93, hO2, hI2⟩ := h9
      rw [h91, h93]
      clear h91 h93 r9 n9
      refine g_aload_n dX9_layWrapped_59 rfl ?_
      refine g_lload dX9_layWrapped_60 rfl ?_
      refine g_ldc2 (v := jI (2147483647)) dX9_layWrapped_62 (iw_27 21 rfl) ?_
      refine g_callV dX9_layWrapped_65 sX9_lay (m_lay1 M2 n m (wrp lo) (2147483647) (L ++ [(-2147483648, wrp hi)]) (hm.off hO2) hI2 (by rw [List.length_append, List.length_singleton]; omega) (by constructor <;> omega) (by constructor <;> omega) (by omega)) cl10 (hm.off hO2).1 iX9_lay vX9_lay (iw_25 15 rfl) rfl rfl (Nat.le_of_ble_eq_true rfl) (Nat.le_of_ble_eq_true rfl) (Nat.le_of_ble_eq_true rfl) (Nat.le_of_ble_eq_true rfl) (Nat.le_of_ble_eq_true rfl) ?_
      intro r9 M3 n9 h9
      obtain ⟨h91, h93, hO3, hI3⟩ := h9
      rw [h91, h93]
      clear h91 h93 r9 n9
      exact g_vret dX9_layWrapped_68 rfl (Nat.le_of_ble_eq_true rfl) (Nat.le_of_ble_eq_true rfl) (by
        first
          | exact ⟨rfl, rfl, hO2.trans hO3, by unfold wrW; rw [if_neg (by omega), if_neg (by omega)]; rw [List.append_assoc] at hI3; exact hI3⟩
          | exact ⟨rfl, rfl, hO2, by unfold wrW; rw [if_neg (by omega), if_pos (by omega)]; exact hI2⟩)
    · skip
      rw [jc_gt (r6_of hw1) (r6_of hw2)] at c_36
      refine g_aload_n dX9_layWrapped_39 rfl ?_
      refine g_lload dX9_layWrapped_40 rfl ?_
      refine g_lload dX9_layWrapped_42 rfl ?_
      refine g_callV dX9_layWrapped_44 sX9_lay (m_lay1 M n m (wrp lo) (wrp hi) L hm hL (by omega) (by constructor <;> omega) (by constructor <;> omega) (by omega)) cl10 hm.1 iX9_lay vX9_lay (iw_25 15 rfl) rfl rfl (Nat.le_of_ble_eq_true rfl) (Nat.le_of_ble_eq_true rfl) (Nat.le_of_ble_eq_true rfl) (Nat.le_of_ble_eq_true rfl) (Nat.le_of_ble_eq_true rfl) ?_
      intro r9 M2 n9 h9
      obtain ⟨h91, h93, hO2, hI2⟩ := h9
      rw [h91, h93]
      clear h91 h93 r9 n9
      refine g_goto (tgt := 68) dX9_layWrapped_47 (by decide) ?_
      exact g_vret dX9_layWrapped_68 rfl (Nat.le_of_ble_eq_true rfl) (Nat.le_of_ble_eq_true rfl) (by
        first
          | exact ⟨rfl, rfl, hO2.trans hO3, by unfold wrW; rw [if_neg (by omega), if_neg (by omega)]; rw [List.append_assoc] at hI3; exact hI3⟩
          | exact ⟨rfl, rfl, hO2, by unfold wrW; rw [if_neg (by omega), if_pos (by omega)]; exact hI2⟩)
  · skip
    rw [jw_lt h4 h3 (by constructor <;> omega)] at c_7
    refine g_aload_n dX9_layWrapped_10 rfl ?_
    refine g_ldc2 (v := jI (-2147483648)) dX9_layWrapped_11 (iw_27 20 rfl) ?_
    refine g_ldc2 (v := jI (2147483647)) dX9_layWrapped_14 (iw_27 21 rfl) ?_
    refine g_callV dX9_layWrapped_17 sX9_lay (m_lay1 M n m (-2147483648) (2147483647) L hm hL (by omega) (by constructor <;> omega) (by constructor <;> omega) (by omega)) cl10 hm.1 iX9_lay vX9_lay (iw_25 15 rfl) rfl rfl (Nat.le_of_ble_eq_true rfl) (Nat.le_of_ble_eq_true rfl) (Nat.le_of_ble_eq_true rfl) (Nat.le_of_ble_eq_true rfl) (Nat.le_of_ble_eq_true rfl) ?_
    intro r9 M2 n9 h9
    obtain ⟨h91, h93, hO2, hI2⟩ := h9
    rw [h91, h93]
    clear h91 h93 r9 n9
    exact g_vret dX9_layWrapped_20 rfl (Nat.le_of_ble_eq_true rfl) (Nat.le_of_ble_eq_true rfl) ⟨rfl, rfl, hO2, by unfold wrW; rw [if_pos (by omega)]; exact hI2⟩

set_option maxHeartbeats 4000000 in
set_option maxRecDepth 100000 in
theorem m_four (M : gM) (n m : Nat) (a b c d : Int) (L : List Sp) (hm : gMod M m) (hL : iL M m L) (hl : L.length + 2 ≤ 64) (h1 : -4611686016279904256 ≤ a ∧ a ≤ 4611686018427387904) (h2 : -4611686016279904256 ≤ b ∧ b ≤ 4611686018427387904) (h3 : -4611686016279904256 ≤ c ∧ c ≤ 4611686018427387904) (h4 : -4611686016279904256 ≤ d ∧ d ≤ 4611686018427387904) : GM μX9_layFour 2 52 0 0 [.ref m, .long (jI a), .long (jI b), .long (jI c), .long (jI d)] M n (fun r M1 n1 => r = none ∧ n1 = n ∧ Off M M1 (fL m) ∧ iL M1 m (L ++ fourW a b c d)) := by
  refine GM.ofW (by decide) rfl (Nat.le_of_ble_eq_true rfl) rfl ?_
  refine g_aload_n dX9_layFour_0 rfl ?_
  refine g_lload_n dX9_layFour_1 rfl ?_
  refine g_lload_n dX9_layFour_2 rfl ?_
  refine g_callS dX9_layFour_3 sX9_lesser (m_mn M n (a) (b) (by constructor <;> omega) (by constructor <;> omega)) tX9_lesser (iw_26 12 rfl) rfl rfl (Nat.le_of_ble_eq_true rfl) (Nat.le_of_ble_eq_true rfl) (Nat.le_of_ble_eq_true rfl) (Nat.le_of_ble_eq_true rfl) (Nat.le_of_ble_eq_true rfl) ?_
  intro r9 M9 n9 h9
  obtain ⟨h91, h92, h93⟩ := h9
  rw [h91, h92, h93]
  clear h91 h92 h93 r9 M9 n9
  refine g_lload dX9_layFour_6 rfl ?_
  refine g_lload dX9_layFour_8 rfl ?_
  refine g_callS dX9_layFour_10 sX9_lesser (m_mn M n (c) (d) (by constructor <;> omega) (by constructor <;> omega)) tX9_lesser (iw_26 12 rfl) rfl rfl (Nat.le_of_ble_eq_true rfl) (Nat.le_of_ble_eq_true rfl) (Nat.le_of_ble_eq_true rfl) (Nat.le_of_ble_eq_true rfl) (Nat.le_of_ble_eq_true rfl) ?_
  intro r9 M9 n9 h9
  obtain ⟨h91, h92, h93⟩ := h9
  rw [h91, h92, h93]
  clear h91 h92 h93 r9 M9 n9
  refine g_callS dX9_layFour_13 sX9_lesser (m_mn M n (min a b) (min c d) (by constructor <;> omega) (by constructor <;> omega)) tX9_lesser (iw_26 12 rfl) rfl rfl (Nat.le_of_ble_eq_true rfl) (Nat.le_of_ble_eq_true rfl) (Nat.le_of_ble_eq_true rfl) (Nat.le_of_ble_eq_true rfl) (Nat.le_of_ble_eq_true rfl) ?_
  intro r9 M9 n9 h9
  obtain ⟨h91, h92, h93⟩ := h9
  rw [h91, h92, h93]
  clear h91 h92 h93 r9 M9 n9
  refine g_lload_n dX9_layFour_16 rfl ?_
  refine g_lload_n dX9_layFour_17 rfl ?_
  refine g_callS dX9_layFour_18 sX9_greater (m_mx M n (a) (b) (by constructor <;> omega) (by constructor <;> omega)) tX9_greater (iw_27 7 rfl) rfl rfl (Nat.le_of_ble_eq_true rfl) (Nat.le_of_ble_eq_true rfl) (Nat.le_of_ble_eq_true rfl) (Nat.le_of_ble_eq_true rfl) (Nat.le_of_ble_eq_true rfl) ?_
  intro r9 M9 n9 h9
  obtain ⟨h91, h92, h93⟩ := h9
  rw [h91, h92, h93]
  clear h91 h92 h93 r9 M9 n9
  refine g_lload dX9_layFour_21 rfl ?_
  refine g_lload dX9_layFour_23 rfl ?_
  refine g_callS dX9_layFour_25 sX9_greater (m_mx M n (c) (d) (by constructor <;> omega) (by constructor <;> omega)) tX9_greater (iw_27 7 rfl) rfl rfl (Nat.le_of_ble_eq_true rfl) (Nat.le_of_ble_eq_true rfl) (Nat.le_of_ble_eq_true rfl) (Nat.le_of_ble_eq_true rfl) (Nat.le_of_ble_eq_true rfl) ?_
  intro r9 M9 n9 h9
  obtain ⟨h91, h92, h93⟩ := h9
  rw [h91, h92, h93]
  clear h91 h92 h93 r9 M9 n9
  refine g_callS dX9_layFour_28 sX9_greater (m_mx M n (max a b) (max c d) (by constructor <;> omega) (by constructor <;> omega)) tX9_greater (iw_27 7 rfl) rfl rfl (Nat.le_of_ble_eq_true rfl) (Nat.le_of_ble_eq_true rfl) (Nat.le_of_ble_eq_true rfl) (Nat.le_of_ble_eq_true rfl) (Nat.le_of_ble_eq_true rfl) ?_
  intro r9 M9 n9 h9
  obtain ⟨h91, h92, h93⟩ := h9
  rw [h91, h92, h93]
  clear h91 h92 h93 r9 M9 n9
  refine g_callV dX9_layFour_31 sX9_layWrapped (m_layW M n m (min (min a b) (min c d)) (max (max a b) (max c d)) L hm hL hl (by constructor <;> omega) (by constructor <;> omega) (by omega) (by omega)) cl10 hm.1 iX9_layWrapped vX9_layWrapped (iw_27 15 rfl) rfl rfl (Nat.le_of_ble_eq_true rfl) (Nat.le_of_ble_eq_true rfl) (Nat.le_of_ble_eq_true rfl) (Nat.le_of_ble_eq_true rfl) (Nat.le_of_ble_eq_true rfl) ?_
  intro r9 M2 n9 h9
  obtain ⟨h91, h93, hO2, hI2⟩ := h9
  rw [h91, h93]
  clear h91 h93 r9 n9
  exact g_vret dX9_layFour_34 rfl (Nat.le_of_ble_eq_true rfl) (Nat.le_of_ble_eq_true rfl) ⟨rfl, rfl, hO2, hI2⟩

set_option maxHeartbeats 4000000 in
set_option maxRecDepth 100000 in
theorem m_cut (M : gM) (n : Nat) (v : Int) (t : Int32) : GM μX9_cut 0 0 0 0 [.long (jI v), .int t] M n (fun r M1 n1 => r = some (.long (jI (cutZ t v))) ∧ M1 = M ∧ n1 = n) := by
  refine GM.ofW (by decide) rfl (Nat.le_of_ble_eq_true rfl) rfl ?_
  refine g_iload_n dX9_cut_0 rfl ?_
  refine g_if_ne (tgt := 11) dX9_cut_1 (by decide) (fun c_1 => ?_) (fun c_1 => ?_)
  · skip
    refine g_iload_n dX9_cut_11 rfl ?_
    refine g_iconst (v := 1) dX9_cut_12 rfl ?_
    refine g_icmp_ne (tgt := 23) dX9_cut_13 (by decide) (fun c_13 => ?_) (fun c_13 => ?_)
    · skip
      refine g_lload_n dX9_cut_23 rfl ?_
      refine g_ldc2 (v := jI (65535)) dX9_cut_24 (iw_26 23 rfl) ?_
      refine g_land dX9_cut_27 ?_
      exact g_lret dX9_cut_28 rfl (Nat.le_of_ble_eq_true rfl) (Nat.le_of_ble_eq_true rfl) ⟨by
        unfold cutZ cE cW
        first
          | (simp only [if_pos c_1]; rw [← cut_b])
          | (simp only [if_neg c_1, if_pos c_13]; rw [← cut_s])
          | (simp only [if_neg c_1, if_neg c_13]; rw [show v - 0 = v by omega, show 0 + v % 65536 = v % 65536 by omega]; exact congrArg (fun z => some (Value.long z)) (jI_m16 v)), rfl, rfl⟩
    · skip
      refine g_lload_n dX9_cut_16 rfl ?_
      refine g_l2i dX9_cut_17 ?_
      refine g_i2s dX9_cut_18 ?_
      refine g_i2l dX9_cut_19 ?_
      refine g_goto (tgt := 28) dX9_cut_20 (by decide) ?_
      exact g_lret dX9_cut_28 rfl (Nat.le_of_ble_eq_true rfl) (Nat.le_of_ble_eq_true rfl) ⟨by
        unfold cutZ cE cW
        first
          | (simp only [if_pos c_1]; rw [← cut_b])
          | (simp only [if_neg c_1, if_pos c_13]; rw [← cut_s])
          | (simp only [if_neg c_1, if_neg c_13]; rw [show v - 0 = v by omega, show 0 + v % 65536 = v % 65536 by omega]; exact congrArg (fun z => some (Value.long z)) (jI_m16 v)), rfl, rfl⟩
  · skip
    refine g_lload_n dX9_cut_4 rfl ?_
    refine g_l2i dX9_cut_5 ?_
    refine g_i2b dX9_cut_6 ?_
    refine g_i2l dX9_cut_7 ?_
    refine g_goto (tgt := 28) dX9_cut_8 (by decide) ?_
    exact g_lret dX9_cut_28 rfl (Nat.le_of_ble_eq_true rfl) (Nat.le_of_ble_eq_true rfl) ⟨by
      unfold cutZ cE cW
      first
        | (simp only [if_pos c_1]; rw [← cut_b])
        | (simp only [if_neg c_1, if_pos c_13]; rw [← cut_s])
        | (simp only [if_neg c_1, if_neg c_13]; rw [show v - 0 = v by omega, show 0 + v % 65536 = v % 65536 by omega]; exact congrArg (fun z => some (Value.long z)) (jI_m16 v)), rfl, rfl⟩

theorem cE_r (t : Int32) : -32768 ≤ cE t ∧ cE t ≤ 0 ∧ 256 ≤ cW t ∧ cW t ≤ 65536 := by
  unfold cE cW
  split
  · omega
  · split <;> omega
theorem cut_in (t : Int32) (v : Int) : cE t ≤ cutZ t v ∧ cutZ t v ≤ cE t + cW t - 1 := bm_r (by have := cE_r t; omega)
set_option maxHeartbeats 4000000 in
set_option maxRecDepth 100000 in
theorem p_layCut {M : gM} {n m : Nat} {lo hi : Int} {L : List Sp} {t : Int32} (hm : gMod M m) (hL : iL M m L) (hl : L.length + 2 ≤ 64) (h1 : r5 lo) (h2 : r5 hi) {e w : Int} (he : e = cE t) (hw : w = cE t + cW t - 1) : GW μX9_layCut (gRm 1 24 0 0) (gTh (fun r M1 n1 => r = none ∧ n1 = n ∧ Off M M1 (fL m) ∧ iL M1 m (L ++ rnd (cE t) (cW t) lo hi)) 0 0) 0 0 54 [some (.ref m), some (.long (jI lo)), none, some (.long (jI hi)), none, some (.int t), some (.long (jI e)), none, some (.long (jI w)), none, none, none, none, none] [] M n := by
  subst he
  subst hw
  have hc := cE_r t
  have hc1 := cut_in t lo
  have hc2 := cut_in t hi
  refine g_lload_n dX9_layCut_54 rfl ?_
  refine g_iload dX9_layCut_55 rfl ?_
  refine g_callS dX9_layCut_57 sX9_cut (m_cut M n lo t) tX9_cut (iw_27 0 rfl) rfl rfl (Nat.le_of_ble_eq_true rfl) (Nat.le_of_ble_eq_true rfl) (Nat.le_of_ble_eq_true rfl) (Nat.le_of_ble_eq_true rfl) (Nat.le_of_ble_eq_true rfl) ?_
  intro r9 M9 n9 h9
  obtain ⟨h91, h92, h93⟩ := h9
  rw [h91, h92, h93]
  clear h91 h92 h93 r9 M9 n9
  refine g_lstore dX9_layCut_60 (Nat.le_of_ble_eq_true rfl) ?_
  refine g_lload_n dX9_layCut_62 rfl ?_
  refine g_iload dX9_layCut_63 rfl ?_
  refine g_callS dX9_layCut_65 sX9_cut (m_cut M n hi t) tX9_cut (iw_27 0 rfl) rfl rfl (Nat.le_of_ble_eq_true rfl) (Nat.le_of_ble_eq_true rfl) (Nat.le_of_ble_eq_true rfl) (Nat.le_of_ble_eq_true rfl) (Nat.le_of_ble_eq_true rfl) ?_
  intro r9 M9 n9 h9
  obtain ⟨h91, h92, h93⟩ := h9
  rw [h91, h92, h93]
  clear h91 h92 h93 r9 M9 n9
  refine g_lstore dX9_layCut_68 (Nat.le_of_ble_eq_true rfl) ?_
  refine g_lload_n dX9_layCut_70 rfl ?_
  refine g_lload_n dX9_layCut_71 rfl ?_
  refine g_lsub dX9_layCut_72 ?_
  rw [jI_sub]
  refine g_lload dX9_layCut_73 rfl ?_
  refine g_lload dX9_layCut_75 rfl ?_
  refine g_lsub dX9_layCut_77 ?_
  rw [jI_sub]
  refine g_lcmp dX9_layCut_78 ?_
  refine g_if_lt (tgt := 93) dX9_layCut_79 (by decide) (fun c_79 => ?_) (fun c_79 => ?_)
  · skip
    rw [jc_lt (by constructor <;> omega) (by constructor <;> omega)] at c_79
    refine g_lload dX9_layCut_93 rfl ?_
    refine g_lload dX9_layCut_95 rfl ?_
    refine g_lcmp dX9_layCut_97 ?_
    refine g_if_gt (tgt := 112) dX9_layCut_98 (by decide) (fun c_98 => ?_) (fun c_98 => ?_)
    · skip
      rw [jc_gt (by constructor <;> omega) (by constructor <;> omega)] at c_98
      refine g_aload_n dX9_layCut_112 rfl ?_
      refine g_lload dX9_layCut_113 rfl ?_
      refine g_lload dX9_layCut_115 rfl ?_
      refine g_callV dX9_layCut_117 sX9_lay (m_lay1 M n m (cE t) (cutZ t hi) L hm hL (by omega) (by constructor <;> omega) (by constructor <;> omega) (by omega)) cl10 hm.1 iX9_lay vX9_lay (iw_25 15 rfl) rfl rfl (Nat.le_of_ble_eq_true rfl) (Nat.le_of_ble_eq_true rfl) (Nat.le_of_ble_eq_true rfl) (Nat.le_of_ble_eq_true rfl) (Nat.le_of_ble_eq_true rfl) ?_
      intro r9 M2 n9 h9
      obtain ⟨h91, h93, hO2, hI2⟩ := h9
      rw [h91, h93]
      clear h91 h93 r9 n9
      refine g_aload_n dX9_layCut_120 rfl ?_
      refine g_lload dX9_layCut_121 rfl ?_
      refine g_lload dX9_layCut_123 rfl ?_
      refine g_callV dX9_layCut_125 sX9_lay (m_lay1 M2 n m (cutZ t lo) (cE t + cW t - 1) (L ++ [(cE t, cutZ t hi)]) (hm.off hO2) hI2 (by rw [List.length_append, List.length_singleton]; omega) (by constructor <;> omega) (by constructor <;> omega) (by omega)) cl10 (hm.off hO2).1 iX9_lay vX9_lay (iw_25 15 rfl) rfl rfl (Nat.le_of_ble_eq_true rfl) (Nat.le_of_ble_eq_true rfl) (Nat.le_of_ble_eq_true rfl) (Nat.le_of_ble_eq_true rfl) (Nat.le_of_ble_eq_true rfl) ?_
      intro r9 M3 n9 h9
      obtain ⟨h91, h93, hO3, hI3⟩ := h9
      rw [h91, h93]
      clear h91 h93 r9 n9
      exact g_vret dX9_layCut_128 rfl (Nat.le_of_ble_eq_true rfl) (Nat.le_of_ble_eq_true rfl) (by
        unfold cutZ at *
        first
          | exact ⟨rfl, rfl, hO2.trans hO3, by unfold rnd; rw [if_neg (by omega), if_neg (by omega)]; rw [List.append_assoc] at hI3; exact hI3⟩
          | exact ⟨rfl, rfl, hO2, by unfold rnd; rw [if_pos (by omega)]; exact hI2⟩
          | exact ⟨rfl, rfl, hO2, by unfold rnd; rw [if_neg (by omega), if_pos (by omega)]; exact hI2⟩)
    · skip
      rw [jc_gt (by constructor <;> omega) (by constructor <;> omega)] at c_98
      refine g_aload_n dX9_layCut_101 rfl ?_
      refine g_lload dX9_layCut_102 rfl ?_
      refine g_lload dX9_layCut_104 rfl ?_
      refine g_callV dX9_layCut_106 sX9_lay (m_lay1 M n m (cutZ t lo) (cutZ t hi) L hm hL (by omega) (by constructor <;> omega) (by constructor <;> omega) (by omega)) cl10 hm.1 iX9_lay vX9_lay (iw_25 15 rfl) rfl rfl (Nat.le_of_ble_eq_true rfl) (Nat.le_of_ble_eq_true rfl) (Nat.le_of_ble_eq_true rfl) (Nat.le_of_ble_eq_true rfl) (Nat.le_of_ble_eq_true rfl) ?_
      intro r9 M2 n9 h9
      obtain ⟨h91, h93, hO2, hI2⟩ := h9
      rw [h91, h93]
      clear h91 h93 r9 n9
      refine g_goto (tgt := 128) dX9_layCut_109 (by decide) ?_
      exact g_vret dX9_layCut_128 rfl (Nat.le_of_ble_eq_true rfl) (Nat.le_of_ble_eq_true rfl) (by
        unfold cutZ at *
        first
          | exact ⟨rfl, rfl, hO2.trans hO3, by unfold rnd; rw [if_neg (by omega), if_neg (by omega)]; rw [List.append_assoc] at hI3; exact hI3⟩
          | exact ⟨rfl, rfl, hO2, by unfold rnd; rw [if_pos (by omega)]; exact hI2⟩
          | exact ⟨rfl, rfl, hO2, by unfold rnd; rw [if_neg (by omega), if_pos (by omega)]; exact hI2⟩)
  · skip
    rw [jc_lt (by constructor <;> omega) (by constructor <;> omega)] at c_79
    refine g_aload_n dX9_layCut_82 rfl ?_
    refine g_lload dX9_layCut_83 rfl ?_
    refine g_lload dX9_layCut_85 rfl ?_
    refine g_callV dX9_layCut_87 sX9_lay (m_lay1 M n m (cE t) (cE t + cW t - 1) L hm hL (by omega) (by constructor <;> omega) (by constructor <;> omega) (by omega)) cl10 hm.1 iX9_lay vX9_lay (iw_25 15 rfl) rfl rfl (Nat.le_of_ble_eq_true rfl) (Nat.le_of_ble_eq_true rfl) (Nat.le_of_ble_eq_true rfl) (Nat.le_of_ble_eq_true rfl) (Nat.le_of_ble_eq_true rfl) ?_
    intro r9 M2 n9 h9
    obtain ⟨h91, h93, hO2, hI2⟩ := h9
    rw [h91, h93]
    clear h91 h93 r9 n9
    refine g_goto (tgt := 128) dX9_layCut_90 (by decide) ?_
    exact g_vret dX9_layCut_128 rfl (Nat.le_of_ble_eq_true rfl) (Nat.le_of_ble_eq_true rfl) (by
      unfold cutZ at *
      first
        | exact ⟨rfl, rfl, hO2.trans hO3, by unfold rnd; rw [if_neg (by omega), if_neg (by omega)]; rw [List.append_assoc] at hI3; exact hI3⟩
        | exact ⟨rfl, rfl, hO2, by unfold rnd; rw [if_pos (by omega)]; exact hI2⟩
        | exact ⟨rfl, rfl, hO2, by unfold rnd; rw [if_neg (by omega), if_pos (by omega)]; exact hI2⟩)

set_option maxHeartbeats 4000000 in
set_option maxRecDepth 100000 in
theorem m_layCut (M : gM) (n m : Nat) (lo hi : Int) (L : List Sp) (t : Int32) (hm : gMod M m) (hL : iL M m L) (hl : L.length + 2 ≤ 64) (h1 : r5 lo) (h2 : r5 hi) : GM μX9_layCut 1 24 0 0 [.ref m, .long (jI lo), .long (jI hi), .int t] M n (fun r M1 n1 => r = none ∧ n1 = n ∧ Off M M1 (fL m) ∧ iL M1 m (L ++ rnd (cE t) (cW t) lo hi)) := by
  refine GM.ofW (by decide) rfl (Nat.le_of_ble_eq_true rfl) rfl ?_
  refine g_iload dX9_layCut_0 rfl ?_
  refine g_if_ne (tgt := 11) dX9_layCut_2 (by decide) (fun c_2 => ?_) (fun c_2 => ?_)
  · skip
    refine g_iload dX9_layCut_11 rfl ?_
    refine g_iconst (v := 1) dX9_layCut_13 rfl ?_
    refine g_icmp_ne (tgt := 23) dX9_layCut_14 (by decide) (fun c_14 => ?_) (fun c_14 => ?_)
    · skip
      refine g_lconst (v := jI 0) dX9_layCut_23 rfl ?_
      refine g_lstore dX9_layCut_24 (Nat.le_of_ble_eq_true rfl) ?_
      refine g_iload dX9_layCut_26 rfl ?_
      refine g_if_ne (tgt := 37) dX9_layCut_28 (by decide) (fun c_28 => ?_) (fun c_28 => ?_)
      · skip
        refine g_iload dX9_layCut_37 rfl ?_
        refine g_iconst (v := 1) dX9_layCut_39 rfl ?_
        refine g_icmp_ne (tgt := 49) dX9_layCut_40 (by decide) (fun c_40 => ?_) (fun c_40 => ?_)
        · skip
          refine g_ldc2 (v := jI (65535)) dX9_layCut_49 (iw_26 23 rfl) ?_
          refine g_lstore dX9_layCut_52 (Nat.le_of_ble_eq_true rfl) ?_
          first
            | exact absurd c_2 c_28
            | exact absurd c_28 c_2
            | exact absurd c_14 c_40
            | exact absurd c_40 c_14
            | exact p_layCut (t := t) hm hL hl h1 h2 (by unfold cE; simp only [if_pos c_2]) (by unfold cE cW; simp only [if_pos c_2]; rfl)
            | exact p_layCut (t := t) hm hL hl h1 h2 (by unfold cE; simp only [if_neg c_2, if_pos c_14]) (by unfold cE cW; simp only [if_neg c_2, if_pos c_14]; rfl)
            | exact p_layCut (t := t) hm hL hl h1 h2 (by unfold cE; simp only [if_neg c_2, if_neg c_14]) (by unfold cE cW; simp only [if_neg c_2, if_neg c_14]; rfl)
        · skip
          refine g_ldc2 (v := jI (32767)) dX9_layCut_43 (iw_26 22 rfl) ?_
          refine g_goto (tgt := 52) dX9_layCut_46 (by decide) ?_
          refine g_lstore dX9_layCut_52 (Nat.le_of_ble_eq_true rfl) ?_
          first
            | exact absurd c_2 c_28
            | exact absurd c_28 c_2
            | exact absurd c_14 c_40
            | exact absurd c_40 c_14
            | exact p_layCut (t := t) hm hL hl h1 h2 (by unfold cE; simp only [if_pos c_2]) (by unfold cE cW; simp only [if_pos c_2]; rfl)
            | exact p_layCut (t := t) hm hL hl h1 h2 (by unfold cE; simp only [if_neg c_2, if_pos c_14]) (by unfold cE cW; simp only [if_neg c_2, if_pos c_14]; rfl)
            | exact p_layCut (t := t) hm hL hl h1 h2 (by unfold cE; simp only [if_neg c_2, if_neg c_14]) (by unfold cE cW; simp only [if_neg c_2, if_neg c_14]; rfl)
      · skip
        refine g_ldc2 (v := jI (127)) dX9_layCut_31 (iw_26 21 rfl) ?_
        refine g_goto (tgt := 52) dX9_layCut_34 (by decide) ?_
        refine g_lstore dX9_layCut_52 (Nat.le_of_ble_eq_true rfl) ?_
        first
          | exact absurd c_2 c_28
          | exact absurd c_28 c_2
          | exact absurd c_14 c_40
          | exact absurd c_40 c_14
          | exact p_layCut (t := t) hm hL hl h1 h2 (by unfold cE; simp only [if_pos c_2]) (by unfold cE cW; simp only [if_pos c_2]; rfl)
          | exact p_layCut (t := t) hm hL hl h1 h2 (by unfold cE; simp only [if_neg c_2, if_pos c_14]) (by unfold cE cW; simp only [if_neg c_2, if_pos c_14]; rfl)
          | exact p_layCut (t := t) hm hL hl h1 h2 (by unfold cE; simp only [if_neg c_2, if_neg c_14]) (by unfold cE cW; simp only [if_neg c_2, if_neg c_14]; rfl)
    · skip
      refine g_ldc2 (v := jI (-32768)) dX9_layCut_17 (iw_26 20 rfl) ?_
      refine g_goto (tgt := 24) dX9_layCut_20 (by decide) ?_
      refine g_lstore dX9_layCut_24 (Nat.le_of_ble_eq_true rfl) ?_
      refine g_iload dX9_layCut_26 rfl ?_
      refine g_if_ne (tgt := 37) dX9_layCut_28 (by decide) (fun c_28 => ?_) (fun c_28 => ?_)
      · skip
        refine g_iload dX9_layCut_37 rfl ?_
        refine g_iconst (v := 1) dX9_layCut_39 rfl ?_
        refine g_icmp_ne (tgt := 49) dX9_layCut_40 (by decide) (fun c_40 => ?_) (fun c_40 => ?_)
        · skip
          refine g_ldc2 (v := jI (65535)) dX9_layCut_49 (iw_26 23 rfl) ?_
          refine g_lstore dX9_layCut_52 (Nat.le_of_ble_eq_true rfl) ?_
          first
            | exact absurd c_2 c_28
            | exact absurd c_28 c_2
            | exact absurd c_14 c_40
            | exact absurd c_40 c_14
            | exact p_layCut (t := t) hm hL hl h1 h2 (by unfold cE; simp only [if_pos c_2]) (by unfold cE cW; simp only [if_pos c_2]; rfl)
            | exact p_layCut (t := t) hm hL hl h1 h2 (by unfold cE; simp only [if_neg c_2, if_pos c_14]) (by unfold cE cW; simp only [if_neg c_2, if_pos c_14]; rfl)
            | exact p_layCut (t := t) hm hL hl h1 h2 (by unfold cE; simp only [if_neg c_2, if_neg c_14]) (by unfold cE cW; simp only [if_neg c_2, if_neg c_14]; rfl)
        · skip
          refine g_ldc2 (v := jI (32767)) dX9_layCut_43 (iw_26 22 rfl) ?_
          refine g_goto (tgt := 52) dX9_layCut_46 (by decide) ?_
          refine g_lstore dX9_layCut_52 (Nat.le_of_ble_eq_true rfl) ?_
          first
            | exact absurd c_2 c_28
            | exact absurd c_28 c_2
            | exact absurd c_14 c_40
            | exact absurd c_40 c_14
            | exact p_layCut (t := t) hm hL hl h1 h2 (by unfold cE; simp only [if_pos c_2]) (by unfold cE cW; simp only [if_pos c_2]; rfl)
            | exact p_layCut (t := t) hm hL hl h1 h2 (by unfold cE; simp only [if_neg c_2, if_pos c_14]) (by unfold cE cW; simp only [if_neg c_2, if_pos c_14]; rfl)
            | exact p_layCut (t := t) hm hL hl h1 h2 (by unfold cE; simp only [if_neg c_2, if_neg c_14]) (by unfold cE cW; simp only [if_neg c_2, if_neg c_14]; rfl)
      · skip
        refine g_ldc2 (v := jI (127)) dX9_layCut_31 (iw_26 21 rfl) ?_
        refine g_goto (tgt := 52) dX9_layCut_34 (by decide) ?_
        refine g_lstore dX9_layCut_52 (Nat.le_of_ble_eq_true rfl) ?_
        first
          | exact absurd c_2 c_28
          | exact absurd c_28 c_2
          | exact absurd c_14 c_40
          | exact absurd c_40 c_14
          | exact p_layCut (t := t) hm hL hl h1 h2 (by unfold cE; simp only [if_pos c_2]) (by unfold cE cW; simp only [if_pos c_2]; rfl)
          | exact p_layCut (t := t) hm hL hl h1 h2 (by unfold cE; simp only [if_neg c_2, if_pos c_14]) (by unfold cE cW; simp only [if_neg c_2, if_pos c_14]; rfl)
          | exact p_layCut (t := t) hm hL hl h1 h2 (by unfold cE; simp only [if_neg c_2, if_neg c_14]) (by unfold cE cW; simp only [if_neg c_2, if_neg c_14]; rfl)
  · skip
    refine g_ldc2 (v := jI (-128)) dX9_layCut_5 (iw_26 19 rfl) ?_
    refine g_goto (tgt := 24) dX9_layCut_8 (by decide) ?_
    refine g_lstore dX9_layCut_24 (Nat.le_of_ble_eq_true rfl) ?_
    refine g_iload dX9_layCut_26 rfl ?_
    refine g_if_ne (tgt := 37) dX9_layCut_28 (by decide) (fun c_28 => ?_) (fun c_28 => ?_)
    · skip
      refine g_iload dX9_layCut_37 rfl ?_
      refine g_iconst (v := 1) dX9_layCut_39 rfl ?_
      refine g_icmp_ne (tgt := 49) dX9_layCut_40 (by decide) (fun c_40 => ?_) (fun c_40 => ?_)
      · skip
        refine g_ldc2 (v := jI (65535)) dX9_layCut_49 (iw_26 23 rfl) ?_
        refine g_lstore dX9_layCut_52 (Nat.le_of_ble_eq_true rfl) ?_
        first
          | exact absurd c_2 c_28
          | exact absurd c_28 c_2
          | exact absurd c_14 c_40
          | exact absurd c_40 c_14
          | exact p_layCut (t := t) hm hL hl h1 h2 (by unfold cE; simp only [if_pos c_2]) (by unfold cE cW; simp only [if_pos c_2]; rfl)
          | exact p_layCut (t := t) hm hL hl h1 h2 (by unfold cE; simp only [if_neg c_2, if_pos c_14]) (by unfold cE cW; simp only [if_neg c_2, if_pos c_14]; rfl)
          | exact p_layCut (t := t) hm hL hl h1 h2 (by unfold cE; simp only [if_neg c_2, if_neg c_14]) (by unfold cE cW; simp only [if_neg c_2, if_neg c_14]; rfl)
      · skip
        refine g_ldc2 (v := jI (32767)) dX9_layCut_43 (iw_26 22 rfl) ?_
        refine g_goto (tgt := 52) dX9_layCut_46 (by decide) ?_
        refine g_lstore dX9_layCut_52 (Nat.le_of_ble_eq_true rfl) ?_
        first
          | exact absurd c_2 c_28
          | exact absurd c_28 c_2
          | exact absurd c_14 c_40
          | exact absurd c_40 c_14
          | exact p_layCut (t := t) hm hL hl h1 h2 (by unfold cE; simp only [if_pos c_2]) (by unfold cE cW; simp only [if_pos c_2]; rfl)
          | exact p_layCut (t := t) hm hL hl h1 h2 (by unfold cE; simp only [if_neg c_2, if_pos c_14]) (by unfold cE cW; simp only [if_neg c_2, if_pos c_14]; rfl)
          | exact p_layCut (t := t) hm hL hl h1 h2 (by unfold cE; simp only [if_neg c_2, if_neg c_14]) (by unfold cE cW; simp only [if_neg c_2, if_neg c_14]; rfl)
    · skip
      refine g_ldc2 (v := jI (127)) dX9_layCut_31 (iw_26 21 rfl) ?_
      refine g_goto (tgt := 52) dX9_layCut_34 (by decide) ?_
      refine g_lstore dX9_layCut_52 (Nat.le_of_ble_eq_true rfl) ?_
      first
        | exact absurd c_2 c_28
        | exact absurd c_28 c_2
        | exact absurd c_14 c_40
        | exact absurd c_40 c_14
        | exact p_layCut (t := t) hm hL hl h1 h2 (by unfold cE; simp only [if_pos c_2]) (by unfold cE cW; simp only [if_pos c_2]; rfl)
        | exact p_layCut (t := t) hm hL hl h1 h2 (by unfold cE; simp only [if_neg c_2, if_pos c_14]) (by unfold cE cW; simp only [if_neg c_2, if_pos c_14]; rfl)
        | exact p_layCut (t := t) hm hL hl h1 h2 (by unfold cE; simp only [if_neg c_2, if_neg c_14]) (by unfold cE cW; simp only [if_neg c_2, if_neg c_14]; rfl)

theorem r6_5 {z : Int} (h : r5 z) : r6 z := by constructor <;> omega
set_option maxHeartbeats 4000000 in
set_option maxRecDepth 100000 in
theorem m_layAnd (M : gM) (n m : Nat) (x y c : Int) (L : List Sp) (hm : gMod M m) (hL : iL M m L) (hl : L.length + 1 ≤ 64) (h1 : r5 x) (h2 : r5 y) (h3 : x ≤ y) (hc : 0 ≤ c ∧ c ≤ 2147483647) : GM μX9_layAnd 1 24 0 0 [.ref m, .long (jI x), .long (jI y), .long (jI c)] M n (fun r M1 n1 => r = none ∧ n1 = n ∧ Off M M1 (fL m) ∧ iL M1 m (L ++ andP c (x, y))) := by
  refine GM.ofW (by decide) rfl (Nat.le_of_ble_eq_true rfl) rfl ?_
  have rx : r6 x := r6_5 h1
  have ry : r6 y := r6_5 h2
  have rc : r6 c := by constructor <;> omega
  have r0 : r6 0 := by constructor <;> omega
  refine g_lload dX9_layAnd_0 rfl ?_
  refine g_lconst (v := jI 1) dX9_layAnd_2 rfl ?_
  refine g_ladd dX9_layAnd_3 ?_
  refine g_lload dX9_layAnd_4 rfl ?_
  rw [jI_add]
  refine g_land dX9_layAnd_6 ?_
  refine g_lconst (v := jI 0) dX9_layAnd_7 rfl ?_
  refine g_lcmp dX9_layAnd_8 ?_
  refine g_if_ne (tgt := 16) dX9_layAnd_9 (by decide) (fun c_9 => ?_) (fun c_9 => ?_)
  · skip
    rw [lg_cmp_eq, pw_j hc.1 hc.2] at c_9
    refine g_iconst (v := nI 0) dX9_layAnd_16 rfl ?_
    refine g_istore dX9_layAnd_17 (Nat.le_of_ble_eq_true rfl) ?_
    refine g_lload_n dX9_layAnd_19 rfl ?_
    refine g_lconst (v := jI 0) dX9_layAnd_20 rfl ?_
    refine g_lcmp dX9_layAnd_21 ?_
    refine g_if_lt (tgt := 46) dX9_layAnd_22 (by decide) (fun c_22 => ?_) (fun c_22 => ?_)
    · skip
      try rw [jc_lt rx r0] at c_22
      try rw [jc_gt ry rc] at c_29
      refine g_aload_n dX9_layAnd_46 rfl ?_
      refine g_lconst (v := jI 0) dX9_layAnd_47 rfl ?_
      refine g_lload_n dX9_layAnd_48 rfl ?_
      refine g_lconst (v := jI 0) dX9_layAnd_49 rfl ?_
      refine g_lcmp dX9_layAnd_50 ?_
      refine g_if_lt (tgt := 63) dX9_layAnd_51 (by decide) (fun c_51 => ?_) (fun c_51 => ?_)
      · skip
        rw [jc_lt rx r0] at c_51
        refine g_lload dX9_layAnd_63 rfl ?_
        refine g_callV dX9_layAnd_65 sX9_lay (m_lay1 M n m (0) (_) L hm hL hl (by constructor <;> omega) (by first | omega | exact absurd c_34 (by decide)) (by first | omega | exact absurd c_34 (by decide))) cl10 hm.1 iX9_lay vX9_lay (iw_25 15 rfl) rfl rfl (Nat.le_of_ble_eq_true rfl) (Nat.le_of_ble_eq_true rfl) (Nat.le_of_ble_eq_true rfl) (Nat.le_of_ble_eq_true rfl) (Nat.le_of_ble_eq_true rfl) ?_
        intro r9 M2 n9 h9
        obtain ⟨h91, h93, hO2, hI2⟩ := h9
        rw [h91, h93]
        clear h91 h93 r9 n9
        exact g_vret dX9_layAnd_68 rfl (Nat.le_of_ble_eq_true rfl) (Nat.le_of_ble_eq_true rfl) (by
          refine ⟨rfl, rfl, hO2, ?_⟩
          unfold andP
          simp only
          first
            | exact absurd rfl c_34
            | (rw [if_pos ⟨by omega, by omega, c_9⟩]; exact hI2)
            | (rw [if_neg (fun h => c_9 h.2.2)]
               first
                 | (rw [if_pos (by omega)]; exact hI2)
                 | (rw [if_neg (by omega)]; exact hI2))
            | (rw [if_neg (fun h => by omega)]
               first
                 | (rw [if_pos (by omega)]; exact hI2)
                 | (rw [if_neg (by omega)]; exact hI2))
            | exact absurd c_34 (by decide))
      · skip
        rw [jc_lt rx r0] at c_51
        refine g_lload dX9_layAnd_54 rfl ?_
        refine g_lload_n dX9_layAnd_56 rfl ?_
        refine g_callS dX9_layAnd_57 sX9_lesser (m_mn M n (c) (y) (by constructor <;> omega) (by constructor <;> omega)) tX9_lesser (iw_26 12 rfl) rfl rfl (Nat.le_of_ble_eq_true rfl) (Nat.le_of_ble_eq_true rfl) (Nat.le_of_ble_eq_true rfl) (Nat.le_of_ble_eq_true rfl) (Nat.le_of_ble_eq_true rfl) ?_
        intro r9 M9 n9 h9
        obtain ⟨h91, h92, h93⟩ := h9
        rw [h91, h92, h93]
        clear h91 h92 h93 r9 M9 n9
        refine g_goto (tgt := 65) dX9_layAnd_60 (by decide) ?_
        refine g_callV dX9_layAnd_65 sX9_lay (m_lay1 M n m (0) (_) L hm hL hl (by constructor <;> omega) (by first | omega | exact absurd c_34 (by decide)) (by first | omega | exact absurd c_34 (by decide))) cl10 hm.1 iX9_lay vX9_lay (iw_25 15 rfl) rfl rfl (Nat.le_of_ble_eq_true rfl) (Nat.le_of_ble_eq_true rfl) (Nat.le_of_ble_eq_true rfl) (Nat.le_of_ble_eq_true rfl) (Nat.le_of_ble_eq_true rfl) ?_
        intro r9 M2 n9 h9
        obtain ⟨h91, h93, hO2, hI2⟩ := h9
        rw [h91, h93]
        clear h91 h93 r9 n9
        exact g_vret dX9_layAnd_68 rfl (Nat.le_of_ble_eq_true rfl) (Nat.le_of_ble_eq_true rfl) (by
          refine ⟨rfl, rfl, hO2, ?_⟩
          unfold andP
          simp only
          first
            | exact absurd rfl c_34
            | (rw [if_pos ⟨by omega, by omega, c_9⟩]; exact hI2)
            | (rw [if_neg (fun h => c_9 h.2.2)]
               first
                 | (rw [if_pos (by omega)]; exact hI2)
                 | (rw [if_neg (by omega)]; exact hI2))
            | (rw [if_neg (fun h => by omega)]
               first
                 | (rw [if_pos (by omega)]; exact hI2)
                 | (rw [if_neg (by omega)]; exact hI2))
            | exact absurd c_34 (by decide))
    · skip
      rw [jc_lt rx r0] at c_22
      refine g_lload_n dX9_layAnd_25 rfl ?_
      refine g_lload dX9_layAnd_26 rfl ?_
      refine g_lcmp dX9_layAnd_28 ?_
      refine g_if_gt (tgt := 46) dX9_layAnd_29 (by decide) (fun c_29 => ?_) (fun c_29 => ?_)
      · skip
        try rw [jc_lt rx r0] at c_22
        try rw [jc_gt ry rc] at c_29
        refine g_aload_n dX9_layAnd_46 rfl ?_
        refine g_lconst (v := jI 0) dX9_layAnd_47 rfl ?_
        refine g_lload_n dX9_layAnd_48 rfl ?_
        refine g_lconst (v := jI 0) dX9_layAnd_49 rfl ?_
        refine g_lcmp dX9_layAnd_50 ?_
        refine g_if_lt (tgt := 63) dX9_layAnd_51 (by decide) (fun c_51 => ?_) (fun c_51 => ?_)
        · skip
          rw [jc_lt rx r0] at c_51
          refine g_lload dX9_layAnd_63 rfl ?_
          refine g_callV dX9_layAnd_65 sX9_lay (m_lay1 M n m (0) (_) L hm hL hl (by constructor <;> omega) (by first | omega | exact absurd c_34 (by decide)) (by first | omega | exact absurd c_34 (by decide))) cl10 hm.1 iX9_lay vX9_lay (iw_25 15 rfl) rfl rfl (Nat.le_of_ble_eq_true rfl) (Nat.le_of_ble_eq_true rfl) (Nat.le_of_ble_eq_true rfl) (Nat.le_of_ble_eq_true rfl) (Nat.le_of_ble_eq_true rfl) ?_
          intro r9 M2 n9 h9
          obtain ⟨h91, h93, hO2, hI2⟩ := h9
          rw [h91, h93]
          clear h91 h93 r9 n9
          exact g_vret dX9_layAnd_68 rfl (Nat.le_of_ble_eq_true rfl) (Nat.le_of_ble_eq_true rfl) (by
            refine ⟨rfl, rfl, hO2, ?_⟩
            unfold andP
            simp only
            first
              | exact absurd rfl c_34
              | (rw [if_pos ⟨by omega, by omega, c_9⟩]; exact hI2)
              | (rw [if_neg (fun h => c_9 h.2.2)]
                 first
                   | (rw [if_pos (by omega)]; exact hI2)
                   | (rw [if_neg (by omega)]; exact hI2))
              | (rw [if_neg (fun h => by omega)]
                 first
                   | (rw [if_pos (by omega)]; exact hI2)
                   | (rw [if_neg (by omega)]; exact hI2))
              | exact absurd c_34 (by decide))
        · skip
          rw [jc_lt rx r0] at c_51
          refine g_lload dX9_layAnd_54 rfl ?_
          refine g_lload_n dX9_layAnd_56 rfl ?_
          refine g_callS dX9_layAnd_57 sX9_lesser (m_mn M n (c) (y) (by constructor <;> omega) (by constructor <;> omega)) tX9_lesser (iw_26 12 rfl) rfl rfl (Nat.le_of_ble_eq_true rfl) (Nat.le_of_ble_eq_true rfl) (Nat.le_of_ble_eq_true rfl) (Nat.le_of_ble_eq_true rfl) (Nat.le_of_ble_eq_true rfl) ?_
          intro r9 M9 n9 h9
          obtain ⟨h91, h92, h93⟩ := h9
          rw [h91, h92, h93]
          clear h91 h92 h93 r9 M9 n9
          refine g_goto (tgt := 65) dX9_layAnd_60 (by decide) ?_
          refine g_callV dX9_layAnd_65 sX9_lay (m_lay1 M n m (0) (_) L hm hL hl (by constructor <;> omega) (by first | omega | exact absurd c_34 (by decide)) (by first | omega | exact absurd c_34 (by decide))) cl10 hm.1 iX9_lay vX9_lay (iw_25 15 rfl) rfl rfl (Nat.le_of_ble_eq_true rfl) (Nat.le_of_ble_eq_true rfl) (Nat.le_of_ble_eq_true rfl) (Nat.le_of_ble_eq_true rfl) (Nat.le_of_ble_eq_true rfl) ?_
          intro r9 M2 n9 h9
          obtain ⟨h91, h93, hO2, hI2⟩ := h9
          rw [h91, h93]
          clear h91 h93 r9 n9
          exact g_vret dX9_layAnd_68 rfl (Nat.le_of_ble_eq_true rfl) (Nat.le_of_ble_eq_true rfl) (by
            refine ⟨rfl, rfl, hO2, ?_⟩
            unfold andP
            simp only
            first
              | exact absurd rfl c_34
              | (rw [if_pos ⟨by omega, by omega, c_9⟩]; exact hI2)
              | (rw [if_neg (fun h => c_9 h.2.2)]
                 first
                   | (rw [if_pos (by omega)]; exact hI2)
                   | (rw [if_neg (by omega)]; exact hI2))
              | (rw [if_neg (fun h => by omega)]
                 first
                   | (rw [if_pos (by omega)]; exact hI2)
                   | (rw [if_neg (by omega)]; exact hI2))
              | exact absurd c_34 (by decide))
      · skip
        rw [jc_gt ry rc] at c_29
        refine g_iload dX9_layAnd_32 rfl ?_
        refine g_if_eq (tgt := 46) dX9_layAnd_34 (by decide) (fun c_34 => ?_) (fun c_34 => ?_)
        · skip
          try rw [jc_lt rx r0] at c_22
          try rw [jc_gt ry rc] at c_29
          refine g_aload_n dX9_layAnd_46 rfl ?_
          refine g_lconst (v := jI 0) dX9_layAnd_47 rfl ?_
          refine g_lload_n dX9_layAnd_48 rfl ?_
          refine g_lconst (v := jI 0) dX9_layAnd_49 rfl ?_
          refine g_lcmp dX9_layAnd_50 ?_
          refine g_if_lt (tgt := 63) dX9_layAnd_51 (by decide) (fun c_51 => ?_) (fun c_51 => ?_)
          · skip
            rw [jc_lt rx r0] at c_51
            refine g_lload dX9_layAnd_63 rfl ?_
            refine g_callV dX9_layAnd_65 sX9_lay (m_lay1 M n m (0) (_) L hm hL hl (by constructor <;> omega) (by first | omega | exact absurd c_34 (by decide)) (by first | omega | exact absurd c_34 (by decide))) cl10 hm.1 iX9_lay vX9_lay (iw_25 15 rfl) rfl rfl (Nat.le_of_ble_eq_true rfl) (Nat.le_of_ble_eq_true rfl) (Nat.le_of_ble_eq_true rfl) (Nat.le_of_ble_eq_true rfl) (Nat.le_of_ble_eq_true rfl) ?_
            intro r9 M2 n9 h9
            obtain ⟨h91, h93, hO2, hI2⟩ := h9
            rw [h91, h93]
            clear h91 h93 r9 n9
            exact g_vret dX9_layAnd_68 rfl (Nat.le_of_ble_eq_true rfl) (Nat.le_of_ble_eq_true rfl) (by
              refine ⟨rfl, rfl, hO2, ?_⟩
              unfold andP
              simp only
              first
                | exact absurd rfl c_34
                | (rw [if_pos ⟨by omega, by omega, c_9⟩]; exact hI2)
                | (rw [if_neg (fun h => c_9 h.2.2)]
                   first
                     | (rw [if_pos (by omega)]; exact hI2)
                     | (rw [if_neg (by omega)]; exact hI2))
                | (rw [if_neg (fun h => by omega)]
                   first
                     | (rw [if_pos (by omega)]; exact hI2)
                     | (rw [if_neg (by omega)]; exact hI2))
                | exact absurd c_34 (by decide))
          · skip
            rw [jc_lt rx r0] at c_51
            refine g_lload dX9_layAnd_54 rfl ?_
            refine g_lload_n dX9_layAnd_56 rfl ?_
            refine g_callS dX9_layAnd_57 sX9_lesser (m_mn M n (c) (y) (by constructor <;> omega) (by constructor <;> omega)) tX9_lesser (iw_26 12 rfl) rfl rfl (Nat.le_of_ble_eq_true rfl) (Nat.le_of_ble_eq_true rfl) (Nat.le_of_ble_eq_true rfl) (Nat.le_of_ble_eq_true rfl) (Nat.le_of_ble_eq_true rfl) ?_
            intro r9 M9 n9 h9
            obtain ⟨h91, h92, h93⟩ := h9
            rw [h91, h92, h93]
            clear h91 h92 h93 r9 M9 n9
            refine g_goto (tgt := 65) dX9_layAnd_60 (by decide) ?_
            refine g_callV dX9_layAnd_65 sX9_lay (m_lay1 M n m (0) (_) L hm hL hl (by constructor <;> omega) (by first | omega | exact absurd c_34 (by decide)) (by first | omega | exact absurd c_34 (by decide))) cl10 hm.1 iX9_lay vX9_lay (iw_25 15 rfl) rfl rfl (Nat.le_of_ble_eq_true rfl) (Nat.le_of_ble_eq_true rfl) (Nat.le_of_ble_eq_true rfl) (Nat.le_of_ble_eq_true rfl) (Nat.le_of_ble_eq_true rfl) ?_
            intro r9 M2 n9 h9
            obtain ⟨h91, h93, hO2, hI2⟩ := h9
            rw [h91, h93]
            clear h91 h93 r9 n9
            exact g_vret dX9_layAnd_68 rfl (Nat.le_of_ble_eq_true rfl) (Nat.le_of_ble_eq_true rfl) (by
              refine ⟨rfl, rfl, hO2, ?_⟩
              unfold andP
              simp only
              first
                | exact absurd rfl c_34
                | (rw [if_pos ⟨by omega, by omega, c_9⟩]; exact hI2)
                | (rw [if_neg (fun h => c_9 h.2.2)]
                   first
                     | (rw [if_pos (by omega)]; exact hI2)
                     | (rw [if_neg (by omega)]; exact hI2))
                | (rw [if_neg (fun h => by omega)]
                   first
                     | (rw [if_pos (by omega)]; exact hI2)
                     | (rw [if_neg (by omega)]; exact hI2))
                | exact absurd c_34 (by decide))
        · skip
          refine g_aload_n dX9_layAnd_37 rfl ?_
          refine g_lload_n dX9_layAnd_38 rfl ?_
          refine g_lload_n dX9_layAnd_39 rfl ?_
          refine g_callV dX9_layAnd_40 sX9_lay (m_lay1 M n m (x) (y) L hm hL hl (by constructor <;> omega) (by constructor <;> omega) (by omega)) cl10 hm.1 iX9_lay vX9_lay (iw_25 15 rfl) rfl rfl (Nat.le_of_ble_eq_true rfl) (Nat.le_of_ble_eq_true rfl) (Nat.le_of_ble_eq_true rfl) (Nat.le_of_ble_eq_true rfl) (Nat.le_of_ble_eq_true rfl) ?_
          intro r9 M2 n9 h9
          obtain ⟨h91, h93, hO2, hI2⟩ := h9
          rw [h91, h93]
          clear h91 h93 r9 n9
          refine g_goto (tgt := 68) dX9_layAnd_43 (by decide) ?_
          exact g_vret dX9_layAnd_68 rfl (Nat.le_of_ble_eq_true rfl) (Nat.le_of_ble_eq_true rfl) (by
            refine ⟨rfl, rfl, hO2, ?_⟩
            unfold andP
            simp only
            first
              | exact absurd rfl c_34
              | (rw [if_pos ⟨by omega, by omega, c_9⟩]; exact hI2)
              | (rw [if_neg (fun h => c_9 h.2.2)]
                 first
                   | (rw [if_pos (by omega)]; exact hI2)
                   | (rw [if_neg (by omega)]; exact hI2))
              | (rw [if_neg (fun h => by omega)]
                 first
                   | (rw [if_pos (by omega)]; exact hI2)
                   | (rw [if_neg (by omega)]; exact hI2))
              | exact absurd c_34 (by decide))
  · skip
    rw [lg_cmp_eq, pw_j hc.1 hc.2] at c_9
    refine g_iconst (v := nI 1) dX9_layAnd_12 rfl ?_
    refine g_goto (tgt := 17) dX9_layAnd_13 (by decide) ?_
    refine g_istore dX9_layAnd_17 (Nat.le_of_ble_eq_true rfl) ?_
    refine g_lload_n dX9_layAnd_19 rfl ?_
    refine g_lconst (v := jI 0) dX9_layAnd_20 rfl ?_
    refine g_lcmp dX9_layAnd_21 ?_
    refine g_if_lt (tgt := 46) dX9_layAnd_22 (by decide) (fun c_22 => ?_) (fun c_22 => ?_)
    · skip
      try rw [jc_lt rx r0] at c_22
      try rw [jc_gt ry rc] at c_29
      refine g_aload_n dX9_layAnd_46 rfl ?_
      refine g_lconst (v := jI 0) dX9_layAnd_47 rfl ?_
      refine g_lload_n dX9_layAnd_48 rfl ?_
      refine g_lconst (v := jI 0) dX9_layAnd_49 rfl ?_
      refine g_lcmp dX9_layAnd_50 ?_
      refine g_if_lt (tgt := 63) dX9_layAnd_51 (by decide) (fun c_51 => ?_) (fun c_51 => ?_)
      · skip
        rw [jc_lt rx r0] at c_51
        refine g_lload dX9_layAnd_63 rfl ?_
        refine g_callV dX9_layAnd_65 sX9_lay (m_lay1 M n m (0) (_) L hm hL hl (by constructor <;> omega) (by first | omega | exact absurd c_34 (by decide)) (by first | omega | exact absurd c_34 (by decide))) cl10 hm.1 iX9_lay vX9_lay (iw_25 15 rfl) rfl rfl (Nat.le_of_ble_eq_true rfl) (Nat.le_of_ble_eq_true rfl) (Nat.le_of_ble_eq_true rfl) (Nat.le_of_ble_eq_true rfl) (Nat.le_of_ble_eq_true rfl) ?_
        intro r9 M2 n9 h9
        obtain ⟨h91, h93, hO2, hI2⟩ := h9
        rw [h91, h93]
        clear h91 h93 r9 n9
        exact g_vret dX9_layAnd_68 rfl (Nat.le_of_ble_eq_true rfl) (Nat.le_of_ble_eq_true rfl) (by
          refine ⟨rfl, rfl, hO2, ?_⟩
          unfold andP
          simp only
          first
            | exact absurd rfl c_34
            | (rw [if_pos ⟨by omega, by omega, c_9⟩]; exact hI2)
            | (rw [if_neg (fun h => c_9 h.2.2)]
               first
                 | (rw [if_pos (by omega)]; exact hI2)
                 | (rw [if_neg (by omega)]; exact hI2))
            | (rw [if_neg (fun h => by omega)]
               first
                 | (rw [if_pos (by omega)]; exact hI2)
                 | (rw [if_neg (by omega)]; exact hI2))
            | exact absurd c_34 (by decide))
      · skip
        rw [jc_lt rx r0] at c_51
        refine g_lload dX9_layAnd_54 rfl ?_
        refine g_lload_n dX9_layAnd_56 rfl ?_
        refine g_callS dX9_layAnd_57 sX9_lesser (m_mn M n (c) (y) (by constructor <;> omega) (by constructor <;> omega)) tX9_lesser (iw_26 12 rfl) rfl rfl (Nat.le_of_ble_eq_true rfl) (Nat.le_of_ble_eq_true rfl) (Nat.le_of_ble_eq_true rfl) (Nat.le_of_ble_eq_true rfl) (Nat.le_of_ble_eq_true rfl) ?_
        intro r9 M9 n9 h9
        obtain ⟨h91, h92, h93⟩ := h9
        rw [h91, h92, h93]
        clear h91 h92 h93 r9 M9 n9
        refine g_goto (tgt := 65) dX9_layAnd_60 (by decide) ?_
        refine g_callV dX9_layAnd_65 sX9_lay (m_lay1 M n m (0) (_) L hm hL hl (by constructor <;> omega) (by first | omega | exact absurd c_34 (by decide)) (by first | omega | exact absurd c_34 (by decide))) cl10 hm.1 iX9_lay vX9_lay (iw_25 15 rfl) rfl rfl (Nat.le_of_ble_eq_true rfl) (Nat.le_of_ble_eq_true rfl) (Nat.le_of_ble_eq_true rfl) (Nat.le_of_ble_eq_true rfl) (Nat.le_of_ble_eq_true rfl) ?_
        intro r9 M2 n9 h9
        obtain ⟨h91, h93, hO2, hI2⟩ := h9
        rw [h91, h93]
        clear h91 h93 r9 n9
        exact g_vret dX9_layAnd_68 rfl (Nat.le_of_ble_eq_true rfl) (Nat.le_of_ble_eq_true rfl) (by
          refine ⟨rfl, rfl, hO2, ?_⟩
          unfold andP
          simp only
          first
            | exact absurd rfl c_34
            | (rw [if_pos ⟨by omega, by omega, c_9⟩]; exact hI2)
            | (rw [if_neg (fun h => c_9 h.2.2)]
               first
                 | (rw [if_pos (by omega)]; exact hI2)
                 | (rw [if_neg (by omega)]; exact hI2))
            | (rw [if_neg (fun h => by omega)]
               first
                 | (rw [if_pos (by omega)]; exact hI2)
                 | (rw [if_neg (by omega)]; exact hI2))
            | exact absurd c_34 (by decide))
    · skip
      rw [jc_lt rx r0] at c_22
      refine g_lload_n dX9_layAnd_25 rfl ?_
      refine g_lload dX9_layAnd_26 rfl ?_
      refine g_lcmp dX9_layAnd_28 ?_
      refine g_if_gt (tgt := 46) dX9_layAnd_29 (by decide) (fun c_29 => ?_) (fun c_29 => ?_)
      · skip
        try rw [jc_lt rx r0] at c_22
        try rw [jc_gt ry rc] at c_29
        refine g_aload_n dX9_layAnd_46 rfl ?_
        refine g_lconst (v := jI 0) dX9_layAnd_47 rfl ?_
        refine g_lload_n dX9_layAnd_48 rfl ?_
        refine g_lconst (v := jI 0) dX9_layAnd_49 rfl ?_
        refine g_lcmp dX9_layAnd_50 ?_
        refine g_if_lt (tgt := 63) dX9_layAnd_51 (by decide) (fun c_51 => ?_) (fun c_51 => ?_)
        · skip
          rw [jc_lt rx r0] at c_51
          refine g_lload dX9_layAnd_63 rfl ?_
          refine g_callV dX9_layAnd_65 sX9_lay (m_lay1 M n m (0) (_) L hm hL hl (by constructor <;> omega) (by first | omega | exact absurd c_34 (by decide)) (by first | omega | exact absurd c_34 (by decide))) cl10 hm.1 iX9_lay vX9_lay (iw_25 15 rfl) rfl rfl (Nat.le_of_ble_eq_true rfl) (Nat.le_of_ble_eq_true rfl) (Nat.le_of_ble_eq_true rfl) (Nat.le_of_ble_eq_true rfl) (Nat.le_of_ble_eq_true rfl) ?_
          intro r9 M2 n9 h9
          obtain ⟨h91, h93, hO2, hI2⟩ := h9
          rw [h91, h93]
          clear h91 h93 r9 n9
          exact g_vret dX9_layAnd_68 rfl (Nat.le_of_ble_eq_true rfl) (Nat.le_of_ble_eq_true rfl) (by
            refine ⟨rfl, rfl, hO2, ?_⟩
            unfold andP
            simp only
            first
              | exact absurd rfl c_34
              | (rw [if_pos ⟨by omega, by omega, c_9⟩]; exact hI2)
              | (rw [if_neg (fun h => c_9 h.2.2)]
                 first
                   | (rw [if_pos (by omega)]; exact hI2)
                   | (rw [if_neg (by omega)]; exact hI2))
              | (rw [if_neg (fun h => by omega)]
                 first
                   | (rw [if_pos (by omega)]; exact hI2)
                   | (rw [if_neg (by omega)]; exact hI2))
              | exact absurd c_34 (by decide))
        · skip
          rw [jc_lt rx r0] at c_51
          refine g_lload dX9_layAnd_54 rfl ?_
          refine g_lload_n dX9_layAnd_56 rfl ?_
          refine g_callS dX9_layAnd_57 sX9_lesser (m_mn M n (c) (y) (by constructor <;> omega) (by constructor <;> omega)) tX9_lesser (iw_26 12 rfl) rfl rfl (Nat.le_of_ble_eq_true rfl) (Nat.le_of_ble_eq_true rfl) (Nat.le_of_ble_eq_true rfl) (Nat.le_of_ble_eq_true rfl) (Nat.le_of_ble_eq_true rfl) ?_
          intro r9 M9 n9 h9
          obtain ⟨h91, h92, h93⟩ := h9
          rw [h91, h92, h93]
          clear h91 h92 h93 r9 M9 n9
          refine g_goto (tgt := 65) dX9_layAnd_60 (by decide) ?_
          refine g_callV dX9_layAnd_65 sX9_lay (m_lay1 M n m (0) (_) L hm hL hl (by constructor <;> omega) (by first | omega | exact absurd c_34 (by decide)) (by first | omega | exact absurd c_34 (by decide))) cl10 hm.1 iX9_lay vX9_lay (iw_25 15 rfl) rfl rfl (Nat.le_of_ble_eq_true rfl) (Nat.le_of_ble_eq_true rfl) (Nat.le_of_ble_eq_true rfl) (Nat.le_of_ble_eq_true rfl) (Nat.le_of_ble_eq_true rfl) ?_
          intro r9 M2 n9 h9
          obtain ⟨h91, h93, hO2, hI2⟩ := h9
          rw [h91, h93]
          clear h91 h93 r9 n9
          exact g_vret dX9_layAnd_68 rfl (Nat.le_of_ble_eq_true rfl) (Nat.le_of_ble_eq_true rfl) (by
            refine ⟨rfl, rfl, hO2, ?_⟩
            unfold andP
            simp only
            first
              | exact absurd rfl c_34
              | (rw [if_pos ⟨by omega, by omega, c_9⟩]; exact hI2)
              | (rw [if_neg (fun h => c_9 h.2.2)]
                 first
                   | (rw [if_pos (by omega)]; exact hI2)
                   | (rw [if_neg (by omega)]; exact hI2))
              | (rw [if_neg (fun h => by omega)]
                 first
                   | (rw [if_pos (by omega)]; exact hI2)
                   | (rw [if_neg (by omega)]; exact hI2))
              | exact absurd c_34 (by decide))
      · skip
        rw [jc_gt ry rc] at c_29
        refine g_iload dX9_layAnd_32 rfl ?_
        refine g_if_eq (tgt := 46) dX9_layAnd_34 (by decide) (fun c_34 => ?_) (fun c_34 => ?_)
        · skip
          try rw [jc_lt rx r0] at c_22
          try rw [jc_gt ry rc] at c_29
          refine g_aload_n dX9_layAnd_46 rfl ?_
          refine g_lconst (v := jI 0) dX9_layAnd_47 rfl ?_
          refine g_lload_n dX9_layAnd_48 rfl ?_
          refine g_lconst (v := jI 0) dX9_layAnd_49 rfl ?_
          refine g_lcmp dX9_layAnd_50 ?_
          refine g_if_lt (tgt := 63) dX9_layAnd_51 (by decide) (fun c_51 => ?_) (fun c_51 => ?_)
          · skip
            rw [jc_lt rx r0] at c_51
            refine g_lload dX9_layAnd_63 rfl ?_
            refine g_callV dX9_layAnd_65 sX9_lay (m_lay1 M n m (0) (_) L hm hL hl (by constructor <;> omega) (by first | omega | exact absurd c_34 (by decide)) (by first | omega | exact absurd c_34 (by decide))) cl10 hm.1 iX9_lay vX9_lay (iw_25 15 rfl) rfl rfl (Nat.le_of_ble_eq_true rfl) (Nat.le_of_ble_eq_true rfl) (Nat.le_of_ble_eq_true rfl) (Nat.le_of_ble_eq_true rfl) (Nat.le_of_ble_eq_true rfl) ?_
            intro r9 M2 n9 h9
            obtain ⟨h91, h93, hO2, hI2⟩ := h9
            rw [h91, h93]
            clear h91 h93 r9 n9
            exact g_vret dX9_layAnd_68 rfl (Nat.le_of_ble_eq_true rfl) (Nat.le_of_ble_eq_true rfl) (by
              refine ⟨rfl, rfl, hO2, ?_⟩
              unfold andP
              simp only
              first
                | exact absurd rfl c_34
                | (rw [if_pos ⟨by omega, by omega, c_9⟩]; exact hI2)
                | (rw [if_neg (fun h => c_9 h.2.2)]
                   first
                     | (rw [if_pos (by omega)]; exact hI2)
                     | (rw [if_neg (by omega)]; exact hI2))
                | (rw [if_neg (fun h => by omega)]
                   first
                     | (rw [if_pos (by omega)]; exact hI2)
                     | (rw [if_neg (by omega)]; exact hI2))
                | exact absurd c_34 (by decide))
          · skip
            rw [jc_lt rx r0] at c_51
            refine g_lload dX9_layAnd_54 rfl ?_
            refine g_lload_n dX9_layAnd_56 rfl ?_
            refine g_callS dX9_layAnd_57 sX9_lesser (m_mn M n (c) (y) (by constructor <;> omega) (by constructor <;> omega)) tX9_lesser (iw_26 12 rfl) rfl rfl (Nat.le_of_ble_eq_true rfl) (Nat.le_of_ble_eq_true rfl) (Nat.le_of_ble_eq_true rfl) (Nat.le_of_ble_eq_true rfl) (Nat.le_of_ble_eq_true rfl) ?_
            intro r9 M9 n9 h9
            obtain ⟨h91, h92, h93⟩ := h9
            rw [h91, h92, h93]
            clear h91 h92 h93 r9 M9 n9
            refine g_goto (tgt := 65) dX9_layAnd_60 (by decide) ?_
            refine g_callV dX9_layAnd_65 sX9_lay (m_lay1 M n m (0) (_) L hm hL hl (by constructor <;> omega) (by first | omega | exact absurd c_34 (by decide)) (by first | omega | exact absurd c_34 (by decide))) cl10 hm.1 iX9_lay vX9_lay (iw_25 15 rfl) rfl rfl (Nat.le_of_ble_eq_true rfl) (Nat.le_of_ble_eq_true rfl) (Nat.le_of_ble_eq_true rfl) (Nat.le_of_ble_eq_true rfl) (Nat.le_of_ble_eq_true rfl) ?_
            intro r9 M2 n9 h9
            obtain ⟨h91, h93, hO2, hI2⟩ := h9
            rw [h91, h93]
            clear h91 h93 r9 n9
            exact g_vret dX9_layAnd_68 rfl (Nat.le_of_ble_eq_true rfl) (Nat.le_of_ble_eq_true rfl) (by
              refine ⟨rfl, rfl, hO2, ?_⟩
              unfold andP
              simp only
              first
                | exact absurd rfl c_34
                | (rw [if_pos ⟨by omega, by omega, c_9⟩]; exact hI2)
                | (rw [if_neg (fun h => c_9 h.2.2)]
                   first
                     | (rw [if_pos (by omega)]; exact hI2)
                     | (rw [if_neg (by omega)]; exact hI2))
                | (rw [if_neg (fun h => by omega)]
                   first
                     | (rw [if_pos (by omega)]; exact hI2)
                     | (rw [if_neg (by omega)]; exact hI2))
                | exact absurd c_34 (by decide))
        · skip
          refine g_aload_n dX9_layAnd_37 rfl ?_
          refine g_lload_n dX9_layAnd_38 rfl ?_
          refine g_lload_n dX9_layAnd_39 rfl ?_
          refine g_callV dX9_layAnd_40 sX9_lay (m_lay1 M n m (x) (y) L hm hL hl (by constructor <;> omega) (by constructor <;> omega) (by omega)) cl10 hm.1 iX9_lay vX9_lay (iw_25 15 rfl) rfl rfl (Nat.le_of_ble_eq_true rfl) (Nat.le_of_ble_eq_true rfl) (Nat.le_of_ble_eq_true rfl) (Nat.le_of_ble_eq_true rfl) (Nat.le_of_ble_eq_true rfl) ?_
          intro r9 M2 n9 h9
          obtain ⟨h91, h93, hO2, hI2⟩ := h9
          rw [h91, h93]
          clear h91 h93 r9 n9
          refine g_goto (tgt := 68) dX9_layAnd_43 (by decide) ?_
          exact g_vret dX9_layAnd_68 rfl (Nat.le_of_ble_eq_true rfl) (Nat.le_of_ble_eq_true rfl) (by
            refine ⟨rfl, rfl, hO2, ?_⟩
            unfold andP
            simp only
            first
              | exact absurd rfl c_34
              | (rw [if_pos ⟨by omega, by omega, c_9⟩]; exact hI2)
              | (rw [if_neg (fun h => c_9 h.2.2)]
                 first
                   | (rw [if_pos (by omega)]; exact hI2)
                   | (rw [if_neg (by omega)]; exact hI2))
              | (rw [if_neg (fun h => by omega)]
                 first
                   | (rw [if_pos (by omega)]; exact hI2)
                   | (rw [if_neg (by omega)]; exact hI2))
              | exact absurd c_34 (by decide))

theorem jI_0_ : jI 0 = (0 : Int64) := rfl
theorem jI_ne {z : Int} (h : r6 z) (h0 : z ≠ 0) : ¬ jI z = 0 := fun q => h0 ((jI_eq h (by constructor <;> omega)).mp (q.trans jI_0))
theorem tdiv_r4 {x p : Int} (hx : r5 x) (hp : p ≠ 0) : -4611686016279904256 ≤ x.tdiv p ∧ x.tdiv p ≤ 4611686018427387904 := by
  have := tdiv_r hx hp; omega
set_option maxHeartbeats 4000000 in
set_option maxRecDepth 100000 in
theorem m_layBoth (M : gM) (n m : Nat) (k : Int32) (x y : Sp) (L : List Sp) (hm : gMod M m) (hL : iL M m L) (hl : L.length + 4 ≤ 64) (h1 : r5 x.1) (h2 : r5 x.2) (h3 : r5 y.1) (h4 : r5 y.2) (hx : x.1 ≤ x.2) (hy : y.1 ≤ y.2) : GM μX9_layBoth 3 80 0 0 [.ref m, .int k, .long (jI x.1), .long (jI x.2), .long (jI y.1), .long (jI y.2)] M n (fun r M1 n1 => r = none ∧ n1 = n ∧ Off M M1 (fL m) ∧ iL M1 m (L ++ bothP k x y)) := by
  refine GM.ofW (by decide) rfl (Nat.le_of_ble_eq_true rfl) rfl ?_
  have r0 : r6 0 := by constructor <;> omega
  refine g_iload_n dX9_layBoth_0 rfl ?_
  refine g_iconst (v := 2) dX9_layBoth_1 rfl ?_
  refine g_icmp_ne (tgt := 21) dX9_layBoth_2 (by decide) (fun c_2 => ?_) (fun c_2 => ?_)
  · skip
    refine g_iload_n dX9_layBoth_21 rfl ?_
    refine g_iconst (v := 3) dX9_layBoth_22 rfl ?_
    refine g_icmp_ne (tgt := 42) dX9_layBoth_23 (by decide) (fun c_23 => ?_) (fun c_23 => ?_)
    · skip
      refine g_iload_n dX9_layBoth_42 rfl ?_
      refine g_iconst (v := 4) dX9_layBoth_43 rfl ?_
      refine g_icmp_ne (tgt := 72) dX9_layBoth_44 (by decide) (fun c_44 => ?_) (fun c_44 => ?_)
      · skip
        refine g_lload dX9_layBoth_72 rfl ?_
        refine g_lconst (v := jI 0) dX9_layBoth_74 rfl ?_
        refine g_lcmp dX9_layBoth_75 ?_
        refine g_if_ge (tgt := 111) dX9_layBoth_76 (by decide) (fun c_76 => ?_) (fun c_76 => ?_)
        · skip
          try rw [jc_ge (r6_of h3) r0] at c_76
          refine g_lload dX9_layBoth_111 rfl ?_
          refine g_lconst (v := jI 0) dX9_layBoth_113 rfl ?_
          refine g_lcmp dX9_layBoth_114 ?_
          refine g_if_le (tgt := 148) dX9_layBoth_115 (by decide) (fun c_115 => ?_) (fun c_115 => ?_)
          · skip
            try rw [jc_le (r6_of h4) r0] at c_115
            exact g_vret dX9_layBoth_148 rfl (Nat.le_of_ble_eq_true rfl) (Nat.le_of_ble_eq_true rfl) (by
              unfold bothP
              first
                | exact ⟨rfl, rfl, hO2, by rw [if_pos c_2]; exact hI2⟩
                | exact ⟨rfl, rfl, hO2, by rw [if_neg c_2, if_pos c_23]; exact hI2⟩
                | exact ⟨rfl, rfl, hO2, by rw [if_neg c_2, if_neg c_23, if_pos c_44]; exact hI2⟩
                | exact ⟨rfl, rfl, hO2.trans hO3, by rw [if_neg c_2, if_neg c_23, if_neg c_44]; unfold byP; rw [if_pos (by omega), if_pos (by omega), ← List.append_assoc]; exact hI3⟩
                | exact ⟨rfl, rfl, hO3, by rw [if_neg c_2, if_neg c_23, if_neg c_44]; unfold byP; rw [if_neg (by omega), if_pos (by omega), List.nil_append]; exact hI3⟩
                | exact ⟨rfl, rfl, hO2, by rw [if_neg c_2, if_neg c_23, if_neg c_44]; unfold byP; rw [if_pos (by omega), if_neg (by omega), List.append_nil]; exact hI2⟩
                | exact ⟨rfl, rfl, Off.rf, by rw [if_neg c_2, if_neg c_23, if_neg c_44]; unfold byP; rw [if_neg (by omega), if_neg (by omega), List.append_nil, List.append_nil]; exact hL⟩)
          · skip
            rw [jc_le (r6_of h4) r0] at c_115
            refine g_lload dX9_layBoth_118 rfl ?_
            refine g_lconst (v := jI 1) dX9_layBoth_120 rfl ?_
            refine g_callS dX9_layBoth_121 sX9_greater (m_mx _ n y.1 1 (by constructor <;> omega) (by constructor <;> omega)) tX9_greater (iw_27 7 rfl) rfl rfl (Nat.le_of_ble_eq_true rfl) (Nat.le_of_ble_eq_true rfl) (Nat.le_of_ble_eq_true rfl) (Nat.le_of_ble_eq_true rfl) (Nat.le_of_ble_eq_true rfl) ?_
            intro r9 M9 n9 h9
            obtain ⟨h91, h92, h93⟩ := h9
            rw [h91, h92, h93]
            clear h91 h92 h93 r9 M9 n9
            refine g_lstore dX9_layBoth_124 (Nat.le_of_ble_eq_true rfl) ?_
            refine g_aload_n dX9_layBoth_126 rfl ?_
            refine g_lload_n dX9_layBoth_127 rfl ?_
            refine g_lload dX9_layBoth_128 rfl ?_
            refine g_ldiv dX9_layBoth_130 (jI_ne (by constructor <;> omega) (by omega)) ?_
            rw [jI_div h1 (by constructor <;> omega) (by omega)]
            refine g_lload_n dX9_layBoth_131 rfl ?_
            refine g_lload dX9_layBoth_132 rfl ?_
            refine g_ldiv dX9_layBoth_134 (jI_ne (by constructor <;> omega) (by omega)) ?_
            rw [jI_div h1 h4 (by omega)]
            refine g_lload dX9_layBoth_135 rfl ?_
            refine g_lload dX9_layBoth_137 rfl ?_
            refine g_ldiv dX9_layBoth_139 (jI_ne (by constructor <;> omega) (by omega)) ?_
            rw [jI_div h2 (by constructor <;> omega) (by omega)]
            refine g_lload dX9_layBoth_140 rfl ?_
            refine g_lload dX9_layBoth_142 rfl ?_
            refine g_ldiv dX9_layBoth_144 (jI_ne (by constructor <;> omega) (by omega)) ?_
            rw [jI_div h2 h4 (by omega)]
            refine g_callV dX9_layBoth_145 sX9_layFour (m_four _ n m ((x.1).tdiv (max y.1 1)) ((x.1).tdiv (y.2)) ((x.2).tdiv (max y.1 1)) ((x.2).tdiv (y.2)) _ (by first | exact hm.off hO2 | exact hm) (by first | exact hI2 | exact hL) (by first | omega | (rw [List.length_append]; have := wrW_len (min (min (x.1.tdiv y.1) (x.1.tdiv (min y.2 (-1)))) (min (x.2.tdiv y.1) (x.2.tdiv (min y.2 (-1))))) (max (max (x.1.tdiv y.1) (x.1.tdiv (min y.2 (-1)))) (max (x.2.tdiv y.1) (x.2.tdiv (min y.2 (-1))))); unfold fourW; omega)) (tdiv_r4 h1 (by omega)) (tdiv_r4 h1 (by omega)) (tdiv_r4 h2 (by omega)) (tdiv_r4 h2 (by omega))) cl10 (by first | exact (hm.off hO2).1 | exact hm.1) iX9_layFour vX9_layFour (iw_27 22 rfl) rfl rfl (Nat.le_of_ble_eq_true rfl) (Nat.le_of_ble_eq_true rfl) (Nat.le_of_ble_eq_true rfl) (Nat.le_of_ble_eq_true rfl) (Nat.le_of_ble_eq_true rfl) ?_
            intro r9 M3 n9 h9
            obtain ⟨h91, h93, hO3, hI3⟩ := h9
            rw [h91, h93]
            clear h91 h93 r9 n9
            try rw [jc_le (r6_of h4) r0] at c_115
            exact g_vret dX9_layBoth_148 rfl (Nat.le_of_ble_eq_true rfl) (Nat.le_of_ble_eq_true rfl) (by
              unfold bothP
              first
                | exact ⟨rfl, rfl, hO2, by rw [if_pos c_2]; exact hI2⟩
                | exact ⟨rfl, rfl, hO2, by rw [if_neg c_2, if_pos c_23]; exact hI2⟩
                | exact ⟨rfl, rfl, hO2, by rw [if_neg c_2, if_neg c_23, if_pos c_44]; exact hI2⟩
                | exact ⟨rfl, rfl, hO2.trans hO3, by rw [if_neg c_2, if_neg c_23, if_neg c_44]; unfold byP; rw [if_pos (by omega), if_pos (by omega), ← List.append_assoc]; exact hI3⟩
                | exact ⟨rfl, rfl, hO3, by rw [if_neg c_2, if_neg c_23, if_neg c_44]; unfold byP; rw [if_neg (by omega), if_pos (by omega), List.nil_append]; exact hI3⟩
                | exact ⟨rfl, rfl, hO2, by rw [if_neg c_2, if_neg c_23, if_neg c_44]; unfold byP; rw [if_pos (by omega), if_neg (by omega), List.append_nil]; exact hI2⟩
                | exact ⟨rfl, rfl, Off.rf, by rw [if_neg c_2, if_neg c_23, if_neg c_44]; unfold byP; rw [if_neg (by omega), if_neg (by omega), List.append_nil, List.append_nil]; exact hL⟩)
        · skip
          rw [jc_ge (r6_of h3) r0] at c_76
          refine g_lload dX9_layBoth_79 rfl ?_
          refine g_ldc2 (v := jI (-1)) dX9_layBoth_81 (iw_27 14 rfl) ?_
          refine g_callS dX9_layBoth_84 sX9_lesser (m_mn M n (y.2) (-1) (by constructor <;> omega) (by constructor <;> omega)) tX9_lesser (iw_26 12 rfl) rfl rfl (Nat.le_of_ble_eq_true rfl) (Nat.le_of_ble_eq_true rfl) (Nat.le_of_ble_eq_true rfl) (Nat.le_of_ble_eq_true rfl) (Nat.le_of_ble_eq_true rfl) ?_
          intro r9 M9 n9 h9
          obtain ⟨h91, h92, h93⟩ := h9
          rw [h91, h92, h93]
          clear h91 h92 h93 r9 M9 n9
          refine g_lstore dX9_layBoth_87 (Nat.le_of_ble_eq_true rfl) ?_
          refine g_aload_n dX9_layBoth_89 rfl ?_
          refine g_lload_n dX9_layBoth_90 rfl ?_
          refine g_lload dX9_layBoth_91 rfl ?_
          refine g_ldiv dX9_layBoth_93 (jI_ne (by constructor <;> omega) (by omega)) ?_
          rw [jI_div h1 h3 (by omega)]
          refine g_lload_n dX9_layBoth_94 rfl ?_
          refine g_lload dX9_layBoth_95 rfl ?_
          refine g_ldiv dX9_layBoth_97 (jI_ne (by constructor <;> omega) (by omega)) ?_
          rw [jI_div h1 (by constructor <;> omega) (by omega)]
          refine g_lload dX9_layBoth_98 rfl ?_
          refine g_lload dX9_layBoth_100 rfl ?_
          refine g_ldiv dX9_layBoth_102 (jI_ne (by constructor <;> omega) (by omega)) ?_
          rw [jI_div h2 h3 (by omega)]
          refine g_lload dX9_layBoth_103 rfl ?_
          refine g_lload dX9_layBoth_105 rfl ?_
          refine g_ldiv dX9_layBoth_107 (jI_ne (by constructor <;> omega) (by omega)) ?_
          rw [jI_div h2 (by constructor <;> omega) (by omega)]
          refine g_callV dX9_layBoth_108 sX9_layFour (m_four M n m ((x.1).tdiv (y.1)) ((x.1).tdiv (min y.2 (-1))) ((x.2).tdiv (y.1)) ((x.2).tdiv (min y.2 (-1))) L hm hL (by omega) (tdiv_r4 h1 (by omega)) (tdiv_r4 h1 (by omega)) (tdiv_r4 h2 (by omega)) (tdiv_r4 h2 (by omega))) cl10 hm.1 iX9_layFour vX9_layFour (iw_27 22 rfl) rfl rfl (Nat.le_of_ble_eq_true rfl) (Nat.le_of_ble_eq_true rfl) (Nat.le_of_ble_eq_true rfl) (Nat.le_of_ble_eq_true rfl) (Nat.le_of_ble_eq_true rfl) ?_
          intro r9 M2 n9 h9
          obtain ⟨h91, h93, hO2, hI2⟩ := h9
          rw [h91, h93]
          clear h91 h93 r9 n9
          try rw [jc_ge (r6_of h3) r0] at c_76
          refine g_lload dX9_layBoth_111 rfl ?_
          refine g_lconst (v := jI 0) dX9_layBoth_113 rfl ?_
          refine g_lcmp dX9_layBoth_114 ?_
          refine g_if_le (tgt := 148) dX9_layBoth_115 (by decide) (fun c_115 => ?_) (fun c_115 => ?_)
          · skip
            try rw [jc_le (r6_of h4) r0] at c_115
            exact g_vret dX9_layBoth_148 rfl (Nat.le_of_ble_eq_true rfl) (Nat.le_of_ble_eq_true rfl) (by
              unfold bothP
              first
                | exact ⟨rfl, rfl, hO2, by rw [if_pos c_2]; exact hI2⟩
                | exact ⟨rfl, rfl, hO2, by rw [if_neg c_2, if_pos c_23]; exact hI2⟩
                | exact ⟨rfl, rfl, hO2, by rw [if_neg c_2, if_neg c_23, if_pos c_44]; exact hI2⟩
                | exact ⟨rfl, rfl, hO2.trans hO3, by rw [if_neg c_2, if_neg c_23, if_neg c_44]; unfold byP; rw [if_pos (by omega), if_pos (by omega), ← List.append_assoc]; exact hI3⟩
                | exact ⟨rfl, rfl, hO3, by rw [if_neg c_2, if_neg c_23, if_neg c_44]; unfold byP; rw [if_neg (by omega), if_pos (by omega), List.nil_append]; exact hI3⟩
                | exact ⟨rfl, rfl, hO2, by rw [if_neg c_2, if_neg c_23, if_neg c_44]; unfold byP; rw [if_pos (by omega), if_neg (by omega), List.append_nil]; exact hI2⟩
                | exact ⟨rfl, rfl, Off.rf, by rw [if_neg c_2, if_neg c_23, if_neg c_44]; unfold byP; rw [if_neg (by omega), if_neg (by omega), List.append_nil, List.append_nil]; exact hL⟩)
          · skip
            rw [jc_le (r6_of h4) r0] at c_115
            refine g_lload dX9_layBoth_118 rfl ?_
            refine g_lconst (v := jI 1) dX9_layBoth_120 rfl ?_
            refine g_callS dX9_layBoth_121 sX9_greater (m_mx _ n y.1 1 (by constructor <;> omega) (by constructor <;> omega)) tX9_greater (iw_27 7 rfl) rfl rfl (Nat.le_of_ble_eq_true rfl) (Nat.le_of_ble_eq_true rfl) (Nat.le_of_ble_eq_true rfl) (Nat.le_of_ble_eq_true rfl) (Nat.le_of_ble_eq_true rfl) ?_
            intro r9 M9 n9 h9
            obtain ⟨h91, h92, h93⟩ := h9
            rw [h91, h92, h93]
            clear h91 h92 h93 r9 M9 n9
            refine g_lstore dX9_layBoth_124 (Nat.le_of_ble_eq_true rfl) ?_
            refine g_aload_n dX9_layBoth_126 rfl ?_
            refine g_lload_n dX9_layBoth_127 rfl ?_
            refine g_lload dX9_layBoth_128 rfl ?_
            refine g_ldiv dX9_layBoth_130 (jI_ne (by constructor <;> omega) (by omega)) ?_
            rw [jI_div h1 (by constructor <;> omega) (by omega)]
            refine g_lload_n dX9_layBoth_131 rfl ?_
            refine g_lload dX9_layBoth_132 rfl ?_
            refine g_ldiv dX9_layBoth_134 (jI_ne (by constructor <;> omega) (by omega)) ?_
            rw [jI_div h1 h4 (by omega)]
            refine g_lload dX9_layBoth_135 rfl ?_
            refine g_lload dX9_layBoth_137 rfl ?_
            refine g_ldiv dX9_layBoth_139 (jI_ne (by constructor <;> omega) (by omega)) ?_
            rw [jI_div h2 (by constructor <;> omega) (by omega)]
            refine g_lload dX9_layBoth_140 rfl ?_
            refine g_lload dX9_layBoth_142 rfl ?_
            refine g_ldiv dX9_layBoth_144 (jI_ne (by constructor <;> omega) (by omega)) ?_
            rw [jI_div h2 h4 (by omega)]
            refine g_callV dX9_layBoth_145 sX9_layFour (m_four _ n m ((x.1).tdiv (max y.1 1)) ((x.1).tdiv (y.2)) ((x.2).tdiv (max y.1 1)) ((x.2).tdiv (y.2)) _ (by first | exact hm.off hO2 | exact hm) (by first | exact hI2 | exact hL) (by first | omega | (rw [List.length_append]; have := wrW_len (min (min (x.1.tdiv y.1) (x.1.tdiv (min y.2 (-1)))) (min (x.2.tdiv y.1) (x.2.tdiv (min y.2 (-1))))) (max (max (x.1.tdiv y.1) (x.1.tdiv (min y.2 (-1)))) (max (x.2.tdiv y.1) (x.2.tdiv (min y.2 (-1))))); unfold fourW; omega)) (tdiv_r4 h1 (by omega)) (tdiv_r4 h1 (by omega)) (tdiv_r4 h2 (by omega)) (tdiv_r4 h2 (by omega))) cl10 (by first | exact (hm.off hO2).1 | exact hm.1) iX9_layFour vX9_layFour (iw_27 22 rfl) rfl rfl (Nat.le_of_ble_eq_true rfl) (Nat.le_of_ble_eq_true rfl) (Nat.le_of_ble_eq_true rfl) (Nat.le_of_ble_eq_true rfl) (Nat.le_of_ble_eq_true rfl) ?_
            intro r9 M3 n9 h9
            obtain ⟨h91, h93, hO3, hI3⟩ := h9
            rw [h91, h93]
            clear h91 h93 r9 n9
            try rw [jc_le (r6_of h4) r0] at c_115
            exact g_vret dX9_layBoth_148 rfl (Nat.le_of_ble_eq_true rfl) (Nat.le_of_ble_eq_true rfl) (by
              unfold bothP
              first
                | exact ⟨rfl, rfl, hO2, by rw [if_pos c_2]; exact hI2⟩
                | exact ⟨rfl, rfl, hO2, by rw [if_neg c_2, if_pos c_23]; exact hI2⟩
                | exact ⟨rfl, rfl, hO2, by rw [if_neg c_2, if_neg c_23, if_pos c_44]; exact hI2⟩
                | exact ⟨rfl, rfl, hO2.trans hO3, by rw [if_neg c_2, if_neg c_23, if_neg c_44]; unfold byP; rw [if_pos (by omega), if_pos (by omega), ← List.append_assoc]; exact hI3⟩
                | exact ⟨rfl, rfl, hO3, by rw [if_neg c_2, if_neg c_23, if_neg c_44]; unfold byP; rw [if_neg (by omega), if_pos (by omega), List.nil_append]; exact hI3⟩
                | exact ⟨rfl, rfl, hO2, by rw [if_neg c_2, if_neg c_23, if_neg c_44]; unfold byP; rw [if_pos (by omega), if_neg (by omega), List.append_nil]; exact hI2⟩
                | exact ⟨rfl, rfl, Off.rf, by rw [if_neg c_2, if_neg c_23, if_neg c_44]; unfold byP; rw [if_neg (by omega), if_neg (by omega), List.append_nil, List.append_nil]; exact hL⟩)
      · skip
        refine g_aload_n dX9_layBoth_47 rfl ?_
        refine g_lload_n dX9_layBoth_48 rfl ?_
        refine g_lload dX9_layBoth_49 rfl ?_
        refine g_lmul dX9_layBoth_51 ?_
        rw [jI_mul]
        refine g_lload_n dX9_layBoth_52 rfl ?_
        refine g_lload dX9_layBoth_53 rfl ?_
        refine g_lmul dX9_layBoth_55 ?_
        rw [jI_mul]
        refine g_lload dX9_layBoth_56 rfl ?_
        refine g_lload dX9_layBoth_58 rfl ?_
        refine g_lmul dX9_layBoth_60 ?_
        rw [jI_mul]
        refine g_lload dX9_layBoth_61 rfl ?_
        refine g_lload dX9_layBoth_63 rfl ?_
        refine g_lmul dX9_layBoth_65 ?_
        rw [jI_mul]
        refine g_callV dX9_layBoth_66 sX9_layFour (m_four M n m (x.1 * y.1) (x.1 * y.2) (x.2 * y.1) (x.2 * y.2) L hm hL (by omega) (mul_r h1 h3) (mul_r h1 h4) (mul_r h2 h3) (mul_r h2 h4)) cl10 hm.1 iX9_layFour vX9_layFour (iw_27 22 rfl) rfl rfl (Nat.le_of_ble_eq_true rfl) (Nat.le_of_ble_eq_true rfl) (Nat.le_of_ble_eq_true rfl) (Nat.le_of_ble_eq_true rfl) (Nat.le_of_ble_eq_true rfl) ?_
        intro r9 M2 n9 h9
        obtain ⟨h91, h93, hO2, hI2⟩ := h9
        rw [h91, h93]
        clear h91 h93 r9 n9
        refine g_goto (tgt := 148) dX9_layBoth_69 (by decide) ?_
        try rw [jc_le (r6_of h4) r0] at c_115
        exact g_vret dX9_layBoth_148 rfl (Nat.le_of_ble_eq_true rfl) (Nat.le_of_ble_eq_true rfl) (by
          unfold bothP
          first
            | exact ⟨rfl, rfl, hO2, by rw [if_pos c_2]; exact hI2⟩
            | exact ⟨rfl, rfl, hO2, by rw [if_neg c_2, if_pos c_23]; exact hI2⟩
            | exact ⟨rfl, rfl, hO2, by rw [if_neg c_2, if_neg c_23, if_pos c_44]; exact hI2⟩
            | exact ⟨rfl, rfl, hO2.trans hO3, by rw [if_neg c_2, if_neg c_23, if_neg c_44]; unfold byP; rw [if_pos (by omega), if_pos (by omega), ← List.append_assoc]; exact hI3⟩
            | exact ⟨rfl, rfl, hO3, by rw [if_neg c_2, if_neg c_23, if_neg c_44]; unfold byP; rw [if_neg (by omega), if_pos (by omega), List.nil_append]; exact hI3⟩
            | exact ⟨rfl, rfl, hO2, by rw [if_neg c_2, if_neg c_23, if_neg c_44]; unfold byP; rw [if_pos (by omega), if_neg (by omega), List.append_nil]; exact hI2⟩
            | exact ⟨rfl, rfl, Off.rf, by rw [if_neg c_2, if_neg c_23, if_neg c_44]; unfold byP; rw [if_neg (by omega), if_neg (by omega), List.append_nil, List.append_nil]; exact hL⟩)
    · skip
      refine g_aload_n dX9_layBoth_26 rfl ?_
      refine g_lload_n dX9_layBoth_27 rfl ?_
      refine g_lload dX9_layBoth_28 rfl ?_
      refine g_lsub dX9_layBoth_30 ?_
      rw [jI_sub]
      refine g_lload dX9_layBoth_31 rfl ?_
      refine g_lload dX9_layBoth_33 rfl ?_
      refine g_lsub dX9_layBoth_35 ?_
      rw [jI_sub]
      refine g_callV dX9_layBoth_36 sX9_layWrapped (m_layW M n m (x.1 - y.2) (x.2 - y.1) L hm hL (by omega) (by constructor <;> omega) (by constructor <;> omega) (by omega) (by omega)) cl10 hm.1 iX9_layWrapped vX9_layWrapped (iw_27 15 rfl) rfl rfl (Nat.le_of_ble_eq_true rfl) (Nat.le_of_ble_eq_true rfl) (Nat.le_of_ble_eq_true rfl) (Nat.le_of_ble_eq_true rfl) (Nat.le_of_ble_eq_true rfl) ?_
      intro r9 M2 n9 h9
      obtain ⟨h91, h93, hO2, hI2⟩ := h9
      rw [h91, h93]
      clear h91 h93 r9 n9
      refine g_goto (tgt := 148) dX9_layBoth_39 (by decide) ?_
      try rw [jc_le (r6_of h4) r0] at c_115
      exact g_vret dX9_layBoth_148 rfl (Nat.le_of_ble_eq_true rfl) (Nat.le_of_ble_eq_true rfl) (by
        unfold bothP
        first
          | exact ⟨rfl, rfl, hO2, by rw [if_pos c_2]; exact hI2⟩
          | exact ⟨rfl, rfl, hO2, by rw [if_neg c_2, if_pos c_23]; exact hI2⟩
          | exact ⟨rfl, rfl, hO2, by rw [if_neg c_2, if_neg c_23, if_pos c_44]; exact hI2⟩
          | exact ⟨rfl, rfl, hO2.trans hO3, by rw [if_neg c_2, if_neg c_23, if_neg c_44]; unfold byP; rw [if_pos (by omega), if_pos (by omega), ← List.append_assoc]; exact hI3⟩
          | exact ⟨rfl, rfl, hO3, by rw [if_neg c_2, if_neg c_23, if_neg c_44]; unfold byP; rw [if_neg (by omega), if_pos (by omega), List.nil_append]; exact hI3⟩
          | exact ⟨rfl, rfl, hO2, by rw [if_neg c_2, if_neg c_23, if_neg c_44]; unfold byP; rw [if_pos (by omega), if_neg (by omega), List.append_nil]; exact hI2⟩
          | exact ⟨rfl, rfl, Off.rf, by rw [if_neg c_2, if_neg c_23, if_neg c_44]; unfold byP; rw [if_neg (by omega), if_neg (by omega), List.append_nil, List.append_nil]; exact hL⟩)
  · skip
    refine g_aload_n dX9_layBoth_5 rfl ?_
    refine g_lload_n dX9_layBoth_6 rfl ?_
    refine g_lload dX9_layBoth_7 rfl ?_
    refine g_ladd dX9_layBoth_9 ?_
    rw [jI_add]
    refine g_lload dX9_layBoth_10 rfl ?_
    refine g_lload dX9_layBoth_12 rfl ?_
    refine g_ladd dX9_layBoth_14 ?_
    rw [jI_add]
    refine g_callV dX9_layBoth_15 sX9_layWrapped (m_layW M n m (x.1 + y.1) (x.2 + y.2) L hm hL (by omega) (by constructor <;> omega) (by constructor <;> omega) (by omega) (by omega)) cl10 hm.1 iX9_layWrapped vX9_layWrapped (iw_27 15 rfl) rfl rfl (Nat.le_of_ble_eq_true rfl) (Nat.le_of_ble_eq_true rfl) (Nat.le_of_ble_eq_true rfl) (Nat.le_of_ble_eq_true rfl) (Nat.le_of_ble_eq_true rfl) ?_
    intro r9 M2 n9 h9
    obtain ⟨h91, h93, hO2, hI2⟩ := h9
    rw [h91, h93]
    clear h91 h93 r9 n9
    refine g_goto (tgt := 148) dX9_layBoth_18 (by decide) ?_
    try rw [jc_le (r6_of h4) r0] at c_115
    exact g_vret dX9_layBoth_148 rfl (Nat.le_of_ble_eq_true rfl) (Nat.le_of_ble_eq_true rfl) (by
      unfold bothP
      first
        | exact ⟨rfl, rfl, hO2, by rw [if_pos c_2]; exact hI2⟩
        | exact ⟨rfl, rfl, hO2, by rw [if_neg c_2, if_pos c_23]; exact hI2⟩
        | exact ⟨rfl, rfl, hO2, by rw [if_neg c_2, if_neg c_23, if_pos c_44]; exact hI2⟩
        | exact ⟨rfl, rfl, hO2.trans hO3, by rw [if_neg c_2, if_neg c_23, if_neg c_44]; unfold byP; rw [if_pos (by omega), if_pos (by omega), ← List.append_assoc]; exact hI3⟩
        | exact ⟨rfl, rfl, hO3, by rw [if_neg c_2, if_neg c_23, if_neg c_44]; unfold byP; rw [if_neg (by omega), if_pos (by omega), List.nil_append]; exact hI3⟩
        | exact ⟨rfl, rfl, hO2, by rw [if_neg c_2, if_neg c_23, if_neg c_44]; unfold byP; rw [if_pos (by omega), if_neg (by omega), List.append_nil]; exact hI2⟩
        | exact ⟨rfl, rfl, Off.rf, by rw [if_neg c_2, if_neg c_23, if_neg c_44]; unfold byP; rw [if_neg (by omega), if_neg (by omega), List.append_nil, List.append_nil]; exact hL⟩)

