/-! the reference: a number is lost; a condition sharpens -/
def los1 (v : Int) (p : Sp) : Sp := (if p.1 = v then p.1 + 1 else p.1, if p.2 = v then p.2 - 1 else p.2)
def losL (X : List Sp) (v : Int) : List Sp := (X.map (los1 v)).filter okp
theorem losL_wl {X : List Sp} (h : wl X) (v : Int) : wl (losL X v) := by
  refine ⟨fun p hp => by have := (List.mem_filter.mp hp).2; simpa [okp] using this, fun p hp => ?_⟩
  obtain ⟨h1, h2⟩ := List.mem_filter.mp hp
  obtain ⟨x, hx, rfl⟩ := List.mem_map.mp h1
  have r := h.2 x hx
  have o := h.1 x hx
  unfold okp at h2
  rw [decide_eq_true_eq] at h2
  unfold los1 at h2 ⊢
  simp only at h2 ⊢
  constructor <;> constructor <;> split <;> (try split at h2) <;> (try split at h2) <;> omega
theorem losL_len (X : List Sp) (v : Int) : (losL X v).length ≤ X.length := by
  refine Nat.le_trans (List.length_filter_le _ _) ?_
  rw [List.length_map]; exact Nat.le_refl _
theorem losL_take {X : List Sp} {k : Nat} (h : k < X.length) (v : Int) : losL (X.take (k + 1)) v = layP (losL (X.take k) v) (los1 v (X.getD k (0, 0))) := by
  unfold losL
  rw [take_one h, List.map_append, List.filter_append, ← filter_one]
  rfl
/-- what a condition leaves of its two sets -/
def shp (r : Nat) (X Y : List Sp) : List Sp × List Sp := if r = 0 ∨ r = 1 then (cutX X (-2147483648) (hi1 Y - (if r = 1 then 0 else 1)), cutX Y (lo1 X + (if r = 1 then 0 else 1)) 2147483647) else if r = 4 ∨ r = 5 then (cutX X (lo1 Y + (if r = 4 then 0 else 1)) 2147483647, cutX Y (-2147483648) (hi1 X - (if r = 4 then 0 else 1))) else if r = 2 then (mkS (cmL X Y), mkS (cmL X Y)) else if r = 3 then (if aloB Y then mkS (losL X (lo1 Y)) else X, if aloB X then mkS (losL Y (lo1 X)) else Y) else if r = 6 ∧ 0 ≤ lo1 Y then (cutX X 0 (hi1 Y - 1), Y) else (X, Y)
set_option maxHeartbeats 4000000 in
set_option maxRecDepth 100000 in
theorem l_lose {M : gM} {n m s : Nat} {X : List Sp} {v : Int} {Q : gθ} (hm : gMod M m) (hs : s < 360) (hX : iS M m s X) (oX : okX X) (hv : r6 v) (hk : ∀ M1, Off M M1 (fL m) → iL M1 m (losL X v) → GW μX9_lose (gRm 3 74 0 0) Q 0 0 74 [some (.ref m), some (.int (nI s)), some (.long (jI v)), none, none, none, none, none, none] [] M1 n) : ∀ (d : Nat) (k : Nat) (M1 : gM), X.length - k < d → k ≤ X.length → Off M M1 (fL m) → iL M1 m (losL (X.take k) v) → GW μX9_lose (gRm 3 74 0 0) Q 0 0 3 [some (.ref m), some (.int (nI s)), some (.long (jI v)), none, some (.int (nI k)), none, none, none, none] [] M1 n := by
  intro d
  induction d with
  | zero =>
    intro k M1 hd hk1 hO hI
    omega
  | succ d ih =>
    intro k M1 hd hk1 hO hI
    have hm1 : gMod M1 m := hm.off hO
    have hX1 : iS M1 m s X := hX.off hO (fun i k h1 => fL_S h1)
    have lX := oX.2.1
    refine g_iload dX9_lose_3 rfl ?_
    refine g_aload_n dX9_lose_5 rfl ?_
    refine g_getR (f := 1) dX9_lose_6 cl10 hm1.1 (by decide) (Or.inl (iw_5 20 rfl)) (Or.inl rfl) rfl hm1.r_many ?_
    refine g_iload_n dX9_lose_9 rfl ?_
    refine g_iaload dX9_lose_10 (j := s) hm1.k_many hm1.n_many rfl (by omega) (by decide) ?_
    rw [hX1.2.1]
    refine g_icmp_ge (tgt := 74) dX9_lose_11 (by decide) (fun c_11 => ?_) (fun c_11 => ?_)
    · skip
      rw [nI_leI (by omega) (by omega)] at c_11
      rw [List.take_of_length_le (by omega)] at hI
      refine g_msk [true, true, true, true, false, false, false, false, false] ?_
      exact hk M1 hO hI
    · skip
      rw [nI_leI (by omega) (by omega)] at c_11
      have hk2 : k < X.length := by omega
      obtain ⟨b1, b2⟩ := r5_getD oX.2.2 hk2
      refine g_aload_n dX9_lose_14 rfl ?_
      refine g_iload_n dX9_lose_15 rfl ?_
      refine g_iload dX9_lose_16 rfl ?_
      refine g_callV dX9_lose_18 sX9_low (m_loX M1 n m s k X hm1 hs hX1 hk2) cl10 hm1.1 iX9_low vX9_low (iw_26 0 rfl) rfl rfl (Nat.le_of_ble_eq_true rfl) (Nat.le_of_ble_eq_true rfl) (Nat.le_of_ble_eq_true rfl) (Nat.le_of_ble_eq_true rfl) (Nat.le_of_ble_eq_true rfl) ?_
      intro r9 M9 n9 h9
      obtain ⟨h91, h92, h93⟩ := h9
      rw [h91, h92, h93]
      clear h91 h92 h93 r9 M9 n9
      refine g_lstore dX9_lose_21 (Nat.le_of_ble_eq_true rfl) ?_
      refine g_aload_n dX9_lose_23 rfl ?_
      refine g_iload_n dX9_lose_24 rfl ?_
      refine g_iload dX9_lose_25 rfl ?_
      refine g_callV dX9_lose_27 sX9_high (m_hiX M1 n m s k X hm1 hs hX1 hk2) cl10 hm1.1 iX9_high vX9_high (iw_26 4 rfl) rfl rfl (Nat.le_of_ble_eq_true rfl) (Nat.le_of_ble_eq_true rfl) (Nat.le_of_ble_eq_true rfl) (Nat.le_of_ble_eq_true rfl) (Nat.le_of_ble_eq_true rfl) ?_
      intro r9 M9 n9 h9
      obtain ⟨h91, h92, h93⟩ := h9
      rw [h91, h92, h93]
      clear h91 h92 h93 r9 M9 n9
      refine g_lstore dX9_lose_30 (Nat.le_of_ble_eq_true rfl) ?_
      refine g_aload_n dX9_lose_32 rfl ?_
      refine g_lload dX9_lose_33 rfl ?_
      refine g_lload_n dX9_lose_35 rfl ?_
      refine g_lcmp dX9_lose_36 ?_
      refine g_if_ne (tgt := 47) dX9_lose_37 (by decide) (fun c_37 => ?_) (fun c_37 => ?_)
      · skip
        rw [jc_eq (r6_of b1) hv] at c_37
        refine g_lload dX9_lose_47 rfl ?_
        refine g_lload dX9_lose_49 rfl ?_
        refine g_lload_n dX9_lose_51 rfl ?_
        refine g_lcmp dX9_lose_52 ?_
        refine g_if_ne (tgt := 63) dX9_lose_53 (by decide) (fun c_53 => ?_) (fun c_53 => ?_)
        · skip
          rw [jc_eq (r6_of b2) hv] at c_53
          refine g_lload dX9_lose_63 rfl ?_
          refine g_callV dX9_lose_65 sX9_lay (m_lay M1 n m _ _ _ hm1 hI (by have h9 := losL_len (X.take k) v; rw [List.length_take] at h9; omega) (by constructor <;> omega) (by constructor <;> omega)) cl10 hm1.1 iX9_lay vX9_lay (iw_25 15 rfl) rfl rfl (Nat.le_of_ble_eq_true rfl) (Nat.le_of_ble_eq_true rfl) (Nat.le_of_ble_eq_true rfl) (Nat.le_of_ble_eq_true rfl) (Nat.le_of_ble_eq_true rfl) ?_
          intro r9 M2 n9 h9
          obtain ⟨h91, h93, hO2, hI2⟩ := h9
          rw [h91, h93]
          clear h91 h93 r9 n9
          refine g_iinc dX9_lose_68 rfl (nI_1 k) (Nat.le_of_ble_eq_true rfl) ?_
          refine g_goto (tgt := 3) dX9_lose_71 (by decide) ?_
          refine g_msk [true, true, true, true, true, false, false, false, false] ?_
          refine ih (k + 1) _ (by omega) (by omega) (hO.trans hO2) ?_
          rw [losL_take hk2]
          unfold layP los1
          first
            | (rw [if_pos c_37, if_pos c_53]; exact hI2)
            | (rw [if_pos c_37, if_neg c_53]; exact hI2)
            | (rw [if_neg c_37, if_pos c_53]; exact hI2)
            | (rw [if_neg c_37, if_neg c_53]; exact hI2)
        · skip
          rw [jc_eq (r6_of b2) hv] at c_53
          refine g_lload dX9_lose_56 rfl ?_
          refine g_lconst (v := jI 1) dX9_lose_58 rfl ?_
          refine g_lsub dX9_lose_59 ?_
          rw [jI_sub]
          refine g_goto (tgt := 65) dX9_lose_60 (by decide) ?_
          refine g_callV dX9_lose_65 sX9_lay (m_lay M1 n m _ _ _ hm1 hI (by have h9 := losL_len (X.take k) v; rw [List.length_take] at h9; omega) (by constructor <;> omega) (by constructor <;> omega)) cl10 hm1.1 iX9_lay vX9_lay (iw_25 15 rfl) rfl rfl (Nat.le_of_ble_eq_true rfl) (Nat.le_of_ble_eq_true rfl) (Nat.le_of_ble_eq_true rfl) (Nat.le_of_ble_eq_true rfl) (Nat.le_of_ble_eq_true rfl) ?_
          intro r9 M2 n9 h9
          obtain ⟨h91, h93, hO2, hI2⟩ := h9
          rw [h91, h93]
          clear h91 h93 r9 n9
          refine g_iinc dX9_lose_68 rfl (nI_1 k) (Nat.le_of_ble_eq_true rfl) ?_
          refine g_goto (tgt := 3) dX9_lose_71 (by decide) ?_
          refine g_msk [true, true, true, true, true, false, false, false, false] ?_
          refine ih (k + 1) _ (by omega) (by omega) (hO.trans hO2) ?_
          rw [losL_take hk2]
          unfold layP los1
          first
            | (rw [if_pos c_37, if_pos c_53]; exact hI2)
            | (rw [if_pos c_37, if_neg c_53]; exact hI2)
            | (rw [if_neg c_37, if_pos c_53]; exact hI2)
            | (rw [if_neg c_37, if_neg c_53]; exact hI2)
      · skip
        rw [jc_eq (r6_of b1) hv] at c_37
        refine g_lload dX9_lose_40 rfl ?_
        refine g_lconst (v := jI 1) dX9_lose_42 rfl ?_
        refine g_ladd dX9_lose_43 ?_
        rw [jI_add]
        refine g_goto (tgt := 49) dX9_lose_44 (by decide) ?_
        refine g_lload dX9_lose_49 rfl ?_
        refine g_lload_n dX9_lose_51 rfl ?_
        refine g_lcmp dX9_lose_52 ?_
        refine g_if_ne (tgt := 63) dX9_lose_53 (by decide) (fun c_53 => ?_) (fun c_53 => ?_)
        · skip
          rw [jc_eq (r6_of b2) hv] at c_53
          refine g_lload dX9_lose_63 rfl ?_
          refine g_callV dX9_lose_65 sX9_lay (m_lay M1 n m _ _ _ hm1 hI (by have h9 := losL_len (X.take k) v; rw [List.length_take] at h9; omega) (by constructor <;> omega) (by constructor <;> omega)) cl10 hm1.1 iX9_lay vX9_lay (iw_25 15 rfl) rfl rfl (Nat.le_of_ble_eq_true rfl) (Nat.le_of_ble_eq_true rfl) (Nat.le_of_ble_eq_true rfl) (Nat.le_of_ble_eq_true rfl) (Nat.le_of_ble_eq_true rfl) ?_
          intro r9 M2 n9 h9
          obtain ⟨h91, h93, hO2, hI2⟩ := h9
          rw [h91, h93]
          clear h91 h93 r9 n9
          refine g_iinc dX9_lose_68 rfl (nI_1 k) (Nat.le_of_ble_eq_true rfl) ?_
          refine g_goto (tgt := 3) dX9_lose_71 (by decide) ?_
          refine g_msk [true, true, true, true, true, false, false, false, false] ?_
          refine ih (k + 1) _ (by omega) (by omega) (hO.trans hO2) ?_
          rw [losL_take hk2]
          unfold layP los1
          first
            | (rw [if_pos c_37, if_pos c_53]; exact hI2)
            | (rw [if_pos c_37, if_neg c_53]; exact hI2)
            | (rw [if_neg c_37, if_pos c_53]; exact hI2)
            | (rw [if_neg c_37, if_neg c_53]; exact hI2)
        · skip
          rw [jc_eq (r6_of b2) hv] at c_53
          refine g_lload dX9_lose_56 rfl ?_
          refine g_lconst (v := jI 1) dX9_lose_58 rfl ?_
          refine g_lsub dX9_lose_59 ?_
          rw [jI_sub]
          refine g_goto (tgt := 65) dX9_lose_60 (by decide) ?_
          refine g_callV dX9_lose_65 sX9_lay (m_lay M1 n m _ _ _ hm1 hI (by have h9 := losL_len (X.take k) v; rw [List.length_take] at h9; omega) (by constructor <;> omega) (by constructor <;> omega)) cl10 hm1.1 iX9_lay vX9_lay (iw_25 15 rfl) rfl rfl (Nat.le_of_ble_eq_true rfl) (Nat.le_of_ble_eq_true rfl) (Nat.le_of_ble_eq_true rfl) (Nat.le_of_ble_eq_true rfl) (Nat.le_of_ble_eq_true rfl) ?_
          intro r9 M2 n9 h9
          obtain ⟨h91, h93, hO2, hI2⟩ := h9
          rw [h91, h93]
          clear h91 h93 r9 n9
          refine g_iinc dX9_lose_68 rfl (nI_1 k) (Nat.le_of_ble_eq_true rfl) ?_
          refine g_goto (tgt := 3) dX9_lose_71 (by decide) ?_
          refine g_msk [true, true, true, true, true, false, false, false, false] ?_
          refine ih (k + 1) _ (by omega) (by omega) (hO.trans hO2) ?_
          rw [losL_take hk2]
          unfold layP los1
          first
            | (rw [if_pos c_37, if_pos c_53]; exact hI2)
            | (rw [if_pos c_37, if_neg c_53]; exact hI2)
            | (rw [if_neg c_37, if_pos c_53]; exact hI2)
            | (rw [if_neg c_37, if_neg c_53]; exact hI2)

set_option maxHeartbeats 4000000 in
set_option maxRecDepth 100000 in
theorem s_lose (M : gM) (n m s : Nat) (S : Nat → List Sp) (v : Int) (hG : rS M m S) (hs : s < 360) (hv : r6 v) : GM μX9_lose 3 74 0 0 [.ref m, .int (nI s), .long (jI v)] M n (fun r M1 n1 => r = none ∧ n1 = n ∧ Off M M1 (fA m) ∧ rS M1 m (up1 S s (mkS (losL (S s) v)))) := by
  refine GM.ofW (by decide) rfl (Nat.le_of_ble_eq_true rfl) rfl ?_
  refine g_iconst (v := nI 0) dX9_lose_0 rfl ?_
  refine g_istore dX9_lose_1 (Nat.le_of_ble_eq_true rfl) ?_
  have hw := losL_wl (hG.ok s).wl v
  have hn := losL_len (S s) v
  have hn2 := (hG.ok s).2.1
  refine l_lose hG.1 hs (hG.2.1 s hs).1 (hG.ok s) hv (fun M1 hO1 hI1 => ?_) ((S s).length + 1) 0 M (by omega) (by omega) Off.rf (by simpa [losL] using hG.2.2.1)
  have hm1 : gMod M1 m := hG.1.off hO1
  refine g_aload_n dX9_lose_74 rfl ?_
  refine g_iload_n dX9_lose_75 rfl ?_
  refine g_callV dX9_lose_76 sX9_made (m_made M1 n m s _ hm1 hs hI1 hw.1 hw.2 (by omega)) cl10 hm1.1 iX9_made vX9_made (iw_28 2 rfl) rfl rfl (Nat.le_of_ble_eq_true rfl) (Nat.le_of_ble_eq_true rfl) (Nat.le_of_ble_eq_true rfl) (Nat.le_of_ble_eq_true rfl) (Nat.le_of_ble_eq_true rfl) ?_
  intro r9 M2 n9 h9
  obtain ⟨h91, h93, hO2, hI2, hS2, hk2⟩ := h9
  rw [h91, h93]
  exact g_vret dX9_lose_79 rfl (Nat.le_of_ble_eq_true rfl) (Nat.le_of_ble_eq_true rfl) ⟨rfl, rfl, hG.up hs ((hO1.mono (fun i k h => Or.inl h)).trans hO2) hI2 hS2 hk2⟩

set_option maxHeartbeats 4000000 in
set_option maxRecDepth 100000 in
theorem p_sh204 {M M1 : gM} {n m q : Nat} {S S1 : Nat → List Sp} (hO : Off M M1 (fA m)) (hG : rS M1 m S1) (eA : S1 344 = (shp q (S 344) (S 345)).1) (eB : S1 345 = (shp q (S 344) (S 345)).2) (hA : agr S S1 (fun t => 344 ≤ t ∧ t ≤ 347)) : GW μX9_sharpen (gRm 5 126 0 0) (gTh (fun r M1 n1 => r = some (.int (bI (decide ((shp q (S 344) (S 345)).1 ≠ [] ∧ (shp q (S 344) (S 345)).2 ≠ [])))) ∧ n1 = n ∧ Off M M1 (fA m) ∧ ∃ S1, rS M1 m S1 ∧ S1 344 = (shp q (S 344) (S 345)).1 ∧ S1 345 = (shp q (S 344) (S 345)).2 ∧ agr S S1 (fun t => 344 ≤ t ∧ t ≤ 347)) 0 0) 0 0 204 [some (.ref m), none, none, none, none] [] M1 n := by
  have z0 : (0 : Int32) = nI 0 := rfl
  have l1 := (hG.ok 344).2.1
  have l2 := (hG.ok 345).2.1
  refine g_aload_n dX9_sharpen_204 rfl ?_
  refine g_getR (f := 1) dX9_sharpen_205 cl10 hG.1.1 (by decide) (Or.inl (iw_5 20 rfl)) (Or.inl rfl) rfl hG.1.r_many ?_
  refine g_sipush (v := nI 344) dX9_sharpen_208 rfl ?_
  refine g_iaload dX9_sharpen_211 (j := 344) hG.1.k_many hG.1.n_many rfl (by omega) (by decide) ?_
  rw [(hG.2.1 344 (by omega)).1.2.1]
  refine g_if_le (tgt := 230) dX9_sharpen_212 (by decide) (fun c_212 => ?_) (fun c_212 => ?_)
  · skip
    try rw [z0, nI_leI (by omega) (by omega)] at c_212
    try rw [z0, nI_leI (by omega) (by omega)] at c_223
    refine g_iconst (v := nI 0) dX9_sharpen_230 rfl ?_
    exact g_iret dX9_sharpen_231 (Or.inr ⟨rfl, by first | exact Or.inl rfl | exact Or.inr rfl⟩) (Nat.le_of_ble_eq_true rfl) (Nat.le_of_ble_eq_true rfl) ⟨by
      rw [← eA, ← eB]
      first
        | (rw [decide_eq_true ⟨fun h => by rw [h] at c_212; exact c_212 (Nat.le_refl _), fun h => by rw [h] at c_223; exact c_223 (Nat.le_refl _)⟩]; rfl)
        | (rw [decide_eq_false (fun h => h.2 (List.eq_nil_of_length_eq_zero (by omega)))]; rfl)
        | (rw [decide_eq_false (fun h => h.1 (List.eq_nil_of_length_eq_zero (by omega)))]; rfl), rfl, hO, S1, hG, eA, eB, hA⟩
  · skip
    rw [z0, nI_leI (by omega) (by omega)] at c_212
    refine g_aload_n dX9_sharpen_215 rfl ?_
    refine g_getR (f := 1) dX9_sharpen_216 cl10 hG.1.1 (by decide) (Or.inl (iw_5 20 rfl)) (Or.inl rfl) rfl hG.1.r_many ?_
    refine g_sipush (v := nI 345) dX9_sharpen_219 rfl ?_
    refine g_iaload dX9_sharpen_222 (j := 345) hG.1.k_many hG.1.n_many rfl (by omega) (by decide) ?_
    rw [(hG.2.1 345 (by omega)).1.2.1]
    refine g_if_le (tgt := 230) dX9_sharpen_223 (by decide) (fun c_223 => ?_) (fun c_223 => ?_)
    · skip
      try rw [z0, nI_leI (by omega) (by omega)] at c_212
      try rw [z0, nI_leI (by omega) (by omega)] at c_223
      refine g_iconst (v := nI 0) dX9_sharpen_230 rfl ?_
      exact g_iret dX9_sharpen_231 (Or.inr ⟨rfl, by first | exact Or.inl rfl | exact Or.inr rfl⟩) (Nat.le_of_ble_eq_true rfl) (Nat.le_of_ble_eq_true rfl) ⟨by
        rw [← eA, ← eB]
        first
          | (rw [decide_eq_true ⟨fun h => by rw [h] at c_212; exact c_212 (Nat.le_refl _), fun h => by rw [h] at c_223; exact c_223 (Nat.le_refl _)⟩]; rfl)
          | (rw [decide_eq_false (fun h => h.2 (List.eq_nil_of_length_eq_zero (by omega)))]; rfl)
          | (rw [decide_eq_false (fun h => h.1 (List.eq_nil_of_length_eq_zero (by omega)))]; rfl), rfl, hO, S1, hG, eA, eB, hA⟩
    · skip
      rw [z0, nI_leI (by omega) (by omega)] at c_223
      refine g_iconst (v := nI 1) dX9_sharpen_226 rfl ?_
      refine g_goto (tgt := 231) dX9_sharpen_227 (by decide) ?_
      exact g_iret dX9_sharpen_231 (Or.inr ⟨rfl, by first | exact Or.inl rfl | exact Or.inr rfl⟩) (Nat.le_of_ble_eq_true rfl) (Nat.le_of_ble_eq_true rfl) ⟨by
        rw [← eA, ← eB]
        first
          | (rw [decide_eq_true ⟨fun h => by rw [h] at c_212; exact c_212 (Nat.le_refl _), fun h => by rw [h] at c_223; exact c_223 (Nat.le_refl _)⟩]; rfl)
          | (rw [decide_eq_false (fun h => h.2 (List.eq_nil_of_length_eq_zero (by omega)))]; rfl)
          | (rw [decide_eq_false (fun h => h.1 (List.eq_nil_of_length_eq_zero (by omega)))]; rfl), rfl, hO, S1, hG, eA, eB, hA⟩

set_option maxHeartbeats 4000000 in
set_option maxRecDepth 100000 in
theorem s_sharpen (M : gM) (n m q : Nat) (S : Nat → List Sp) (hG : rS M m S) (hq : q < 20) (n1 : S 344 ≠ []) (n2 : S 345 ≠ []) : GM μX9_sharpen 5 126 0 0 [.ref m, .int (nI q)] M n (fun r M1 n1 => r = some (.int (bI (decide ((shp q (S 344) (S 345)).1 ≠ [] ∧ (shp q (S 344) (S 345)).2 ≠ [])))) ∧ n1 = n ∧ Off M M1 (fA m) ∧ ∃ S1, rS M1 m S1 ∧ S1 344 = (shp q (S 344) (S 345)).1 ∧ S1 345 = (shp q (S 344) (S 345)).2 ∧ agr S S1 (fun t => 344 ≤ t ∧ t ≤ 347)) := by
  refine GM.ofW (by decide) rfl (Nat.le_of_ble_eq_true rfl) rfl ?_
  have z0 : (0 : Int32) = nI 0 := rfl
  have hy1 := lo1_r (hG.ok 345) n2
  have hx1 := lo1_r (hG.ok 344) n1
  have hy2 := hi1_r (hG.ok 345) n2
  refine g_iload_n dX9_sharpen_0 rfl ?_
  refine g_if_eq (tgt := 9) dX9_sharpen_1 (by decide) (fun c_1 => ?_) (fun c_1 => ?_)
  · skip
    try rw [z0, nI_inj (by omega) (by omega)] at c_1
    try rw [nI_inj (by omega) (by omega)] at c_6
    refine g_aload_n dX9_sharpen_9 rfl ?_
    refine g_sipush (v := nI 344) dX9_sharpen_10 rfl ?_
    refine g_sipush (v := nI 345) dX9_sharpen_13 rfl ?_
    refine g_iload_n dX9_sharpen_16 rfl ?_
    refine g_iconst (v := nI 1) dX9_sharpen_17 rfl ?_
    refine g_icmp_ne (tgt := 25) dX9_sharpen_18 (by decide) (fun c_18 => ?_) (fun c_18 => ?_)
    · skip
      rw [nI_inj (by omega) (by omega)] at c_18
      refine g_iconst (v := nI 0) dX9_sharpen_25 rfl ?_
      first
        | rw [show nI 1 = bI (decide (q = 1)) by rw [decide_eq_true c_18]; rfl]
        | rw [show nI 0 = bI (decide (q = 1)) by rw [decide_eq_false c_18]; rfl]
      refine g_callV dX9_sharpen_26 sX9_below (s_below M n m 344 345 S (decide (q = 1)) hG (by omega) (by omega) (by omega) n1 n2) cl10 hG.1.1 iX9_below vX9_below (iw_28 17 rfl) rfl rfl (Nat.le_of_ble_eq_true rfl) (Nat.le_of_ble_eq_true rfl) (Nat.le_of_ble_eq_true rfl) (Nat.le_of_ble_eq_true rfl) (Nat.le_of_ble_eq_true rfl) ?_
      intro r9 M2 n9 h9
      obtain ⟨h91, h93, hO2, S2, hG2, e1, e2, e3⟩ := h9
      rw [h91, h93]
      clear h91 h93 r9 n9
      refine g_goto (tgt := 204) dX9_sharpen_29 (by decide) ?_
      refine g_msk [true, false, false, false, false] ?_
      try rw [nI_inj (by omega) (by omega)] at c_159
      try rw [jc_lt (by constructor <;> omega) (by constructor <;> omega)] at c_171
      first
        | (simp only [decide_eq_true_eq] at e1 e2
           refine p_sh204 hO2 hG2 ?_ ?_ (fun t ht => e3 t (by omega))
           · unfold shp
             first
               | (rw [if_pos (by omega)]; exact e1)
               | (rw [if_neg (by omega), if_pos (by omega)]; exact e2)
           · unfold shp
             first
               | (rw [if_pos (by omega)]; exact e2)
               | (rw [if_neg (by omega), if_pos (by omega)]; exact e1))
        | (refine p_sh204 (hO2.trans hO3) hG3 ?_ ?_ (fun t ht => by rw [up1_ne _ _ (by omega), up1_ne _ _ (by omega)])
           · unfold shp
             first
               | (rw [if_neg (by omega), if_neg (by omega), if_pos (by omega)]; rfl)
               | (rw [if_neg (by omega), if_neg (by omega), if_neg (by omega), if_pos (by omega)]
                  rw [bI_eq0, Bool.not_eq_false] at c_124
                  rw [c_124]; rfl)
               | (rw [if_neg (by omega), if_neg (by omega), if_neg (by omega), if_neg (by omega), if_pos (by omega)]; rfl)
           · unfold shp
             first
               | (rw [if_neg (by omega), if_neg (by omega), if_pos (by omega)]; rfl)
               | (rw [if_neg (by omega), if_neg (by omega), if_neg (by omega), if_pos (by omega)]
                  rw [bI_eq0, Bool.not_eq_false] at c_142
                  rw [c_142]; rfl)
               | (rw [if_neg (by omega), if_neg (by omega), if_neg (by omega), if_neg (by omega), if_pos (by omega)]; rfl))
        | (have e9 : shp q (S 344) (S 345) = (cutX (S 344) 0 (hi1 (S 345) - 1), S 345) := by
             unfold shp
             rw [if_neg (by omega), if_neg (by omega), if_neg (by omega), if_neg (by omega), if_pos ⟨by omega, by omega⟩]
           refine p_sh204 (hO2.trans hO3) hG3 ?_ ?_ (fun t ht => by rw [up1_ne _ _ (by omega), up1_ne _ _ (by omega)])
           · rw [e9, up1_eq, up1_eq, up1_ne _ _ (by omega)]
             rfl
           · rw [e9, up1_ne _ _ (by omega), up1_ne _ _ (by omega)])
        | (rw [bI_eq0, Bool.not_eq_false] at c_124
           rw [bI_eq0] at c_142
           refine p_sh204 hO2 hG2 ?_ ?_ (fun t ht => by rw [up1_ne _ _ (by omega)])
           · unfold shp
             rw [if_neg (by omega), if_neg (by omega), if_neg (by omega), if_pos (by omega), c_124]; rfl
           · unfold shp
             rw [if_neg (by omega), if_neg (by omega), if_neg (by omega), if_pos (by omega), c_142]; rfl)
        | (rw [bI_eq0] at c_124
           rw [bI_eq0, Bool.not_eq_false] at c_142
           refine p_sh204 hO3 hG3 ?_ ?_ (fun t ht => by rw [up1_ne _ _ (by omega)])
           · unfold shp
             rw [if_neg (by omega), if_neg (by omega), if_neg (by omega), if_pos (by omega), c_124]; rfl
           · unfold shp
             rw [if_neg (by omega), if_neg (by omega), if_neg (by omega), if_pos (by omega), c_142]; rfl)
        | (rw [bI_eq0] at c_124
           rw [bI_eq0] at c_142
           refine p_sh204 Off.rf hG ?_ ?_ (fun t ht => rfl)
           · unfold shp
             rw [if_neg (by omega), if_neg (by omega), if_neg (by omega), if_pos (by omega), c_124]; rfl
           · unfold shp
             rw [if_neg (by omega), if_neg (by omega), if_neg (by omega), if_pos (by omega), c_142]; rfl)
        | (refine p_sh204 Off.rf hG ?_ ?_ (fun t ht => rfl)
           · unfold shp
             rw [if_neg (by omega), if_neg (by omega), if_neg (by omega), if_neg (by omega), if_neg (by omega)]
           · unfold shp
             rw [if_neg (by omega), if_neg (by omega), if_neg (by omega), if_neg (by omega), if_neg (by omega)])
    · skip
      rw [nI_inj (by omega) (by omega)] at c_18
      refine g_iconst (v := nI 1) dX9_sharpen_21 rfl ?_
      refine g_goto (tgt := 26) dX9_sharpen_22 (by decide) ?_
      first
        | rw [show nI 1 = bI (decide (q = 1)) by rw [decide_eq_true c_18]; rfl]
        | rw [show nI 0 = bI (decide (q = 1)) by rw [decide_eq_false c_18]; rfl]
      refine g_callV dX9_sharpen_26 sX9_below (s_below M n m 344 345 S (decide (q = 1)) hG (by omega) (by omega) (by omega) n1 n2) cl10 hG.1.1 iX9_below vX9_below (iw_28 17 rfl) rfl rfl (Nat.le_of_ble_eq_true rfl) (Nat.le_of_ble_eq_true rfl) (Nat.le_of_ble_eq_true rfl) (Nat.le_of_ble_eq_true rfl) (Nat.le_of_ble_eq_true rfl) ?_
      intro r9 M2 n9 h9
      obtain ⟨h91, h93, hO2, S2, hG2, e1, e2, e3⟩ := h9
      rw [h91, h93]
      clear h91 h93 r9 n9
      refine g_goto (tgt := 204) dX9_sharpen_29 (by decide) ?_
      refine g_msk [true, false, false, false, false] ?_
      try rw [nI_inj (by omega) (by omega)] at c_159
      try rw [jc_lt (by constructor <;> omega) (by constructor <;> omega)] at c_171
      first
        | (simp only [decide_eq_true_eq] at e1 e2
           refine p_sh204 hO2 hG2 ?_ ?_ (fun t ht => e3 t (by omega))
           · unfold shp
             first
               | (rw [if_pos (by omega)]; exact e1)
               | (rw [if_neg (by omega), if_pos (by omega)]; exact e2)
           · unfold shp
             first
               | (rw [if_pos (by omega)]; exact e2)
               | (rw [if_neg (by omega), if_pos (by omega)]; exact e1))
        | (refine p_sh204 (hO2.trans hO3) hG3 ?_ ?_ (fun t ht => by rw [up1_ne _ _ (by omega), up1_ne _ _ (by omega)])
           · unfold shp
             first
               | (rw [if_neg (by omega), if_neg (by omega), if_pos (by omega)]; rfl)
               | (rw [if_neg (by omega), if_neg (by omega), if_neg (by omega), if_pos (by omega)]
                  rw [bI_eq0, Bool.not_eq_false] at c_124
                  rw [c_124]; rfl)
               | (rw [if_neg (by omega), if_neg (by omega), if_neg (by omega), if_neg (by omega), if_pos (by omega)]; rfl)
           · unfold shp
             first
               | (rw [if_neg (by omega), if_neg (by omega), if_pos (by omega)]; rfl)
               | (rw [if_neg (by omega), if_neg (by omega), if_neg (by omega), if_pos (by omega)]
                  rw [bI_eq0, Bool.not_eq_false] at c_142
                  rw [c_142]; rfl)
               | (rw [if_neg (by omega), if_neg (by omega), if_neg (by omega), if_neg (by omega), if_pos (by omega)]; rfl))
        | (have e9 : shp q (S 344) (S 345) = (cutX (S 344) 0 (hi1 (S 345) - 1), S 345) := by
             unfold shp
             rw [if_neg (by omega), if_neg (by omega), if_neg (by omega), if_neg (by omega), if_pos ⟨by omega, by omega⟩]
           refine p_sh204 (hO2.trans hO3) hG3 ?_ ?_ (fun t ht => by rw [up1_ne _ _ (by omega), up1_ne _ _ (by omega)])
           · rw [e9, up1_eq, up1_eq, up1_ne _ _ (by omega)]
             rfl
           · rw [e9, up1_ne _ _ (by omega), up1_ne _ _ (by omega)])
        | (rw [bI_eq0, Bool.not_eq_false] at c_124
           rw [bI_eq0] at c_142
           refine p_sh204 hO2 hG2 ?_ ?_ (fun t ht => by rw [up1_ne _ _ (by omega)])
           · unfold shp
             rw [if_neg (by omega), if_neg (by omega), if_neg (by omega), if_pos (by omega), c_124]; rfl
           · unfold shp
             rw [if_neg (by omega), if_neg (by omega), if_neg (by omega), if_pos (by omega), c_142]; rfl)
        | (rw [bI_eq0] at c_124
           rw [bI_eq0, Bool.not_eq_false] at c_142
           refine p_sh204 hO3 hG3 ?_ ?_ (fun t ht => by rw [up1_ne _ _ (by omega)])
           · unfold shp
             rw [if_neg (by omega), if_neg (by omega), if_neg (by omega), if_pos (by omega), c_124]; rfl
           · unfold shp
             rw [if_neg (by omega), if_neg (by omega), if_neg (by omega), if_pos (by omega), c_142]; rfl)
        | (rw [bI_eq0] at c_124
           rw [bI_eq0] at c_142
           refine p_sh204 Off.rf hG ?_ ?_ (fun t ht => rfl)
           · unfold shp
             rw [if_neg (by omega), if_neg (by omega), if_neg (by omega), if_pos (by omega), c_124]; rfl
           · unfold shp
             rw [if_neg (by omega), if_neg (by omega), if_neg (by omega), if_pos (by omega), c_142]; rfl)
        | (refine p_sh204 Off.rf hG ?_ ?_ (fun t ht => rfl)
           · unfold shp
             rw [if_neg (by omega), if_neg (by omega), if_neg (by omega), if_neg (by omega), if_neg (by omega)]
           · unfold shp
             rw [if_neg (by omega), if_neg (by omega), if_neg (by omega), if_neg (by omega), if_neg (by omega)])
  · skip
    rw [z0, nI_inj (by omega) (by omega)] at c_1
    refine g_iload_n dX9_sharpen_4 rfl ?_
    refine g_iconst (v := nI 1) dX9_sharpen_5 rfl ?_
    refine g_icmp_ne (tgt := 32) dX9_sharpen_6 (by decide) (fun c_6 => ?_) (fun c_6 => ?_)
    · skip
      rw [nI_inj (by omega) (by omega)] at c_6
      refine g_iload_n dX9_sharpen_32 rfl ?_
      refine g_iconst (v := nI 4) dX9_sharpen_33 rfl ?_
      refine g_icmp_eq (tgt := 42) dX9_sharpen_34 (by decide) (fun c_34 => ?_) (fun c_34 => ?_)
      · skip
        try rw [nI_inj (by omega) (by omega)] at c_34
        try rw [nI_inj (by omega) (by omega)] at c_39
        refine g_aload_n dX9_sharpen_42 rfl ?_
        refine g_sipush (v := nI 345) dX9_sharpen_43 rfl ?_
        refine g_sipush (v := nI 344) dX9_sharpen_46 rfl ?_
        refine g_iload_n dX9_sharpen_49 rfl ?_
        refine g_iconst (v := nI 4) dX9_sharpen_50 rfl ?_
        refine g_icmp_ne (tgt := 58) dX9_sharpen_51 (by decide) (fun c_51 => ?_) (fun c_51 => ?_)
        · skip
          rw [nI_inj (by omega) (by omega)] at c_51
          refine g_iconst (v := nI 0) dX9_sharpen_58 rfl ?_
          first
            | rw [show nI 1 = bI (decide (q = 4)) by rw [decide_eq_true c_51]; rfl]
            | rw [show nI 0 = bI (decide (q = 4)) by rw [decide_eq_false c_51]; rfl]
          refine g_callV dX9_sharpen_59 sX9_below (s_below M n m 345 344 S (decide (q = 4)) hG (by omega) (by omega) (by omega) n2 n1) cl10 hG.1.1 iX9_below vX9_below (iw_28 17 rfl) rfl rfl (Nat.le_of_ble_eq_true rfl) (Nat.le_of_ble_eq_true rfl) (Nat.le_of_ble_eq_true rfl) (Nat.le_of_ble_eq_true rfl) (Nat.le_of_ble_eq_true rfl) ?_
          intro r9 M2 n9 h9
          obtain ⟨h91, h93, hO2, S2, hG2, e1, e2, e3⟩ := h9
          rw [h91, h93]
          clear h91 h93 r9 n9
          refine g_goto (tgt := 204) dX9_sharpen_62 (by decide) ?_
          refine g_msk [true, false, false, false, false] ?_
          try rw [nI_inj (by omega) (by omega)] at c_159
          try rw [jc_lt (by constructor <;> omega) (by constructor <;> omega)] at c_171
          first
            | (simp only [decide_eq_true_eq] at e1 e2
               refine p_sh204 hO2 hG2 ?_ ?_ (fun t ht => e3 t (by omega))
               · unfold shp
                 first
                   | (rw [if_pos (by omega)]; exact e1)
                   | (rw [if_neg (by omega), if_pos (by omega)]; exact e2)
               · unfold shp
                 first
                   | (rw [if_pos (by omega)]; exact e2)
                   | (rw [if_neg (by omega), if_pos (by omega)]; exact e1))
            | (refine p_sh204 (hO2.trans hO3) hG3 ?_ ?_ (fun t ht => by rw [up1_ne _ _ (by omega), up1_ne _ _ (by omega)])
               · unfold shp
                 first
                   | (rw [if_neg (by omega), if_neg (by omega), if_pos (by omega)]; rfl)
                   | (rw [if_neg (by omega), if_neg (by omega), if_neg (by omega), if_pos (by omega)]
                      rw [bI_eq0, Bool.not_eq_false] at c_124
                      rw [c_124]; rfl)
                   | (rw [if_neg (by omega), if_neg (by omega), if_neg (by omega), if_neg (by omega), if_pos (by omega)]; rfl)
               · unfold shp
                 first
                   | (rw [if_neg (by omega), if_neg (by omega), if_pos (by omega)]; rfl)
                   | (rw [if_neg (by omega), if_neg (by omega), if_neg (by omega), if_pos (by omega)]
                      rw [bI_eq0, Bool.not_eq_false] at c_142
                      rw [c_142]; rfl)
                   | (rw [if_neg (by omega), if_neg (by omega), if_neg (by omega), if_neg (by omega), if_pos (by omega)]; rfl))
            | (have e9 : shp q (S 344) (S 345) = (cutX (S 344) 0 (hi1 (S 345) - 1), S 345) := by
                 unfold shp
                 rw [if_neg (by omega), if_neg (by omega), if_neg (by omega), if_neg (by omega), if_pos ⟨by omega, by omega⟩]
               refine p_sh204 (hO2.trans hO3) hG3 ?_ ?_ (fun t ht => by rw [up1_ne _ _ (by omega), up1_ne _ _ (by omega)])
               · rw [e9, up1_eq, up1_eq, up1_ne _ _ (by omega)]
                 rfl
               · rw [e9, up1_ne _ _ (by omega), up1_ne _ _ (by omega)])
            | (rw [bI_eq0, Bool.not_eq_false] at c_124
               rw [bI_eq0] at c_142
               refine p_sh204 hO2 hG2 ?_ ?_ (fun t ht => by rw [up1_ne _ _ (by omega)])
               · unfold shp
                 rw [if_neg (by omega), if_neg (by omega), if_neg (by omega), if_pos (by omega), c_124]; rfl
               · unfold shp
                 rw [if_neg (by omega), if_neg (by omega), if_neg (by omega), if_pos (by omega), c_142]; rfl)
            | (rw [bI_eq0] at c_124
               rw [bI_eq0, Bool.not_eq_false] at c_142
               refine p_sh204 hO3 hG3 ?_ ?_ (fun t ht => by rw [up1_ne _ _ (by omega)])
               · unfold shp
                 rw [if_neg (by omega), if_neg (by omega), if_neg (by omega), if_pos (by omega), c_124]; rfl
               · unfold shp
                 rw [if_neg (by omega), if_neg (by omega), if_neg (by omega), if_pos (by omega), c_142]; rfl)
            | (rw [bI_eq0] at c_124
               rw [bI_eq0] at c_142
               refine p_sh204 Off.rf hG ?_ ?_ (fun t ht => rfl)
               · unfold shp
                 rw [if_neg (by omega), if_neg (by omega), if_neg (by omega), if_pos (by omega), c_124]; rfl
               · unfold shp
                 rw [if_neg (by omega), if_neg (by omega), if_neg (by omega), if_pos (by omega), c_142]; rfl)
            | (refine p_sh204 Off.rf hG ?_ ?_ (fun t ht => rfl)
               · unfold shp
                 rw [if_neg (by omega), if_neg (by omega), if_neg (by omega), if_neg (by omega), if_neg (by omega)]
               · unfold shp
                 rw [if_neg (by omega), if_neg (by omega), if_neg (by omega), if_neg (by omega), if_neg (by omega)])
        · skip
          rw [nI_inj (by omega) (by omega)] at c_51
          refine g_iconst (v := nI 1) dX9_sharpen_54 rfl ?_
          refine g_goto (tgt := 59) dX9_sharpen_55 (by decide) ?_
          first
            | rw [show nI 1 = bI (decide (q = 4)) by rw [decide_eq_true c_51]; rfl]
            | rw [show nI 0 = bI (decide (q = 4)) by rw [decide_eq_false c_51]; rfl]
          refine g_callV dX9_sharpen_59 sX9_below (s_below M n m 345 344 S (decide (q = 4)) hG (by omega) (by omega) (by omega) n2 n1) cl10 hG.1.1 iX9_below vX9_below (iw_28 17 rfl) rfl rfl (Nat.le_of_ble_eq_true rfl) (Nat.le_of_ble_eq_true rfl) (Nat.le_of_ble_eq_true rfl) (Nat.le_of_ble_eq_true rfl) (Nat.le_of_ble_eq_true rfl) ?_
          intro r9 M2 n9 h9
          obtain ⟨h91, h93, hO2, S2, hG2, e1, e2, e3⟩ := h9
          rw [h91, h93]
          clear h91 h93 r9 n9
          refine g_goto (tgt := 204) dX9_sharpen_62 (by decide) ?_
          refine g_msk [true, false, false, false, false] ?_
          try rw [nI_inj (by omega) (by omega)] at c_159
          try rw [jc_lt (by constructor <;> omega) (by constructor <;> omega)] at c_171
          first
            | (simp only [decide_eq_true_eq] at e1 e2
               refine p_sh204 hO2 hG2 ?_ ?_ (fun t ht => e3 t (by omega))
               · unfold shp
                 first
                   | (rw [if_pos (by omega)]; exact e1)
                   | (rw [if_neg (by omega), if_pos (by omega)]; exact e2)
               · unfold shp
                 first
                   | (rw [if_pos (by omega)]; exact e2)
                   | (rw [if_neg (by omega), if_pos (by omega)]; exact e1))
            | (refine p_sh204 (hO2.trans hO3) hG3 ?_ ?_ (fun t ht => by rw [up1_ne _ _ (by omega), up1_ne _ _ (by omega)])
               · unfold shp
                 first
                   | (rw [if_neg (by omega), if_neg (by omega), if_pos (by omega)]; rfl)
                   | (rw [if_neg (by omega), if_neg (by omega), if_neg (by omega), if_pos (by omega)]
                      rw [bI_eq0, Bool.not_eq_false] at c_124
                      rw [c_124]; rfl)
                   | (rw [if_neg (by omega), if_neg (by omega), if_neg (by omega), if_neg (by omega), if_pos (by omega)]; rfl)
               · unfold shp
                 first
                   | (rw [if_neg (by omega), if_neg (by omega), if_pos (by omega)]; rfl)
                   | (rw [if_neg (by omega), if_neg (by omega), if_neg (by omega), if_pos (by omega)]
                      rw [bI_eq0, Bool.not_eq_false] at c_142
                      rw [c_142]; rfl)
                   | (rw [if_neg (by omega), if_neg (by omega), if_neg (by omega), if_neg (by omega), if_pos (by omega)]; rfl))
            | (have e9 : shp q (S 344) (S 345) = (cutX (S 344) 0 (hi1 (S 345) - 1), S 345) := by
                 unfold shp
                 rw [if_neg (by omega), if_neg (by omega), if_neg (by omega), if_neg (by omega), if_pos ⟨by omega, by omega⟩]
               refine p_sh204 (hO2.trans hO3) hG3 ?_ ?_ (fun t ht => by rw [up1_ne _ _ (by omega), up1_ne _ _ (by omega)])
               · rw [e9, up1_eq, up1_eq, up1_ne _ _ (by omega)]
                 rfl
               · rw [e9, up1_ne _ _ (by omega), up1_ne _ _ (by omega)])
            | (rw [bI_eq0, Bool.not_eq_false] at c_124
               rw [bI_eq0] at c_142
               refine p_sh204 hO2 hG2 ?_ ?_ (fun t ht => by rw [up1_ne _ _ (by omega)])
               · unfold shp
                 rw [if_neg (by omega), if_neg (by omega), if_neg (by omega), if_pos (by omega), c_124]; rfl
               · unfold shp
                 rw [if_neg (by omega), if_neg (by omega), if_neg (by omega), if_pos (by omega), c_142]; rfl)
            | (rw [bI_eq0] at c_124
               rw [bI_eq0, Bool.not_eq_false] at c_142
               refine p_sh204 hO3 hG3 ?_ ?_ (fun t ht => by rw [up1_ne _ _ (by omega)])
               · unfold shp
                 rw [if_neg (by omega), if_neg (by omega), if_neg (by omega), if_pos (by omega), c_124]; rfl
               · unfold shp
                 rw [if_neg (by omega), if_neg (by omega), if_neg (by omega), if_pos (by omega), c_142]; rfl)
            | (rw [bI_eq0] at c_124
               rw [bI_eq0] at c_142
               refine p_sh204 Off.rf hG ?_ ?_ (fun t ht => rfl)
               · unfold shp
                 rw [if_neg (by omega), if_neg (by omega), if_neg (by omega), if_pos (by omega), c_124]; rfl
               · unfold shp
                 rw [if_neg (by omega), if_neg (by omega), if_neg (by omega), if_pos (by omega), c_142]; rfl)
            | (refine p_sh204 Off.rf hG ?_ ?_ (fun t ht => rfl)
               · unfold shp
                 rw [if_neg (by omega), if_neg (by omega), if_neg (by omega), if_neg (by omega), if_neg (by omega)]
               · unfold shp
                 rw [if_neg (by omega), if_neg (by omega), if_neg (by omega), if_neg (by omega), if_neg (by omega)])
      · skip
        rw [nI_inj (by omega) (by omega)] at c_34
        refine g_iload_n dX9_sharpen_37 rfl ?_
        refine g_iconst (v := nI 5) dX9_sharpen_38 rfl ?_
        refine g_icmp_ne (tgt := 65) dX9_sharpen_39 (by decide) (fun c_39 => ?_) (fun c_39 => ?_)
        · skip
          rw [nI_inj (by omega) (by omega)] at c_39
          refine g_iload_n dX9_sharpen_65 rfl ?_
          refine g_iconst (v := nI 2) dX9_sharpen_66 rfl ?_
          refine g_icmp_ne (tgt := 96) dX9_sharpen_67 (by decide) (fun c_67 => ?_) (fun c_67 => ?_)
          · skip
            rw [nI_inj (by omega) (by omega)] at c_67
            refine g_iload_n dX9_sharpen_96 rfl ?_
            refine g_iconst (v := nI 3) dX9_sharpen_97 rfl ?_
            refine g_icmp_ne (tgt := 156) dX9_sharpen_98 (by decide) (fun c_98 => ?_) (fun c_98 => ?_)
            · skip
              rw [nI_inj (by omega) (by omega)] at c_98
              refine g_iload_n dX9_sharpen_156 rfl ?_
              refine g_bipush (v := nI 6) dX9_sharpen_157 rfl ?_
              refine g_icmp_ne (tgt := 204) dX9_sharpen_159 (by decide) (fun c_159 => ?_) (fun c_159 => ?_)
              · skip
                refine g_msk [true, false, false, false, false] ?_
                try rw [nI_inj (by omega) (by omega)] at c_159
                try rw [jc_lt (by constructor <;> omega) (by constructor <;> omega)] at c_171
                first
                  | (simp only [decide_eq_true_eq] at e1 e2
                     refine p_sh204 hO2 hG2 ?_ ?_ (fun t ht => e3 t (by omega))
                     · unfold shp
                       first
                         | (rw [if_pos (by omega)]; exact e1)
                         | (rw [if_neg (by omega), if_pos (by omega)]; exact e2)
                     · unfold shp
                       first
                         | (rw [if_pos (by omega)]; exact e2)
                         | (rw [if_neg (by omega), if_pos (by omega)]; exact e1))
                  | (refine p_sh204 (hO2.trans hO3) hG3 ?_ ?_ (fun t ht => by rw [up1_ne _ _ (by omega), up1_ne _ _ (by omega)])
                     · unfold shp
                       first
                         | (rw [if_neg (by omega), if_neg (by omega), if_pos (by omega)]; rfl)
                         | (rw [if_neg (by omega), if_neg (by omega), if_neg (by omega), if_pos (by omega)]
                            rw [bI_eq0, Bool.not_eq_false] at c_124
                            rw [c_124]; rfl)
                         | (rw [if_neg (by omega), if_neg (by omega), if_neg (by omega), if_neg (by omega), if_pos (by omega)]; rfl)
                     · unfold shp
                       first
                         | (rw [if_neg (by omega), if_neg (by omega), if_pos (by omega)]; rfl)
                         | (rw [if_neg (by omega), if_neg (by omega), if_neg (by omega), if_pos (by omega)]
                            rw [bI_eq0, Bool.not_eq_false] at c_142
                            rw [c_142]; rfl)
                         | (rw [if_neg (by omega), if_neg (by omega), if_neg (by omega), if_neg (by omega), if_pos (by omega)]; rfl))
                  | (have e9 : shp q (S 344) (S 345) = (cutX (S 344) 0 (hi1 (S 345) - 1), S 345) := by
                       unfold shp
                       rw [if_neg (by omega), if_neg (by omega), if_neg (by omega), if_neg (by omega), if_pos ⟨by omega, by omega⟩]
                     refine p_sh204 (hO2.trans hO3) hG3 ?_ ?_ (fun t ht => by rw [up1_ne _ _ (by omega), up1_ne _ _ (by omega)])
                     · rw [e9, up1_eq, up1_eq, up1_ne _ _ (by omega)]
                       rfl
                     · rw [e9, up1_ne _ _ (by omega), up1_ne _ _ (by omega)])
                  | (rw [bI_eq0, Bool.not_eq_false] at c_124
                     rw [bI_eq0] at c_142
                     refine p_sh204 hO2 hG2 ?_ ?_ (fun t ht => by rw [up1_ne _ _ (by omega)])
                     · unfold shp
                       rw [if_neg (by omega), if_neg (by omega), if_neg (by omega), if_pos (by omega), c_124]; rfl
                     · unfold shp
                       rw [if_neg (by omega), if_neg (by omega), if_neg (by omega), if_pos (by omega), c_142]; rfl)
                  | (rw [bI_eq0] at c_124
                     rw [bI_eq0, Bool.not_eq_false] at c_142
                     refine p_sh204 hO3 hG3 ?_ ?_ (fun t ht => by rw [up1_ne _ _ (by omega)])
                     · unfold shp
                       rw [if_neg (by omega), if_neg (by omega), if_neg (by omega), if_pos (by omega), c_124]; rfl
                     · unfold shp
                       rw [if_neg (by omega), if_neg (by omega), if_neg (by omega), if_pos (by omega), c_142]; rfl)
                  | (rw [bI_eq0] at c_124
                     rw [bI_eq0] at c_142
                     refine p_sh204 Off.rf hG ?_ ?_ (fun t ht => rfl)
                     · unfold shp
                       rw [if_neg (by omega), if_neg (by omega), if_neg (by omega), if_pos (by omega), c_124]; rfl
                     · unfold shp
                       rw [if_neg (by omega), if_neg (by omega), if_neg (by omega), if_pos (by omega), c_142]; rfl)
                  | (refine p_sh204 Off.rf hG ?_ ?_ (fun t ht => rfl)
                     · unfold shp
                       rw [if_neg (by omega), if_neg (by omega), if_neg (by omega), if_neg (by omega), if_neg (by omega)]
                     · unfold shp
                       rw [if_neg (by omega), if_neg (by omega), if_neg (by omega), if_neg (by omega), if_neg (by omega)])
              · skip
                rw [nI_inj (by omega) (by omega)] at c_159
                refine g_aload_n dX9_sharpen_162 rfl ?_
                refine g_sipush (v := nI 345) dX9_sharpen_163 rfl ?_
                refine g_callV dX9_sharpen_166 sX9_least (s_least M n m 345 S hG (by omega) n2) cl10 hG.1.1 iX9_least vX9_least (iw_29 1 rfl) rfl rfl (Nat.le_of_ble_eq_true rfl) (Nat.le_of_ble_eq_true rfl) (Nat.le_of_ble_eq_true rfl) (Nat.le_of_ble_eq_true rfl) (Nat.le_of_ble_eq_true rfl) ?_
                intro r9 M9 n9 h9
                obtain ⟨h91, h92, h93⟩ := h9
                rw [h91, h92, h93]
                clear h91 h92 h93 r9 M9 n9
                refine g_lconst (v := jI 0) dX9_sharpen_169 rfl ?_
                refine g_lcmp dX9_sharpen_170 ?_
                refine g_if_lt (tgt := 204) dX9_sharpen_171 (by decide) (fun c_171 => ?_) (fun c_171 => ?_)
                · skip
                  refine g_msk [true, false, false, false, false] ?_
                  try rw [nI_inj (by omega) (by omega)] at c_159
                  try rw [jc_lt (by constructor <;> omega) (by constructor <;> omega)] at c_171
                  first
                    | (simp only [decide_eq_true_eq] at e1 e2
                       refine p_sh204 hO2 hG2 ?_ ?_ (fun t ht => e3 t (by omega))
                       · unfold shp
                         first
                           | (rw [if_pos (by omega)]; exact e1)
                           | (rw [if_neg (by omega), if_pos (by omega)]; exact e2)
                       · unfold shp
                         first
                           | (rw [if_pos (by omega)]; exact e2)
                           | (rw [if_neg (by omega), if_pos (by omega)]; exact e1))
                    | (refine p_sh204 (hO2.trans hO3) hG3 ?_ ?_ (fun t ht => by rw [up1_ne _ _ (by omega), up1_ne _ _ (by omega)])
                       · unfold shp
                         first
                           | (rw [if_neg (by omega), if_neg (by omega), if_pos (by omega)]; rfl)
                           | (rw [if_neg (by omega), if_neg (by omega), if_neg (by omega), if_pos (by omega)]
                              rw [bI_eq0, Bool.not_eq_false] at c_124
                              rw [c_124]; rfl)
                           | (rw [if_neg (by omega), if_neg (by omega), if_neg (by omega), if_neg (by omega), if_pos (by omega)]; rfl)
                       · unfold shp
                         first
                           | (rw [if_neg (by omega), if_neg (by omega), if_pos (by omega)]; rfl)
                           | (rw [if_neg (by omega), if_neg (by omega), if_neg (by omega), if_pos (by omega)]
                              rw [bI_eq0, Bool.not_eq_false] at c_142
                              rw [c_142]; rfl)
                           | (rw [if_neg (by omega), if_neg (by omega), if_neg (by omega), if_neg (by omega), if_pos (by omega)]; rfl))
                    | (have e9 : shp q (S 344) (S 345) = (cutX (S 344) 0 (hi1 (S 345) - 1), S 345) := by
                         unfold shp
                         rw [if_neg (by omega), if_neg (by omega), if_neg (by omega), if_neg (by omega), if_pos ⟨by omega, by omega⟩]
                       refine p_sh204 (hO2.trans hO3) hG3 ?_ ?_ (fun t ht => by rw [up1_ne _ _ (by omega), up1_ne _ _ (by omega)])
                       · rw [e9, up1_eq, up1_eq, up1_ne _ _ (by omega)]
                         rfl
                       · rw [e9, up1_ne _ _ (by omega), up1_ne _ _ (by omega)])
                    | (rw [bI_eq0, Bool.not_eq_false] at c_124
                       rw [bI_eq0] at c_142
                       refine p_sh204 hO2 hG2 ?_ ?_ (fun t ht => by rw [up1_ne _ _ (by omega)])
                       · unfold shp
                         rw [if_neg (by omega), if_neg (by omega), if_neg (by omega), if_pos (by omega), c_124]; rfl
                       · unfold shp
                         rw [if_neg (by omega), if_neg (by omega), if_neg (by omega), if_pos (by omega), c_142]; rfl)
                    | (rw [bI_eq0] at c_124
                       rw [bI_eq0, Bool.not_eq_false] at c_142
                       refine p_sh204 hO3 hG3 ?_ ?_ (fun t ht => by rw [up1_ne _ _ (by omega)])
                       · unfold shp
                         rw [if_neg (by omega), if_neg (by omega), if_neg (by omega), if_pos (by omega), c_124]; rfl
                       · unfold shp
                         rw [if_neg (by omega), if_neg (by omega), if_neg (by omega), if_pos (by omega), c_142]; rfl)
                    | (rw [bI_eq0] at c_124
                       rw [bI_eq0] at c_142
                       refine p_sh204 Off.rf hG ?_ ?_ (fun t ht => rfl)
                       · unfold shp
                         rw [if_neg (by omega), if_neg (by omega), if_neg (by omega), if_pos (by omega), c_124]; rfl
                       · unfold shp
                         rw [if_neg (by omega), if_neg (by omega), if_neg (by omega), if_pos (by omega), c_142]; rfl)
                    | (refine p_sh204 Off.rf hG ?_ ?_ (fun t ht => rfl)
                       · unfold shp
                         rw [if_neg (by omega), if_neg (by omega), if_neg (by omega), if_neg (by omega), if_neg (by omega)]
                       · unfold shp
                         rw [if_neg (by omega), if_neg (by omega), if_neg (by omega), if_neg (by omega), if_neg (by omega)])
                · skip
                  rw [jc_lt (by constructor <;> omega) (by constructor <;> omega)] at c_171
                  refine g_aload_n dX9_sharpen_174 rfl ?_
                  refine g_sipush (v := nI 347) dX9_sharpen_175 rfl ?_
                  refine g_lconst (v := jI 0) dX9_sharpen_178 rfl ?_
                  refine g_aload_n dX9_sharpen_179 rfl ?_
                  refine g_sipush (v := nI 345) dX9_sharpen_180 rfl ?_
                  refine g_callV dX9_sharpen_183 sX9_most (s_most M n m 345 S hG (by omega) n2) cl10 hG.1.1 iX9_most vX9_most (iw_28 21 rfl) rfl rfl (Nat.le_of_ble_eq_true rfl) (Nat.le_of_ble_eq_true rfl) (Nat.le_of_ble_eq_true rfl) (Nat.le_of_ble_eq_true rfl) (Nat.le_of_ble_eq_true rfl) ?_
                  intro r9 M9 n9 h9
                  obtain ⟨h91, h92, h93⟩ := h9
                  rw [h91, h92, h93]
                  clear h91 h92 h93 r9 M9 n9
                  refine g_lconst (v := jI 1) dX9_sharpen_186 rfl ?_
                  rw [show jI (hi1 (S 345)) = jI (hi1 (S 345)) from rfl]
                  refine g_lsub dX9_sharpen_187 ?_
                  rw [jI_sub]
                  refine g_callV dX9_sharpen_188 sX9_one (s_one M n m 347 S 0 (hi1 (S 345) - 1) hG (by omega) (by constructor <;> omega) (by constructor <;> omega) (fun h => ⟨by constructor <;> omega, by constructor <;> omega⟩)) cl10 hG.1.1 iX9_one vX9_one (iw_6 9 rfl) rfl rfl (Nat.le_of_ble_eq_true rfl) (Nat.le_of_ble_eq_true rfl) (Nat.le_of_ble_eq_true rfl) (Nat.le_of_ble_eq_true rfl) (Nat.le_of_ble_eq_true rfl) ?_
                  intro r9 M2 n9 h9
                  obtain ⟨h91, h93, hO2, hG2⟩ := h9
                  rw [h91, h93]
                  clear h91 h93 r9 n9
                  refine g_aload_n dX9_sharpen_191 rfl ?_
                  refine g_sipush (v := nI 344) dX9_sharpen_192 rfl ?_
                  refine g_sipush (v := nI 344) dX9_sharpen_195 rfl ?_
                  refine g_sipush (v := nI 347) dX9_sharpen_198 rfl ?_
                  refine g_callV dX9_sharpen_201 sX9_common (s_common M2 n m 344 344 347 _ hG2 (by omega) (by omega) (by omega)) cl10 hG2.1.1 iX9_common vX9_common (iw_29 5 rfl) rfl rfl (Nat.le_of_ble_eq_true rfl) (Nat.le_of_ble_eq_true rfl) (Nat.le_of_ble_eq_true rfl) (Nat.le_of_ble_eq_true rfl) (Nat.le_of_ble_eq_true rfl) ?_
                  intro r9 M3 n9 h9
                  obtain ⟨h91, h93, hO3, hG3⟩ := h9
                  rw [h91, h93]
                  clear h91 h93 r9 n9
                  refine g_msk [true, false, false, false, false] ?_
                  try rw [nI_inj (by omega) (by omega)] at c_159
                  try rw [jc_lt (by constructor <;> omega) (by constructor <;> omega)] at c_171
                  first
                    | (simp only [decide_eq_true_eq] at e1 e2
                       refine p_sh204 hO2 hG2 ?_ ?_ (fun t ht => e3 t (by omega))
                       · unfold shp
                         first
                           | (rw [if_pos (by omega)]; exact e1)
                           | (rw [if_neg (by omega), if_pos (by omega)]; exact e2)
                       · unfold shp
                         first
                           | (rw [if_pos (by omega)]; exact e2)
                           | (rw [if_neg (by omega), if_pos (by omega)]; exact e1))
                    | (refine p_sh204 (hO2.trans hO3) hG3 ?_ ?_ (fun t ht => by rw [up1_ne _ _ (by omega), up1_ne _ _ (by omega)])
                       · unfold shp
                         first
                           | (rw [if_neg (by omega), if_neg (by omega), if_pos (by omega)]; rfl)
                           | (rw [if_neg (by omega), if_neg (by omega), if_neg (by omega), if_pos (by omega)]
                              rw [bI_eq0, Bool.not_eq_false] at c_124
                              rw [c_124]; rfl)
                           | (rw [if_neg (by omega), if_neg (by omega), if_neg (by omega), if_neg (by omega), if_pos (by omega)]; rfl)
                       · unfold shp
                         first
                           | (rw [if_neg (by omega), if_neg (by omega), if_pos (by omega)]; rfl)
                           | (rw [if_neg (by omega), if_neg (by omega), if_neg (by omega), if_pos (by omega)]
                              rw [bI_eq0, Bool.not_eq_false] at c_142
                              rw [c_142]; rfl)
                           | (rw [if_neg (by omega), if_neg (by omega), if_neg (by omega), if_neg (by omega), if_pos (by omega)]; rfl))
                    | (have e9 : shp q (S 344) (S 345) = (cutX (S 344) 0 (hi1 (S 345) - 1), S 345) := by
                         unfold shp
                         rw [if_neg (by omega), if_neg (by omega), if_neg (by omega), if_neg (by omega), if_pos ⟨by omega, by omega⟩]
                       refine p_sh204 (hO2.trans hO3) hG3 ?_ ?_ (fun t ht => by rw [up1_ne _ _ (by omega), up1_ne _ _ (by omega)])
                       · rw [e9, up1_eq, up1_eq, up1_ne _ _ (by omega)]
                         rfl
                       · rw [e9, up1_ne _ _ (by omega), up1_ne _ _ (by omega)])
                    | (rw [bI_eq0, Bool.not_eq_false] at c_124
                       rw [bI_eq0] at c_142
                       refine p_sh204 hO2 hG2 ?_ ?_ (fun t ht => by rw [up1_ne _ _ (by omega)])
                       · unfold shp
                         rw [if_neg (by omega), if_neg (by omega), if_neg (by omega), if_pos (by omega), c_124]; rfl
                       · unfold shp
                         rw [if_neg (by omega), if_neg (by omega), if_neg (by omega), if_pos (by omega), c_142]; rfl)
                    | (rw [bI_eq0] at c_124
                       rw [bI_eq0, Bool.not_eq_false] at c_142
                       refine p_sh204 hO3 hG3 ?_ ?_ (fun t ht => by rw [up1_ne _ _ (by omega)])
                       · unfold shp
                         rw [if_neg (by omega), if_neg (by omega), if_neg (by omega), if_pos (by omega), c_124]; rfl
                       · unfold shp
                         rw [if_neg (by omega), if_neg (by omega), if_neg (by omega), if_pos (by omega), c_142]; rfl)
                    | (rw [bI_eq0] at c_124
                       rw [bI_eq0] at c_142
                       refine p_sh204 Off.rf hG ?_ ?_ (fun t ht => rfl)
                       · unfold shp
                         rw [if_neg (by omega), if_neg (by omega), if_neg (by omega), if_pos (by omega), c_124]; rfl
                       · unfold shp
                         rw [if_neg (by omega), if_neg (by omega), if_neg (by omega), if_pos (by omega), c_142]; rfl)
                    | (refine p_sh204 Off.rf hG ?_ ?_ (fun t ht => rfl)
                       · unfold shp
                         rw [if_neg (by omega), if_neg (by omega), if_neg (by omega), if_neg (by omega), if_neg (by omega)]
                       · unfold shp
                         rw [if_neg (by omega), if_neg (by omega), if_neg (by omega), if_neg (by omega), if_neg (by omega)])
            · skip
              rw [nI_inj (by omega) (by omega)] at c_98
              refine g_aload_n dX9_sharpen_101 rfl ?_
              refine g_sipush (v := nI 344) dX9_sharpen_102 rfl ?_
              refine g_callV dX9_sharpen_105 sX9_isAlone (s_alone M n m 344 S hG (by omega)) cl10 hG.1.1 iX9_isAlone vX9_isAlone (iw_29 9 rfl) rfl rfl (Nat.le_of_ble_eq_true rfl) (Nat.le_of_ble_eq_true rfl) (Nat.le_of_ble_eq_true rfl) (Nat.le_of_ble_eq_true rfl) (Nat.le_of_ble_eq_true rfl) ?_
              intro r9 M9 n9 h9
              obtain ⟨h91, h92, h93⟩ := h9
              rw [h91, h92, h93]
              clear h91 h92 h93 r9 M9 n9
              refine g_istore_n dX9_sharpen_108 (Nat.le_of_ble_eq_true rfl) ?_
              refine g_aload_n dX9_sharpen_109 rfl ?_
              refine g_sipush (v := nI 344) dX9_sharpen_110 rfl ?_
              refine g_callV dX9_sharpen_113 sX9_least (s_least M n m 344 S hG (by omega) n1) cl10 hG.1.1 iX9_least vX9_least (iw_29 1 rfl) rfl rfl (Nat.le_of_ble_eq_true rfl) (Nat.le_of_ble_eq_true rfl) (Nat.le_of_ble_eq_true rfl) (Nat.le_of_ble_eq_true rfl) (Nat.le_of_ble_eq_true rfl) ?_
              intro r9 M9 n9 h9
              obtain ⟨h91, h92, h93⟩ := h9
              rw [h91, h92, h93]
              clear h91 h92 h93 r9 M9 n9
              refine g_lstore_n dX9_sharpen_116 (Nat.le_of_ble_eq_true rfl) ?_
              refine g_aload_n dX9_sharpen_117 rfl ?_
              refine g_sipush (v := nI 345) dX9_sharpen_118 rfl ?_
              refine g_callV dX9_sharpen_121 sX9_isAlone (s_alone M n m 345 S hG (by omega)) cl10 hG.1.1 iX9_isAlone vX9_isAlone (iw_29 9 rfl) rfl rfl (Nat.le_of_ble_eq_true rfl) (Nat.le_of_ble_eq_true rfl) (Nat.le_of_ble_eq_true rfl) (Nat.le_of_ble_eq_true rfl) (Nat.le_of_ble_eq_true rfl) ?_
              intro r9 M9 n9 h9
              obtain ⟨h91, h92, h93⟩ := h9
              rw [h91, h92, h93]
              clear h91 h92 h93 r9 M9 n9
              refine g_if_eq (tgt := 141) dX9_sharpen_124 (by decide) (fun c_124 => ?_) (fun c_124 => ?_)
              · skip
                refine g_iload_n dX9_sharpen_141 rfl ?_
                refine g_if_eq (tgt := 153) dX9_sharpen_142 (by decide) (fun c_142 => ?_) (fun c_142 => ?_)
                · skip
                  refine g_goto (tgt := 204) dX9_sharpen_153 (by decide) ?_
                  refine g_msk [true, false, false, false, false] ?_
                  try rw [nI_inj (by omega) (by omega)] at c_159
                  try rw [jc_lt (by constructor <;> omega) (by constructor <;> omega)] at c_171
                  first
                    | (simp only [decide_eq_true_eq] at e1 e2
                       refine p_sh204 hO2 hG2 ?_ ?_ (fun t ht => e3 t (by omega))
                       · unfold shp
                         first
                           | (rw [if_pos (by omega)]; exact e1)
                           | (rw [if_neg (by omega), if_pos (by omega)]; exact e2)
                       · unfold shp
                         first
                           | (rw [if_pos (by omega)]; exact e2)
                           | (rw [if_neg (by omega), if_pos (by omega)]; exact e1))
                    | (refine p_sh204 (hO2.trans hO3) hG3 ?_ ?_ (fun t ht => by rw [up1_ne _ _ (by omega), up1_ne _ _ (by omega)])
                       · unfold shp
                         first
                           | (rw [if_neg (by omega), if_neg (by omega), if_pos (by omega)]; rfl)
                           | (rw [if_neg (by omega), if_neg (by omega), if_neg (by omega), if_pos (by omega)]
                              rw [bI_eq0, Bool.not_eq_false] at c_124
                              rw [c_124]; rfl)
                           | (rw [if_neg (by omega), if_neg (by omega), if_neg (by omega), if_neg (by omega), if_pos (by omega)]; rfl)
                       · unfold shp
                         first
                           | (rw [if_neg (by omega), if_neg (by omega), if_pos (by omega)]; rfl)
                           | (rw [if_neg (by omega), if_neg (by omega), if_neg (by omega), if_pos (by omega)]
                              rw [bI_eq0, Bool.not_eq_false] at c_142
                              rw [c_142]; rfl)
                           | (rw [if_neg (by omega), if_neg (by omega), if_neg (by omega), if_neg (by omega), if_pos (by omega)]; rfl))
                    | (have e9 : shp q (S 344) (S 345) = (cutX (S 344) 0 (hi1 (S 345) - 1), S 345) := by
                         unfold shp
                         rw [if_neg (by omega), if_neg (by omega), if_neg (by omega), if_neg (by omega), if_pos ⟨by omega, by omega⟩]
                       refine p_sh204 (hO2.trans hO3) hG3 ?_ ?_ (fun t ht => by rw [up1_ne _ _ (by omega), up1_ne _ _ (by omega)])
                       · rw [e9, up1_eq, up1_eq, up1_ne _ _ (by omega)]
                         rfl
                       · rw [e9, up1_ne _ _ (by omega), up1_ne _ _ (by omega)])
                    | (rw [bI_eq0, Bool.not_eq_false] at c_124
                       rw [bI_eq0] at c_142
                       refine p_sh204 hO2 hG2 ?_ ?_ (fun t ht => by rw [up1_ne _ _ (by omega)])
                       · unfold shp
                         rw [if_neg (by omega), if_neg (by omega), if_neg (by omega), if_pos (by omega), c_124]; rfl
                       · unfold shp
                         rw [if_neg (by omega), if_neg (by omega), if_neg (by omega), if_pos (by omega), c_142]; rfl)
                    | (rw [bI_eq0] at c_124
                       rw [bI_eq0, Bool.not_eq_false] at c_142
                       refine p_sh204 hO3 hG3 ?_ ?_ (fun t ht => by rw [up1_ne _ _ (by omega)])
                       · unfold shp
                         rw [if_neg (by omega), if_neg (by omega), if_neg (by omega), if_pos (by omega), c_124]; rfl
                       · unfold shp
                         rw [if_neg (by omega), if_neg (by omega), if_neg (by omega), if_pos (by omega), c_142]; rfl)
                    | (rw [bI_eq0] at c_124
                       rw [bI_eq0] at c_142
                       refine p_sh204 Off.rf hG ?_ ?_ (fun t ht => rfl)
                       · unfold shp
                         rw [if_neg (by omega), if_neg (by omega), if_neg (by omega), if_pos (by omega), c_124]; rfl
                       · unfold shp
                         rw [if_neg (by omega), if_neg (by omega), if_neg (by omega), if_pos (by omega), c_142]; rfl)
                    | (refine p_sh204 Off.rf hG ?_ ?_ (fun t ht => rfl)
                       · unfold shp
                         rw [if_neg (by omega), if_neg (by omega), if_neg (by omega), if_neg (by omega), if_neg (by omega)]
                       · unfold shp
                         rw [if_neg (by omega), if_neg (by omega), if_neg (by omega), if_neg (by omega), if_neg (by omega)])
                · skip
                  refine g_aload_n dX9_sharpen_145 rfl ?_
                  refine g_sipush (v := nI 345) dX9_sharpen_146 rfl ?_
                  refine g_lload_n dX9_sharpen_149 rfl ?_
                  refine g_callV dX9_sharpen_150 sX9_lose (s_lose _ n m 345 _ (lo1 (S 344)) (by first | exact hG2 | exact hG) (by omega) (r6_of hx1)) cl10 (by first | exact hG2.1.1 | exact hG.1.1) iX9_lose vX9_lose (iw_29 13 rfl) rfl rfl (Nat.le_of_ble_eq_true rfl) (Nat.le_of_ble_eq_true rfl) (Nat.le_of_ble_eq_true rfl) (Nat.le_of_ble_eq_true rfl) (Nat.le_of_ble_eq_true rfl) ?_
                  intro r9 M3 n9 h9
                  obtain ⟨h91, h93, hO3, hG3⟩ := h9
                  rw [h91, h93]
                  clear h91 h93 r9 n9
                  refine g_goto (tgt := 204) dX9_sharpen_153 (by decide) ?_
                  refine g_msk [true, false, false, false, false] ?_
                  try rw [nI_inj (by omega) (by omega)] at c_159
                  try rw [jc_lt (by constructor <;> omega) (by constructor <;> omega)] at c_171
                  first
                    | (simp only [decide_eq_true_eq] at e1 e2
                       refine p_sh204 hO2 hG2 ?_ ?_ (fun t ht => e3 t (by omega))
                       · unfold shp
                         first
                           | (rw [if_pos (by omega)]; exact e1)
                           | (rw [if_neg (by omega), if_pos (by omega)]; exact e2)
                       · unfold shp
                         first
                           | (rw [if_pos (by omega)]; exact e2)
                           | (rw [if_neg (by omega), if_pos (by omega)]; exact e1))
                    | (refine p_sh204 (hO2.trans hO3) hG3 ?_ ?_ (fun t ht => by rw [up1_ne _ _ (by omega), up1_ne _ _ (by omega)])
                       · unfold shp
                         first
                           | (rw [if_neg (by omega), if_neg (by omega), if_pos (by omega)]; rfl)
                           | (rw [if_neg (by omega), if_neg (by omega), if_neg (by omega), if_pos (by omega)]
                              rw [bI_eq0, Bool.not_eq_false] at c_124
                              rw [c_124]; rfl)
                           | (rw [if_neg (by omega), if_neg (by omega), if_neg (by omega), if_neg (by omega), if_pos (by omega)]; rfl)
                       · unfold shp
                         first
                           | (rw [if_neg (by omega), if_neg (by omega), if_pos (by omega)]; rfl)
                           | (rw [if_neg (by omega), if_neg (by omega), if_neg (by omega), if_pos (by omega)]
                              rw [bI_eq0, Bool.not_eq_false] at c_142
                              rw [c_142]; rfl)
                           | (rw [if_neg (by omega), if_neg (by omega), if_neg (by omega), if_neg (by omega), if_pos (by omega)]; rfl))
                    | (have e9 : shp q (S 344) (S 345) = (cutX (S 344) 0 (hi1 (S 345) - 1), S 345) := by
                         unfold shp
                         rw [if_neg (by omega), if_neg (by omega), if_neg (by omega), if_neg (by omega), if_pos ⟨by omega, by omega⟩]
                       refine p_sh204 (hO2.trans hO3) hG3 ?_ ?_ (fun t ht => by rw [up1_ne _ _ (by omega), up1_ne _ _ (by omega)])
                       · rw [e9, up1_eq, up1_eq, up1_ne _ _ (by omega)]
                         rfl
                       · rw [e9, up1_ne _ _ (by omega), up1_ne _ _ (by omega)])
                    | (rw [bI_eq0, Bool.not_eq_false] at c_124
                       rw [bI_eq0] at c_142
                       refine p_sh204 hO2 hG2 ?_ ?_ (fun t ht => by rw [up1_ne _ _ (by omega)])
                       · unfold shp
                         rw [if_neg (by omega), if_neg (by omega), if_neg (by omega), if_pos (by omega), c_124]; rfl
                       · unfold shp
                         rw [if_neg (by omega), if_neg (by omega), if_neg (by omega), if_pos (by omega), c_142]; rfl)
                    | (rw [bI_eq0] at c_124
                       rw [bI_eq0, Bool.not_eq_false] at c_142
                       refine p_sh204 hO3 hG3 ?_ ?_ (fun t ht => by rw [up1_ne _ _ (by omega)])
                       · unfold shp
                         rw [if_neg (by omega), if_neg (by omega), if_neg (by omega), if_pos (by omega), c_124]; rfl
                       · unfold shp
                         rw [if_neg (by omega), if_neg (by omega), if_neg (by omega), if_pos (by omega), c_142]; rfl)
                    | (rw [bI_eq0] at c_124
                       rw [bI_eq0] at c_142
                       refine p_sh204 Off.rf hG ?_ ?_ (fun t ht => rfl)
                       · unfold shp
                         rw [if_neg (by omega), if_neg (by omega), if_neg (by omega), if_pos (by omega), c_124]; rfl
                       · unfold shp
                         rw [if_neg (by omega), if_neg (by omega), if_neg (by omega), if_pos (by omega), c_142]; rfl)
                    | (refine p_sh204 Off.rf hG ?_ ?_ (fun t ht => rfl)
                       · unfold shp
                         rw [if_neg (by omega), if_neg (by omega), if_neg (by omega), if_neg (by omega), if_neg (by omega)]
                       · unfold shp
                         rw [if_neg (by omega), if_neg (by omega), if_neg (by omega), if_neg (by omega), if_neg (by omega)])
              · skip
                refine g_aload_n dX9_sharpen_127 rfl ?_
                refine g_sipush (v := nI 344) dX9_sharpen_128 rfl ?_
                refine g_aload_n dX9_sharpen_131 rfl ?_
                refine g_sipush (v := nI 345) dX9_sharpen_132 rfl ?_
                refine g_callV dX9_sharpen_135 sX9_least (s_least M n m 345 S hG (by omega) n2) cl10 hG.1.1 iX9_least vX9_least (iw_29 1 rfl) rfl rfl (Nat.le_of_ble_eq_true rfl) (Nat.le_of_ble_eq_true rfl) (Nat.le_of_ble_eq_true rfl) (Nat.le_of_ble_eq_true rfl) (Nat.le_of_ble_eq_true rfl) ?_
                intro r9 M9 n9 h9
                obtain ⟨h91, h92, h93⟩ := h9
                rw [h91, h92, h93]
                clear h91 h92 h93 r9 M9 n9
                refine g_callV dX9_sharpen_138 sX9_lose (s_lose M n m 344 S (lo1 (S 345)) hG (by omega) (r6_of hy1)) cl10 hG.1.1 iX9_lose vX9_lose (iw_29 13 rfl) rfl rfl (Nat.le_of_ble_eq_true rfl) (Nat.le_of_ble_eq_true rfl) (Nat.le_of_ble_eq_true rfl) (Nat.le_of_ble_eq_true rfl) (Nat.le_of_ble_eq_true rfl) ?_
                intro r9 M2 n9 h9
                obtain ⟨h91, h93, hO2, hG2⟩ := h9
                rw [h91, h93]
                clear h91 h93 r9 n9
                refine g_iload_n dX9_sharpen_141 rfl ?_
                refine g_if_eq (tgt := 153) dX9_sharpen_142 (by decide) (fun c_142 => ?_) (fun c_142 => ?_)
                · skip
                  refine g_goto (tgt := 204) dX9_sharpen_153 (by decide) ?_
                  refine g_msk [true, false, false, false, false] ?_
                  try rw [nI_inj (by omega) (by omega)] at c_159
                  try rw [jc_lt (by constructor <;> omega) (by constructor <;> omega)] at c_171
                  first
                    | (simp only [decide_eq_true_eq] at e1 e2
                       refine p_sh204 hO2 hG2 ?_ ?_ (fun t ht => e3 t (by omega))
                       · unfold shp
                         first
                           | (rw [if_pos (by omega)]; exact e1)
                           | (rw [if_neg (by omega), if_pos (by omega)]; exact e2)
                       · unfold shp
                         first
                           | (rw [if_pos (by omega)]; exact e2)
                           | (rw [if_neg (by omega), if_pos (by omega)]; exact e1))
                    | (refine p_sh204 (hO2.trans hO3) hG3 ?_ ?_ (fun t ht => by rw [up1_ne _ _ (by omega), up1_ne _ _ (by omega)])
                       · unfold shp
                         first
                           | (rw [if_neg (by omega), if_neg (by omega), if_pos (by omega)]; rfl)
                           | (rw [if_neg (by omega), if_neg (by omega), if_neg (by omega), if_pos (by omega)]
                              rw [bI_eq0, Bool.not_eq_false] at c_124
                              rw [c_124]; rfl)
                           | (rw [if_neg (by omega), if_neg (by omega), if_neg (by omega), if_neg (by omega), if_pos (by omega)]; rfl)
                       · unfold shp
                         first
                           | (rw [if_neg (by omega), if_neg (by omega), if_pos (by omega)]; rfl)
                           | (rw [if_neg (by omega), if_neg (by omega), if_neg (by omega), if_pos (by omega)]
                              rw [bI_eq0, Bool.not_eq_false] at c_142
                              rw [c_142]; rfl)
                           | (rw [if_neg (by omega), if_neg (by omega), if_neg (by omega), if_neg (by omega), if_pos (by omega)]; rfl))
                    | (have e9 : shp q (S 344) (S 345) = (cutX (S 344) 0 (hi1 (S 345) - 1), S 345) := by
                         unfold shp
                         rw [if_neg (by omega), if_neg (by omega), if_neg (by omega), if_neg (by omega), if_pos ⟨by omega, by omega⟩]
                       refine p_sh204 (hO2.trans hO3) hG3 ?_ ?_ (fun t ht => by rw [up1_ne _ _ (by omega), up1_ne _ _ (by omega)])
                       · rw [e9, up1_eq, up1_eq, up1_ne _ _ (by omega)]
                         rfl
                       · rw [e9, up1_ne _ _ (by omega), up1_ne _ _ (by omega)])
                    | (rw [bI_eq0, Bool.not_eq_false] at c_124
                       rw [bI_eq0] at c_142
                       refine p_sh204 hO2 hG2 ?_ ?_ (fun t ht => by rw [up1_ne _ _ (by omega)])
                       · unfold shp
                         rw [if_neg (by omega), if_neg (by omega), if_neg (by omega), if_pos (by omega), c_124]; rfl
                       · unfold shp
                         rw [if_neg (by omega), if_neg (by omega), if_neg (by omega), if_pos (by omega), c_142]; rfl)
                    | (rw [bI_eq0] at c_124
                       rw [bI_eq0, Bool.not_eq_false] at c_142
                       refine p_sh204 hO3 hG3 ?_ ?_ (fun t ht => by rw [up1_ne _ _ (by omega)])
                       · unfold shp
                         rw [if_neg (by omega), if_neg (by omega), if_neg (by omega), if_pos (by omega), c_124]; rfl
                       · unfold shp
                         rw [if_neg (by omega), if_neg (by omega), if_neg (by omega), if_pos (by omega), c_142]; rfl)
                    | (rw [bI_eq0] at c_124
                       rw [bI_eq0] at c_142
                       refine p_sh204 Off.rf hG ?_ ?_ (fun t ht => rfl)
                       · unfold shp
                         rw [if_neg (by omega), if_neg (by omega), if_neg (by omega), if_pos (by omega), c_124]; rfl
                       · unfold shp
                         rw [if_neg (by omega), if_neg (by omega), if_neg (by omega), if_pos (by omega), c_142]; rfl)
                    | (refine p_sh204 Off.rf hG ?_ ?_ (fun t ht => rfl)
                       · unfold shp
                         rw [if_neg (by omega), if_neg (by omega), if_neg (by omega), if_neg (by omega), if_neg (by omega)]
                       · unfold shp
                         rw [if_neg (by omega), if_neg (by omega), if_neg (by omega), if_neg (by omega), if_neg (by omega)])
                · skip
                  refine g_aload_n dX9_sharpen_145 rfl ?_
                  refine g_sipush (v := nI 345) dX9_sharpen_146 rfl ?_
                  refine g_lload_n dX9_sharpen_149 rfl ?_
                  refine g_callV dX9_sharpen_150 sX9_lose (s_lose _ n m 345 _ (lo1 (S 344)) (by first | exact hG2 | exact hG) (by omega) (r6_of hx1)) cl10 (by first | exact hG2.1.1 | exact hG.1.1) iX9_lose vX9_lose (iw_29 13 rfl) rfl rfl (Nat.le_of_ble_eq_true rfl) (Nat.le_of_ble_eq_true rfl) (Nat.le_of_ble_eq_true rfl) (Nat.le_of_ble_eq_true rfl) (Nat.le_of_ble_eq_true rfl) ?_
                  intro r9 M3 n9 h9
                  obtain ⟨h91, h93, hO3, hG3⟩ := h9
                  rw [h91, h93]
                  clear h91 h93 r9 n9
                  refine g_goto (tgt := 204) dX9_sharpen_153 (by decide) ?_
                  refine g_msk [true, false, false, false, false] ?_
                  try rw [nI_inj (by omega) (by omega)] at c_159
                  try rw [jc_lt (by constructor <;> omega) (by constructor <;> omega)] at c_171
                  first
                    | (simp only [decide_eq_true_eq] at e1 e2
                       refine p_sh204 hO2 hG2 ?_ ?_ (fun t ht => e3 t (by omega))
                       · unfold shp
                         first
                           | (rw [if_pos (by omega)]; exact e1)
                           | (rw [if_neg (by omega), if_pos (by omega)]; exact e2)
                       · unfold shp
                         first
                           | (rw [if_pos (by omega)]; exact e2)
                           | (rw [if_neg (by omega), if_pos (by omega)]; exact e1))
                    | (refine p_sh204 (hO2.trans hO3) hG3 ?_ ?_ (fun t ht => by rw [up1_ne _ _ (by omega), up1_ne _ _ (by omega)])
                       · unfold shp
                         first
                           | (rw [if_neg (by omega), if_neg (by omega), if_pos (by omega)]; rfl)
                           | (rw [if_neg (by omega), if_neg (by omega), if_neg (by omega), if_pos (by omega)]
                              rw [bI_eq0, Bool.not_eq_false] at c_124
                              rw [c_124]; rfl)
                           | (rw [if_neg (by omega), if_neg (by omega), if_neg (by omega), if_neg (by omega), if_pos (by omega)]; rfl)
                       · unfold shp
                         first
                           | (rw [if_neg (by omega), if_neg (by omega), if_pos (by omega)]; rfl)
                           | (rw [if_neg (by omega), if_neg (by omega), if_neg (by omega), if_pos (by omega)]
                              rw [bI_eq0, Bool.not_eq_false] at c_142
                              rw [c_142]; rfl)
                           | (rw [if_neg (by omega), if_neg (by omega), if_neg (by omega), if_neg (by omega), if_pos (by omega)]; rfl))
                    | (have e9 : shp q (S 344) (S 345) = (cutX (S 344) 0 (hi1 (S 345) - 1), S 345) := by
                         unfold shp
                         rw [if_neg (by omega), if_neg (by omega), if_neg (by omega), if_neg (by omega), if_pos ⟨by omega, by omega⟩]
                       refine p_sh204 (hO2.trans hO3) hG3 ?_ ?_ (fun t ht => by rw [up1_ne _ _ (by omega), up1_ne _ _ (by omega)])
                       · rw [e9, up1_eq, up1_eq, up1_ne _ _ (by omega)]
                         rfl
                       · rw [e9, up1_ne _ _ (by omega), up1_ne _ _ (by omega)])
                    | (rw [bI_eq0, Bool.not_eq_false] at c_124
                       rw [bI_eq0] at c_142
                       refine p_sh204 hO2 hG2 ?_ ?_ (fun t ht => by rw [up1_ne _ _ (by omega)])
                       · unfold shp
                         rw [if_neg (by omega), if_neg (by omega), if_neg (by omega), if_pos (by omega), c_124]; rfl
                       · unfold shp
                         rw [if_neg (by omega), if_neg (by omega), if_neg (by omega), if_pos (by omega), c_142]; rfl)
                    | (rw [bI_eq0] at c_124
                       rw [bI_eq0, Bool.not_eq_false] at c_142
                       refine p_sh204 hO3 hG3 ?_ ?_ (fun t ht => by rw [up1_ne _ _ (by omega)])
                       · unfold shp
                         rw [if_neg (by omega), if_neg (by omega), if_neg (by omega), if_pos (by omega), c_124]; rfl
                       · unfold shp
                         rw [if_neg (by omega), if_neg (by omega), if_neg (by omega), if_pos (by omega), c_142]; rfl)
                    | (rw [bI_eq0] at c_124
                       rw [bI_eq0] at c_142
                       refine p_sh204 Off.rf hG ?_ ?_ (fun t ht => rfl)
                       · unfold shp
                         rw [if_neg (by omega), if_neg (by omega), if_neg (by omega), if_pos (by omega), c_124]; rfl
                       · unfold shp
                         rw [if_neg (by omega), if_neg (by omega), if_neg (by omega), if_pos (by omega), c_142]; rfl)
                    | (refine p_sh204 Off.rf hG ?_ ?_ (fun t ht => rfl)
                       · unfold shp
                         rw [if_neg (by omega), if_neg (by omega), if_neg (by omega), if_neg (by omega), if_neg (by omega)]
                       · unfold shp
                         rw [if_neg (by omega), if_neg (by omega), if_neg (by omega), if_neg (by omega), if_neg (by omega)])
          · skip
            rw [nI_inj (by omega) (by omega)] at c_67
            refine g_aload_n dX9_sharpen_70 rfl ?_
            refine g_sipush (v := nI 344) dX9_sharpen_71 rfl ?_
            refine g_sipush (v := nI 344) dX9_sharpen_74 rfl ?_
            refine g_sipush (v := nI 345) dX9_sharpen_77 rfl ?_
            refine g_callV dX9_sharpen_80 sX9_common (s_common M n m 344 344 345 S hG (by omega) (by omega) (by omega)) cl10 hG.1.1 iX9_common vX9_common (iw_29 5 rfl) rfl rfl (Nat.le_of_ble_eq_true rfl) (Nat.le_of_ble_eq_true rfl) (Nat.le_of_ble_eq_true rfl) (Nat.le_of_ble_eq_true rfl) (Nat.le_of_ble_eq_true rfl) ?_
            intro r9 M2 n9 h9
            obtain ⟨h91, h93, hO2, hG2⟩ := h9
            rw [h91, h93]
            clear h91 h93 r9 n9
            refine g_aload_n dX9_sharpen_83 rfl ?_
            refine g_sipush (v := nI 345) dX9_sharpen_84 rfl ?_
            refine g_sipush (v := nI 344) dX9_sharpen_87 rfl ?_
            refine g_callV dX9_sharpen_90 sX9_copy (s_copy M2 n m 345 344 _ hG2 (by omega) (by omega)) cl10 hG2.1.1 iX9_copy vX9_copy (iw_25 3 rfl) rfl rfl (Nat.le_of_ble_eq_true rfl) (Nat.le_of_ble_eq_true rfl) (Nat.le_of_ble_eq_true rfl) (Nat.le_of_ble_eq_true rfl) (Nat.le_of_ble_eq_true rfl) ?_
            intro r9 M3 n9 h9
            obtain ⟨h91, h93, hO3, hG3⟩ := h9
            rw [h91, h93]
            clear h91 h93 r9 n9
            refine g_goto (tgt := 204) dX9_sharpen_93 (by decide) ?_
            refine g_msk [true, false, false, false, false] ?_
            try rw [nI_inj (by omega) (by omega)] at c_159
            try rw [jc_lt (by constructor <;> omega) (by constructor <;> omega)] at c_171
            first
              | (simp only [decide_eq_true_eq] at e1 e2
                 refine p_sh204 hO2 hG2 ?_ ?_ (fun t ht => e3 t (by omega))
                 · unfold shp
                   first
                     | (rw [if_pos (by omega)]; exact e1)
                     | (rw [if_neg (by omega), if_pos (by omega)]; exact e2)
                 · unfold shp
                   first
                     | (rw [if_pos (by omega)]; exact e2)
                     | (rw [if_neg (by omega), if_pos (by omega)]; exact e1))
              | (refine p_sh204 (hO2.trans hO3) hG3 ?_ ?_ (fun t ht => by rw [up1_ne _ _ (by omega), up1_ne _ _ (by omega)])
                 · unfold shp
                   first
                     | (rw [if_neg (by omega), if_neg (by omega), if_pos (by omega)]; rfl)
                     | (rw [if_neg (by omega), if_neg (by omega), if_neg (by omega), if_pos (by omega)]
                        rw [bI_eq0, Bool.not_eq_false] at c_124
                        rw [c_124]; rfl)
                     | (rw [if_neg (by omega), if_neg (by omega), if_neg (by omega), if_neg (by omega), if_pos (by omega)]; rfl)
                 · unfold shp
                   first
                     | (rw [if_neg (by omega), if_neg (by omega), if_pos (by omega)]; rfl)
                     | (rw [if_neg (by omega), if_neg (by omega), if_neg (by omega), if_pos (by omega)]
                        rw [bI_eq0, Bool.not_eq_false] at c_142
                        rw [c_142]; rfl)
                     | (rw [if_neg (by omega), if_neg (by omega), if_neg (by omega), if_neg (by omega), if_pos (by omega)]; rfl))
              | (have e9 : shp q (S 344) (S 345) = (cutX (S 344) 0 (hi1 (S 345) - 1), S 345) := by
                   unfold shp
                   rw [if_neg (by omega), if_neg (by omega), if_neg (by omega), if_neg (by omega), if_pos ⟨by omega, by omega⟩]
                 refine p_sh204 (hO2.trans hO3) hG3 ?_ ?_ (fun t ht => by rw [up1_ne _ _ (by omega), up1_ne _ _ (by omega)])
                 · rw [e9, up1_eq, up1_eq, up1_ne _ _ (by omega)]
                   rfl
                 · rw [e9, up1_ne _ _ (by omega), up1_ne _ _ (by omega)])
              | (rw [bI_eq0, Bool.not_eq_false] at c_124
                 rw [bI_eq0] at c_142
                 refine p_sh204 hO2 hG2 ?_ ?_ (fun t ht => by rw [up1_ne _ _ (by omega)])
                 · unfold shp
                   rw [if_neg (by omega), if_neg (by omega), if_neg (by omega), if_pos (by omega), c_124]; rfl
                 · unfold shp
                   rw [if_neg (by omega), if_neg (by omega), if_neg (by omega), if_pos (by omega), c_142]; rfl)
              | (rw [bI_eq0] at c_124
                 rw [bI_eq0, Bool.not_eq_false] at c_142
                 refine p_sh204 hO3 hG3 ?_ ?_ (fun t ht => by rw [up1_ne _ _ (by omega)])
                 · unfold shp
                   rw [if_neg (by omega), if_neg (by omega), if_neg (by omega), if_pos (by omega), c_124]; rfl
                 · unfold shp
                   rw [if_neg (by omega), if_neg (by omega), if_neg (by omega), if_pos (by omega), c_142]; rfl)
              | (rw [bI_eq0] at c_124
                 rw [bI_eq0] at c_142
                 refine p_sh204 Off.rf hG ?_ ?_ (fun t ht => rfl)
                 · unfold shp
                   rw [if_neg (by omega), if_neg (by omega), if_neg (by omega), if_pos (by omega), c_124]; rfl
                 · unfold shp
                   rw [if_neg (by omega), if_neg (by omega), if_neg (by omega), if_pos (by omega), c_142]; rfl)
              | (refine p_sh204 Off.rf hG ?_ ?_ (fun t ht => rfl)
                 · unfold shp
                   rw [if_neg (by omega), if_neg (by omega), if_neg (by omega), if_neg (by omega), if_neg (by omega)]
                 · unfold shp
                   rw [if_neg (by omega), if_neg (by omega), if_neg (by omega), if_neg (by omega), if_neg (by omega)])
        · skip
          try rw [nI_inj (by omega) (by omega)] at c_34
          try rw [nI_inj (by omega) (by omega)] at c_39
          refine g_aload_n dX9_sharpen_42 rfl ?_
          refine g_sipush (v := nI 345) dX9_sharpen_43 rfl ?_
          refine g_sipush (v := nI 344) dX9_sharpen_46 rfl ?_
          refine g_iload_n dX9_sharpen_49 rfl ?_
          refine g_iconst (v := nI 4) dX9_sharpen_50 rfl ?_
          refine g_icmp_ne (tgt := 58) dX9_sharpen_51 (by decide) (fun c_51 => ?_) (fun c_51 => ?_)
          · skip
            rw [nI_inj (by omega) (by omega)] at c_51
            refine g_iconst (v := nI 0) dX9_sharpen_58 rfl ?_
            first
              | rw [show nI 1 = bI (decide (q = 4)) by rw [decide_eq_true c_51]; rfl]
              | rw [show nI 0 = bI (decide (q = 4)) by rw [decide_eq_false c_51]; rfl]
            refine g_callV dX9_sharpen_59 sX9_below (s_below M n m 345 344 S (decide (q = 4)) hG (by omega) (by omega) (by omega) n2 n1) cl10 hG.1.1 iX9_below vX9_below (iw_28 17 rfl) rfl rfl (Nat.le_of_ble_eq_true rfl) (Nat.le_of_ble_eq_true rfl) (Nat.le_of_ble_eq_true rfl) (Nat.le_of_ble_eq_true rfl) (Nat.le_of_ble_eq_true rfl) ?_
            intro r9 M2 n9 h9
            obtain ⟨h91, h93, hO2, S2, hG2, e1, e2, e3⟩ := h9
            rw [h91, h93]
            clear h91 h93 r9 n9
            refine g_goto (tgt := 204) dX9_sharpen_62 (by decide) ?_
            refine g_msk [true, false, false, false, false] ?_
            try rw [nI_inj (by omega) (by omega)] at c_159
            try rw [jc_lt (by constructor <;> omega) (by constructor <;> omega)] at c_171
            first
              | (simp only [decide_eq_true_eq] at e1 e2
                 refine p_sh204 hO2 hG2 ?_ ?_ (fun t ht => e3 t (by omega))
                 · unfold shp
                   first
                     | (rw [if_pos (by omega)]; exact e1)
                     | (rw [if_neg (by omega), if_pos (by omega)]; exact e2)
                 · unfold shp
                   first
                     | (rw [if_pos (by omega)]; exact e2)
                     | (rw [if_neg (by omega), if_pos (by omega)]; exact e1))
              | (refine p_sh204 (hO2.trans hO3) hG3 ?_ ?_ (fun t ht => by rw [up1_ne _ _ (by omega), up1_ne _ _ (by omega)])
                 · unfold shp
                   first
                     | (rw [if_neg (by omega), if_neg (by omega), if_pos (by omega)]; rfl)
                     | (rw [if_neg (by omega), if_neg (by omega), if_neg (by omega), if_pos (by omega)]
                        rw [bI_eq0, Bool.not_eq_false] at c_124
                        rw [c_124]; rfl)
                     | (rw [if_neg (by omega), if_neg (by omega), if_neg (by omega), if_neg (by omega), if_pos (by omega)]; rfl)
                 · unfold shp
                   first
                     | (rw [if_neg (by omega), if_neg (by omega), if_pos (by omega)]; rfl)
                     | (rw [if_neg (by omega), if_neg (by omega), if_neg (by omega), if_pos (by omega)]
                        rw [bI_eq0, Bool.not_eq_false] at c_142
                        rw [c_142]; rfl)
                     | (rw [if_neg (by omega), if_neg (by omega), if_neg (by omega), if_neg (by omega), if_pos (by omega)]; rfl))
              | (have e9 : shp q (S 344) (S 345) = (cutX (S 344) 0 (hi1 (S 345) - 1), S 345) := by
                   unfold shp
                   rw [if_neg (by omega), if_neg (by omega), if_neg (by omega), if_neg (by omega), if_pos ⟨by omega, by omega⟩]
                 refine p_sh204 (hO2.trans hO3) hG3 ?_ ?_ (fun t ht => by rw [up1_ne _ _ (by omega), up1_ne _ _ (by omega)])
                 · rw [e9, up1_eq, up1_eq, up1_ne _ _ (by omega)]
                   rfl
                 · rw [e9, up1_ne _ _ (by omega), up1_ne _ _ (by omega)])
              | (rw [bI_eq0, Bool.not_eq_false] at c_124
                 rw [bI_eq0] at c_142
                 refine p_sh204 hO2 hG2 ?_ ?_ (fun t ht => by rw [up1_ne _ _ (by omega)])
                 · unfold shp
                   rw [if_neg (by omega), if_neg (by omega), if_neg (by omega), if_pos (by omega), c_124]; rfl
                 · unfold shp
                   rw [if_neg (by omega), if_neg (by omega), if_neg (by omega), if_pos (by omega), c_142]; rfl)
              | (rw [bI_eq0] at c_124
                 rw [bI_eq0, Bool.not_eq_false] at c_142
                 refine p_sh204 hO3 hG3 ?_ ?_ (fun t ht => by rw [up1_ne _ _ (by omega)])
                 · unfold shp
                   rw [if_neg (by omega), if_neg (by omega), if_neg (by omega), if_pos (by omega), c_124]; rfl
                 · unfold shp
                   rw [if_neg (by omega), if_neg (by omega), if_neg (by omega), if_pos (by omega), c_142]; rfl)
              | (rw [bI_eq0] at c_124
                 rw [bI_eq0] at c_142
                 refine p_sh204 Off.rf hG ?_ ?_ (fun t ht => rfl)
                 · unfold shp
                   rw [if_neg (by omega), if_neg (by omega), if_neg (by omega), if_pos (by omega), c_124]; rfl
                 · unfold shp
                   rw [if_neg (by omega), if_neg (by omega), if_neg (by omega), if_pos (by omega), c_142]; rfl)
              | (refine p_sh204 Off.rf hG ?_ ?_ (fun t ht => rfl)
                 · unfold shp
                   rw [if_neg (by omega), if_neg (by omega), if_neg (by omega), if_neg (by omega), if_neg (by omega)]
                 · unfold shp
                   rw [if_neg (by omega), if_neg (by omega), if_neg (by omega), if_neg (by omega), if_neg (by omega)])
          · skip
            rw [nI_inj (by omega) (by omega)] at c_51
            refine g_iconst (v := nI 1) dX9_sharpen_54 rfl ?_
            refine g_goto (tgt := 59) dX9_sharpen_55 (by decide) ?_
            first
              | rw [show nI 1 = bI (decide (q = 4)) by rw [decide_eq_true c_51]; rfl]
              | rw [show nI 0 = bI (decide (q = 4)) by rw [decide_eq_false c_51]; rfl]
            refine g_callV dX9_sharpen_59 sX9_below (s_below M n m 345 344 S (decide (q = 4)) hG (by omega) (by omega) (by omega) n2 n1) cl10 hG.1.1 iX9_below vX9_below (iw_28 17 rfl) rfl rfl (Nat.le_of_ble_eq_true rfl) (Nat.le_of_ble_eq_true rfl) (Nat.le_of_ble_eq_true rfl) (Nat.le_of_ble_eq_true rfl) (Nat.le_of_ble_eq_true rfl) ?_
            intro r9 M2 n9 h9
            obtain ⟨h91, h93, hO2, S2, hG2, e1, e2, e3⟩ := h9
            rw [h91, h93]
            clear h91 h93 r9 n9
            refine g_goto (tgt := 204) dX9_sharpen_62 (by decide) ?_
            refine g_msk [true, false, false, false, false] ?_
            try rw [nI_inj (by omega) (by omega)] at c_159
            try rw [jc_lt (by constructor <;> omega) (by constructor <;> omega)] at c_171
            first
              | (simp only [decide_eq_true_eq] at e1 e2
                 refine p_sh204 hO2 hG2 ?_ ?_ (fun t ht => e3 t (by omega))
                 · unfold shp
                   first
                     | (rw [if_pos (by omega)]; exact e1)
                     | (rw [if_neg (by omega), if_pos (by omega)]; exact e2)
                 · unfold shp
                   first
                     | (rw [if_pos (by omega)]; exact e2)
                     | (rw [if_neg (by omega), if_pos (by omega)]; exact e1))
              | (refine p_sh204 (hO2.trans hO3) hG3 ?_ ?_ (fun t ht => by rw [up1_ne _ _ (by omega), up1_ne _ _ (by omega)])
                 · unfold shp
                   first
                     | (rw [if_neg (by omega), if_neg (by omega), if_pos (by omega)]; rfl)
                     | (rw [if_neg (by omega), if_neg (by omega), if_neg (by omega), if_pos (by omega)]
                        rw [bI_eq0, Bool.not_eq_false] at c_124
                        rw [c_124]; rfl)
                     | (rw [if_neg (by omega), if_neg (by omega), if_neg (by omega), if_neg (by omega), if_pos (by omega)]; rfl)
                 · unfold shp
                   first
                     | (rw [if_neg (by omega), if_neg (by omega), if_pos (by omega)]; rfl)
                     | (rw [if_neg (by omega), if_neg (by omega), if_neg (by omega), if_pos (by omega)]
                        rw [bI_eq0, Bool.not_eq_false] at c_142
                        rw [c_142]; rfl)
                     | (rw [if_neg (by omega), if_neg (by omega), if_neg (by omega), if_neg (by omega), if_pos (by omega)]; rfl))
              | (have e9 : shp q (S 344) (S 345) = (cutX (S 344) 0 (hi1 (S 345) - 1), S 345) := by
                   unfold shp
                   rw [if_neg (by omega), if_neg (by omega), if_neg (by omega), if_neg (by omega), if_pos ⟨by omega, by omega⟩]
                 refine p_sh204 (hO2.trans hO3) hG3 ?_ ?_ (fun t ht => by rw [up1_ne _ _ (by omega), up1_ne _ _ (by omega)])
                 · rw [e9, up1_eq, up1_eq, up1_ne _ _ (by omega)]
                   rfl
                 · rw [e9, up1_ne _ _ (by omega), up1_ne _ _ (by omega)])
              | (rw [bI_eq0, Bool.not_eq_false] at c_124
                 rw [bI_eq0] at c_142
                 refine p_sh204 hO2 hG2 ?_ ?_ (fun t ht => by rw [up1_ne _ _ (by omega)])
                 · unfold shp
                   rw [if_neg (by omega), if_neg (by omega), if_neg (by omega), if_pos (by omega), c_124]; rfl
                 · unfold shp
                   rw [if_neg (by omega), if_neg (by omega), if_neg (by omega), if_pos (by omega), c_142]; rfl)
              | (rw [bI_eq0] at c_124
                 rw [bI_eq0, Bool.not_eq_false] at c_142
                 refine p_sh204 hO3 hG3 ?_ ?_ (fun t ht => by rw [up1_ne _ _ (by omega)])
                 · unfold shp
                   rw [if_neg (by omega), if_neg (by omega), if_neg (by omega), if_pos (by omega), c_124]; rfl
                 · unfold shp
                   rw [if_neg (by omega), if_neg (by omega), if_neg (by omega), if_pos (by omega), c_142]; rfl)
              | (rw [bI_eq0] at c_124
                 rw [bI_eq0] at c_142
                 refine p_sh204 Off.rf hG ?_ ?_ (fun t ht => rfl)
                 · unfold shp
                   rw [if_neg (by omega), if_neg (by omega), if_neg (by omega), if_pos (by omega), c_124]; rfl
                 · unfold shp
                   rw [if_neg (by omega), if_neg (by omega), if_neg (by omega), if_pos (by omega), c_142]; rfl)
              | (refine p_sh204 Off.rf hG ?_ ?_ (fun t ht => rfl)
                 · unfold shp
                   rw [if_neg (by omega), if_neg (by omega), if_neg (by omega), if_neg (by omega), if_neg (by omega)]
                 · unfold shp
                   rw [if_neg (by omega), if_neg (by omega), if_neg (by omega), if_neg (by omega), if_neg (by omega)])
    · skip
      try rw [z0, nI_inj (by omega) (by omega)] at c_1
      try rw [nI_inj (by omega) (by omega)] at c_6
      refine g_aload_n dX9_sharpen_9 rfl ?_
      refine g_sipush (v := nI 344) dX9_sharpen_10 rfl ?_
      refine g_sipush (v := nI 345) dX9_sharpen_13 rfl ?_
      refine g_iload_n dX9_sharpen_16 rfl ?_
      refine g_iconst (v := nI 1) dX9_sharpen_17 rfl ?_
      refine g_icmp_ne (tgt := 25) dX9_sharpen_18 (by decide) (fun c_18 => ?_) (fun c_18 => ?_)
      · skip
        rw [nI_inj (by omega) (by omega)] at c_18
        refine g_iconst (v := nI 0) dX9_sharpen_25 rfl ?_
        first
          | rw [show nI 1 = bI (decide (q = 1)) by rw [decide_eq_true c_18]; rfl]
          | rw [show nI 0 = bI (decide (q = 1)) by rw [decide_eq_false c_18]; rfl]
        refine g_callV dX9_sharpen_26 sX9_below (s_below M n m 344 345 S (decide (q = 1)) hG (by omega) (by omega) (by omega) n1 n2) cl10 hG.1.1 iX9_below vX9_below (iw_28 17 rfl) rfl rfl (Nat.le_of_ble_eq_true rfl) (Nat.le_of_ble_eq_true rfl) (Nat.le_of_ble_eq_true rfl) (Nat.le_of_ble_eq_true rfl) (Nat.le_of_ble_eq_true rfl) ?_
        intro r9 M2 n9 h9
        obtain ⟨h91, h93, hO2, S2, hG2, e1, e2, e3⟩ := h9
        rw [h91, h93]
        clear h91 h93 r9 n9
        refine g_goto (tgt := 204) dX9_sharpen_29 (by decide) ?_
        refine g_msk [true, false, false, false, false] ?_
        try rw [nI_inj (by omega) (by omega)] at c_159
        try rw [jc_lt (by constructor <;> omega) (by constructor <;> omega)] at c_171
        first
          | (simp only [decide_eq_true_eq] at e1 e2
             refine p_sh204 hO2 hG2 ?_ ?_ (fun t ht => e3 t (by omega))
             · unfold shp
               first
                 | (rw [if_pos (by omega)]; exact e1)
                 | (rw [if_neg (by omega), if_pos (by omega)]; exact e2)
             · unfold shp
               first
                 | (rw [if_pos (by omega)]; exact e2)
                 | (rw [if_neg (by omega), if_pos (by omega)]; exact e1))
          | (refine p_sh204 (hO2.trans hO3) hG3 ?_ ?_ (fun t ht => by rw [up1_ne _ _ (by omega), up1_ne _ _ (by omega)])
             · unfold shp
               first
                 | (rw [if_neg (by omega), if_neg (by omega), if_pos (by omega)]; rfl)
                 | (rw [if_neg (by omega), if_neg (by omega), if_neg (by omega), if_pos (by omega)]
                    rw [bI_eq0, Bool.not_eq_false] at c_124
                    rw [c_124]; rfl)
                 | (rw [if_neg (by omega), if_neg (by omega), if_neg (by omega), if_neg (by omega), if_pos (by omega)]; rfl)
             · unfold shp
               first
                 | (rw [if_neg (by omega), if_neg (by omega), if_pos (by omega)]; rfl)
                 | (rw [if_neg (by omega), if_neg (by omega), if_neg (by omega), if_pos (by omega)]
                    rw [bI_eq0, Bool.not_eq_false] at c_142
                    rw [c_142]; rfl)
                 | (rw [if_neg (by omega), if_neg (by omega), if_neg (by omega), if_neg (by omega), if_pos (by omega)]; rfl))
          | (have e9 : shp q (S 344) (S 345) = (cutX (S 344) 0 (hi1 (S 345) - 1), S 345) := by
               unfold shp
               rw [if_neg (by omega), if_neg (by omega), if_neg (by omega), if_neg (by omega), if_pos ⟨by omega, by omega⟩]
             refine p_sh204 (hO2.trans hO3) hG3 ?_ ?_ (fun t ht => by rw [up1_ne _ _ (by omega), up1_ne _ _ (by omega)])
             · rw [e9, up1_eq, up1_eq, up1_ne _ _ (by omega)]
               rfl
             · rw [e9, up1_ne _ _ (by omega), up1_ne _ _ (by omega)])
          | (rw [bI_eq0, Bool.not_eq_false] at c_124
             rw [bI_eq0] at c_142
             refine p_sh204 hO2 hG2 ?_ ?_ (fun t ht => by rw [up1_ne _ _ (by omega)])
             · unfold shp
               rw [if_neg (by omega), if_neg (by omega), if_neg (by omega), if_pos (by omega), c_124]; rfl
             · unfold shp
               rw [if_neg (by omega), if_neg (by omega), if_neg (by omega), if_pos (by omega), c_142]; rfl)
          | (rw [bI_eq0] at c_124
             rw [bI_eq0, Bool.not_eq_false] at c_142
             refine p_sh204 hO3 hG3 ?_ ?_ (fun t ht => by rw [up1_ne _ _ (by omega)])
             · unfold shp
               rw [if_neg (by omega), if_neg (by omega), if_neg (by omega), if_pos (by omega), c_124]; rfl
             · unfold shp
               rw [if_neg (by omega), if_neg (by omega), if_neg (by omega), if_pos (by omega), c_142]; rfl)
          | (rw [bI_eq0] at c_124
             rw [bI_eq0] at c_142
             refine p_sh204 Off.rf hG ?_ ?_ (fun t ht => rfl)
             · unfold shp
               rw [if_neg (by omega), if_neg (by omega), if_neg (by omega), if_pos (by omega), c_124]; rfl
             · unfold shp
               rw [if_neg (by omega), if_neg (by omega), if_neg (by omega), if_pos (by omega), c_142]; rfl)
          | (refine p_sh204 Off.rf hG ?_ ?_ (fun t ht => rfl)
             · unfold shp
               rw [if_neg (by omega), if_neg (by omega), if_neg (by omega), if_neg (by omega), if_neg (by omega)]
             · unfold shp
               rw [if_neg (by omega), if_neg (by omega), if_neg (by omega), if_neg (by omega), if_neg (by omega)])
      · skip
        rw [nI_inj (by omega) (by omega)] at c_18
        refine g_iconst (v := nI 1) dX9_sharpen_21 rfl ?_
        refine g_goto (tgt := 26) dX9_sharpen_22 (by decide) ?_
        first
          | rw [show nI 1 = bI (decide (q = 1)) by rw [decide_eq_true c_18]; rfl]
          | rw [show nI 0 = bI (decide (q = 1)) by rw [decide_eq_false c_18]; rfl]
        refine g_callV dX9_sharpen_26 sX9_below (s_below M n m 344 345 S (decide (q = 1)) hG (by omega) (by omega) (by omega) n1 n2) cl10 hG.1.1 iX9_below vX9_below (iw_28 17 rfl) rfl rfl (Nat.le_of_ble_eq_true rfl) (Nat.le_of_ble_eq_true rfl) (Nat.le_of_ble_eq_true rfl) (Nat.le_of_ble_eq_true rfl) (Nat.le_of_ble_eq_true rfl) ?_
        intro r9 M2 n9 h9
        obtain ⟨h91, h93, hO2, S2, hG2, e1, e2, e3⟩ := h9
        rw [h91, h93]
        clear h91 h93 r9 n9
        refine g_goto (tgt := 204) dX9_sharpen_29 (by decide) ?_
        refine g_msk [true, false, false, false, false] ?_
        try rw [nI_inj (by omega) (by omega)] at c_159
        try rw [jc_lt (by constructor <;> omega) (by constructor <;> omega)] at c_171
        first
          | (simp only [decide_eq_true_eq] at e1 e2
             refine p_sh204 hO2 hG2 ?_ ?_ (fun t ht => e3 t (by omega))
             · unfold shp
               first
                 | (rw [if_pos (by omega)]; exact e1)
                 | (rw [if_neg (by omega), if_pos (by omega)]; exact e2)
             · unfold shp
               first
                 | (rw [if_pos (by omega)]; exact e2)
                 | (rw [if_neg (by omega), if_pos (by omega)]; exact e1))
          | (refine p_sh204 (hO2.trans hO3) hG3 ?_ ?_ (fun t ht => by rw [up1_ne _ _ (by omega), up1_ne _ _ (by omega)])
             · unfold shp
               first
                 | (rw [if_neg (by omega), if_neg (by omega), if_pos (by omega)]; rfl)
                 | (rw [if_neg (by omega), if_neg (by omega), if_neg (by omega), if_pos (by omega)]
                    rw [bI_eq0, Bool.not_eq_false] at c_124
                    rw [c_124]; rfl)
                 | (rw [if_neg (by omega), if_neg (by omega), if_neg (by omega), if_neg (by omega), if_pos (by omega)]; rfl)
             · unfold shp
               first
                 | (rw [if_neg (by omega), if_neg (by omega), if_pos (by omega)]; rfl)
                 | (rw [if_neg (by omega), if_neg (by omega), if_neg (by omega), if_pos (by omega)]
                    rw [bI_eq0, Bool.not_eq_false] at c_142
                    rw [c_142]; rfl)
                 | (rw [if_neg (by omega), if_neg (by omega), if_neg (by omega), if_neg (by omega), if_pos (by omega)]; rfl))
          | (have e9 : shp q (S 344) (S 345) = (cutX (S 344) 0 (hi1 (S 345) - 1), S 345) := by
               unfold shp
               rw [if_neg (by omega), if_neg (by omega), if_neg (by omega), if_neg (by omega), if_pos ⟨by omega, by omega⟩]
             refine p_sh204 (hO2.trans hO3) hG3 ?_ ?_ (fun t ht => by rw [up1_ne _ _ (by omega), up1_ne _ _ (by omega)])
             · rw [e9, up1_eq, up1_eq, up1_ne _ _ (by omega)]
               rfl
             · rw [e9, up1_ne _ _ (by omega), up1_ne _ _ (by omega)])
          | (rw [bI_eq0, Bool.not_eq_false] at c_124
             rw [bI_eq0] at c_142
             refine p_sh204 hO2 hG2 ?_ ?_ (fun t ht => by rw [up1_ne _ _ (by omega)])
             · unfold shp
               rw [if_neg (by omega), if_neg (by omega), if_neg (by omega), if_pos (by omega), c_124]; rfl
             · unfold shp
               rw [if_neg (by omega), if_neg (by omega), if_neg (by omega), if_pos (by omega), c_142]; rfl)
          | (rw [bI_eq0] at c_124
             rw [bI_eq0, Bool.not_eq_false] at c_142
             refine p_sh204 hO3 hG3 ?_ ?_ (fun t ht => by rw [up1_ne _ _ (by omega)])
             · unfold shp
               rw [if_neg (by omega), if_neg (by omega), if_neg (by omega), if_pos (by omega), c_124]; rfl
             · unfold shp
               rw [if_neg (by omega), if_neg (by omega), if_neg (by omega), if_pos (by omega), c_142]; rfl)
          | (rw [bI_eq0] at c_124
             rw [bI_eq0] at c_142
             refine p_sh204 Off.rf hG ?_ ?_ (fun t ht => rfl)
             · unfold shp
               rw [if_neg (by omega), if_neg (by omega), if_neg (by omega), if_pos (by omega), c_124]; rfl
             · unfold shp
               rw [if_neg (by omega), if_neg (by omega), if_neg (by omega), if_pos (by omega), c_142]; rfl)
          | (refine p_sh204 Off.rf hG ?_ ?_ (fun t ht => rfl)
             · unfold shp
               rw [if_neg (by omega), if_neg (by omega), if_neg (by omega), if_neg (by omega), if_neg (by omega)]
             · unfold shp
               rw [if_neg (by omega), if_neg (by omega), if_neg (by omega), if_neg (by omega), if_neg (by omega)])

