/-! the law: its beginning -/
/-- a class without statements lies below its 45th cell -/
theorem kW.fresh {M M1 : gM} {w : Nat} {F : Ev} {z : Int32} {nw : Nat → Int32} (h : kW M w ([], F, false, z, nw)) (hw : gW0 M (w + 45)) (r : Rw M M1 0 (w + 44)) : kW M1 w ([], F, false, z, nw) := by
  obtain ⟨d, E, ⟨v1, v2, v3, v4⟩, q2, q3, q4, q5, q6, q7, ⟨p1, p2, p3, p4, ⟨T, p5⟩, p6, p7, p8, p9, p10, p11⟩, q9, q10, q11⟩ := h
  have hd : d = 0 := by
    have h9 := hw.lt (i := d) (by rw [p3.2.2.2.1]; omega)
    omega
  subst hd
  have w0 := r w (Nat.zero_le _) (by omega)
  have w43 := r (w + 43) (Nat.zero_le _) (by omega)
  have w44 := r (w + 44) (Nat.zero_le _) (by omega)
  refine ⟨0, E, ⟨w0.1.trans v1, ?_, ?_, ?_⟩, q2.rw r (Nat.zero_le _) (by omega), q3, ?_, ?_, fun p hp => ?_, q7.rw r (Nat.zero_le _) (by omega), ⟨p1.rw r (Nat.zero_le _) (by omega), p2.rw r (Nat.zero_le _) (by omega), p3.rw (fun i a b => r i (Nat.zero_le _) (by omega)) (fun i a b => r i (Nat.zero_le _) (by omega)) (fun k hk => absurd hk (Nat.not_lt_zero _)), p4.rw r (Nat.zero_le _) (by omega), ⟨T, p5.rw r (Nat.zero_le _) (by omega)⟩, p6, fun k hk => absurd hk (Nat.not_lt_zero _), p8, p9, fun k hk => absurd hk (Nat.not_lt_zero _), fun j k h hk => absurd hk (Nat.not_lt_zero _)⟩, fun q => (by cases q), Or.inl rfl, q11⟩
  · rw [w0.2.2.2.2]; exact v2
  · rw [w0.2.2.2.2]; exact v3
  · rw [w0.2.2.2.2]; exact v4
  · rw [w0.2.2.1]; exact q4
  · rw [w43.2.2.1]; exact q5
  · rw [w44.2.2.1]; exact q6 p hp
set_option maxHeartbeats 4000000 in
set_option maxRecDepth 100000 in
theorem law_body {sa L : Nat} {xs : Nat → Int32} (hL : L ≤ 2560) (M : gM) : GW μL_law room_1 (gQL sa L xs) 0 0 0 [some (.retAddr sa), none, none, none, none, none, none, none] [] M 2 := by
  refine g_new dL_law_0 cl9 (iw_1 0 rfl) (iw_1 1 rfl) (iw_1 2 rfl) (Nat.le_of_ble_eq_true rfl) (Nat.le_of_ble_eq_true rfl) ?_
  have k1 : mK (stN M 2 9 0) 2 = 9 := stN_Ks M 2 9 0
  generalize stN M 2 9 0 = M1 at k1 ⊢
  refine g_dup dL_law_3 rfl ?_
  refine g_callI dL_law_4 sX8_init (i_all M1 3 2 k1 rfl (by omega)) rfl rfl iX8_init (iw_1 7 rfl) rfl rfl (Nat.le_of_ble_eq_true rfl) (Nat.le_of_ble_eq_true rfl) (Nat.le_of_ble_eq_true rfl) (Nat.le_of_ble_eq_true rfl) (Nat.le_of_ble_eq_true rfl) ?_
  intro r9 M2 n9 h9
  obtain ⟨h91, h93, hK2, hF2⟩ := h9
  rw [h91, h93]
  clear h91 h93 r9 n9
  refine g_astore_n dL_law_7 (Nat.le_of_ble_eq_true rfl) ?_
  refine g_facts (fun hw2 => ?_)
  refine g_new dL_law_8 cl10 (iw_1 3 rfl) (iw_1 4 rfl) (iw_1 5 rfl) (Nat.le_of_ble_eq_true rfl) (Nat.le_of_ble_eq_true rfl) ?_
  have k3 : mK (stN M2 (2 + 45) 10 0) (2 + 45) = 10 := stN_Ks M2 (2 + 45) 10 0
  have i3 : mI (stN M2 (2 + 45) 10 0) (2 + 45) = fun _ => 0 := up1_eq (mI M2) (2 + 45) (fun _ => 0)
  have r3 : Rw M2 (stN M2 (2 + 45) 10 0) 0 (2 + 44) := Rw.stN (by omega)
  generalize stN M2 (2 + 45) 10 0 = M3 at k3 i3 r3 ⊢
  refine g_dup dL_law_11 rfl ?_
  refine g_callI dL_law_12 sX9_init (i_ref M3 (2 + 45 + 1) (2 + 45) k3 i3 rfl) rfl rfl iX9_init (iw_5 16 rfl) rfl rfl (Nat.le_of_ble_eq_true rfl) (Nat.le_of_ble_eq_true rfl) (Nat.le_of_ble_eq_true rfl) (Nat.le_of_ble_eq_true rfl) (Nat.le_of_ble_eq_true rfl) ?_
  intro r9 M4 n9 h9
  obtain ⟨h91, h93, hR4, hF4⟩ := h9
  rw [h91, h93]
  clear h91 h93 r9 n9
  have r4 : Rw M3 M4 0 (2 + 44) := hF4.n0 (by omega)
  refine g_astore_n dL_law_15 (Nat.le_of_ble_eq_true rfl) ?_
  refine g_iconst (v := nI 1) dL_law_16 rfl ?_
  refine g_newarr (kd := 12) (t0 := 1) (L := 1) (ty := .long) dL_law_17 rfl (iw_1 6 rfl) (fun _ => rfl) (Or.inr (Or.inl ⟨rfl, rfl⟩)) rfl (by decide) (by decide) (Nat.le_of_ble_eq_true rfl) (Nat.le_of_ble_eq_true rfl) ?_
  have k5 : mK (stN M4 (2 + 45 + 12) 12 1) (2 + 57) = 12 := stN_Ks M4 (2 + 45 + 12) 12 1
  have n5 : mN (stN M4 (2 + 45 + 12) 12 1) (2 + 57) = 1 := up1_eq (mN M4) (2 + 45 + 12) 1
  have r5 : Rw M4 (stN M4 (2 + 45 + 12) 12 1) 0 (2 + 44) := Rw.stN (by omega)
  have r6 : Rw M4 (stN M4 (2 + 45 + 12) 12 1) (2 + 45) (2 + 45 + 11) := Rw.stN (by omega)
  generalize stN M4 (2 + 45 + 12) 12 1 = M5 at k5 n5 r5 r6 ⊢
  refine g_astore_n dL_law_19 (Nat.le_of_ble_eq_true rfl) ?_
  refine g_iconst (v := nI 0) dL_law_20 rfl ?_
  refine g_istore dL_law_21 (Nat.le_of_ble_eq_true rfl) ?_
  exact l_law (w := 2) hL (L + 1) 0 _ _ _ M5 _ (by omega) (by omega) (hK2.fresh hw2 (r3.trans (r4.trans r5))) (hR4.rw r6) ⟨k5, n5⟩ (by omega) (by omega) (by omega)
