/-! the class: program, solver, trial, and the whole are made -/
set_option maxHeartbeats 4000000 in
set_option maxRecDepth 100000 in
theorem i_prog (M : gM) (n p : Nat) (E : Nat → Nat) (hk : mK M p = 2) (hn : n = p + 1) (h2 : 2 ≤ p) : GM μX1_init 4 80 12 135 [.ref p] M n (fun r M1 n1 => r = none ∧ n1 = p + 13 ∧ pR M1 p ∧ aL M1 (p + 1) 0 0 E ∧ sE M1 (p + 2) (fun _ => [(0, 0)]) ∧ tH M1 (p + 11) [-2147483648, 2147483647] (thA []) ∧ Fr p nF M M1) := by
  refine GM.ofW (by decide) rfl (Nat.le_of_ble_eq_true rfl) rfl ?_
  subst hn
  refine g_facts (fun hw => ?_)
  have z15 := hw.2.2.2.1
  have z0 := hw.2.2.2.2
  refine g_aload_n dX1_init_0 rfl ?_
  refine g_objInit dX1_init_1 (iw_2 4 rfl) (iw_1 11 rfl) (iw_1 12 rfl) (Nat.le_of_ble_eq_true rfl) (Nat.le_of_ble_eq_true rfl) ?_
  refine g_aload_n dX1_init_4 rfl ?_
  refine g_new dX1_init_5 cl0 (iw_2 5 rfl) (iw_2 6 rfl) (iw_2 7 rfl) (Nat.le_of_ble_eq_true rfl) (Nat.le_of_ble_eq_true rfl) ?_
  have k1 : mK (stN M (p + 1) 0 0) p = 2 := by rw [stN_K _ _ _ _ _ (by omega)]; exact hk
  have j1 : mK (stN M (p + 1) 0 0) (p + 1) = 0 := stN_Ks M (p + 1) 0 0
  have i1 : mI (stN M (p + 1) 0 0) (p + 1) 2 = 0 := by rw [stN_Is]
  have f1 : Fr p nF M (stN M (p + 1) 0 0) := Fr.rf.stN (by omega)
  generalize stN M (p + 1) 0 0 = M1 at k1 j1 i1 f1 ⊢
  refine g_dup dX1_init_8 rfl ?_
  refine g_callI dX1_init_9 sJx4a65c_init_da8c8 (j_init M1 (p + 2) (p + 1) j1) rfl rfl iJx4a65c_init_da8c8 (iw_2 14 rfl) rfl rfl (Nat.le_of_ble_eq_true rfl) (Nat.le_of_ble_eq_true rfl) (Nat.le_of_ble_eq_true rfl) (Nat.le_of_ble_eq_true rfl) (Nat.le_of_ble_eq_true rfl) ?_
  intro r9 M9 n9 h9
  obtain ⟨h91, h92, h93⟩ := h9
  rw [h91, h92, h93]
  clear h91 h92 h93 r9 M9 n9
  have k2 : mK (stR (stI M1 (p + 1) 0 (nI 0)) (p + 1) 1 (some 0)) p = 2 := k1
  have j2 : mK (stR (stI M1 (p + 1) 0 (nI 0)) (p + 1) 1 (some 0)) (p + 1) = 0 := j1
  have r2 : mR (stR (stI M1 (p + 1) 0 (nI 0)) (p + 1) 1 (some 0)) (p + 1) 1 = some 0 := up2_eq _ _ _ _
  have i2 : mI (stR (stI M1 (p + 1) 0 (nI 0)) (p + 1) 1 (some 0)) (p + 1) 2 = 0 := by show up2 (mI M1) (p + 1) 0 (nI 0) (p + 1) 2 = 0; rw [up2_ne _ _ (by omega)]; exact i1
  have f2 : Fr p nF M (stR (stI M1 (p + 1) 0 (nI 0)) (p + 1) 1 (some 0)) := ⟨f1.1, fun i hi _ => ⟨(up2_row (mI M1) (nI 0) (by omega)).trans (f1.2 i hi (fun z => z)).1, (f1.2 i hi (fun z => z)).2.1, (up2_row (mR M1) (some 0) (by omega)).trans (f1.2 i hi (fun z => z)).2.2⟩⟩
  generalize stR (stI M1 (p + 1) 0 (nI 0)) (p + 1) 1 (some 0) = M2 at k2 j2 r2 i2 f2 ⊢
  refine g_putR (f := 0) dX1_init_12 cl2 k2 (by decide) (Or.inl (iw_2 8 rfl)) (Or.inl rfl) (Or.inr ⟨rfl, rfl, rfl, (iw_2 8 rfl)⟩) rfl ?_
  have k3 : mK (stR M2 p 0 (some (p + 1))) p = 2 := k2
  have r30 : mR (stR M2 p 0 (some (p + 1))) p 0 = some (p + 1) := up2_eq _ _ _ _
  have j3 : mK (stR M2 p 0 (some (p + 1))) (p + 1) = 0 := j2
  have r3 : mR (stR M2 p 0 (some (p + 1))) (p + 1) 1 = some 0 := by show up2 (mR M2) p 0 (some (p + 1)) (p + 1) 1 = _; rw [up2_ne _ _ (by omega)]; exact r2
  have i3 : mI (stR M2 p 0 (some (p + 1))) (p + 1) 2 = 0 := i2
  have f3 : Fr p nF M (stR M2 p 0 (some (p + 1))) := f2.set0 (Nat.le_refl _)
  generalize stR M2 p 0 (some (p + 1)) = M3 at k3 r30 j3 r3 i3 f3 ⊢
  refine g_aload_n dX1_init_15 rfl ?_
  refine g_callSN dX1_init_16 sX8_makeSets (i_sets M3 (p + 2)) tX8_makeSets (List.mem_of_getElem? (i := 2) rfl) rfl rfl (Nat.le_of_ble_eq_true rfl) (Nat.le_of_ble_eq_true rfl) (Nat.le_of_ble_eq_true rfl) (Nat.le_of_ble_eq_true rfl) (Nat.le_of_ble_eq_true rfl) ?_
  intro r9 M4 n9 h9
  obtain ⟨h91, h93, hs4, hf4⟩ := h9
  rw [h91, h93]
  clear h91 h93 r9 n9
  have w4 := hf4.n0 (lo := 0) (hi := p + 1) (by omega)
  have k4 : mK M4 p = 2 := by rw [(w4 p (by omega) (by omega)).1]; exact k3
  refine g_putR (f := 1) dX1_init_19 cl2 k4 (by decide) (Or.inl (iw_2 9 rfl)) (Or.inl rfl) (Or.inr ⟨rfl, rfl, rfl, (iw_2 9 rfl)⟩) rfl ?_
  have k5 : mK (stR M4 p 1 (some (p + 2))) p = 2 := k4
  have r5 : mR (stR M4 p 1 (some (p + 2))) p 0 = some (p + 1) ∧ mR (stR M4 p 1 (some (p + 2))) p 1 = some (p + 2) := by
    show up2 (mR M4) p 1 (some (p + 2)) p 0 = _ ∧ up2 (mR M4) p 1 (some (p + 2)) p 1 = _
    rw [up2_ne _ _ (by omega), up2_eq, (w4 p (by omega) (by omega)).2.2.2.2]
    exact ⟨r30, rfl⟩
  have w5 : Rw M3 (stR M4 p 1 (some (p + 2))) (p + 1) (p + 1) := (fun i a b => w4 i (by omega) (by omega)) |> fun (r : Rw M3 M4 (p + 1) (p + 1)) => r.trans (Rw.stR (by omega))
  have s5 : sE (stR M4 p 1 (some (p + 2))) (p + 2) (fun _ => [(0, 0)]) := hs4.rw (lo := p + 2) (hi := p + 10) (Rw.stR (by omega)) (by omega) (by omega)
  have f5 : Fr p nF M (stR M4 p 1 (some (p + 2))) := (f3.trans (hf4.less (by omega)) (Nat.le_refl _)).set0 (Nat.le_refl _)
  generalize stR M4 p 1 (some (p + 2)) = M5 at k5 r5 w5 s5 f5 ⊢
  refine g_aload_n dX1_init_22 rfl ?_
  refine g_new dX1_init_23 cl7 (iw_2 10 rfl) (iw_2 11 rfl) (iw_2 12 rfl) (Nat.le_of_ble_eq_true rfl) (Nat.le_of_ble_eq_true rfl) ?_
  have j6 : mK (stN M5 (p + 11) 7 0) (p + 11) = 7 := stN_Ks M5 (p + 11) 7 0
  have f56 : Fr (p + 11) nF M5 (stN M5 (p + 11) 7 0) := Fr.rf.stN (Nat.le_refl _)
  generalize stN M5 (p + 11) 7 0 = M6 at j6 f56 ⊢
  refine g_dup dX1_init_26 rfl ?_
  refine g_callI dX1_init_27 sX6_init (i_thr M6 (p + 12) (p + 11) j6 rfl (by omega)) rfl rfl iX6_init (iw_3 14 rfl) rfl rfl (Nat.le_of_ble_eq_true rfl) (Nat.le_of_ble_eq_true rfl) (Nat.le_of_ble_eq_true rfl) (Nat.le_of_ble_eq_true rfl) (Nat.le_of_ble_eq_true rfl) ?_
  intro r9 M7 n9 h9
  obtain ⟨h91, h93, hT7, hf7⟩ := h9
  rw [h91, h93]
  clear h91 h93 r9 n9
  have f57 := f56.trans hf7 (Nat.le_refl _)
  have w7 := f57.n0 (lo := 0) (hi := p + 10) (by omega)
  have k7 : mK M7 p = 2 := by rw [(w7 p (by omega) (by omega)).1]; exact k5
  refine g_putR (f := 2) dX1_init_30 cl2 k7 (by decide) (Or.inl (iw_2 13 rfl)) (Or.inl rfl) (Or.inr ⟨rfl, rfl, rfl, (iw_2 13 rfl)⟩) rfl ?_
  exact g_vret dX1_init_33 rfl (Nat.le_of_ble_eq_true rfl) (Nat.le_of_ble_eq_true rfl) (by
    have w8 : ∀ lo hi, p < lo → Rw M7 (stR M7 p 2 (some (p + 11))) lo hi := fun lo hi h => Rw.stR (by omega)
    have q7 : mR M7 p = mR M5 p := (w7 p (by omega) (by omega)).2.2.2.2
    have fin : Fr p nF M (stR M7 p 2 (some (p + 11))) := (f5.trans (f57.less (by omega)) (Nat.le_refl _)).set0 (Nat.le_refl _)
    refine ⟨rfl, rfl, ⟨k7, ?_, ?_, ?_⟩, ⟨?_, ?_, ?_, ?_, Nat.zero_le _, Or.inl ⟨rfl, ?_⟩, fun k hk => by omega⟩, (s5.rw w7 (by omega) (by omega)).rw (w8 (p + 2) (p + 10) (by omega)) (by omega) (by omega), hT7.rw (w8 (p + 11) (p + 12) (by omega)) (by omega) (by omega), fin⟩
    · show up2 (mR M7) p 2 (some (p + 11)) p 0 = _; rw [up2_ne _ _ (by omega), q7]; exact r5.1
    · show up2 (mR M7) p 2 (some (p + 11)) p 1 = _; rw [up2_ne _ _ (by omega), q7]; exact r5.2
    · exact up2_eq _ _ _ _
    · exact (w7 (p + 1) (by omega) (by omega)).1.trans ((w5 (p + 1) (by omega) (by omega)).1.trans j3)
    · show up2 (mR M7) p 2 (some (p + 11)) (p + 1) 1 = _
      rw [up2_ne _ _ (by omega), (w7 (p + 1) (by omega) (by omega)).2.2.2.2, (w5 (p + 1) (by omega) (by omega)).2.2.2.2]; exact r3
    · show mI M7 (p + 1) 2 = nI 0
      rw [(w7 (p + 1) (by omega) (by omega)).2.2.1, (w5 (p + 1) (by omega) (by omega)).2.2.1]; exact i3
    · exact (fin.1 0 (by omega)).1.trans z15
    · exact (fin.1 0 (by omega)).2.trans z0)

set_option maxHeartbeats 4000000 in
set_option maxRecDepth 100000 in
theorem i_solv (M : gM) (n u p : Nat) (hk : mK M u = 3) (hn : n = u + 1) (h2 : 2 ≤ u) : GM μX2_init 4 81 28 185 [.ref u, .ref p] M n (fun r M1 n1 => r = none ∧ n1 = u + 29 ∧ uR M1 u p ∧ Fr u nF M M1) := by
  refine GM.ofW (by decide) rfl (Nat.le_of_ble_eq_true rfl) rfl ?_
  subst hn
  refine g_aload_n dX2_init_0 rfl ?_
  refine g_objInit dX2_init_1 (iw_4 6 rfl) (iw_1 11 rfl) (iw_1 12 rfl) (Nat.le_of_ble_eq_true rfl) (Nat.le_of_ble_eq_true rfl) ?_
  refine g_aload_n dX2_init_4 rfl ?_
  refine g_new dX2_init_5 cl6 (iw_4 7 rfl) (iw_4 8 rfl) (iw_4 9 rfl) (Nat.le_of_ble_eq_true rfl) (Nat.le_of_ble_eq_true rfl) ?_
  have k1 : mK (stN M (u + 1) 6 0) u = 3 := by rw [stN_K _ _ _ _ _ (by omega)]; exact hk
  have j1 : mK (stN M (u + 1) 6 0) (u + 1) = 6 := stN_Ks M (u + 1) 6 0
  have f1 : Fr u nF M (stN M (u + 1) 6 0) := Fr.rf.stN (by omega)
  generalize stN M (u + 1) 6 0 = M1 at k1 j1 f1 ⊢
  refine g_dup dX2_init_8 rfl ?_
  refine g_callIN dX2_init_9 sX5_init (i_step M1 (u + 2) (u + 1) j1 rfl (by omega)) rfl rfl iX5_init (List.mem_of_getElem? (i := 3) rfl) rfl rfl (Nat.le_of_ble_eq_true rfl) (Nat.le_of_ble_eq_true rfl) (Nat.le_of_ble_eq_true rfl) (Nat.le_of_ble_eq_true rfl) (Nat.le_of_ble_eq_true rfl) ?_
  intro r9 M2 n9 h9
  obtain ⟨h91, h93, hs2, hf2⟩ := h9
  rw [h91, h93]
  clear h91 h93 r9 n9
  have k2 : mK M2 u = 3 := by rw [(hf2.1 u (by omega)).1]; exact k1
  refine g_putR (f := 1) dX2_init_12 cl3 k2 (by decide) (Or.inl (iw_4 10 rfl)) (Or.inl rfl) (Or.inr ⟨rfl, rfl, rfl, (iw_4 10 rfl)⟩) rfl ?_
  have k3 : mK (stR M2 u 1 (some (u + 1))) u = 3 := k2
  have r3 : mR (stR M2 u 1 (some (u + 1))) u 1 = some (u + 1) := up2_eq _ _ _ _
  have s3 : sP (stR M2 u 1 (some (u + 1))) (u + 1) := hs2.rw (lo := u + 1) (hi := u + 15) (Rw.stR (by omega)) (by omega) (by omega)
  have f3 : Fr u nF M (stR M2 u 1 (some (u + 1))) := (f1.trans (hf2.less (by omega)) (Nat.le_refl _)).set0 (Nat.le_refl _)
  generalize stR M2 u 1 (some (u + 1)) = M3 at k3 r3 s3 f3 ⊢
  refine g_aload_n dX2_init_15 rfl ?_
  refine g_new dX2_init_16 cl1 (iw_4 11 rfl) (iw_4 12 rfl) (iw_4 13 rfl) (Nat.le_of_ble_eq_true rfl) (Nat.le_of_ble_eq_true rfl) ?_
  have j4 : mK (stN M3 (u + 16) 1 0) (u + 16) = 1 := stN_Ks M3 (u + 16) 1 0
  have f34 : Fr (u + 16) nF M3 (stN M3 (u + 16) 1 0) := Fr.rf.stN (Nat.le_refl _)
  generalize stN M3 (u + 16) 1 0 = M4 at j4 f34 ⊢
  refine g_dup dX2_init_19 rfl ?_
  refine g_callIN dX2_init_20 sX0_init (i_gath M4 (u + 17) (u + 16) j4 rfl (by omega)) rfl rfl iX0_init (List.mem_of_getElem? (i := 5) rfl) rfl rfl (Nat.le_of_ble_eq_true rfl) (Nat.le_of_ble_eq_true rfl) (Nat.le_of_ble_eq_true rfl) (Nat.le_of_ble_eq_true rfl) (Nat.le_of_ble_eq_true rfl) ?_
  intro r9 M5 n9 h9
  obtain ⟨h91, h93, hg5, hf5⟩ := h9
  rw [h91, h93]
  clear h91 h93 r9 n9
  have f35 := f34.trans hf5 (Nat.le_refl _)
  have w5 := f35.n0 (lo := u) (hi := u + 15) (by omega)
  have k5 : mK M5 u = 3 := by rw [(w5 u (by omega) (by omega)).1]; exact k3
  refine g_putR (f := 2) dX2_init_23 cl3 k5 (by decide) (Or.inl (iw_4 14 rfl)) (Or.inl rfl) (Or.inr ⟨rfl, rfl, rfl, (iw_4 14 rfl)⟩) rfl ?_
  have k6 : mK (stR M5 u 2 (some (u + 16))) u = 3 := k5
  have r6 : mR (stR M5 u 2 (some (u + 16))) u 1 = some (u + 1) ∧ mR (stR M5 u 2 (some (u + 16))) u 2 = some (u + 16) := by
    show up2 (mR M5) u 2 (some (u + 16)) u 1 = _ ∧ up2 (mR M5) u 2 (some (u + 16)) u 2 = _
    rw [up2_ne _ _ (by omega), up2_eq, (w5 u (by omega) (by omega)).2.2.2.2]
    exact ⟨r3, rfl⟩
  have s6 : sP (stR M5 u 2 (some (u + 16))) (u + 1) := (s3.rw w5 (by omega) (by omega)).rw (lo := u + 1) (hi := u + 15) (Rw.stR (by omega)) (by omega) (by omega)
  have g6 : gG (stR M5 u 2 (some (u + 16))) (u + 16) := hg5.rw (lo := u + 16) (hi := u + 18) (Rw.stR (by omega)) (by omega) (by omega)
  have f6 : Fr u nF M (stR M5 u 2 (some (u + 16))) := (f3.trans (f35.less (by omega)) (Nat.le_refl _)).set0 (Nat.le_refl _)
  generalize stR M5 u 2 (some (u + 16)) = M6 at k6 r6 s6 g6 f6 ⊢
  refine g_aload_n dX2_init_26 rfl ?_
  refine g_callSN dX2_init_27 sX8_makeSets (i_sets M6 (u + 19)) tX8_makeSets (List.mem_of_getElem? (i := 6) rfl) rfl rfl (Nat.le_of_ble_eq_true rfl) (Nat.le_of_ble_eq_true rfl) (Nat.le_of_ble_eq_true rfl) (Nat.le_of_ble_eq_true rfl) (Nat.le_of_ble_eq_true rfl) ?_
  intro r9 M7 n9 h9
  obtain ⟨h91, h93, hs7, hf7⟩ := h9
  rw [h91, h93]
  clear h91 h93 r9 n9
  have w7 := hf7.n0 (lo := u) (hi := u + 18) (by omega)
  have k7 : mK M7 u = 3 := by rw [(w7 u (by omega) (by omega)).1]; exact k6
  refine g_putR (f := 3) dX2_init_30 cl3 k7 (by decide) (Or.inl (iw_4 15 rfl)) (Or.inl rfl) (Or.inr ⟨rfl, rfl, rfl, (iw_4 15 rfl)⟩) rfl ?_
  have k8 : mK (stR M7 u 3 (some (u + 19))) u = 3 := k7
  have r8 : mR (stR M7 u 3 (some (u + 19))) u 1 = some (u + 1) ∧ mR (stR M7 u 3 (some (u + 19))) u 2 = some (u + 16) ∧ mR (stR M7 u 3 (some (u + 19))) u 3 = some (u + 19) := by
    show up2 (mR M7) u 3 (some (u + 19)) u 1 = _ ∧ up2 (mR M7) u 3 (some (u + 19)) u 2 = _ ∧ up2 (mR M7) u 3 (some (u + 19)) u 3 = _
    rw [up2_ne _ _ (by omega), up2_ne _ _ (by omega), up2_eq, (w7 u (by omega) (by omega)).2.2.2.2]
    exact ⟨r6.1, r6.2, rfl⟩
  have s8 : sP (stR M7 u 3 (some (u + 19))) (u + 1) := (s6.rw w7 (by omega) (by omega)).rw (lo := u + 1) (hi := u + 15) (Rw.stR (by omega)) (by omega) (by omega)
  have g8 : gG (stR M7 u 3 (some (u + 19))) (u + 16) := (g6.rw w7 (by omega) (by omega)).rw (lo := u + 16) (hi := u + 18) (Rw.stR (by omega)) (by omega) (by omega)
  have a8 : sA (stR M7 u 3 (some (u + 19))) (u + 19) := hs7.1.rw (lo := u + 19) (hi := u + 27) (Rw.stR (by omega)) (by omega) (by omega)
  have f8 : Fr u nF M (stR M7 u 3 (some (u + 19))) := (f6.trans (hf7.less (by omega)) (Nat.le_refl _)).set0 (Nat.le_refl _)
  generalize stR M7 u 3 (some (u + 19)) = M8 at k8 r8 s8 g8 a8 f8 ⊢
  refine g_aload_n dX2_init_33 rfl ?_
  refine g_new dX2_init_34 cl4 (iw_4 16 rfl) (iw_3 8 rfl) (iw_3 9 rfl) (Nat.le_of_ble_eq_true rfl) (Nat.le_of_ble_eq_true rfl) ?_
  refine g_dup dX2_init_37 rfl ?_
  refine g_callIN dX2_init_38 sX3_init (i_set (stN M8 (u + 28) 4 0) (u + 29) (u + 28) (stN_Ks M8 (u + 28) 4 0)) rfl rfl iX3_init (List.mem_of_getElem? (i := 7) rfl) rfl rfl (Nat.le_of_ble_eq_true rfl) (Nat.le_of_ble_eq_true rfl) (Nat.le_of_ble_eq_true rfl) (Nat.le_of_ble_eq_true rfl) (Nat.le_of_ble_eq_true rfl) ?_
  intro r9 M9 n9 h9
  obtain ⟨h91, h92, h93⟩ := h9
  rw [h91, h92, h93]
  clear h91 h92 h93 r9 M9 n9
  have c10 : cS (stI (stN M8 (u + 28) 4 0) (u + 28) 0 (nI 1)) (u + 28) [(0, 0)] := newSet
  have f810 : Fr (u + 28) nF M8 (stI (stN M8 (u + 28) 4 0) (u + 28) 0 (nI 1)) := Fr.set (Nat.le_refl _)
  generalize stI (stN M8 (u + 28) 4 0) (u + 28) 0 (nI 1) = M10 at c10 f810 ⊢
  have w10 := f810.n0 (lo := u) (hi := u + 27) (by omega)
  have k10 : mK M10 u = 3 := by rw [(w10 u (by omega) (by omega)).1]; exact k8
  refine g_putR (f := 4) dX2_init_41 cl3 k10 (by decide) (Or.inl (iw_4 17 rfl)) (Or.inl rfl) (Or.inr ⟨rfl, rfl, rfl, (iw_4 17 rfl)⟩) rfl ?_
  refine g_aload_n dX2_init_44 rfl ?_
  refine g_aload_n dX2_init_45 rfl ?_
  refine g_putR (f := 0) dX2_init_46 cl3 k10 (by decide) (Or.inl (iw_4 18 rfl)) (Or.inl rfl) (Or.inr ⟨rfl, rfl, rfl, (iw_4 18 rfl)⟩) rfl ?_
  exact g_vret dX2_init_49 rfl (Nat.le_of_ble_eq_true rfl) (Nat.le_of_ble_eq_true rfl) (by
    have w12 : Rw M10 (stR (stR M10 u 4 (some (u + 28))) u 0 (some p)) (u + 1) (u + 28) := (Rw.stR (by omega)).trans (Rw.stR (by omega))
    have q10 : mR M10 u = mR M8 u := (w10 u (by omega) (by omega)).2.2.2.2
    refine ⟨rfl, rfl, ⟨k10, ⟨?_, ?_, ?_, ?_, ?_⟩, (s8.rw w10 (by omega) (by omega)).rw w12 (by omega) (by omega), (g8.rw w10 (by omega) (by omega)).rw w12 (by omega) (by omega), (a8.rw w10 (by omega) (by omega)).rw w12 (by omega) (by omega), c10.1⟩, ((f8.trans (f810.less (by omega)) (Nat.le_refl _)).set0 (Nat.le_refl _)).set0 (Nat.le_refl _)⟩
    · exact up2_eq _ _ _ _
    · show up2 (up2 (mR M10) u 4 (some (u + 28))) u 0 (some p) u 1 = _; rw [up2_ne _ _ (by omega), up2_ne _ _ (by omega), q10]; exact r8.1
    · show up2 (up2 (mR M10) u 4 (some (u + 28))) u 0 (some p) u 2 = _; rw [up2_ne _ _ (by omega), up2_ne _ _ (by omega), q10]; exact r8.2.1
    · show up2 (up2 (mR M10) u 4 (some (u + 28))) u 0 (some p) u 3 = _; rw [up2_ne _ _ (by omega), up2_ne _ _ (by omega), q10]; exact r8.2.2
    · show up2 (up2 (mR M10) u 4 (some (u + 28))) u 0 (some p) u 4 = _; rw [up2_ne _ _ (by omega)]; exact up2_eq _ _ _ _)

set_option maxHeartbeats 4000000 in
set_option maxRecDepth 100000 in
theorem i_trial (M : gM) (n q p : Nat) (hk : mK M q = 8) (hn : n = q + 1) (h2 : 2 ≤ q) : GM μX7_init 1 20 1 8 [.ref q, .ref p] M n (fun r M1 n1 => r = none ∧ n1 = q + 2 ∧ qR M1 q p ∧ mI M1 q 3 = -1 ∧ (∀ j, j < 8 → mI M1 (q + 1) j = 0) ∧ Fr q nF M M1) := by
  refine GM.ofW (by decide) rfl (Nat.le_of_ble_eq_true rfl) rfl ?_
  subst hn
  refine g_aload_n dX7_init_0 rfl ?_
  refine g_objInit dX7_init_1 (iw_5 12 rfl) (iw_1 11 rfl) (iw_1 12 rfl) (Nat.le_of_ble_eq_true rfl) (Nat.le_of_ble_eq_true rfl) ?_
  refine g_aload_n dX7_init_4 rfl ?_
  refine g_bipush (v := nI 8) dX7_init_5 rfl ?_
  refine g_newarr (kd := 11) (t0 := 0) (L := 8) (ty := .int) dX7_init_7 rfl (iw_3 18 rfl) (fun _ => rfl) (Or.inl ⟨rfl, rfl⟩) rfl (by decide) (by decide) (Nat.le_of_ble_eq_true rfl) (Nat.le_of_ble_eq_true rfl) ?_
  have k1 : mK (stN M (q + 1) 11 8) q = 8 := by rw [stN_K _ _ _ _ _ (by omega)]; exact hk
  have j1 : mK (stN M (q + 1) 11 8) (q + 1) = 11 ∧ mN (stN M (q + 1) 11 8) (q + 1) = 8 := ⟨stN_Ks M (q + 1) 11 8, stN_Ns M (q + 1) 11 8⟩
  have i1 : mI (stN M (q + 1) 11 8) (q + 1) = fun _ => 0 := stN_Is M (q + 1) 11 8
  have f1 : Fr q nF M (stN M (q + 1) 11 8) := Fr.rf.stN (by omega)
  generalize stN M (q + 1) 11 8 = M1 at k1 j1 i1 f1 ⊢
  refine g_putR (f := 1) dX7_init_9 cl8 k1 (by decide) (Or.inl (iw_5 13 rfl)) (Or.inl rfl) (Or.inr ⟨rfl, rfl, rfl, (iw_5 13 rfl)⟩) rfl ?_
  refine g_aload_n dX7_init_12 rfl ?_
  refine g_iconst (v := (-1)) dX7_init_13 (by decide) ?_
  refine g_putI (f := 3) dX7_init_14 cl8 k1 (by decide) (Or.inl (iw_5 14 rfl)) (Or.inl rfl) (Or.inl rfl) (Or.inl rfl) ?_
  refine g_aload_n dX7_init_17 rfl ?_
  refine g_aload_n dX7_init_18 rfl ?_
  refine g_putR (f := 0) dX7_init_19 cl8 k1 (by decide) (Or.inl (iw_5 15 rfl)) (Or.inl rfl) (Or.inr ⟨rfl, rfl, rfl, (iw_5 15 rfl)⟩) rfl ?_
  exact g_vret dX7_init_22 rfl (Nat.le_of_ble_eq_true rfl) (Nat.le_of_ble_eq_true rfl) (by
    refine ⟨rfl, rfl, ⟨k1, ?_, ?_, j1.1, j1.2⟩, ?_, fun j hj => ?_, ?_⟩
    · exact up2_eq _ _ _ _
    · show up2 (up2 (mR M1) q 1 (some (q + 1))) q 0 (some p) q 1 = _; rw [up2_ne _ _ (by omega)]; exact up2_eq _ _ _ _
    · show up2 (mI M1) q 3 (-1) q 3 = _; exact up2_eq _ _ _ _
    · show up2 (mI M1) q 3 (-1) (q + 1) j = _; rw [up2_ne _ _ (by omega), i1]
    · refine ⟨f1.1, fun i hi _ => ⟨(up2_row (mI M1) (-1) (by omega)).trans (f1.2 i hi (fun z => z)).1, (f1.2 i hi (fun z => z)).2.1, ?_⟩⟩
      show up2 (up2 (mR M1) q 1 (some (q + 1))) q 0 (some p) i = _
      rw [up2_row _ _ (by omega), up2_row _ _ (by omega)]; exact (f1.2 i hi (fun z => z)).2.2)

