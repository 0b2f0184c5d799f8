/-! the class as a whole; it is made; a statement is made -/
/-- the class at w, in state σ; the reference lies at w + 45 .. w + 56, the row for doubles at w + 57 -/
def cV (M : gM) (w : Nat) : Prop := mK M w = 9 ∧ mR M w 0 = some (w + 1) ∧ mR M w 1 = some (w + 14) ∧ mR M w 2 = some (w + 43)
def cR (M : gM) (w : Nat) (σ : MS) (E : Nat → Nat) : Prop := zR σ = true → (∃ st, fE M E (zP σ).length (zA σ) st) ∧ mI M (w + 14) 5 = nI (runA (zP σ) (zF σ)).2.1 ∧ mI M (w + 14) 6 = nI (aW (zA σ)) ∧ mI M (w + 14) 7 = nI (runA (zP σ) (zF σ)).2.2
def cQ (M : gM) (w : Nat) (σ : MS) (d : Nat) (E : Nat → Nat) : Prop := cV M w ∧ qR M (w + 43) (w + 1) ∧ okZ σ ∧ mI M w 3 = bI (zR σ) ∧ mI M (w + 43) 3 = zH σ ∧ (∀ p, p < 8 → mI M (w + 44) p = zN σ p) ∧ sE M (w + 3) (zF σ) ∧ wS M (w + 1) (w + 14) d (w + 58) E (zP σ) ∧ cR M w σ E ∧ (d = 0 ∨ w + 58 ≤ d) ∧ 2 ≤ w
def kW (M : gM) (w : Nat) (σ : MS) : Prop := ∃ d E, cQ M w σ d E
theorem vP_nil : vP [] := ⟨Nat.zero_le _, fun a h => absurd h (Nat.not_lt_zero _)⟩
set_option maxHeartbeats 4000000 in
set_option maxRecDepth 100000 in
theorem i_all (M : gM) (n w : Nat) (hk : mK M w = 9) (hn : n = w + 1) (h2 : 2 ≤ w) : GM μX8_init 5 102 44 343 [.ref w] M n (fun r M1 n1 => r = none ∧ n1 = w + 45 ∧ kW M1 w ([], fun _ => [(0, 0)], false, -1, fun _ => 0) ∧ Fr w nF M M1) := by
  refine GM.ofW (by decide) rfl (Nat.le_of_ble_eq_true rfl) rfl ?_
  subst hn
  refine g_facts (fun hw => ?_)
  have z15 := hw.2.2.2.1
  have z0 := hw.2.2.2.2
  have hlt := hw.1
  refine g_aload_n dX8_init_0 rfl ?_
  refine g_objInit dX8_init_1 (iw_1 10 rfl) (iw_1 11 rfl) (iw_1 12 rfl) (Nat.le_of_ble_eq_true rfl) (Nat.le_of_ble_eq_true rfl) ?_
  refine g_aload_n dX8_init_4 rfl ?_
  refine g_new dX8_init_5 cl2 (iw_1 13 rfl) (iw_1 14 rfl) (iw_1 15 rfl) (Nat.le_of_ble_eq_true rfl) (Nat.le_of_ble_eq_true rfl) ?_
  have k1 : mK (stN M (w + 1) 2 0) w = 9 := by rw [stN_K _ _ _ _ _ (by omega)]; exact hk
  have j1 : mK (stN M (w + 1) 2 0) (w + 1) = 2 := stN_Ks M (w + 1) 2 0
  have f1 : Fr w nF M (stN M (w + 1) 2 0) := Fr.rf.stN (by omega)
  generalize stN M (w + 1) 2 0 = M1 at k1 j1 f1 ⊢
  refine g_dup dX8_init_8 rfl ?_
  refine g_callIN dX8_init_9 sX1_init (i_prog M1 (w + 2) (w + 1) (fun _ => 0) j1 rfl (by omega)) rfl rfl iX1_init (List.mem_of_getElem? (i := 1) rfl) rfl rfl (Nat.le_of_ble_eq_true rfl) (Nat.le_of_ble_eq_true rfl) (Nat.le_of_ble_eq_true rfl) (Nat.le_of_ble_eq_true rfl) (Nat.le_of_ble_eq_true rfl) ?_
  intro r9 M2 n9 h9
  obtain ⟨h91, h93, hp2, hL2, hs2, hT2, hf2⟩ := h9
  rw [h91, h93]
  clear h91 h93 r9 n9
  have k2 : mK M2 w = 9 := by rw [(hf2.1 w (by omega)).1]; exact k1
  have y2 : Rw M2 (stR M2 w 0 (some (w + 1))) (w + 1) (w + 13) := Rw.stR (by omega)
  have y0 : Rw M2 (stR M2 w 0 (some (w + 1))) 0 0 := Rw.stR (by omega)
  refine g_putR (f := 0) dX8_init_12 cl9 k2 (by decide) (Or.inl (iw_1 16 rfl)) (Or.inl rfl) (Or.inr ⟨rfl, rfl, rfl, (iw_1 16 rfl)⟩) rfl ?_
  have k3 : mK (stR M2 w 0 (some (w + 1))) w = 9 := k2
  have r3 : mR (stR M2 w 0 (some (w + 1))) w 0 = some (w + 1) := up2_eq _ _ _ _
  have p3 : pR (stR M2 w 0 (some (w + 1))) (w + 1) := hp2.rw y2 (by omega) (by omega)
  have l3 : aL (stR M2 w 0 (some (w + 1))) (w + 2) 0 0 (fun _ => 0) := hL2.rw (fun i a b => y2 i (by omega) (by omega)) y0 (fun k hk => by omega)
  have s3 : sE (stR M2 w 0 (some (w + 1))) (w + 3) (fun _ => [(0, 0)]) := hs2.rw y2 (by omega) (by omega)
  have t3 : tH (stR M2 w 0 (some (w + 1))) (w + 12) [-2147483648, 2147483647] (thA []) := hT2.rw y2 (by omega) (by omega)
  have f3 : Fr w nF M (stR M2 w 0 (some (w + 1))) := (f1.trans (hf2.less (by omega)) (Nat.le_refl _)).set0 (Nat.le_refl _)
  generalize stR M2 w 0 (some (w + 1)) = M3 at k3 r3 p3 l3 s3 t3 f3 ⊢
  refine g_aload_n dX8_init_15 rfl ?_
  refine g_new dX8_init_16 cl3 (iw_1 17 rfl) (iw_1 18 rfl) (iw_1 19 rfl) (Nat.le_of_ble_eq_true rfl) (Nat.le_of_ble_eq_true rfl) ?_
  have k4 : mK (stN M3 (w + 14) 3 0) w = 9 := by rw [stN_K _ _ _ _ _ (by omega)]; exact k3
  have r4 : mR (stN M3 (w + 14) 3 0) w 0 = some (w + 1) := by rw [stN_R _ _ _ _ _ (by omega)]; exact r3
  have j4 : mK (stN M3 (w + 14) 3 0) (w + 14) = 3 := stN_Ks M3 (w + 14) 3 0
  have f34 : Fr (w + 14) nF M3 (stN M3 (w + 14) 3 0) := Fr.rf.stN (Nat.le_refl _)
  generalize stN M3 (w + 14) 3 0 = M4 at k4 r4 j4 f34 ⊢
  refine g_dup dX8_init_19 rfl ?_
  refine g_aload_n dX8_init_20 rfl ?_
  refine g_getR (f := 0) dX8_init_21 cl9 k4 (by decide) (Or.inl (iw_1 16 rfl)) (Or.inl rfl) rfl r4 ?_
  refine g_callI dX8_init_24 sX2_init (i_solv M4 (w + 15) (w + 14) (w + 1) j4 rfl (by omega)) rfl rfl iX2_init (iw_4 3 rfl) rfl rfl (Nat.le_of_ble_eq_true rfl) (Nat.le_of_ble_eq_true rfl) (Nat.le_of_ble_eq_true rfl) (Nat.le_of_ble_eq_true rfl) (Nat.le_of_ble_eq_true rfl) ?_
  intro r9 M5 n9 h9
  obtain ⟨h91, h93, hu5, hf5⟩ := h9
  rw [h91, h93]
  clear h91 h93 r9 n9
  have f35 := f34.trans hf5 (Nat.le_refl _)
  have w5 := f35.n0 (lo := 0) (hi := w + 13) (by omega)
  have k5 : mK M5 w = 9 := by rw [(w5 w (by omega) (by omega)).1]; exact k3
  have y5 : Rw M3 (stR M5 w 1 (some (w + 14))) (w + 1) (w + 13) := (fun i a b => w5 i (by omega) (by omega)) |> fun (r : Rw M3 M5 (w + 1) (w + 13)) => r.trans (Rw.stR (by omega))
  have y50 : Rw M3 (stR M5 w 1 (some (w + 14))) 0 0 := (fun i a b => w5 i (by omega) (by omega)) |> fun (r : Rw M3 M5 0 0) => r.trans (Rw.stR (by omega))
  refine g_putR (f := 1) dX8_init_27 cl9 k5 (by decide) (Or.inl (iw_1 20 rfl)) (Or.inl rfl) (Or.inr ⟨rfl, rfl, rfl, (iw_1 20 rfl)⟩) rfl ?_
  have k6 : mK (stR M5 w 1 (some (w + 14))) w = 9 := k5
  have r6 : mR (stR M5 w 1 (some (w + 14))) w 0 = some (w + 1) ∧ mR (stR M5 w 1 (some (w + 14))) w 1 = some (w + 14) := by
    show up2 (mR M5) w 1 (some (w + 14)) w 0 = _ ∧ up2 (mR M5) w 1 (some (w + 14)) w 1 = _
    rw [up2_ne _ _ (by omega), up2_eq, (w5 w (by omega) (by omega)).2.2.2.2]
    exact ⟨r3, rfl⟩
  have p6 : pR (stR M5 w 1 (some (w + 14))) (w + 1) := p3.rw y5 (by omega) (by omega)
  have l6 : aL (stR M5 w 1 (some (w + 14))) (w + 2) 0 0 (fun _ => 0) := l3.rw (fun i a b => y5 i (by omega) (by omega)) y50 (fun k hk => by omega)
  have s6 : sE (stR M5 w 1 (some (w + 14))) (w + 3) (fun _ => [(0, 0)]) := s3.rw y5 (by omega) (by omega)
  have t6 : tH (stR M5 w 1 (some (w + 14))) (w + 12) [-2147483648, 2147483647] (thA []) := t3.rw y5 (by omega) (by omega)
  have u6 : uR (stR M5 w 1 (some (w + 14))) (w + 14) (w + 1) := hu5.rw (lo := w + 14) (hi := w + 42) (Rw.stR (by omega)) (by omega) (by omega)
  have f6 : Fr w nF M (stR M5 w 1 (some (w + 14))) := (f3.trans (f35.less (by omega)) (Nat.le_refl _)).set0 (Nat.le_refl _)
  generalize stR M5 w 1 (some (w + 14)) = M6 at k6 r6 p6 l6 s6 t6 u6 f6 ⊢
  refine g_aload_n dX8_init_30 rfl ?_
  refine g_new dX8_init_31 cl8 (iw_1 21 rfl) (iw_1 22 rfl) (iw_1 23 rfl) (Nat.le_of_ble_eq_true rfl) (Nat.le_of_ble_eq_true rfl) ?_
  have k7 : mK (stN M6 (w + 43) 8 0) w = 9 := by rw [stN_K _ _ _ _ _ (by omega)]; exact k6
  have r7 : mR (stN M6 (w + 43) 8 0) w 0 = some (w + 1) := by rw [stN_R _ _ _ _ _ (by omega)]; exact r6.1
  have j7 : mK (stN M6 (w + 43) 8 0) (w + 43) = 8 := stN_Ks M6 (w + 43) 8 0
  have f67 : Fr (w + 43) nF M6 (stN M6 (w + 43) 8 0) := Fr.rf.stN (Nat.le_refl _)
  generalize stN M6 (w + 43) 8 0 = M7 at k7 r7 j7 f67 ⊢
  refine g_dup dX8_init_34 rfl ?_
  refine g_aload_n dX8_init_35 rfl ?_
  refine g_getR (f := 0) dX8_init_36 cl9 k7 (by decide) (Or.inl (iw_1 16 rfl)) (Or.inl rfl) rfl r7 ?_
  refine g_callI dX8_init_39 sX7_init (i_trial M7 (w + 44) (w + 43) (w + 1) j7 rfl (by omega)) rfl rfl iX7_init (iw_5 9 rfl) rfl rfl (Nat.le_of_ble_eq_true rfl) (Nat.le_of_ble_eq_true rfl) (Nat.le_of_ble_eq_true rfl) (Nat.le_of_ble_eq_true rfl) (Nat.le_of_ble_eq_true rfl) ?_
  intro r9 M8 n9 h9
  obtain ⟨h91, h93, hq8, hh8, hv8, hf8⟩ := h9
  rw [h91, h93]
  clear h91 h93 r9 n9
  have f68 := f67.trans hf8 (Nat.le_refl _)
  have w8 := f68.n0 (lo := 0) (hi := w + 42) (by omega)
  have k8 : mK M8 w = 9 := by rw [(w8 w (by omega) (by omega)).1]; exact k6
  refine g_putR (f := 2) dX8_init_42 cl9 k8 (by decide) (Or.inl (iw_2 0 rfl)) (Or.inl rfl) (Or.inr ⟨rfl, rfl, rfl, (iw_2 0 rfl)⟩) rfl ?_
  refine g_aload_n dX8_init_45 rfl ?_
  refine g_iconst (v := nI 0) dX8_init_46 rfl ?_
  refine g_putI (f := 3) dX8_init_47 cl9 k8 (by decide) (Or.inl (iw_2 1 rfl)) (Or.inl rfl) (Or.inl rfl) (Or.inr ⟨rfl, (Or.inl rfl)⟩) ?_
  exact g_vret dX8_init_50 rfl (Nat.le_of_ble_eq_true rfl) (Nat.le_of_ble_eq_true rfl) (by
    have y9 : Rw M8 (stI (stR M8 w 2 (some (w + 43))) w 3 0) (w + 1) (w + 44) := (Rw.stR (by omega)).trans (Rw.stI (by omega))
    have y90 : Rw M8 (stI (stR M8 w 2 (some (w + 43))) w 3 0) 0 0 := (Rw.stR (by omega)).trans (Rw.stI (by omega))
    have y8 : Rw M6 (stI (stR M8 w 2 (some (w + 43))) w 3 0) (w + 1) (w + 42) := (fun i a b => w8 i (by omega) (by omega)) |> fun (r : Rw M6 M8 (w + 1) (w + 42)) => r.trans (fun i a b => y9 i (by omega) (by omega))
    have y80 : Rw M6 (stI (stR M8 w 2 (some (w + 43))) w 3 0) 0 0 := (fun i a b => w8 i (by omega) (by omega)) |> fun (r : Rw M6 M8 0 0) => r.trans y90
    have q8 : mR M8 w = mR M6 w := (w8 w (by omega) (by omega)).2.2.2.2
    have fin : Fr w nF M (stI (stR M8 w 2 (some (w + 43))) w 3 0) := ((f6.trans (f68.less (by omega)) (Nat.le_refl _)).set0 (Nat.le_refl _)) |> fun f => ⟨f.1, fun i hi _ => ⟨(up2_row (mI M8) (0 : Int32) (by omega)).trans (f.2 i hi (fun z => z)).1, (f.2 i hi (fun z => z)).2⟩⟩
    refine ⟨rfl, rfl, ⟨0, fun _ => 0, ⟨k8, ?_, ?_, ?_⟩, hq8.rw y9 (by omega) (by omega), ⟨vP_nil, fun p hp => ⟨okX_0, rfl⟩⟩, ?_, ?_, ?_, s6.rw y8 (by omega) (by omega), ⟨p6.rw y8 (by omega) (by omega), u6.rw y8 (by omega) (by omega), l6.rw (fun i a b => y8 i (by omega) (by omega)) y80 (fun k hk => by omega), s6.1.rw y8 (by omega) (by omega), ⟨_, t6.rw y8 (by omega) (by omega)⟩, vP_nil, fun k hk => absurd hk (Nat.not_lt_zero _), by omega, by omega, fun k hk => absurd hk (Nat.not_lt_zero _), fun j k h hk => absurd hk (Nat.not_lt_zero _)⟩, fun q => (by cases q), Or.inl rfl, h2⟩, fin⟩
    · show up2 (mR M8) w 2 (some (w + 43)) w 0 = _; rw [up2_ne _ _ (by omega), q8]; exact r6.1
    · show up2 (mR M8) w 2 (some (w + 43)) w 1 = _; rw [up2_ne _ _ (by omega), q8]; exact r6.2
    · exact up2_eq _ _ _ _
    · exact up2_eq _ _ _ _
    · exact (congrFun (y9 (w + 43) (by omega) (by omega)).2.2.1 3).trans hh8
    · intro p hp; exact (congrFun (y9 (w + 44) (by omega) (by omega)).2.2.1 p).trans (hv8 p hp))

set_option maxHeartbeats 4000000 in
set_option maxRecDepth 100000 in
theorem i_stat (M : gM) (n e : Nat) (s : St) (hk : mK M e = 5) (hz : mI M e = fun _ => 0) (hn : n = e + 1) : GM μX4_init 3 61 9 48 [.ref e, .int (nI s.1), .int s.2.1, .int s.2.2.1, .int s.2.2.2] M n (fun r M1 n1 => r = none ∧ n1 = e + 10 ∧ sQ M1 e s ∧ mI M1 e 5 = 0 ∧ Fr e nF M M1) := by
  refine GM.ofW (by decide) rfl (Nat.le_of_ble_eq_true rfl) rfl ?_
  subst hn
  refine g_aload_n dX4_init_0 rfl ?_
  refine g_objInit dX4_init_1 (iw_8 17 rfl) (iw_1 11 rfl) (iw_1 12 rfl) (Nat.le_of_ble_eq_true rfl) (Nat.le_of_ble_eq_true rfl) ?_
  refine g_aload_n dX4_init_4 rfl ?_
  refine g_iload_n dX4_init_5 rfl ?_
  refine g_putI (f := 0) dX4_init_6 cl5 hk (by decide) (Or.inl (iw_8 18 rfl)) (Or.inl rfl) (Or.inr ⟨rfl, rfl, rfl, (iw_8 18 rfl)⟩) (Or.inl rfl) ?_
  refine g_aload_n dX4_init_9 rfl ?_
  refine g_iload_n dX4_init_10 rfl ?_
  refine g_putI (f := 1) dX4_init_11 cl5 hk (by decide) (Or.inl (iw_8 19 rfl)) (Or.inl rfl) (Or.inr ⟨rfl, rfl, rfl, (iw_8 19 rfl)⟩) (Or.inl rfl) ?_
  refine g_aload_n dX4_init_14 rfl ?_
  refine g_iload_n dX4_init_15 rfl ?_
  refine g_putI (f := 2) dX4_init_16 cl5 hk (by decide) (Or.inl (iw_8 20 rfl)) (Or.inl rfl) (Or.inr ⟨rfl, rfl, rfl, (iw_8 20 rfl)⟩) (Or.inl rfl) ?_
  refine g_aload_n dX4_init_19 rfl ?_
  refine g_iload dX4_init_20 rfl ?_
  refine g_putI (f := 3) dX4_init_22 cl5 hk (by decide) (Or.inl (iw_8 21 rfl)) (Or.inl rfl) (Or.inr ⟨rfl, rfl, rfl, (iw_8 21 rfl)⟩) (Or.inl rfl) ?_
  have k1 : mK (stI (stI (stI (stI M e 0 (nI s.1)) e 1 s.2.1) e 2 s.2.2.1) e 3 s.2.2.2) e = 5 := hk
  have i1 : mI (stI (stI (stI (stI M e 0 (nI s.1)) e 1 s.2.1) e 2 s.2.2.1) e 3 s.2.2.2) e 0 = nI s.1 ∧ mI (stI (stI (stI (stI M e 0 (nI s.1)) e 1 s.2.1) e 2 s.2.2.1) e 3 s.2.2.2) e 1 = s.2.1 ∧ mI (stI (stI (stI (stI M e 0 (nI s.1)) e 1 s.2.1) e 2 s.2.2.1) e 3 s.2.2.2) e 2 = s.2.2.1 ∧ mI (stI (stI (stI (stI M e 0 (nI s.1)) e 1 s.2.1) e 2 s.2.2.1) e 3 s.2.2.2) e 3 = s.2.2.2 ∧ mI (stI (stI (stI (stI M e 0 (nI s.1)) e 1 s.2.1) e 2 s.2.2.1) e 3 s.2.2.2) e 5 = 0 := by
    show up2 (up2 (up2 (up2 (mI M) e 0 (nI s.1)) e 1 s.2.1) e 2 s.2.2.1) e 3 s.2.2.2 e 0 = _ ∧ up2 (up2 (up2 (up2 (mI M) e 0 (nI s.1)) e 1 s.2.1) e 2 s.2.2.1) e 3 s.2.2.2 e 1 = _ ∧ up2 (up2 (up2 (up2 (mI M) e 0 (nI s.1)) e 1 s.2.1) e 2 s.2.2.1) e 3 s.2.2.2 e 2 = _ ∧ up2 (up2 (up2 (up2 (mI M) e 0 (nI s.1)) e 1 s.2.1) e 2 s.2.2.1) e 3 s.2.2.2 e 3 = _ ∧ up2 (up2 (up2 (up2 (mI M) e 0 (nI s.1)) e 1 s.2.1) e 2 s.2.2.1) e 3 s.2.2.2 e 5 = _
    simp [up2, hz]
  have f1 : Fr e nF M (stI (stI (stI (stI M e 0 (nI s.1)) e 1 s.2.1) e 2 s.2.2.1) e 3 s.2.2.2) := ⟨fun i hi => ⟨rfl, rfl⟩, fun i hi _ => ⟨(up2_row _ _ (by omega)).trans ((up2_row _ _ (by omega)).trans ((up2_row _ _ (by omega)).trans (up2_row (mI M) (nI s.1) (by omega)))), rfl, rfl⟩⟩
  generalize stI (stI (stI (stI M e 0 (nI s.1)) e 1 s.2.1) e 2 s.2.2.1) e 3 s.2.2.2 = M1 at k1 i1 f1 ⊢
  refine g_aload_n dX4_init_25 rfl ?_
  refine g_callSN dX4_init_26 sX8_makeSets (i_sets M1 (e + 1)) tX8_makeSets (List.mem_of_getElem? (i := 8) rfl) rfl rfl (Nat.le_of_ble_eq_true rfl) (Nat.le_of_ble_eq_true rfl) (Nat.le_of_ble_eq_true rfl) (Nat.le_of_ble_eq_true rfl) (Nat.le_of_ble_eq_true rfl) ?_
  intro r9 M2 n9 h9
  obtain ⟨h91, h93, hs2, hf2⟩ := h9
  rw [h91, h93]
  clear h91 h93 r9 n9
  have k2 : mK M2 e = 5 := by rw [(hf2.1 e (by omega)).1]; exact k1
  refine g_putR (f := 4) dX4_init_29 cl5 k2 (by decide) (Or.inl (iw_8 22 rfl)) (Or.inl rfl) (Or.inr ⟨rfl, rfl, rfl, (iw_8 22 rfl)⟩) rfl ?_
  exact g_vret dX4_init_32 rfl (Nat.le_of_ble_eq_true rfl) (Nat.le_of_ble_eq_true rfl) (by
    have y2 : Rw M2 (stR M2 e 4 (some (e + 1))) (e + 1) (e + 9) := Rw.stR (by omega)
    have i2 : mI M2 e = mI M1 e := (hf2.2 e (by omega) (fun z => z)).1
    refine ⟨rfl, rfl, ⟨k2, ?_, ?_, ?_, ?_, up2_eq _ _ _ _, hs2.1.rw y2 (by omega) (by omega)⟩, ?_, (f1.trans (hf2.less (by omega)) (Nat.le_refl _)).set0 (Nat.le_refl _)⟩
    · show mI M2 e 0 = _; rw [i2]; exact i1.1
    · show mI M2 e 1 = _; rw [i2]; exact i1.2.1
    · show mI M2 e 2 = _; rw [i2]; exact i1.2.2.1
    · show mI M2 e 3 = _; rw [i2]; exact i1.2.2.2.1
    · show mI M2 e 5 = _; rw [i2]; exact i1.2.2.2.2)

