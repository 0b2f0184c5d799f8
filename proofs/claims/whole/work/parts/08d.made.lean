/-! the class: its things are made, the great ones -/
theorem Rw.stR {M : gM} {v k lo hi : Nat} {x : Option Nat} (h : v < lo ∨ hi < v) : Rw M (Jvm.Pilot.CWholeSpansLaw_law_r3418_190b4e.stR M v k x) lo hi := fun i h1 h2 => ⟨rfl, rfl, rfl, rfl, up2_row _ _ (by omega)⟩
theorem Rw.stI {M : gM} {v k lo hi : Nat} {x : Int32} (h : v < lo ∨ hi < v) : Rw M (Jvm.Pilot.CWholeSpansLaw_law_r3418_190b4e.stI M v k x) lo hi := fun i h1 h2 => ⟨rfl, rfl, up2_row _ _ (by omega), rfl, rfl⟩
theorem Rw.stN {M : gM} {v k l lo hi : Nat} (h : v < lo ∨ hi < v) : Rw M (Jvm.Pilot.CWholeSpansLaw_law_r3418_190b4e.stN M v k l) lo hi := fun i h1 h2 => ⟨stN_K _ _ _ _ _ (by omega), stN_N _ _ _ _ _ (by omega), stN_I _ _ _ _ _ (by omega), stN_J _ _ _ _ _ (by omega), stN_R _ _ _ _ _ (by omega)⟩
theorem Rw.trans {M M1 M2 : gM} {lo hi : Nat} (h : Rw M M1 lo hi) (h2 : Rw M1 M2 lo hi) : Rw M M2 lo hi := fun i a b => by
  obtain ⟨r1, r2, r3, r4, r5⟩ := h i a b
  obtain ⟨s1, s2, s3, s4, s5⟩ := h2 i a b
  exact ⟨s1.trans r1, s2.trans r2, s3.trans r3, s4.trans r4, s5.trans r5⟩
/-- a new SpanSet -/
theorem newSet {M : gM} {a : Nat} : cS (stI (stN M a 4 0) a 0 (nI 1)) a [(0, 0)] := by
  refine ⟨stN_Ks M a 4 0, okX_0, ?_, fun _ => ⟨?_, ?_⟩, fun q => by simp at q⟩
  · show up2 (mI (stN M a 4 0)) a 0 (nI 1) a 0 = _; exact up2_eq _ _ _ _
  · show up2 (mI (stN M a 4 0)) a 0 (nI 1) a 1 = _; rw [up2_ne _ _ (by omega), stN_Is]; rfl
  · show up2 (mI (stN M a 4 0)) a 0 (nI 1) a 2 = _; rw [up2_ne _ _ (by omega), stN_Is]; rfl
theorem Fr.set {n a : Nat} {M : gM} (h : n ≤ a) : Fr n nF M (Jvm.Pilot.CWholeSpansLaw_law_r3418_190b4e.stI (Jvm.Pilot.CWholeSpansLaw_law_r3418_190b4e.stN M a 4 0) a 0 (nI 1)) := ⟨fun i hi => ⟨stN_K M a 4 0 i (by omega), stN_N M a 4 0 i (by omega)⟩, fun i hi _ => ⟨by show up2 (mI (Jvm.Pilot.CWholeSpansLaw_law_r3418_190b4e.stN M a 4 0)) a 0 (nI 1) i = _; rw [up2_row _ _ (by omega)]; exact stN_I M a 4 0 i (by omega), stN_J M a 4 0 i (by omega), stN_R M a 4 0 i (by omega)⟩⟩
theorem Fr.set0 {n : Nat} {M M1 : gM} (h : Fr n nF M M1) {v k : Nat} {x : Option Nat} (hv : n ≤ v) : Fr n nF M (Jvm.Pilot.CWholeSpansLaw_law_r3418_190b4e.stR M1 v k x) := h.stR (Or.inr hv)
/-- kind and references of the one that is being made -/
def at9 (M : gM) (v kd : Nat) : Prop := mK M v = kd
set_option maxHeartbeats 4000000 in
set_option maxRecDepth 100000 in
theorem i_step (M : gM) (n v : Nat) (hk : mK M v = 6) (hn : n = v + 1) (h2 : 2 ≤ v) : GM μX5_init 3 61 14 93 [.ref v] M n (fun r M1 n1 => r = none ∧ n1 = v + 15 ∧ sP M1 v ∧ Fr v nF M M1) := by
  refine GM.ofW (by decide) rfl (Nat.le_of_ble_eq_true rfl) rfl ?_
  subst hn
  refine g_facts (fun hw => ?_)
  refine g_aload_n dX5_init_0 rfl ?_
  refine g_objInit dX5_init_1 (iw_4 21 rfl) (iw_1 11 rfl) (iw_1 12 rfl) (Nat.le_of_ble_eq_true rfl) (Nat.le_of_ble_eq_true rfl) ?_
  refine g_aload_n dX5_init_4 rfl ?_
  refine g_new dX5_init_5 cl1 (iw_4 22 rfl) (iw_4 12 rfl) (iw_4 13 rfl) (Nat.le_of_ble_eq_true rfl) (Nat.le_of_ble_eq_true rfl) ?_
  have k1 : mK (stN M (v + 1) 1 0) v = 6 := by rw [stN_K _ _ _ _ _ (by omega)]; exact hk
  have j1 : mK (stN M (v + 1) 1 0) (v + 1) = 1 := stN_Ks M (v + 1) 1 0
  have f1 : Fr v nF M (stN M (v + 1) 1 0) := Fr.rf.stN (by omega)
  generalize stN M (v + 1) 1 0 = M1 at k1 j1 f1 ⊢
  refine g_dup dX5_init_8 rfl ?_
  refine g_callIN dX5_init_9 sX0_init (i_gath M1 (v + 2) (v + 1) j1 rfl (by omega)) rfl rfl iX0_init (List.mem_of_getElem? (i := 11) rfl) rfl rfl (Nat.le_of_ble_eq_true rfl) (Nat.le_of_ble_eq_true rfl) (Nat.le_of_ble_eq_true rfl) (Nat.le_of_ble_eq_true rfl) (Nat.le_of_ble_eq_true rfl) ?_
  intro r9 M2 n9 h9
  obtain ⟨h91, h93, hg2, hf2⟩ := h9
  rw [h91, h93]
  clear h91 h93 r9 n9
  have k2 : mK M2 v = 6 := by rw [(hf2.1 v (by omega)).1]; exact k1
  refine g_putR (f := 0) dX5_init_12 cl6 k2 (by decide) (Or.inl (iw_4 23 rfl)) (Or.inl rfl) (Or.inr ⟨rfl, rfl, rfl, (iw_4 23 rfl)⟩) rfl ?_
  have k3 : mK (stR M2 v 0 (some (v + 1))) v = 6 := k2
  have r30 : mR (stR M2 v 0 (some (v + 1))) v 0 = some (v + 1) := up2_eq _ _ _ _
  have g3 : gG (stR M2 v 0 (some (v + 1))) (v + 1) := hg2.rw (lo := v + 1) (hi := v + 3) (Rw.stR (by omega)) (by omega) (by omega)
  have f3 : Fr v nF M (stR M2 v 0 (some (v + 1))) := (f1.trans (hf2.less (by omega)) (Nat.le_refl _)).set0 (Nat.le_refl _)
  generalize stR M2 v 0 (some (v + 1)) = M3 at k3 r30 g3 f3 ⊢
  refine g_aload_n dX5_init_15 rfl ?_
  refine g_callSN dX5_init_16 sX8_makeSets (i_sets M3 (v + 4)) tX8_makeSets (List.mem_of_getElem? (i := 12) rfl) rfl rfl (Nat.le_of_ble_eq_true rfl) (Nat.le_of_ble_eq_true rfl) (Nat.le_of_ble_eq_true rfl) (Nat.le_of_ble_eq_true rfl) (Nat.le_of_ble_eq_true rfl) ?_
  intro r9 M4 n9 h9
  obtain ⟨h91, h93, hs4, hf4⟩ := h9
  rw [h91, h93]
  clear h91 h93 r9 n9
  have k4 : mK M4 v = 6 := by rw [(hf4.1 v (by omega)).1]; exact k3
  have w4 := hf4.n0 (lo := v) (hi := v + 3) (by omega)
  have g4 := g3.rw w4 (by omega) (by omega)
  have r40 : mR M4 v 0 = some (v + 1) := by rw [(w4 v (by omega) (by omega)).2.2.2.2]; exact r30
  refine g_putR (f := 1) dX5_init_19 cl6 k4 (by decide) (Or.inl (iw_5 0 rfl)) (Or.inl rfl) (Or.inr ⟨rfl, rfl, rfl, (iw_5 0 rfl)⟩) rfl ?_
  have k5 : mK (stR M4 v 1 (some (v + 4))) v = 6 := k4
  have r50 : mR (stR M4 v 1 (some (v + 4))) v 0 = some (v + 1) := by show up2 (mR M4) v 1 (some (v + 4)) v 0 = _; rw [up2_ne _ _ (by omega)]; exact r40
  have r51 : mR (stR M4 v 1 (some (v + 4))) v 1 = some (v + 4) := up2_eq _ _ _ _
  have g5 : gG (stR M4 v 1 (some (v + 4))) (v + 1) := g4.rw (lo := v + 1) (hi := v + 3) (Rw.stR (by omega)) (by omega) (by omega)
  have s5 : sA (stR M4 v 1 (some (v + 4))) (v + 4) := hs4.1.rw (lo := v + 4) (hi := v + 12) (Rw.stR (by omega)) (by omega) (by omega)
  have f5 : Fr v nF M (stR M4 v 1 (some (v + 4))) := (f3.trans (hf4.less (by omega)) (Nat.le_refl _)).set0 (Nat.le_refl _)
  generalize stR M4 v 1 (some (v + 4)) = M5 at k5 r50 r51 g5 s5 f5 ⊢
  refine g_aload_n dX5_init_22 rfl ?_
  refine g_new dX5_init_23 cl4 (iw_5 1 rfl) (iw_3 8 rfl) (iw_3 9 rfl) (Nat.le_of_ble_eq_true rfl) (Nat.le_of_ble_eq_true rfl) ?_
  refine g_dup dX5_init_26 rfl ?_
  refine g_callIN dX5_init_27 sX3_init (i_set (stN M5 (v + 13) 4 0) (v + 14) (v + 13) (stN_Ks M5 (v + 13) 4 0)) rfl rfl iX3_init (List.mem_of_getElem? (i := 13) rfl) rfl rfl (Nat.le_of_ble_eq_true rfl) (Nat.le_of_ble_eq_true rfl) (Nat.le_of_ble_eq_true rfl) (Nat.le_of_ble_eq_true rfl) (Nat.le_of_ble_eq_true rfl) ?_
  intro r9 M9 n9 h9
  obtain ⟨h91, h92, h93⟩ := h9
  rw [h91, h92, h93]
  clear h91 h92 h93 r9 M9 n9
  have c7 : cS (stI (stN M5 (v + 13) 4 0) (v + 13) 0 (nI 1)) (v + 13) [(0, 0)] := newSet
  have f57 : Fr (v + 13) nF M5 (stI (stN M5 (v + 13) 4 0) (v + 13) 0 (nI 1)) := Fr.set (Nat.le_refl _)
  generalize stI (stN M5 (v + 13) 4 0) (v + 13) 0 (nI 1) = M7 at c7 f57 ⊢
  have w7 := f57.n0 (lo := v) (hi := v + 12) (by omega)
  have k7 : mK M7 v = 6 := by rw [(w7 v (by omega) (by omega)).1]; exact k5
  refine g_putR (f := 2) dX5_init_30 cl6 k7 (by decide) (Or.inl (iw_5 2 rfl)) (Or.inl rfl) (Or.inr ⟨rfl, rfl, rfl, (iw_5 2 rfl)⟩) rfl ?_
  have w78 : Rw M7 (stR M7 v 2 (some (v + 13))) (v + 1) (v + 13) := Rw.stR (by omega)
  have q7 : mR M7 v 0 = some (v + 1) ∧ mR M7 v 1 = some (v + 4) := by rw [(w7 v (by omega) (by omega)).2.2.2.2]; exact ⟨r50, r51⟩
  have k8 : mK (stR M7 v 2 (some (v + 13))) v = 6 := k7
  have r8 : mR (stR M7 v 2 (some (v + 13))) v 0 = some (v + 1) ∧ mR (stR M7 v 2 (some (v + 13))) v 1 = some (v + 4) ∧ mR (stR M7 v 2 (some (v + 13))) v 2 = some (v + 13) := by
    show up2 (mR M7) v 2 (some (v + 13)) v 0 = _ ∧ up2 (mR M7) v 2 (some (v + 13)) v 1 = _ ∧ up2 (mR M7) v 2 (some (v + 13)) v 2 = _
    rw [up2_ne _ _ (by omega), up2_ne _ _ (by omega), up2_eq]
    exact ⟨q7.1, q7.2, rfl⟩
  have g8 : gG (stR M7 v 2 (some (v + 13))) (v + 1) := (g5.rw w7 (by omega) (by omega)).rw w78 (by omega) (by omega)
  have s8 : sA (stR M7 v 2 (some (v + 13))) (v + 4) := (s5.rw w7 (by omega) (by omega)).rw w78 (by omega) (by omega)
  have b8 : mK (stR M7 v 2 (some (v + 13))) (v + 13) = 4 := c7.1
  have f8 : Fr v nF M (stR M7 v 2 (some (v + 13))) := (f5.trans (f57.less (by omega)) (Nat.le_refl _)).set0 (Nat.le_refl _)
  generalize stR M7 v 2 (some (v + 13)) = M8 at k8 r8 g8 s8 b8 f8 ⊢
  refine g_aload_n dX5_init_33 rfl ?_
  refine g_new dX5_init_34 cl4 (iw_5 1 rfl) (iw_3 8 rfl) (iw_3 9 rfl) (Nat.le_of_ble_eq_true rfl) (Nat.le_of_ble_eq_true rfl) ?_
  refine g_dup dX5_init_37 rfl ?_
  refine g_callIN dX5_init_38 sX3_init (i_set (stN M8 (v + 14) 4 0) (v + 15) (v + 14) (stN_Ks M8 (v + 14) 4 0)) rfl rfl iX3_init (List.mem_of_getElem? (i := 13) rfl) rfl rfl (Nat.le_of_ble_eq_true rfl) (Nat.le_of_ble_eq_true rfl) (Nat.le_of_ble_eq_true rfl) (Nat.le_of_ble_eq_true rfl) (Nat.le_of_ble_eq_true rfl) ?_
  intro r9 M9 n9 h9
  obtain ⟨h91, h92, h93⟩ := h9
  rw [h91, h92, h93]
  clear h91 h92 h93 r9 M9 n9
  have c10 : cS (stI (stN M8 (v + 14) 4 0) (v + 14) 0 (nI 1)) (v + 14) [(0, 0)] := newSet
  have f810 : Fr (v + 14) nF M8 (stI (stN M8 (v + 14) 4 0) (v + 14) 0 (nI 1)) := Fr.set (Nat.le_refl _)
  generalize stI (stN M8 (v + 14) 4 0) (v + 14) 0 (nI 1) = M10 at c10 f810 ⊢
  have w10 := f810.n0 (lo := v) (hi := v + 13) (by omega)
  have k10 : mK M10 v = 6 := by rw [(w10 v (by omega) (by omega)).1]; exact k8
  refine g_putR (f := 3) dX5_init_41 cl6 k10 (by decide) (Or.inl (iw_5 3 rfl)) (Or.inl rfl) (Or.inr ⟨rfl, rfl, rfl, (iw_5 3 rfl)⟩) rfl ?_
  exact g_vret dX5_init_44 rfl (Nat.le_of_ble_eq_true rfl) (Nat.le_of_ble_eq_true rfl) (by
    have w11 : Rw M10 (stR M10 v 3 (some (v + 14))) (v + 1) (v + 14) := Rw.stR (by omega)
    have q10 : mR M10 v = mR M8 v := (w10 v (by omega) (by omega)).2.2.2.2
    refine ⟨rfl, rfl, ⟨k10, ⟨?_, ?_, ?_, ?_⟩, (g8.rw w10 (by omega) (by omega)).rw w11 (by omega) (by omega), (s8.rw w10 (by omega) (by omega)).rw w11 (by omega) (by omega), ?_, c10.1⟩, (f8.trans (f810.less (by omega)) (Nat.le_refl _)).set0 (Nat.le_refl _)⟩
    · show up2 (mR M10) v 3 (some (v + 14)) v 0 = _; rw [up2_ne _ _ (by omega), q10]; exact r8.1
    · show up2 (mR M10) v 3 (some (v + 14)) v 1 = _; rw [up2_ne _ _ (by omega), q10]; exact r8.2.1
    · show up2 (mR M10) v 3 (some (v + 14)) v 2 = _; rw [up2_ne _ _ (by omega), q10]; exact r8.2.2
    · exact up2_eq _ _ _ _
    · exact ((w10 (v + 13) (by omega) (by omega)).1).trans b8)

set_option maxHeartbeats 4000000 in
set_option maxRecDepth 100000 in
theorem i_thr (M : gM) (n h : Nat) (hk : mK M h = 7) (hn : n = h + 1) (h2 : 2 ≤ h) : GM μX6_init 1 20 1 82 [.ref h] M n (fun r M1 n1 => r = none ∧ n1 = h + 2 ∧ tH M1 h [-2147483648, 2147483647] (thA []) ∧ Fr h nF M M1) := by
  refine GM.ofW (by decide) rfl (Nat.le_of_ble_eq_true rfl) rfl ?_
  subst hn
  refine g_aload_n dX6_init_0 rfl ?_
  refine g_objInit dX6_init_1 (iw_3 17 rfl) (iw_1 11 rfl) (iw_1 12 rfl) (Nat.le_of_ble_eq_true rfl) (Nat.le_of_ble_eq_true rfl) ?_
  refine g_aload_n dX6_init_4 rfl ?_
  refine g_bipush (v := nI 82) dX6_init_5 rfl ?_
  refine g_newarr (kd := 11) (t0 := 0) (L := 82) (ty := .int) dX6_init_7 rfl (iw_3 18 rfl) (fun _ => rfl) (Or.inl ⟨rfl, rfl⟩) rfl (by decide) (by decide) (Nat.le_of_ble_eq_true rfl) (Nat.le_of_ble_eq_true rfl) ?_
  refine g_putR (f := 0) dX6_init_9 cl7 (show mK (stN M (h + 1) 11 82) h = 7 by rw [stN_K _ _ _ _ _ (by omega)]; exact hk) (by decide) (Or.inl (iw_3 19 rfl)) (Or.inl rfl) (Or.inr ⟨rfl, rfl, rfl, (iw_3 19 rfl)⟩) rfl ?_
  have q9 : tT (stR (stN M (h + 1) 11 82) h 0 (some (h + 1))) h := ⟨by show mK (stN M (h + 1) 11 82) h = 7; rw [stN_K _ _ _ _ _ (by omega)]; exact hk, up2_eq _ _ _ _, stN_Ks M (h + 1) 11 82, stN_Ns M (h + 1) 11 82⟩
  have f9 : Fr h nF M (stR (stN M (h + 1) 11 82) h 0 (some (h + 1))) := (Fr.rf.stN (by omega)).set0 (Nat.le_refl _)
  generalize stR (stN M (h + 1) 11 82) h 0 (some (h + 1)) = M9 at q9 f9 ⊢
  refine g_aload_n dX6_init_12 rfl ?_
  refine g_callV dX6_init_13 sX6_forgetAll (c_forgetAll M9 (h + 2) h q9) cl7 q9.1 iX6_forgetAll vX6_forgetAll (iw_3 20 rfl) rfl rfl (Nat.le_of_ble_eq_true rfl) (Nat.le_of_ble_eq_true rfl) (Nat.le_of_ble_eq_true rfl) (Nat.le_of_ble_eq_true rfl) (Nat.le_of_ble_eq_true rfl) ?_
  intro r9 M2 n9 h9
  obtain ⟨h91, h93, hO2, hT2⟩ := h9
  rw [h91, h93]
  clear h91 h93 r9 n9
  exact g_vret dX6_init_16 rfl (Nat.le_of_ble_eq_true rfl) (Nat.le_of_ble_eq_true rfl) ⟨rfl, rfl, hT2, f9.trans ((Fr.off (n := h + 2) (C := fun i => i = h ∨ i = h + 1) hO2 (fun i k q => q)).rw (lo := 0) (hi := h - 1) (by omega) (fun i _ _ z => by omega) |> fun r => ⟨fun i hi => ⟨(r i (by omega) (by omega)).1, (r i (by omega) (by omega)).2.1⟩, fun i hi _ => (r i (by omega) (by omega)).2.2⟩) (Nat.le_refl _)⟩

