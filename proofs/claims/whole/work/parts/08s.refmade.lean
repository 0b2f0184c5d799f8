/-! the reference is made -/
def K9 (j : Nat) : Nat := ([11, 12, 12, 12, 11, 11, 11, 11, 13, 11, 11] : List Nat).getD j 0
def L9 (j : Nat) : Nat := ([360, 1440, 64, 64, 40, 40, 40, 40, 40, 40, 8] : List Nat).getD j 0
def F9 (j : Nat) : Nat := ([1, 2, 4, 5, 7, 8, 9, 10, 12, 16, 18] : List Nat).getD j 0
theorem F9_inj : ∀ j, j < 11 → ∀ t, t < j → F9 t ≠ F9 j := by decide
/-- j of its rows are made -/
def iR (M0 M : gM) (m j : Nat) : Prop := mK M m = 10 ∧ mI M m = (fun _ => 0) ∧ (∀ t, t < j → mR M m (F9 t) = some (m + 1 + t) ∧ mK M (m + 1 + t) = K9 t ∧ mN M (m + 1 + t) = L9 t ∧ mI M (m + 1 + t) = (fun _ => 0)) ∧ Fr m nF M0 M
theorem iR.st {M0 M : gM} {m j : Nat} (h : iR M0 M m j) (hj : j < 11) : iR M0 (Jvm.Pilot.CWholeSpansLaw_law_r3418_190b4e.stR (Jvm.Pilot.CWholeSpansLaw_law_r3418_190b4e.stN M (m + 1 + j) (K9 j) (L9 j)) m (F9 j) (some (m + 1 + j))) m (j + 1) := by
  obtain ⟨h1, h2, h3, h4⟩ := h
  refine ⟨?_, ?_, fun t ht => ?_, (h4.stN (by omega)).stR (Or.inr (Nat.le_refl _))⟩
  · exact (stN_K M (m + 1 + j) (K9 j) (L9 j) m (by omega)).trans h1
  · exact (stN_I M (m + 1 + j) (K9 j) (L9 j) m (by omega)).trans h2
  · show up2 (mR (Jvm.Pilot.CWholeSpansLaw_law_r3418_190b4e.stN M (m + 1 + j) (K9 j) (L9 j))) m (F9 j) (some (m + 1 + j)) m (F9 t) = _ ∧ mK (Jvm.Pilot.CWholeSpansLaw_law_r3418_190b4e.stN M (m + 1 + j) (K9 j) (L9 j)) (m + 1 + t) = _ ∧ mN (Jvm.Pilot.CWholeSpansLaw_law_r3418_190b4e.stN M (m + 1 + j) (K9 j) (L9 j)) (m + 1 + t) = _ ∧ mI (Jvm.Pilot.CWholeSpansLaw_law_r3418_190b4e.stN M (m + 1 + j) (K9 j) (L9 j)) (m + 1 + t) = _
    by_cases e : t = j
    · subst e
      exact ⟨up2_eq _ _ _ _, up1_eq _ _ _, up1_eq _ _ _, up1_eq _ _ _⟩
    · have ht' : t < j := by omega
      obtain ⟨q1, q2, q3, q4⟩ := h3 t ht'
      refine ⟨?_, ?_, ?_, ?_⟩
      · rw [up2_ne _ _ (fun q => F9_inj j hj t ht' q.2), stN_R _ _ _ _ _ (by omega)]; exact q1
      · rw [stN_K _ _ _ _ _ (by omega)]; exact q2
      · rw [stN_N _ _ _ _ _ (by omega)]; exact q3
      · rw [stN_I _ _ _ _ _ (by omega)]; exact q4
theorem iR.mod {M0 M : gM} {m : Nat} (h : iR M0 M m 11) : gMod M m := by
  have f := fun t ht => h.2.2.1 t ht
  exact ⟨h.1, ⟨(f 0 (by decide)).1, (f 1 (by decide)).1, (f 2 (by decide)).1, (f 3 (by decide)).1, (f 4 (by decide)).1, (f 5 (by decide)).1, (f 6 (by decide)).1, (f 7 (by decide)).1, (f 8 (by decide)).1, (f 9 (by decide)).1, (f 10 (by decide)).1⟩, ⟨(f 0 (by decide)).2.1, (f 1 (by decide)).2.1, (f 2 (by decide)).2.1, (f 3 (by decide)).2.1, (f 4 (by decide)).2.1, (f 5 (by decide)).2.1, (f 6 (by decide)).2.1, (f 7 (by decide)).2.1, (f 8 (by decide)).2.1, (f 9 (by decide)).2.1, (f 10 (by decide)).2.1⟩, ⟨(f 0 (by decide)).2.2.1, (f 1 (by decide)).2.2.1, (f 2 (by decide)).2.2.1, (f 3 (by decide)).2.2.1, (f 4 (by decide)).2.2.1, (f 5 (by decide)).2.2.1, (f 6 (by decide)).2.2.1, (f 7 (by decide)).2.2.1, (f 8 (by decide)).2.2.1, (f 9 (by decide)).2.2.1, (f 10 (by decide)).2.2.1⟩⟩
theorem Fr.offm {M M1 : gM} {m : Nat} (h : Off M M1 (fA m)) : Fr m nF M M1 := ⟨fun i _ => ⟨by rw [h.1], by rw [h.2.1]⟩, fun i hi _ => ⟨funext (fun k => h.i (fun z => by unfold fA at z; omega)), funext (fun k => h.j (fun z => by unfold fA at z; omega)), by rw [h.2.2.1]⟩⟩
set_option maxHeartbeats 4000000 in
set_option maxRecDepth 100000 in
theorem i_ref (M : gM) (n m : Nat) (hk : mK M m = 10) (hI : mI M m = fun _ => 0) (hn : n = m + 1) : GM μX9_init 1 25 11 2176 [.ref m] M n (fun r M1 n1 => r = none ∧ n1 = m + 12 ∧ rM M1 m ([], fun _ => [(0, 0)], false, -1, fun _ => 0) ∧ Fr m nF M M1) := by
  refine GM.ofW (by decide) rfl (Nat.le_of_ble_eq_true rfl) rfl ?_
  subst hn
  have i0 : iR M M m 0 := ⟨hk, hI, fun t ht => absurd ht (Nat.not_lt_zero _), Fr.rf⟩
  refine g_aload_n dX9_init_0 rfl ?_
  refine g_objInit dX9_init_1 (iw_5 19 rfl) (iw_1 11 rfl) (iw_1 12 rfl) (Nat.le_of_ble_eq_true rfl) (Nat.le_of_ble_eq_true rfl) ?_
  refine g_aload_n dX9_init_4 rfl ?_
  refine g_sipush (v := nI 360) dX9_init_5 rfl ?_
  refine g_newarr (kd := 11) (t0 := 0) (L := 360) (ty := .int) dX9_init_8 rfl (iw_3 18 rfl) (fun _ => rfl) (Or.inl ⟨rfl, rfl⟩) rfl (by decide) (by decide) (Nat.le_of_ble_eq_true rfl) (Nat.le_of_ble_eq_true rfl) ?_
  refine g_putR (f := 1) dX9_init_10 cl10 ((stN_K M (m + 1) 11 360 m (by omega)).trans i0.1) (by decide) (Or.inl (iw_5 20 rfl)) (Or.inl rfl) (Or.inr ⟨rfl, rfl, rfl, (iw_5 20 rfl)⟩) rfl ?_
  have i1 : iR M (stR (stN M (m + 1) 11 360) m 1 (some (m + 1))) m 1 := i0.st (j := 0) (by decide)
  generalize stR (stN M (m + 1) 11 360) m 1 (some (m + 1)) = M1 at i1 ⊢
  refine g_aload_n dX9_init_13 rfl ?_
  refine g_sipush (v := nI 1440) dX9_init_14 rfl ?_
  refine g_newarr (kd := 12) (t0 := 1) (L := 1440) (ty := .long) dX9_init_17 rfl (iw_1 6 rfl) (fun _ => rfl) (Or.inr (Or.inl ⟨rfl, rfl⟩)) rfl (by decide) (by decide) (Nat.le_of_ble_eq_true rfl) (Nat.le_of_ble_eq_true rfl) ?_
  refine g_putR (f := 2) dX9_init_19 cl10 ((stN_K M1 (m + 2) 12 1440 m (by omega)).trans i1.1) (by decide) (Or.inl (iw_5 21 rfl)) (Or.inl rfl) (Or.inr ⟨rfl, rfl, rfl, (iw_5 21 rfl)⟩) rfl ?_
  have i2 : iR M (stR (stN M1 (m + 2) 12 1440) m 2 (some (m + 2))) m 2 := i1.st (j := 1) (by decide)
  generalize stR (stN M1 (m + 2) 12 1440) m 2 (some (m + 2)) = M2 at i2 ⊢
  refine g_aload_n dX9_init_22 rfl ?_
  refine g_bipush (v := nI 64) dX9_init_23 rfl ?_
  refine g_newarr (kd := 12) (t0 := 1) (L := 64) (ty := .long) dX9_init_25 rfl (iw_1 6 rfl) (fun _ => rfl) (Or.inr (Or.inl ⟨rfl, rfl⟩)) rfl (by decide) (by decide) (Nat.le_of_ble_eq_true rfl) (Nat.le_of_ble_eq_true rfl) ?_
  refine g_putR (f := 4) dX9_init_27 cl10 ((stN_K M2 (m + 3) 12 64 m (by omega)).trans i2.1) (by decide) (Or.inl (iw_5 22 rfl)) (Or.inl rfl) (Or.inr ⟨rfl, rfl, rfl, (iw_5 22 rfl)⟩) rfl ?_
  have i3 : iR M (stR (stN M2 (m + 3) 12 64) m 4 (some (m + 3))) m 3 := i2.st (j := 2) (by decide)
  generalize stR (stN M2 (m + 3) 12 64) m 4 (some (m + 3)) = M3 at i3 ⊢
  refine g_aload_n dX9_init_30 rfl ?_
  refine g_bipush (v := nI 64) dX9_init_31 rfl ?_
  refine g_newarr (kd := 12) (t0 := 1) (L := 64) (ty := .long) dX9_init_33 rfl (iw_1 6 rfl) (fun _ => rfl) (Or.inr (Or.inl ⟨rfl, rfl⟩)) rfl (by decide) (by decide) (Nat.le_of_ble_eq_true rfl) (Nat.le_of_ble_eq_true rfl) ?_
  refine g_putR (f := 5) dX9_init_35 cl10 ((stN_K M3 (m + 4) 12 64 m (by omega)).trans i3.1) (by decide) (Or.inl (iw_5 23 rfl)) (Or.inl rfl) (Or.inr ⟨rfl, rfl, rfl, (iw_5 23 rfl)⟩) rfl ?_
  have i4 : iR M (stR (stN M3 (m + 4) 12 64) m 5 (some (m + 4))) m 4 := i3.st (j := 3) (by decide)
  generalize stR (stN M3 (m + 4) 12 64) m 5 (some (m + 4)) = M4 at i4 ⊢
  refine g_aload_n dX9_init_38 rfl ?_
  refine g_bipush (v := nI 40) dX9_init_39 rfl ?_
  refine g_newarr (kd := 11) (t0 := 0) (L := 40) (ty := .int) dX9_init_41 rfl (iw_3 18 rfl) (fun _ => rfl) (Or.inl ⟨rfl, rfl⟩) rfl (by decide) (by decide) (Nat.le_of_ble_eq_true rfl) (Nat.le_of_ble_eq_true rfl) ?_
  refine g_putR (f := 7) dX9_init_43 cl10 ((stN_K M4 (m + 5) 11 40 m (by omega)).trans i4.1) (by decide) (Or.inl (iw_6 0 rfl)) (Or.inl rfl) (Or.inr ⟨rfl, rfl, rfl, (iw_6 0 rfl)⟩) rfl ?_
  have i5 : iR M (stR (stN M4 (m + 5) 11 40) m 7 (some (m + 5))) m 5 := i4.st (j := 4) (by decide)
  generalize stR (stN M4 (m + 5) 11 40) m 7 (some (m + 5)) = M5 at i5 ⊢
  refine g_aload_n dX9_init_46 rfl ?_
  refine g_bipush (v := nI 40) dX9_init_47 rfl ?_
  refine g_newarr (kd := 11) (t0 := 0) (L := 40) (ty := .int) dX9_init_49 rfl (iw_3 18 rfl) (fun _ => rfl) (Or.inl ⟨rfl, rfl⟩) rfl (by decide) (by decide) (Nat.le_of_ble_eq_true rfl) (Nat.le_of_ble_eq_true rfl) ?_
  refine g_putR (f := 8) dX9_init_51 cl10 ((stN_K M5 (m + 6) 11 40 m (by omega)).trans i5.1) (by decide) (Or.inl (iw_6 1 rfl)) (Or.inl rfl) (Or.inr ⟨rfl, rfl, rfl, (iw_6 1 rfl)⟩) rfl ?_
  have i6 : iR M (stR (stN M5 (m + 6) 11 40) m 8 (some (m + 6))) m 6 := i5.st (j := 5) (by decide)
  generalize stR (stN M5 (m + 6) 11 40) m 8 (some (m + 6)) = M6 at i6 ⊢
  refine g_aload_n dX9_init_54 rfl ?_
  refine g_bipush (v := nI 40) dX9_init_55 rfl ?_
  refine g_newarr (kd := 11) (t0 := 0) (L := 40) (ty := .int) dX9_init_57 rfl (iw_3 18 rfl) (fun _ => rfl) (Or.inl ⟨rfl, rfl⟩) rfl (by decide) (by decide) (Nat.le_of_ble_eq_true rfl) (Nat.le_of_ble_eq_true rfl) ?_
  refine g_putR (f := 9) dX9_init_59 cl10 ((stN_K M6 (m + 7) 11 40 m (by omega)).trans i6.1) (by decide) (Or.inl (iw_6 2 rfl)) (Or.inl rfl) (Or.inr ⟨rfl, rfl, rfl, (iw_6 2 rfl)⟩) rfl ?_
  have i7 : iR M (stR (stN M6 (m + 7) 11 40) m 9 (some (m + 7))) m 7 := i6.st (j := 6) (by decide)
  generalize stR (stN M6 (m + 7) 11 40) m 9 (some (m + 7)) = M7 at i7 ⊢
  refine g_aload_n dX9_init_62 rfl ?_
  refine g_bipush (v := nI 40) dX9_init_63 rfl ?_
  refine g_newarr (kd := 11) (t0 := 0) (L := 40) (ty := .int) dX9_init_65 rfl (iw_3 18 rfl) (fun _ => rfl) (Or.inl ⟨rfl, rfl⟩) rfl (by decide) (by decide) (Nat.le_of_ble_eq_true rfl) (Nat.le_of_ble_eq_true rfl) ?_
  refine g_putR (f := 10) dX9_init_67 cl10 ((stN_K M7 (m + 8) 11 40 m (by omega)).trans i7.1) (by decide) (Or.inl (iw_6 3 rfl)) (Or.inl rfl) (Or.inr ⟨rfl, rfl, rfl, (iw_6 3 rfl)⟩) rfl ?_
  have i8 : iR M (stR (stN M7 (m + 8) 11 40) m 10 (some (m + 8))) m 8 := i7.st (j := 7) (by decide)
  generalize stR (stN M7 (m + 8) 11 40) m 10 (some (m + 8)) = M8 at i8 ⊢
  refine g_aload_n dX9_init_70 rfl ?_
  refine g_bipush (v := nI 40) dX9_init_71 rfl ?_
  refine g_newarr (kd := 13) (t0 := 2) (L := 40) (ty := .boolean) dX9_init_73 rfl (iw_6 4 rfl) (fun _ => rfl) (Or.inr (Or.inr ⟨rfl, rfl⟩)) rfl (by decide) (by decide) (Nat.le_of_ble_eq_true rfl) (Nat.le_of_ble_eq_true rfl) ?_
  refine g_putR (f := 12) dX9_init_75 cl10 ((stN_K M8 (m + 9) 13 40 m (by omega)).trans i8.1) (by decide) (Or.inl (iw_6 5 rfl)) (Or.inl rfl) (Or.inr ⟨rfl, rfl, rfl, (iw_6 5 rfl)⟩) rfl ?_
  have i9 : iR M (stR (stN M8 (m + 9) 13 40) m 12 (some (m + 9))) m 9 := i8.st (j := 8) (by decide)
  generalize stR (stN M8 (m + 9) 13 40) m 12 (some (m + 9)) = M9 at i9 ⊢
  refine g_aload_n dX9_init_78 rfl ?_
  refine g_bipush (v := nI 40) dX9_init_79 rfl ?_
  refine g_newarr (kd := 11) (t0 := 0) (L := 40) (ty := .int) dX9_init_81 rfl (iw_3 18 rfl) (fun _ => rfl) (Or.inl ⟨rfl, rfl⟩) rfl (by decide) (by decide) (Nat.le_of_ble_eq_true rfl) (Nat.le_of_ble_eq_true rfl) ?_
  refine g_putR (f := 16) dX9_init_83 cl10 ((stN_K M9 (m + 10) 11 40 m (by omega)).trans i9.1) (by decide) (Or.inl (iw_6 6 rfl)) (Or.inl rfl) (Or.inr ⟨rfl, rfl, rfl, (iw_6 6 rfl)⟩) rfl ?_
  have i10 : iR M (stR (stN M9 (m + 10) 11 40) m 16 (some (m + 10))) m 10 := i9.st (j := 9) (by decide)
  generalize stR (stN M9 (m + 10) 11 40) m 16 (some (m + 10)) = M10 at i10 ⊢
  refine g_aload_n dX9_init_86 rfl ?_
  refine g_bipush (v := nI 8) dX9_init_87 rfl ?_
  refine g_newarr (kd := 11) (t0 := 0) (L := 8) (ty := .int) dX9_init_89 rfl (iw_3 18 rfl) (fun _ => rfl) (Or.inl ⟨rfl, rfl⟩) rfl (by decide) (by decide) (Nat.le_of_ble_eq_true rfl) (Nat.le_of_ble_eq_true rfl) ?_
  refine g_putR (f := 18) dX9_init_91 cl10 ((stN_K M10 (m + 11) 11 8 m (by omega)).trans i10.1) (by decide) (Or.inl (iw_6 7 rfl)) (Or.inl rfl) (Or.inr ⟨rfl, rfl, rfl, (iw_6 7 rfl)⟩) rfl ?_
  have i11 : iR M (stR (stN M10 (m + 11) 11 8) m 18 (some (m + 11))) m 11 := i10.st (j := 10) (by decide)
  generalize stR (stN M10 (m + 11) 11 8) m 18 (some (m + 11)) = M11 at i11 ⊢
  refine g_aload_n dX9_init_94 rfl ?_
  refine g_iconst (v := (-1)) dX9_init_95 (by decide) ?_
  refine g_putI (f := 19) dX9_init_96 cl10 i11.1 (by decide) (Or.inl (iw_6 8 rfl)) (Or.inl rfl) (Or.inl rfl) (Or.inl rfl) ?_
  have hm : gMod (stI M11 m 19 (-1)) m := i11.mod
  have hI2 : ∀ i k, ¬ (i = m ∧ k = 19) → mI (stI M11 m 19 (-1)) i k = mI M11 i k := fun i k h => by rw [mI_st, if_neg h]
  have h19 : mI (stI M11 m 19 (-1)) m 19 = -1 := by rw [mI_st, if_pos ⟨rfl, rfl⟩]
  have hz0 : ∀ k, k ≠ 19 → mI (stI M11 m 19 (-1)) m k = 0 := fun k h => by rw [hI2 _ _ (fun q => h q.2), i11.2.1]
  have hza : ∀ t, t < 11 → ∀ k, mI (stI M11 m 19 (-1)) (m + 1 + t) k = 0 := fun t ht k => by rw [hI2 _ _ (by omega), (i11.2.2.1 t ht).2.2.2]
  have hFr : Fr m nF M (stI M11 m 19 (-1)) := ⟨i11.2.2.2.1, fun i hi hc => ⟨(up2_row (mI M11) (-1 : Int32) (by omega)).trans (i11.2.2.2.2 i hi hc).1, (i11.2.2.2.2 i hi hc).2⟩⟩
  have hS : rS (stI M11 m 19 (-1)) m (fun _ => []) := ⟨hm, fun s _ => ⟨⟨by simp, hza 0 (by decide) s, fun k hk => absurd hk (Nat.not_lt_zero _)⟩, okX_nil⟩, ⟨hz0 3 (by decide), fun k hk => absurd hk (Nat.not_lt_zero _)⟩, fun s _ => rfl⟩
  generalize stI M11 m 19 (-1) = M12 at hm h19 hz0 hza hFr hS ⊢
  clear hI2
  refine g_iconst (v := nI 0) dX9_init_99 rfl ?_
  refine g_istore_n dX9_init_100 (Nat.le_of_ble_eq_true rfl) ?_
  refine l_init (v := 0) (S := fun _ => []) (Nat.le_of_ble_eq_true rfl) (Nat.le_of_ble_eq_true rfl) (fun M3 hO3 hG3 => ?_) 9 0 M12 (by omega) (by omega) Off.rf (by rw [clT_0]; exact hS)
  exact g_vret dX9_init_124 rfl (Nat.le_of_ble_eq_true rfl) (Nat.le_of_ble_eq_true rfl) (by
    have hq : ∀ {i k : Nat}, ¬ (i = m + 1 ∨ i = m + 2 ∨ (i = m ∧ k = 3) ∨ i = m + 3 ∨ i = m + 4) → mI M3 i k = mI M12 i k := fun h => hO3.i (by unfold fA; omega)
    refine ⟨rfl, rfl, ⟨clT (fun _ => []) 8, hG3, ⟨?_, by simp [zP], fun a ha => absurd ha (by simp [zP])⟩, ⟨⟨by simp [zP], fun a ha => absurd ha (by simp [zP])⟩, fun p hp => ⟨okX_0, rfl⟩⟩, fun p hp => ?_, ?_, ?_, fun p hp => ?_, fun q => (by cases q)⟩, hFr.trans (Fr.offm hO3) (Nat.le_refl _)⟩
    · rw [hq (by omega)]; exact hz0 6 (by decide)
    · show clT (fun _ => []) 8 (320 + p) = [(0, 0)]
      unfold clT; rw [if_pos (by omega)]
    · rw [hq (by omega)]; exact hz0 11 (by decide)
    · rw [hq (by omega)]; exact h19
    · rw [hq (by omega)]; exact hza 10 (by decide) p)

