/-! the reference: op -/
theorem k_lit {k : Int32} {z : Int} (hz : r5 z) : k = iZ z ↔ k.toInt = z := by
  rw [← Int32.toInt_inj, iZ_t hz.1 hz.2]
abbrev opW (k : Int) : Prop := 0 ≤ k ∧ k ≤ 10
abbrev opT (k : Int) : Prop := 11 ≤ k ∧ k ≤ 17
abbrev opD (k : Int) : Prop := (1 ≤ k ∧ k ≤ 9) ∨ opT k
abbrev op3 (k : Int) : Prop := k = 2 ∨ k = 3 ∨ k = 4 ∨ k = 7 ∨ k = 8
/-- a place is wanting -/
abbrev op1 (k a b c : Int) : Prop := ((opW k ∨ opT k) ∧ ¬ (0 ≤ a ∧ a ≤ 7)) ∨ (opD k ∧ ¬ (0 ≤ b ∧ b ≤ 7)) ∨ (op3 k ∧ ¬ (0 ≤ c ∧ c ≤ 7))
abbrev opR1 (k b c : Int) : Prop := (0 ≤ k ∧ k ≤ 19) ∧ (k ≠ 5 ∨ 0 ≤ c) ∧ (k ≠ 6 ∨ (0 ≤ c ∧ c ≤ 31)) ∧ (k ≠ 9 ∨ (0 ≤ c ∧ c ≤ 2)) ∧ (k ≠ 10 ∨ b ≤ c)
abbrev opR (k a b c : Int) : Prop := opR1 k b c ∧ (¬ opT k ∨ (0 ≤ c ∧ c ≤ 40)) ∧ (k ≠ 18 ∨ (0 ≤ a ∧ a ≤ 40))
theorem op_vS {k a b c : Int32} (h1 : ¬ op1 k.toInt a.toInt b.toInt c.toInt) (h2 : opR k.toInt a.toInt b.toInt c.toInt) : vS (pl k, a, b, c) ∧ k = nI (pl k) ∧ pl k ≤ 19 := by
  have e : ((pl k : Nat) : Int) = k.toInt := Int.toNat_of_nonneg (by omega)
  refine ⟨?_, pl_eq (by omega), by omega⟩
  unfold vS
  dsimp only
  refine ⟨by omega, fun h => ⟨by omega, by omega⟩, fun h => ⟨by omega, by omega⟩, fun h => ⟨by omega, by omega⟩, fun h => by omega, fun h => by omega, fun h => by omega, fun h => by omega, fun h => by omega, fun h => by omega⟩
def opZ (σ : MS) (k a b c : Int32) : Nat × Nat := if op1 k.toInt a.toInt b.toInt c.toInt then (1, 0) else if ¬ opR k.toInt a.toInt b.toInt c.toInt then (2, 0) else if (zP σ).length = 40 then (3, 0) else (0, (zP σ).length)
def opS (σ : MS) (k a b c : Int32) : MS := if (opZ σ k a b c).1 = 0 then (zP σ ++ [(pl k, a, b, c)], zF σ, false, zH σ, zN σ) else σ
set_option maxHeartbeats 4000000 in
set_option maxRecDepth 100000 in
theorem p_op288 {M M1 : gM} {n m : Nat} {σ : MS} {S : Nat → List Sp} {k a b c : Int32} (hO1 : Off M M1 (fX m)) (hQ1 : rQ M1 m σ S) (h0 : mI M1 m 0 = nI 0) (g1 : ¬ op1 k.toInt a.toInt b.toInt c.toInt) (g2 : opR k.toInt a.toInt b.toInt c.toInt) (g3 : ¬ (zP σ).length = 40) : GW μX9_op (gRm 2 45 0 0) (gTh (fun r M1 n1 => r = some (.int (nI (opZ σ k a b c).2)) ∧ n1 = n ∧ Off M M1 (fX m) ∧ rM M1 m (opS σ k a b c) ∧ mI M1 m 0 = nI (opZ σ k a b c).1) 0 0) 0 0 288 [some (.ref m), some (.int k), some (.int a), some (.int b), some (.int c), none, none, none, none, none] [] M1 n := by
  have hG := hQ1.1
  have hP := hQ1.2.1
  have l40 := hP.2.1
  have hm := hG.1
  have e : opZ σ k a b c = (0, (zP σ).length) := by unfold opZ; rw [if_neg g1, if_neg (fun h => h g2), if_neg g3]
  have e2 : opS σ k a b c = (zP σ ++ [(pl k, a, b, c)], zF σ, false, zH σ, zN σ) := by unfold opS; rw [e]; rfl
  obtain ⟨v1, v2, v3⟩ := op_vS g1 g2
  clear g1 g2
  refine g_aload_n dX9_op_288 rfl ?_
  refine g_getR (f := 7) dX9_op_289 cl10 hm.1 (by decide) (Or.inl (iw_6 0 rfl)) (Or.inl rfl) rfl hm.r_kind ?_
  refine g_aload_n dX9_op_292 rfl ?_
  refine g_getI (f := 6) dX9_op_293 cl10 hm.1 (by decide) (Or.inl (iw_12 20 rfl)) (Or.inl rfl) (Or.inl rfl) ?_
  refine g_iload_n dX9_op_296 rfl ?_
  refine g_iastore dX9_op_297 (j := (zP σ).length) hm.k_kind hm.n_kind hP.1 (by omega) (by decide) ?_
  refine g_aload_n dX9_op_298 rfl ?_
  refine g_getR (f := 8) dX9_op_299 cl10 hm.1 (by decide) (Or.inl (iw_6 1 rfl)) (Or.inl rfl) rfl hm.r_argA ?_
  refine g_aload_n dX9_op_302 rfl ?_
  refine g_getI (f := 6) dX9_op_303 cl10 hm.1 (by decide) (Or.inl (iw_12 20 rfl)) (Or.inl rfl) (Or.inl rfl) ?_
  refine g_iload_n dX9_op_306 rfl ?_
  refine g_iastore dX9_op_307 (j := (zP σ).length) hm.k_argA hm.n_argA (by rw [mI_st, if_neg (by omega)]; exact hP.1) (by omega) (by decide) ?_
  refine g_aload_n dX9_op_308 rfl ?_
  refine g_getR (f := 9) dX9_op_309 cl10 hm.1 (by decide) (Or.inl (iw_6 2 rfl)) (Or.inl rfl) rfl hm.r_argB ?_
  refine g_aload_n dX9_op_312 rfl ?_
  refine g_getI (f := 6) dX9_op_313 cl10 hm.1 (by decide) (Or.inl (iw_12 20 rfl)) (Or.inl rfl) (Or.inl rfl) ?_
  refine g_iload_n dX9_op_316 rfl ?_
  refine g_iastore dX9_op_317 (j := (zP σ).length) hm.k_argB hm.n_argB (by rw [mI_st, if_neg (by omega), mI_st, if_neg (by omega)]; exact hP.1) (by omega) (by decide) ?_
  refine g_aload_n dX9_op_318 rfl ?_
  refine g_getR (f := 10) dX9_op_319 cl10 hm.1 (by decide) (Or.inl (iw_6 3 rfl)) (Or.inl rfl) rfl hm.r_argC ?_
  refine g_aload_n dX9_op_322 rfl ?_
  refine g_getI (f := 6) dX9_op_323 cl10 hm.1 (by decide) (Or.inl (iw_12 20 rfl)) (Or.inl rfl) (Or.inl rfl) ?_
  refine g_iload dX9_op_326 rfl ?_
  refine g_iastore dX9_op_328 (j := (zP σ).length) hm.k_argC hm.n_argC (by rw [mI_st, if_neg (by omega), mI_st, if_neg (by omega), mI_st, if_neg (by omega)]; exact hP.1) (by omega) (by decide) ?_
  refine g_aload_n dX9_op_329 rfl ?_
  refine g_dup dX9_op_330 rfl ?_
  refine g_getI (f := 6) dX9_op_331 cl10 hm.1 (by decide) (Or.inl (iw_12 20 rfl)) (Or.inl rfl) (Or.inl rfl) ?_
  rw [show mI (stI (stI (stI (stI M1 (m + 5) (zP σ).length k) (m + 6) (zP σ).length a) (m + 7) (zP σ).length b) (m + 8) (zP σ).length c) m 6 = nI (zP σ).length by rw [mI_st, if_neg (by omega), mI_st, if_neg (by omega), mI_st, if_neg (by omega), mI_st, if_neg (by omega)]; exact hP.1]
  refine g_iconst (v := nI 1) dX9_op_334 rfl ?_
  refine g_iadd dX9_op_335 ?_
  rw [nI_add]
  refine g_putI (f := 6) dX9_op_336 cl10 hm.1 (by decide) (Or.inl (iw_12 20 rfl)) (Or.inl rfl) (Or.inl rfl) (Or.inl rfl) ?_
  refine g_aload_n dX9_op_339 rfl ?_
  refine g_iconst (v := nI 0) dX9_op_340 rfl ?_
  refine g_putI (f := 11) dX9_op_341 cl10 hm.1 (by decide) (Or.inl (iw_12 21 rfl)) (Or.inl rfl) (Or.inl rfl) (Or.inr ⟨rfl, (Or.inl rfl)⟩) ?_
  refine g_aload_n dX9_op_344 rfl ?_
  refine g_getI (f := 6) dX9_op_345 cl10 hm.1 (by decide) (Or.inl (iw_12 20 rfl)) (Or.inl rfl) (Or.inl rfl) ?_
  rw [show mI (stI (stI (stI (stI (stI (stI M1 (m + 5) (zP σ).length k) (m + 6) (zP σ).length a) (m + 7) (zP σ).length b) (m + 8) (zP σ).length c) m 6 (nI ((zP σ).length + 1))) m 11 (nI 0)) m 6 = nI ((zP σ).length + 1) by rw [mI_st, if_neg (by omega), mI_st, if_pos ⟨rfl, rfl⟩]]
  refine g_iconst (v := nI 1) dX9_op_348 rfl ?_
  refine g_isub dX9_op_349 ?_
  rw [pk_sub (by omega), Nat.add_sub_cancel]
  exact g_iret dX9_op_350 (Or.inl rfl) (Nat.le_of_ble_eq_true rfl) (Nat.le_of_ble_eq_true rfl) (by
    have hO2 : Off M1 (stI (stI (stI (stI (stI (stI M1 (m + 5) (zP σ).length k) (m + 6) (zP σ).length a) (m + 7) (zP σ).length b) (m + 8) (zP σ).length c) m 6 (nI ((zP σ).length + 1))) m 11 (nI 0)) (fun i j => (i = m ∧ (j = 6 ∨ j = 11)) ∨ ((i = m + 5 ∨ i = m + 6 ∨ i = m + 7 ∨ i = m + 8) ∧ j = (zP σ).length)) := (((((Off.rf.stI (Or.inr ⟨by omega, rfl⟩)).stI (Or.inr ⟨by omega, rfl⟩)).stI (Or.inr ⟨by omega, rfl⟩)).stI (Or.inr ⟨by omega, rfl⟩)).stI (Or.inl ⟨rfl, by omega⟩)).stI (Or.inl ⟨rfl, by omega⟩)
    have r6' : mI (stI (stI (stI (stI (stI (stI M1 (m + 5) (zP σ).length k) (m + 6) (zP σ).length a) (m + 7) (zP σ).length b) (m + 8) (zP σ).length c) m 6 (nI ((zP σ).length + 1))) m 11 (nI 0)) m 6 = nI ((zP σ).length + 1) := by rw [mI_st, if_neg (by omega), mI_st, if_pos ⟨rfl, rfl⟩]
    have r11 : mI (stI (stI (stI (stI (stI (stI M1 (m + 5) (zP σ).length k) (m + 6) (zP σ).length a) (m + 7) (zP σ).length b) (m + 8) (zP σ).length c) m 6 (nI ((zP σ).length + 1))) m 11 (nI 0)) m 11 = nI 0 := by rw [mI_st, if_pos ⟨rfl, rfl⟩]
    have rT : sT (stI (stI (stI (stI (stI (stI M1 (m + 5) (zP σ).length k) (m + 6) (zP σ).length a) (m + 7) (zP σ).length b) (m + 8) (zP σ).length c) m 6 (nI ((zP σ).length + 1))) m 11 (nI 0)) m (zP σ).length (pl k, a, b, c) := by
      refine ⟨?_, ?_, ?_, ?_⟩
      · rw [mI_st, if_neg (by omega), mI_st, if_neg (by omega), mI_st, if_neg (by omega), mI_st, if_neg (by omega), mI_st, if_neg (by omega), mI_st, if_pos ⟨rfl, rfl⟩]; exact v2
      · rw [mI_st, if_neg (by omega), mI_st, if_neg (by omega), mI_st, if_neg (by omega), mI_st, if_neg (by omega), mI_st, if_pos ⟨rfl, rfl⟩]
      · rw [mI_st, if_neg (by omega), mI_st, if_neg (by omega), mI_st, if_neg (by omega), mI_st, if_pos ⟨rfl, rfl⟩]
      · rw [mI_st, if_neg (by omega), mI_st, if_neg (by omega), mI_st, if_pos ⟨rfl, rfl⟩]
    generalize stI (stI (stI (stI (stI (stI M1 (m + 5) (zP σ).length k) (m + 6) (zP σ).length a) (m + 7) (zP σ).length b) (m + 8) (zP σ).length c) m 6 (nI ((zP σ).length + 1))) m 11 (nI 0) = M2 at hO2 r6' r11 rT ⊢
    refine ⟨by rw [e], rfl, hO1.trans (hO2.mono (fun i j h => by unfold fX; omega)), ?_, by rw [e, hO2.i (by omega)]; exact h0⟩
    rw [e2]
    have hz := hQ1.2.2.1
    have gl : (zP σ ++ [(pl k, a, b, c)]).length = (zP σ).length + 1 := by simp
    have gd : ∀ u, u < (zP σ).length + 1 → (zP σ ++ [(pl k, a, b, c)]).getD u st0 = if u = (zP σ).length then (pl k, a, b, c) else (zP σ).getD u st0 := by
      intro u hu
      rw [List.getD_eq_getElem?_getD, List.getD_eq_getElem?_getD]
      by_cases q : u = (zP σ).length
      · subst q; rw [List.getElem?_append_right (Nat.le_refl _)]; simp
      · rw [if_neg q, List.getElem?_append_left (by omega)]
    refine ⟨S, hG.offI hO2 (fun i j h => by unfold fA; omega), ⟨?_, ?_, fun u hu => ?_⟩, ⟨⟨?_, fun u hu => ?_⟩, hz.2⟩, hQ1.2.2.2.1, by rw [r11]; rfl, ?_, fun p hp => ?_, fun hr => by cases hr⟩
    · show mI M2 m 6 = nI (zP σ ++ [(pl k, a, b, c)]).length
      rw [gl]; exact r6'
    · show (zP σ ++ [(pl k, a, b, c)]).length ≤ 40
      rw [gl]; omega
    · have hu' : u < (zP σ).length + 1 := by rw [← gl]; exact hu
      show sT M2 m u ((zP σ ++ [(pl k, a, b, c)]).getD u st0) ∧ vS ((zP σ ++ [(pl k, a, b, c)]).getD u st0)
      rw [gd u hu']
      by_cases q : u = (zP σ).length
      · rw [if_pos q]; rw [q]; exact ⟨rT, v1⟩
      · rw [if_neg q]
        obtain ⟨t1, t2⟩ := hP.2.2 u (by omega)
        obtain ⟨s1, s2, s3, s4⟩ := t1
        exact ⟨⟨(hO2.i (by omega)).trans s1, (hO2.i (by omega)).trans s2, (hO2.i (by omega)).trans s3, (hO2.i (by omega)).trans s4⟩, t2⟩
    · show (zP σ ++ [(pl k, a, b, c)]).length ≤ 40
      rw [gl]; omega
    · have hu' : u < (zP σ).length + 1 := by rw [← gl]; exact hu
      show vS ((zP σ ++ [(pl k, a, b, c)]).getD u st0)
      rw [gd u hu']
      by_cases q : u = (zP σ).length
      · rw [if_pos q]; exact v1
      · rw [if_neg q]; exact hz.1.2 u (by omega)
    · rw [hO2.i (by omega)]; exact hQ1.2.2.2.2.2.1
    · rw [hO2.i (by omega)]; exact hQ1.2.2.2.2.2.2.1 p hp)

