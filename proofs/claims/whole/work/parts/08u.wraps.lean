/-! the law: its calls that catch -/
/-- a call that catches: its code; the class in its new state; its answer where it has one -/
def wO (M : gM) (n w : Nat) (σ1 : MS) (c : Nat) (v : Int64) : gPo := fun r M1 n1 => r = some (.int (nI c)) ∧ n ≤ n1 ∧ kW M1 w σ1 ∧ Rw M M1 (w + 45) (w + 56) ∧ (mK M1 (w + 57) = 12 ∧ mN M1 (w + 57) = 1) ∧ (c = 0 → mJ M1 (w + 57) 0 = v)
theorem wO_x {M : gM} {n n1 w c k : Nat} {σ σ1 : MS} {v : Int64} (hK : kW M w σ) (ho : mK M (w + 57) = 12 ∧ mN M (w + 57) = 1) (hn : n ≤ n1) (hk : c = k) (h0 : k ≠ 0) (hs : σ1 = σ) : wO M n w σ1 c v (some (.int (nI k))) M n1 := ⟨by rw [hk], hn, by rw [hs]; exact hK, Rw.rf, ho, fun q => absurd (hk.symm.trans q) h0⟩
theorem wO_r {M M1 : gM} {n n1 w c : Nat} {σ1 : MS} {v : Int64} (hK : kW M1 w σ1) (hR : Rw M M1 (w + 45) (w + 57)) (ho : mK M (w + 57) = 12 ∧ mN M (w + 57) = 1) (hn : n ≤ n1) (hc : c = 0) : wO M n w σ1 c v (some (.int (nI 0))) (stJ M1 (w + 57) 0 v) n1 := by
  have o1 : Off M1 (stJ M1 (w + 57) 0 v) (fun i k => i = w + 57 ∧ k = 0) := Off.rf.stJ ⟨rfl, rfl⟩
  have r1 : Rw M1 (stJ M1 (w + 57) 0 v) (w + 45) (w + 56) := Rw.off o1 (fun i k a b z => by omega)
  have h9 := hR (w + 57) (by omega) (Nat.le_refl _)
  refine ⟨by rw [hc], hn, hK.offR o1 (fun i k z => by omega), fun i a b => ?_, ⟨h9.1.trans ho.1, h9.2.1.trans ho.2⟩, fun _ => up2_eq _ _ _ _⟩
  have h8 := r1 i a b
  have h7 := hR i a (by omega)
  exact ⟨h8.1.trans h7.1, h8.2.1.trans h7.2.1, h8.2.2.1.trans h7.2.2.1, h8.2.2.2.1.trans h7.2.2.2.1, h8.2.2.2.2.trans h7.2.2.2.2⟩
theorem oK_1 {M M1 : gM} {w : Nat} (hR : Rw M M1 (w + 45) (w + 57)) (ho : mK M (w + 57) = 12 ∧ mN M (w + 57) = 1) : mK M1 (w + 57) = 12 ∧ mN M1 (w + 57) = 1 := by
  have h9 := hR (w + 57) (by omega) (Nat.le_refl _)
  exact ⟨h9.1.trans ho.1, h9.2.1.trans ho.2⟩
theorem kW.k {M : gM} {w : Nat} {σ : MS} (h : kW M w σ) : mK M w = 9 := by
  obtain ⟨d, E, h⟩ := h
  exact h.1.1
abbrev μL_op : gμ := (yL_op, cL_op, 7, (some .int), tableOf [(0, 14, 17, 13), (0, 14, 21, 15), (0, 14, 25, 17)])
theorem sL_op : gMsW μL_op [(0, 14, 17, 13), (0, 14, 21, 15), (0, 14, 25, 17)] 6 := ⟨(iw_6 16 rfl), (iw_6 15 rfl), by decide +kernel⟩
theorem tL_op : Cond.static yL_op ∈ gT := (iw_6 14 rfl)
abbrev μL_begin : gμ := (yL_begin, cL_begin, 6, (some .int), tableOf [(0, 11, 14, 13), (0, 11, 18, 15)])
theorem sL_begin : gMsW μL_begin [(0, 11, 14, 13), (0, 11, 18, 15)] 5 := ⟨(iw_13 15 rfl), (iw_6 15 rfl), by decide +kernel⟩
theorem tL_begin : Cond.static yL_begin ∈ gT := (iw_13 14 rfl)
abbrev μL_reached : gμ := (yL_reached, cL_reached, 4, (some .int), tableOf [(0, 16, 19, 13), (0, 16, 22, 27)])
theorem sL_reached : gMsW μL_reached [(0, 16, 19, 13), (0, 16, 22, 27)] 3 := ⟨(iw_31 8 rfl), (iw_6 15 rfl), by decide +kernel⟩
theorem tL_reached : Cond.static yL_reached ∈ gT := (iw_31 7 rfl)
abbrev μL_pieces : gμ := (yL_pieces, cL_pieces, 5, (some .int), tableOf [(0, 10, 13, 13), (0, 10, 17, 27)])
theorem sL_pieces : gMsW μL_pieces [(0, 10, 13, 13), (0, 10, 17, 27)] 4 := ⟨(iw_32 13 rfl), (iw_6 15 rfl), by decide +kernel⟩
theorem tL_pieces : Cond.static yL_pieces ∈ gT := (iw_32 12 rfl)
abbrev μL_end : gμ := (yL_end, cL_end, 7, (some .int), tableOf [(0, 14, 17, 13), (0, 14, 21, 27)])
theorem sL_end : gMsW μL_end [(0, 14, 17, 13), (0, 14, 21, 27)] 6 := ⟨(iw_33 0 rfl), (iw_6 15 rfl), by decide +kernel⟩
theorem tL_end : Cond.static yL_end ∈ gT := (iw_32 23 rfl)
abbrev μL_ways : gμ := (yL_ways, cL_ways, 4, (some .int), tableOf [(0, 9, 12, 13), (0, 9, 15, 27)])
theorem sL_ways : gMsW μL_ways [(0, 9, 12, 13), (0, 9, 15, 27)] 3 := ⟨(iw_33 13 rfl), (iw_6 15 rfl), by decide +kernel⟩
theorem tL_ways : Cond.static yL_ways ∈ gT := (iw_33 12 rfl)
abbrev μL_told : gμ := (yL_told, cL_told, 4, (some .int), tableOf [(0, 9, 12, 15), (0, 9, 15, 27)])
theorem sL_told : gMsW μL_told [(0, 9, 12, 15), (0, 9, 15, 27)] 3 := ⟨(iw_34 14 rfl), (iw_6 15 rfl), by decide +kernel⟩
theorem tL_told : Cond.static yL_told ∈ gT := (iw_34 13 rfl)
abbrev μL_threshold : gμ := (yL_threshold, cL_threshold, 4, (some .int), tableOf [(0, 9, 12, 13)])
theorem sL_threshold : gMsW μL_threshold [(0, 9, 12, 13)] 3 := ⟨(iw_35 10 rfl), (iw_6 15 rfl), by decide +kernel⟩
theorem tL_threshold : Cond.static yL_threshold ∈ gT := (iw_35 9 rfl)
abbrev μL_holds : gμ := (yL_holds, cL_holds, 5, (some .int), tableOf [(0, 10, 13, 15), (0, 10, 17, 27)])
theorem sL_holds : gMsW μL_holds [(0, 10, 13, 15), (0, 10, 17, 27)] 4 := ⟨(iw_35 21 rfl), (iw_6 15 rfl), by decide +kernel⟩
theorem tL_holds : Cond.static yL_holds ∈ gT := (iw_35 20 rfl)
abbrev μL_had : gμ := (yL_had, cL_had, 4, (some .int), tableOf [(0, 9, 12, 13)])
theorem sL_had : gMsW μL_had [(0, 9, 12, 13)] 3 := ⟨(iw_38 20 rfl), (iw_6 15 rfl), by decide +kernel⟩
theorem tL_had : Cond.static yL_had ∈ gT := (iw_38 19 rfl)
theorem hoS_x {σ : MS} {k s : Int32} {j : Nat} (hc : (hoZ σ k s).1 = j) (hj : j ≠ 0) : hoS σ k s = σ := by
  unfold hoS
  unfold hoZ at hc ⊢
  split
  · rfl
  · rename_i c
    rw [if_neg c] at hc
    split
    · rfl
    · rename_i c2
      rw [if_neg c2] at hc
      exact absurd hc.symm hj
theorem bgZ_ne3 (p lo hi : Int32) : ¬ (bgZ p lo hi).1 = 3 := by
  unfold bgZ
  repeat' split
  all_goals simp
theorem rcZ_ne3 (σ : MS) (x : Int32) : ¬ (rcZ σ x).1 = 3 := by
  unfold rcZ
  repeat' split
  all_goals simp
theorem pcZ_ne3 (σ : MS) (x p : Int32) : ¬ (pcZ σ x p).1 = 3 := by
  unfold pcZ
  repeat' split
  all_goals simp
theorem enZ_ne3 (σ : MS) (x p k : Int32) (up : Bool) : ¬ (enZ σ x p k up).1 = 3 := by
  unfold enZ
  repeat' split
  all_goals simp
theorem wyZ_ne3 (σ : MS) (x : Int32) : ¬ (wyZ σ x).1 = 3 := by
  unfold wyZ
  repeat' split
  all_goals simp
theorem tdZ_ne3 (σ : MS) (x : Int32) : ¬ (tdZ σ x).1 = 3 := by
  unfold tdZ
  repeat' split
  all_goals simp
theorem thZ_ne2 (σ : MS) (k : Int32) : ¬ (thZ σ k).1 = 2 := by
  unfold thZ
  repeat' split
  all_goals simp
theorem thZ_ne3 (σ : MS) (k : Int32) : ¬ (thZ σ k).1 = 3 := by
  unfold thZ
  repeat' split
  all_goals simp
theorem hoZ_ne3 (σ : MS) (k s : Int32) : ¬ (hoZ σ k s).1 = 3 := by
  unfold hoZ
  repeat' split
  all_goals simp
theorem hdZ_ne2 (σ : MS) (p : Int32) : ¬ (hdZ σ p).1 = 2 := by
  unfold hdZ
  repeat' split
  all_goals simp
theorem hdZ_ne3 (σ : MS) (p : Int32) : ¬ (hdZ σ p).1 = 3 := by
  unfold hdZ
  repeat' split
  all_goals simp
set_option maxHeartbeats 4000000 in
set_option maxRecDepth 100000 in
theorem w_op (M : gM) (n w : Nat) (σ : MS) (k a b c : Int32) (hK : kW M w σ) (ho : mK M (w + 57) = 12 ∧ mN M (w + 57) = 1) (hb : w + 58 ≤ n) : GMW μL_op [(0, 14, 17, 13), (0, 14, 21, 15), (0, 14, 25, 17)] 9 230 11 257 [.ref w, .int k, .int a, .int b, .int c, .ref (w + 57)] M n (wO M n w (opS σ k a b c) (opZ σ k a b c).1 ((nI (opZ σ k a b c).2).toInt64)) := by
  refine GMW.ofW (by decide) rfl (Nat.le_of_ble_eq_true rfl) rfl ?_
  refine g_aload dL_op_0 rfl ?_
  refine g_iconst (v := nI 0) dL_op_2 rfl ?_
  refine g_aload_n dL_op_3 rfl ?_
  refine g_iload_n dL_op_4 rfl ?_
  refine g_iload_n dL_op_5 rfl ?_
  refine g_iload_n dL_op_6 rfl ?_
  refine g_iload dL_op_7 rfl ?_
  refine g_callVC dL_op_9 sX8_op (c_op M n w σ k a b c hK hb) cl9 hK.k iX8_op vX8_op (iw_6 20 rfl) rfl rfl (Nat.le_of_ble_eq_true rfl) (Nat.le_of_ble_eq_true rfl) (Nat.le_of_ble_eq_true rfl) (Nat.le_of_ble_eq_true rfl) (Nat.le_of_ble_eq_true rfl) ?_ ?_
  · intro E9 M1 n1 h9
    obtain ⟨hM9, hn9, h9⟩ := h9
    rw [hM9]
    rcases h9 with ⟨hc, hE⟩ | ⟨hc, hE⟩ | ⟨hc, hE⟩
    · rw [hE]
      refine g_catch (E := "java/lang/IndexOutOfBoundsException") [] ⟨0, 14, 17, 13⟩ [⟨0, 14, 21, 15⟩, ⟨0, 14, 25, 17⟩] rfl (fun z hz => by cases hz) (by decide) (by decide) (iw_6 17 rfl) (by decide) (fun z => ?_)
      refine g_astoreX dL_op_17 (Nat.le_of_ble_eq_true rfl) ?_
      refine g_iconst (v := nI 1) dL_op_19 rfl ?_
      exact g_iret dL_op_20 (Or.inl rfl) (Nat.le_of_ble_eq_true rfl) (Nat.le_of_ble_eq_true rfl) (wO_x hK ho hn9 hc (by decide) (by unfold opS; rw [if_neg (by rw [hc]; decide)]))
    · rw [hE]
      refine g_catch (E := "java/lang/IllegalArgumentException") [⟨0, 14, 17, 13⟩] ⟨0, 14, 21, 15⟩ [⟨0, 14, 25, 17⟩] rfl (fun z hz => by
          simp only [List.mem_cons, List.not_mem_nil, or_false] at hz
          rcases hz with rfl
          · exact Or.inr ⟨by decide, "java/lang/IndexOutOfBoundsException", (iw_6 17 rfl), by decide⟩) (by decide) (by decide) (iw_6 18 rfl) (by decide) (fun z => ?_)
      refine g_astoreX dL_op_21 (Nat.le_of_ble_eq_true rfl) ?_
      refine g_iconst (v := nI 2) dL_op_23 rfl ?_
      exact g_iret dL_op_24 (Or.inl rfl) (Nat.le_of_ble_eq_true rfl) (Nat.le_of_ble_eq_true rfl) (wO_x hK ho hn9 hc (by decide) (by unfold opS; rw [if_neg (by rw [hc]; decide)]))
    · rw [hE]
      refine g_catch (E := "java/lang/UnsupportedOperationException") [⟨0, 14, 17, 13⟩, ⟨0, 14, 21, 15⟩] ⟨0, 14, 25, 17⟩ [] rfl (fun z hz => by
          simp only [List.mem_cons, List.not_mem_nil, or_false] at hz
          rcases hz with rfl | rfl
          · exact Or.inr ⟨by decide, "java/lang/IndexOutOfBoundsException", (iw_6 17 rfl), by decide⟩
          · exact Or.inr ⟨by decide, "java/lang/IllegalArgumentException", (iw_6 18 rfl), by decide⟩) (by decide) (by decide) (iw_6 19 rfl) (by decide) (fun z => ?_)
      refine g_astoreX dL_op_25 (Nat.le_of_ble_eq_true rfl) ?_
      refine g_iconst (v := nI 3) dL_op_27 rfl ?_
      exact g_iret dL_op_28 (Or.inl rfl) (Nat.le_of_ble_eq_true rfl) (Nat.le_of_ble_eq_true rfl) (wO_x hK ho hn9 hc (by decide) (by unfold opS; rw [if_neg (by rw [hc]; decide)]))
  · intro r9 M1 n1 h9
    obtain ⟨h91, hc, hn, hK1, hR1⟩ := h9
    rw [h91]
    have ho1 := oK_1 hR1 ho
    refine g_i2l dL_op_12 ?_
    refine g_lastore dL_op_13 (j := 0) ho1.1 ho1.2 rfl (by decide) (by decide) ?_
    refine g_goto (tgt := 29) dL_op_14 (by decide) ?_
    refine g_iconst (v := nI 0) dL_op_29 rfl ?_
    exact g_iret dL_op_30 (Or.inl rfl) (Nat.le_of_ble_eq_true rfl) (Nat.le_of_ble_eq_true rfl) (wO_r hK1 hR1 ho hn hc)

set_option maxHeartbeats 4000000 in
set_option maxRecDepth 100000 in
theorem w_begin (M : gM) (n w : Nat) (σ : MS) (p lo hi : Int32) (hK : kW M w σ) (ho : mK M (w + 57) = 12 ∧ mN M (w + 57) = 1) (hb : w + 58 ≤ n) : GMW μL_begin [(0, 11, 14, 13), (0, 11, 18, 15)] 8 143 2 12 [.ref w, .int p, .int lo, .int hi, .ref (w + 57)] M n (wO M n w (bgS σ p lo hi) (bgZ p lo hi).1 (jI (bgZ p lo hi).2)) := by
  refine GMW.ofW (by decide) rfl (Nat.le_of_ble_eq_true rfl) rfl ?_
  refine g_aload dL_begin_0 rfl ?_
  refine g_iconst (v := nI 0) dL_begin_2 rfl ?_
  refine g_aload_n dL_begin_3 rfl ?_
  refine g_iload_n dL_begin_4 rfl ?_
  refine g_iload_n dL_begin_5 rfl ?_
  refine g_iload_n dL_begin_6 rfl ?_
  refine g_callVC dL_begin_7 sX8_begin (c_begin M n w σ p lo hi hK) cl9 hK.k iX8_begin vX8_begin (iw_13 16 rfl) rfl rfl (Nat.le_of_ble_eq_true rfl) (Nat.le_of_ble_eq_true rfl) (Nat.le_of_ble_eq_true rfl) (Nat.le_of_ble_eq_true rfl) (Nat.le_of_ble_eq_true rfl) ?_ ?_
  · intro E9 M1 n1 h9
    obtain ⟨hM9, hn9, h9⟩ := h9
    rw [hM9]
    rcases h9 with ⟨hc, hE⟩ | ⟨hc, hE⟩ | ⟨hc, hE⟩
    · rw [hE]
      refine g_catch (E := "java/lang/IndexOutOfBoundsException") [] ⟨0, 11, 14, 13⟩ [⟨0, 11, 18, 15⟩] rfl (fun z hz => by cases hz) (by decide) (by decide) (iw_6 17 rfl) (by decide) (fun z => ?_)
      refine g_astoreX dL_begin_14 (Nat.le_of_ble_eq_true rfl) ?_
      refine g_iconst (v := nI 1) dL_begin_16 rfl ?_
      exact g_iret dL_begin_17 (Or.inl rfl) (Nat.le_of_ble_eq_true rfl) (Nat.le_of_ble_eq_true rfl) (wO_x hK ho hn9 hc (by decide) (by unfold bgS; rw [if_neg (by rw [hc]; decide)]))
    · rw [hE]
      refine g_catch (E := "java/lang/IllegalArgumentException") [⟨0, 11, 14, 13⟩] ⟨0, 11, 18, 15⟩ [] rfl (fun z hz => by
          simp only [List.mem_cons, List.not_mem_nil, or_false] at hz
          rcases hz with rfl
          · exact Or.inr ⟨by decide, "java/lang/IndexOutOfBoundsException", (iw_6 17 rfl), by decide⟩) (by decide) (by decide) (iw_6 18 rfl) (by decide) (fun z => ?_)
      refine g_astoreX dL_begin_18 (Nat.le_of_ble_eq_true rfl) ?_
      refine g_iconst (v := nI 2) dL_begin_20 rfl ?_
      exact g_iret dL_begin_21 (Or.inl rfl) (Nat.le_of_ble_eq_true rfl) (Nat.le_of_ble_eq_true rfl) (wO_x hK ho hn9 hc (by decide) (by unfold bgS; rw [if_neg (by rw [hc]; decide)]))
    · exact absurd hc (bgZ_ne3 _ _ _ )
  · intro r9 M1 n1 h9
    obtain ⟨h91, hc, hn, hK1, hR1⟩ := h9
    rw [h91]
    have ho1 := oK_1 hR1 ho
    refine g_lastore dL_begin_10 (j := 0) ho1.1 ho1.2 rfl (by decide) (by decide) ?_
    refine g_goto (tgt := 22) dL_begin_11 (by decide) ?_
    refine g_iconst (v := nI 0) dL_begin_22 rfl ?_
    exact g_iret dL_begin_23 (Or.inl rfl) (Nat.le_of_ble_eq_true rfl) (Nat.le_of_ble_eq_true rfl) (wO_r hK1 hR1 ho hn hc)

set_option maxHeartbeats 4000000 in
set_option maxRecDepth 100000 in
theorem w_reached (M : gM) (n w : Nat) (σ : MS) (x : Int32) (hK : kW M w σ) (ho : mK M (w + 57) = 12 ∧ mN M (w + 57) = 1) (hb : w + 58 ≤ n) : GMW μL_reached [(0, 16, 19, 13), (0, 16, 22, 27)] 8 142 2 12 [.ref w, .int x, .ref (w + 57)] M n (wO M n w σ (rcZ σ x).1 ((if (rcZ σ x).2 = true then 1 else 0))) := by
  refine GMW.ofW (by decide) rfl (Nat.le_of_ble_eq_true rfl) rfl ?_
  refine g_aload_n dL_reached_0 rfl ?_
  refine g_iconst (v := nI 0) dL_reached_1 rfl ?_
  refine g_aload_n dL_reached_2 rfl ?_
  refine g_iload_n dL_reached_3 rfl ?_
  refine g_callVC dL_reached_4 sX8_reached (c_reached M n w σ x hK) cl9 hK.k iX8_reached vX8_reached (iw_31 10 rfl) rfl rfl (Nat.le_of_ble_eq_true rfl) (Nat.le_of_ble_eq_true rfl) (Nat.le_of_ble_eq_true rfl) (Nat.le_of_ble_eq_true rfl) (Nat.le_of_ble_eq_true rfl) ?_ ?_
  · intro E9 M1 n1 h9
    obtain ⟨hM9, hn9, h9⟩ := h9
    rw [hM9]
    rcases h9 with ⟨hc, hE⟩ | ⟨hc, hE⟩ | ⟨hc, hE⟩
    · rw [hE]
      refine g_catch (E := "java/lang/IndexOutOfBoundsException") [] ⟨0, 16, 19, 13⟩ [⟨0, 16, 22, 27⟩] rfl (fun z hz => by cases hz) (by decide) (by decide) (iw_6 17 rfl) (by decide) (fun z => ?_)
      refine g_astoreX_n dL_reached_19 (Nat.le_of_ble_eq_true rfl) ?_
      refine g_iconst (v := nI 1) dL_reached_20 rfl ?_
      exact g_iret dL_reached_21 (Or.inl rfl) (Nat.le_of_ble_eq_true rfl) (Nat.le_of_ble_eq_true rfl) (wO_x hK ho hn9 hc (by decide) rfl)
    · rw [hE]
      refine g_catch (E := "java/lang/IllegalStateException") [⟨0, 16, 19, 13⟩] ⟨0, 16, 22, 27⟩ [] rfl (fun z hz => by
          simp only [List.mem_cons, List.not_mem_nil, or_false] at hz
          rcases hz with rfl
          · exact Or.inr ⟨by decide, "java/lang/IndexOutOfBoundsException", (iw_6 17 rfl), by decide⟩) (by decide) (by decide) (iw_31 9 rfl) (by decide) (fun z => ?_)
      refine g_astoreX_n dL_reached_22 (Nat.le_of_ble_eq_true rfl) ?_
      refine g_iconst (v := nI 2) dL_reached_23 rfl ?_
      exact g_iret dL_reached_24 (Or.inl rfl) (Nat.le_of_ble_eq_true rfl) (Nat.le_of_ble_eq_true rfl) (wO_x hK ho hn9 hc (by decide) rfl)
    · exact absurd hc (rcZ_ne3 _ _ )
  · intro r9 M1 n1 h9
    obtain ⟨h91, hc, hn, hK1, hR1⟩ := h9
    rw [h91]
    have ho1 := oK_1 hR1 ho
    refine g_if_eq (tgt := 14) dL_reached_7 (by decide) (fun c_7 => ?_) (fun c_7 => ?_)
    · refine g_lconst (v := 0) dL_reached_14 rfl ?_
      refine g_lastore dL_reached_15 (j := 0) ho1.1 ho1.2 rfl (by decide) (by decide) ?_
      refine g_goto (tgt := 25) dL_reached_16 (by decide) ?_
      refine g_iconst (v := nI 0) dL_reached_25 rfl ?_
      exact g_iret dL_reached_26 (Or.inl rfl) (Nat.le_of_ble_eq_true rfl) (Nat.le_of_ble_eq_true rfl) (by rw [if_neg (by rw [bI_eq0] at c_7; rw [c_7]; exact fun q => by cases q)]; exact wO_r hK1 hR1 ho hn hc)
    · refine g_lconst (v := 1) dL_reached_10 rfl ?_
      refine g_goto (tgt := 15) dL_reached_11 (by decide) ?_
      refine g_lastore dL_reached_15 (j := 0) ho1.1 ho1.2 rfl (by decide) (by decide) ?_
      refine g_goto (tgt := 25) dL_reached_16 (by decide) ?_
      refine g_iconst (v := nI 0) dL_reached_25 rfl ?_
      exact g_iret dL_reached_26 (Or.inl rfl) (Nat.le_of_ble_eq_true rfl) (Nat.le_of_ble_eq_true rfl) (by rw [if_pos (by rw [bI_eq0, Bool.not_eq_false] at c_7; exact c_7)]; exact wO_r hK1 hR1 ho hn hc)

set_option maxHeartbeats 4000000 in
set_option maxRecDepth 100000 in
theorem w_pieces (M : gM) (n w : Nat) (σ : MS) (x p : Int32) (hK : kW M w σ) (ho : mK M (w + 57) = 12 ∧ mN M (w + 57) = 1) (hb : w + 58 ≤ n) : GMW μL_pieces [(0, 10, 13, 13), (0, 10, 17, 27)] 8 144 3 18 [.ref w, .int x, .int p, .ref (w + 57)] M n (wO M n w σ (pcZ σ x p).1 ((nI (pcZ σ x p).2).toInt64)) := by
  refine GMW.ofW (by decide) rfl (Nat.le_of_ble_eq_true rfl) rfl ?_
  refine g_aload_n dL_pieces_0 rfl ?_
  refine g_iconst (v := nI 0) dL_pieces_1 rfl ?_
  refine g_aload_n dL_pieces_2 rfl ?_
  refine g_iload_n dL_pieces_3 rfl ?_
  refine g_iload_n dL_pieces_4 rfl ?_
  refine g_callVC dL_pieces_5 sX8_pieces (c_pieces M n w σ x p hK) cl9 hK.k iX8_pieces vX8_pieces (iw_32 14 rfl) rfl rfl (Nat.le_of_ble_eq_true rfl) (Nat.le_of_ble_eq_true rfl) (Nat.le_of_ble_eq_true rfl) (Nat.le_of_ble_eq_true rfl) (Nat.le_of_ble_eq_true rfl) ?_ ?_
  · intro E9 M1 n1 h9
    obtain ⟨hM9, hn9, h9⟩ := h9
    rw [hM9]
    rcases h9 with ⟨hc, hE⟩ | ⟨hc, hE⟩ | ⟨hc, hE⟩
    · rw [hE]
      refine g_catch (E := "java/lang/IndexOutOfBoundsException") [] ⟨0, 10, 13, 13⟩ [⟨0, 10, 17, 27⟩] rfl (fun z hz => by cases hz) (by decide) (by decide) (iw_6 17 rfl) (by decide) (fun z => ?_)
      refine g_astoreX dL_pieces_13 (Nat.le_of_ble_eq_true rfl) ?_
      refine g_iconst (v := nI 1) dL_pieces_15 rfl ?_
      exact g_iret dL_pieces_16 (Or.inl rfl) (Nat.le_of_ble_eq_true rfl) (Nat.le_of_ble_eq_true rfl) (wO_x hK ho hn9 hc (by decide) rfl)
    · rw [hE]
      refine g_catch (E := "java/lang/IllegalStateException") [⟨0, 10, 13, 13⟩] ⟨0, 10, 17, 27⟩ [] rfl (fun z hz => by
          simp only [List.mem_cons, List.not_mem_nil, or_false] at hz
          rcases hz with rfl
          · exact Or.inr ⟨by decide, "java/lang/IndexOutOfBoundsException", (iw_6 17 rfl), by decide⟩) (by decide) (by decide) (iw_31 9 rfl) (by decide) (fun z => ?_)
      refine g_astoreX dL_pieces_17 (Nat.le_of_ble_eq_true rfl) ?_
      refine g_iconst (v := nI 2) dL_pieces_19 rfl ?_
      exact g_iret dL_pieces_20 (Or.inl rfl) (Nat.le_of_ble_eq_true rfl) (Nat.le_of_ble_eq_true rfl) (wO_x hK ho hn9 hc (by decide) rfl)
    · exact absurd hc (pcZ_ne3 _ _ _ )
  · intro r9 M1 n1 h9
    obtain ⟨h91, hc, hn, hK1, hR1⟩ := h9
    rw [h91]
    have ho1 := oK_1 hR1 ho
    refine g_i2l dL_pieces_8 ?_
    refine g_lastore dL_pieces_9 (j := 0) ho1.1 ho1.2 rfl (by decide) (by decide) ?_
    refine g_goto (tgt := 21) dL_pieces_10 (by decide) ?_
    refine g_iconst (v := nI 0) dL_pieces_21 rfl ?_
    exact g_iret dL_pieces_22 (Or.inl rfl) (Nat.le_of_ble_eq_true rfl) (Nat.le_of_ble_eq_true rfl) (wO_r hK1 hR1 ho hn hc)

set_option maxHeartbeats 4000000 in
set_option maxRecDepth 100000 in
theorem w_end (M : gM) (n w : Nat) (σ : MS) (x p k : Int32) (up : Bool) (hK : kW M w σ) (ho : mK M (w + 57) = 12 ∧ mN M (w + 57) = 1) (hb : w + 58 ≤ n) : GMW μL_end [(0, 14, 17, 13), (0, 14, 21, 27)] 8 147 4 24 [.ref w, .int x, .int p, .int k, .int (bI up), .ref (w + 57)] M n (wO M n w σ (enZ σ x p k up).1 ((iZ (enZ σ x p k up).2).toInt64)) := by
  refine GMW.ofW (by decide) rfl (Nat.le_of_ble_eq_true rfl) rfl ?_
  refine g_aload dL_end_0 rfl ?_
  refine g_iconst (v := nI 0) dL_end_2 rfl ?_
  refine g_aload_n dL_end_3 rfl ?_
  refine g_iload_n dL_end_4 rfl ?_
  refine g_iload_n dL_end_5 rfl ?_
  refine g_iload_n dL_end_6 rfl ?_
  refine g_iload dL_end_7 rfl ?_
  refine g_callVC dL_end_9 sX8_end (c_end M n w σ x p k up hK) cl9 hK.k iX8_end vX8_end (iw_33 1 rfl) rfl rfl (Nat.le_of_ble_eq_true rfl) (Nat.le_of_ble_eq_true rfl) (Nat.le_of_ble_eq_true rfl) (Nat.le_of_ble_eq_true rfl) (Nat.le_of_ble_eq_true rfl) ?_ ?_
  · intro E9 M1 n1 h9
    obtain ⟨hM9, hn9, h9⟩ := h9
    rw [hM9]
    rcases h9 with ⟨hc, hE⟩ | ⟨hc, hE⟩ | ⟨hc, hE⟩
    · rw [hE]
      refine g_catch (E := "java/lang/IndexOutOfBoundsException") [] ⟨0, 14, 17, 13⟩ [⟨0, 14, 21, 27⟩] rfl (fun z hz => by cases hz) (by decide) (by decide) (iw_6 17 rfl) (by decide) (fun z => ?_)
      refine g_astoreX dL_end_17 (Nat.le_of_ble_eq_true rfl) ?_
      refine g_iconst (v := nI 1) dL_end_19 rfl ?_
      exact g_iret dL_end_20 (Or.inl rfl) (Nat.le_of_ble_eq_true rfl) (Nat.le_of_ble_eq_true rfl) (wO_x hK ho hn9 hc (by decide) rfl)
    · rw [hE]
      refine g_catch (E := "java/lang/IllegalStateException") [⟨0, 14, 17, 13⟩] ⟨0, 14, 21, 27⟩ [] rfl (fun z hz => by
          simp only [List.mem_cons, List.not_mem_nil, or_false] at hz
          rcases hz with rfl
          · exact Or.inr ⟨by decide, "java/lang/IndexOutOfBoundsException", (iw_6 17 rfl), by decide⟩) (by decide) (by decide) (iw_31 9 rfl) (by decide) (fun z => ?_)
      refine g_astoreX dL_end_21 (Nat.le_of_ble_eq_true rfl) ?_
      refine g_iconst (v := nI 2) dL_end_23 rfl ?_
      exact g_iret dL_end_24 (Or.inl rfl) (Nat.le_of_ble_eq_true rfl) (Nat.le_of_ble_eq_true rfl) (wO_x hK ho hn9 hc (by decide) rfl)
    · exact absurd hc (enZ_ne3 _ _ _ _ _ )
  · intro r9 M1 n1 h9
    obtain ⟨h91, hc, hn, hK1, hR1⟩ := h9
    rw [h91]
    have ho1 := oK_1 hR1 ho
    refine g_i2l dL_end_12 ?_
    refine g_lastore dL_end_13 (j := 0) ho1.1 ho1.2 rfl (by decide) (by decide) ?_
    refine g_goto (tgt := 25) dL_end_14 (by decide) ?_
    refine g_iconst (v := nI 0) dL_end_25 rfl ?_
    exact g_iret dL_end_26 (Or.inl rfl) (Nat.le_of_ble_eq_true rfl) (Nat.le_of_ble_eq_true rfl) (wO_r hK1 hR1 ho hn hc)

set_option maxHeartbeats 4000000 in
set_option maxRecDepth 100000 in
theorem w_ways (M : gM) (n w : Nat) (σ : MS) (x : Int32) (hK : kW M w σ) (ho : mK M (w + 57) = 12 ∧ mN M (w + 57) = 1) (hb : w + 58 ≤ n) : GMW μL_ways [(0, 9, 12, 13), (0, 9, 15, 27)] 8 167 2 12 [.ref w, .int x, .ref (w + 57)] M n (wO M n w σ (wyZ σ x).1 ((nI (wyZ σ x).2).toInt64)) := by
  refine GMW.ofW (by decide) rfl (Nat.le_of_ble_eq_true rfl) rfl ?_
  refine g_aload_n dL_ways_0 rfl ?_
  refine g_iconst (v := nI 0) dL_ways_1 rfl ?_
  refine g_aload_n dL_ways_2 rfl ?_
  refine g_iload_n dL_ways_3 rfl ?_
  refine g_callVC dL_ways_4 sX8_ways (c_waysP M n w σ x hK) cl9 hK.k iX8_ways vX8_ways (iw_33 14 rfl) rfl rfl (Nat.le_of_ble_eq_true rfl) (Nat.le_of_ble_eq_true rfl) (Nat.le_of_ble_eq_true rfl) (Nat.le_of_ble_eq_true rfl) (Nat.le_of_ble_eq_true rfl) ?_ ?_
  · intro E9 M1 n1 h9
    obtain ⟨hM9, hn9, h9⟩ := h9
    rw [hM9]
    rcases h9 with ⟨hc, hE⟩ | ⟨hc, hE⟩ | ⟨hc, hE⟩
    · rw [hE]
      refine g_catch (E := "java/lang/IndexOutOfBoundsException") [] ⟨0, 9, 12, 13⟩ [⟨0, 9, 15, 27⟩] rfl (fun z hz => by cases hz) (by decide) (by decide) (iw_6 17 rfl) (by decide) (fun z => ?_)
      refine g_astoreX_n dL_ways_12 (Nat.le_of_ble_eq_true rfl) ?_
      refine g_iconst (v := nI 1) dL_ways_13 rfl ?_
      exact g_iret dL_ways_14 (Or.inl rfl) (Nat.le_of_ble_eq_true rfl) (Nat.le_of_ble_eq_true rfl) (wO_x hK ho hn9 hc (by decide) rfl)
    · rw [hE]
      refine g_catch (E := "java/lang/IllegalStateException") [⟨0, 9, 12, 13⟩] ⟨0, 9, 15, 27⟩ [] rfl (fun z hz => by
          simp only [List.mem_cons, List.not_mem_nil, or_false] at hz
          rcases hz with rfl
          · exact Or.inr ⟨by decide, "java/lang/IndexOutOfBoundsException", (iw_6 17 rfl), by decide⟩) (by decide) (by decide) (iw_31 9 rfl) (by decide) (fun z => ?_)
      refine g_astoreX_n dL_ways_15 (Nat.le_of_ble_eq_true rfl) ?_
      refine g_iconst (v := nI 2) dL_ways_16 rfl ?_
      exact g_iret dL_ways_17 (Or.inl rfl) (Nat.le_of_ble_eq_true rfl) (Nat.le_of_ble_eq_true rfl) (wO_x hK ho hn9 hc (by decide) rfl)
    · exact absurd hc (wyZ_ne3 _ _ )
  · intro r9 M1 n1 h9
    obtain ⟨h91, hc, hn, hK1, hR1⟩ := h9
    rw [h91]
    have ho1 := oK_1 hR1 ho
    refine g_i2l dL_ways_7 ?_
    refine g_lastore dL_ways_8 (j := 0) ho1.1 ho1.2 rfl (by decide) (by decide) ?_
    refine g_goto (tgt := 18) dL_ways_9 (by decide) ?_
    refine g_iconst (v := nI 0) dL_ways_18 rfl ?_
    exact g_iret dL_ways_19 (Or.inl rfl) (Nat.le_of_ble_eq_true rfl) (Nat.le_of_ble_eq_true rfl) (wO_r hK1 hR1 ho hn hc)

set_option maxHeartbeats 4000000 in
set_option maxRecDepth 100000 in
theorem w_told (M : gM) (n w : Nat) (σ : MS) (x : Int32) (hK : kW M w σ) (ho : mK M (w + 57) = 12 ∧ mN M (w + 57) = 1) (hb : w + 58 ≤ n) : GMW μL_told [(0, 9, 12, 15), (0, 9, 15, 27)] 8 141 1 6 [.ref w, .int x, .ref (w + 57)] M n (wO M n w σ (tdZ σ x).1 ((nI (tdZ σ x).2).toInt64)) := by
  refine GMW.ofW (by decide) rfl (Nat.le_of_ble_eq_true rfl) rfl ?_
  refine g_aload_n dL_told_0 rfl ?_
  refine g_iconst (v := nI 0) dL_told_1 rfl ?_
  refine g_aload_n dL_told_2 rfl ?_
  refine g_iload_n dL_told_3 rfl ?_
  refine g_callVC dL_told_4 sX8_told (c_toldP M n w σ x hK) cl9 hK.k iX8_told vX8_told (iw_34 15 rfl) rfl rfl (Nat.le_of_ble_eq_true rfl) (Nat.le_of_ble_eq_true rfl) (Nat.le_of_ble_eq_true rfl) (Nat.le_of_ble_eq_true rfl) (Nat.le_of_ble_eq_true rfl) ?_ ?_
  · intro E9 M1 n1 h9
    obtain ⟨hM9, hn9, h9⟩ := h9
    rw [hM9]
    rcases h9 with ⟨hc, hE⟩ | ⟨hc, hE⟩ | ⟨hc, hE⟩
    · rw [hE]
      refine g_catch (E := "java/lang/IllegalArgumentException") [] ⟨0, 9, 12, 15⟩ [⟨0, 9, 15, 27⟩] rfl (fun z hz => by cases hz) (by decide) (by decide) (iw_6 18 rfl) (by decide) (fun z => ?_)
      refine g_astoreX_n dL_told_12 (Nat.le_of_ble_eq_true rfl) ?_
      refine g_iconst (v := nI 1) dL_told_13 rfl ?_
      exact g_iret dL_told_14 (Or.inl rfl) (Nat.le_of_ble_eq_true rfl) (Nat.le_of_ble_eq_true rfl) (wO_x hK ho hn9 hc (by decide) rfl)
    · rw [hE]
      refine g_catch (E := "java/lang/IllegalStateException") [⟨0, 9, 12, 15⟩] ⟨0, 9, 15, 27⟩ [] rfl (fun z hz => by
          simp only [List.mem_cons, List.not_mem_nil, or_false] at hz
          rcases hz with rfl
          · exact Or.inr ⟨by decide, "java/lang/IllegalArgumentException", (iw_6 18 rfl), by decide⟩) (by decide) (by decide) (iw_31 9 rfl) (by decide) (fun z => ?_)
      refine g_astoreX_n dL_told_15 (Nat.le_of_ble_eq_true rfl) ?_
      refine g_iconst (v := nI 2) dL_told_16 rfl ?_
      exact g_iret dL_told_17 (Or.inl rfl) (Nat.le_of_ble_eq_true rfl) (Nat.le_of_ble_eq_true rfl) (wO_x hK ho hn9 hc (by decide) rfl)
    · exact absurd hc (tdZ_ne3 _ _ )
  · intro r9 M1 n1 h9
    obtain ⟨h91, hc, hn, hK1, hR1⟩ := h9
    rw [h91]
    have ho1 := oK_1 hR1 ho
    refine g_i2l dL_told_7 ?_
    refine g_lastore dL_told_8 (j := 0) ho1.1 ho1.2 rfl (by decide) (by decide) ?_
    refine g_goto (tgt := 18) dL_told_9 (by decide) ?_
    refine g_iconst (v := nI 0) dL_told_18 rfl ?_
    exact g_iret dL_told_19 (Or.inl rfl) (Nat.le_of_ble_eq_true rfl) (Nat.le_of_ble_eq_true rfl) (wO_r hK1 hR1 ho hn hc)

set_option maxHeartbeats 4000000 in
set_option maxRecDepth 100000 in
theorem w_threshold (M : gM) (n w : Nat) (σ : MS) (x : Int32) (hK : kW M w σ) (ho : mK M (w + 57) = 12 ∧ mN M (w + 57) = 1) (hb : w + 58 ≤ n) : GMW μL_threshold [(0, 9, 12, 13)] 7 122 1 6 [.ref w, .int x, .ref (w + 57)] M n (wO M n w σ (thZ σ x).1 ((iZ (thZ σ x).2).toInt64)) := by
  refine GMW.ofW (by decide) rfl (Nat.le_of_ble_eq_true rfl) rfl ?_
  refine g_aload_n dL_threshold_0 rfl ?_
  refine g_iconst (v := nI 0) dL_threshold_1 rfl ?_
  refine g_aload_n dL_threshold_2 rfl ?_
  refine g_iload_n dL_threshold_3 rfl ?_
  refine g_callVC dL_threshold_4 sX8_threshold (c_thresholdP M n w σ x hK) cl9 hK.k iX8_threshold vX8_threshold (iw_35 11 rfl) rfl rfl (Nat.le_of_ble_eq_true rfl) (Nat.le_of_ble_eq_true rfl) (Nat.le_of_ble_eq_true rfl) (Nat.le_of_ble_eq_true rfl) (Nat.le_of_ble_eq_true rfl) ?_ ?_
  · intro E9 M1 n1 h9
    obtain ⟨hM9, hn9, h9⟩ := h9
    rw [hM9]
    rcases h9 with ⟨hc, hE⟩ | ⟨hc, hE⟩ | ⟨hc, hE⟩
    · rw [hE]
      refine g_catch (E := "java/lang/IndexOutOfBoundsException") [] ⟨0, 9, 12, 13⟩ [] rfl (fun z hz => by cases hz) (by decide) (by decide) (iw_6 17 rfl) (by decide) (fun z => ?_)
      refine g_astoreX_n dL_threshold_12 (Nat.le_of_ble_eq_true rfl) ?_
      refine g_iconst (v := nI 1) dL_threshold_13 rfl ?_
      exact g_iret dL_threshold_14 (Or.inl rfl) (Nat.le_of_ble_eq_true rfl) (Nat.le_of_ble_eq_true rfl) (wO_x hK ho hn9 hc (by decide) rfl)
    · exact absurd hc (thZ_ne2 _ _ )
    · exact absurd hc (thZ_ne3 _ _ )
  · intro r9 M1 n1 h9
    obtain ⟨h91, hc, hn, hK1, hR1⟩ := h9
    rw [h91]
    have ho1 := oK_1 hR1 ho
    refine g_i2l dL_threshold_7 ?_
    refine g_lastore dL_threshold_8 (j := 0) ho1.1 ho1.2 rfl (by decide) (by decide) ?_
    refine g_goto (tgt := 15) dL_threshold_9 (by decide) ?_
    refine g_iconst (v := nI 0) dL_threshold_15 rfl ?_
    exact g_iret dL_threshold_16 (Or.inl rfl) (Nat.le_of_ble_eq_true rfl) (Nat.le_of_ble_eq_true rfl) (wO_r hK1 hR1 ho hn hc)

set_option maxHeartbeats 4000000 in
set_option maxRecDepth 100000 in
theorem w_holds (M : gM) (n w : Nat) (σ : MS) (k s : Int32) (hK : kW M w σ) (ho : mK M (w + 57) = 12 ∧ mN M (w + 57) = 1) (hb : w + 58 ≤ n) : GMW μL_holds [(0, 10, 13, 15), (0, 10, 17, 27)] 8 142 1 6 [.ref w, .int k, .int s, .ref (w + 57)] M n (wO M n w (hoS σ k s) (hoZ σ k s).1 ((nI (hoZ σ k s).2.1).toInt64)) := by
  refine GMW.ofW (by decide) rfl (Nat.le_of_ble_eq_true rfl) rfl ?_
  refine g_aload_n dL_holds_0 rfl ?_
  refine g_iconst (v := nI 0) dL_holds_1 rfl ?_
  refine g_aload_n dL_holds_2 rfl ?_
  refine g_iload_n dL_holds_3 rfl ?_
  refine g_iload_n dL_holds_4 rfl ?_
  refine g_callVC dL_holds_5 sX8_holds (c_holds M n w σ k s hK) cl9 hK.k iX8_holds vX8_holds (iw_35 22 rfl) rfl rfl (Nat.le_of_ble_eq_true rfl) (Nat.le_of_ble_eq_true rfl) (Nat.le_of_ble_eq_true rfl) (Nat.le_of_ble_eq_true rfl) (Nat.le_of_ble_eq_true rfl) ?_ ?_
  · intro E9 M1 n1 h9
    obtain ⟨hM9, hn9, h9⟩ := h9
    rw [hM9]
    rcases h9 with ⟨hc, hE⟩ | ⟨hc, hE⟩ | ⟨hc, hE⟩
    · rw [hE]
      refine g_catch (E := "java/lang/IllegalArgumentException") [] ⟨0, 10, 13, 15⟩ [⟨0, 10, 17, 27⟩] rfl (fun z hz => by cases hz) (by decide) (by decide) (iw_6 18 rfl) (by decide) (fun z => ?_)
      refine g_astoreX dL_holds_13 (Nat.le_of_ble_eq_true rfl) ?_
      refine g_iconst (v := nI 1) dL_holds_15 rfl ?_
      exact g_iret dL_holds_16 (Or.inl rfl) (Nat.le_of_ble_eq_true rfl) (Nat.le_of_ble_eq_true rfl) (wO_x hK ho hn9 hc (by decide) (hoS_x hc (by decide)))
    · rw [hE]
      refine g_catch (E := "java/lang/IllegalStateException") [⟨0, 10, 13, 15⟩] ⟨0, 10, 17, 27⟩ [] rfl (fun z hz => by
          simp only [List.mem_cons, List.not_mem_nil, or_false] at hz
          rcases hz with rfl
          · exact Or.inr ⟨by decide, "java/lang/IllegalArgumentException", (iw_6 18 rfl), by decide⟩) (by decide) (by decide) (iw_31 9 rfl) (by decide) (fun z => ?_)
      refine g_astoreX dL_holds_17 (Nat.le_of_ble_eq_true rfl) ?_
      refine g_iconst (v := nI 2) dL_holds_19 rfl ?_
      exact g_iret dL_holds_20 (Or.inl rfl) (Nat.le_of_ble_eq_true rfl) (Nat.le_of_ble_eq_true rfl) (wO_x hK ho hn9 hc (by decide) (hoS_x hc (by decide)))
    · exact absurd hc (hoZ_ne3 _ _ _ )
  · intro r9 M1 n1 h9
    obtain ⟨h91, hc, hn, hK1, hR1⟩ := h9
    rw [h91]
    have ho1 := oK_1 hR1 ho
    refine g_i2l dL_holds_8 ?_
    refine g_lastore dL_holds_9 (j := 0) ho1.1 ho1.2 rfl (by decide) (by decide) ?_
    refine g_goto (tgt := 21) dL_holds_10 (by decide) ?_
    refine g_iconst (v := nI 0) dL_holds_21 rfl ?_
    exact g_iret dL_holds_22 (Or.inl rfl) (Nat.le_of_ble_eq_true rfl) (Nat.le_of_ble_eq_true rfl) (wO_r hK1 hR1 ho hn hc)

set_option maxHeartbeats 4000000 in
set_option maxRecDepth 100000 in
theorem w_had (M : gM) (n w : Nat) (σ : MS) (p : Int32) (hK : kW M w σ) (ho : mK M (w + 57) = 12 ∧ mN M (w + 57) = 1) (hb : w + 58 ≤ n) : GMW μL_had [(0, 9, 12, 13)] 8 141 2 12 [.ref w, .int p, .ref (w + 57)] M n (wO M n w σ (hdZ σ p).1 ((hdZ σ p).2.toInt64)) := by
  refine GMW.ofW (by decide) rfl (Nat.le_of_ble_eq_true rfl) rfl ?_
  refine g_aload_n dL_had_0 rfl ?_
  refine g_iconst (v := nI 0) dL_had_1 rfl ?_
  refine g_aload_n dL_had_2 rfl ?_
  refine g_iload_n dL_had_3 rfl ?_
  refine g_callVC dL_had_4 sX8_had (c_had M n w σ p hK) cl9 hK.k iX8_had vX8_had (iw_38 21 rfl) rfl rfl (Nat.le_of_ble_eq_true rfl) (Nat.le_of_ble_eq_true rfl) (Nat.le_of_ble_eq_true rfl) (Nat.le_of_ble_eq_true rfl) (Nat.le_of_ble_eq_true rfl) ?_ ?_
  · intro E9 M1 n1 h9
    obtain ⟨hM9, hn9, h9⟩ := h9
    rw [hM9]
    rcases h9 with ⟨hc, hE⟩ | ⟨hc, hE⟩ | ⟨hc, hE⟩
    · rw [hE]
      refine g_catch (E := "java/lang/IndexOutOfBoundsException") [] ⟨0, 9, 12, 13⟩ [] rfl (fun z hz => by cases hz) (by decide) (by decide) (iw_6 17 rfl) (by decide) (fun z => ?_)
      refine g_astoreX_n dL_had_12 (Nat.le_of_ble_eq_true rfl) ?_
      refine g_iconst (v := nI 1) dL_had_13 rfl ?_
      exact g_iret dL_had_14 (Or.inl rfl) (Nat.le_of_ble_eq_true rfl) (Nat.le_of_ble_eq_true rfl) (wO_x hK ho hn9 hc (by decide) rfl)
    · exact absurd hc (hdZ_ne2 _ _ )
    · exact absurd hc (hdZ_ne3 _ _ )
  · intro r9 M1 n1 h9
    obtain ⟨h91, hc, hn, hK1, hR1⟩ := h9
    rw [h91]
    have ho1 := oK_1 hR1 ho
    refine g_i2l dL_had_7 ?_
    refine g_lastore dL_had_8 (j := 0) ho1.1 ho1.2 rfl (by decide) (by decide) ?_
    refine g_goto (tgt := 15) dL_had_9 (by decide) ?_
    refine g_iconst (v := nI 0) dL_had_15 rfl ?_
    exact g_iret dL_had_16 (Or.inl rfl) (Nat.le_of_ble_eq_true rfl) (Nat.le_of_ble_eq_true rfl) (wO_r hK1 hR1 ho hn hc)

