/-! the class: the program, the solver; a set grows -/
def pR (M : gM) (p : Nat) : Prop := mK M p = 2 ∧ mR M p 0 = some (p + 1) ∧ mR M p 1 = some (p + 2) ∧ mR M p 2 = some (p + 11)
theorem pR.off {M M1 : gM} {p : Nat} {S : Nat → Nat → Prop} (h : pR M p) (ho : Off M M1 S) : pR M1 p := by
  unfold pR
  rw [ho.1, ho.2.2.1]
  exact h
def uR (M : gM) (u p : Nat) : Prop := mK M u = 3 ∧ (mR M u 0 = some p ∧ mR M u 1 = some (u + 1) ∧ mR M u 2 = some (u + 16) ∧ mR M u 3 = some (u + 19) ∧ mR M u 4 = some (u + 28)) ∧ sP M (u + 1) ∧ gG M (u + 16) ∧ sA M (u + 19) ∧ mK M (u + 28) = 4
theorem uR.off {M M1 : gM} {u p : Nat} {S : Nat → Nat → Prop} (h : uR M u p) (ho : Off M M1 S) : uR M1 u p := by
  have h1 := h.2.2.1.off ho
  have h2 := h.2.2.2.1.off ho
  have h3 := h.2.2.2.2.1.off ho
  refine ⟨?_, ?_, h1, h2, h3, ?_⟩
  · rw [ho.1]; exact h.1
  · rw [ho.2.2.1]; exact h.2.1
  · rw [ho.1]; exact h.2.2.2.2.2
abbrev isN (len : Nat) (x : Int32) : Prop := 0 ≤ x.toInt ∧ x.toInt ≤ (len : Int) - 1
set_option maxHeartbeats 4000000 in
set_option maxRecDepth 100000 in
theorem c_isThere (M : gM) (n p d len : Nat) (E : Nat → Nat) (x : Int32) (hp : pR M p) (h : aL M (p + 1) d len E) : GM μX1_isThere 1 20 0 0 [.ref p, .int x] M n (fun r M1 n1 => r = some (.int (bI (decide (isN len x)))) ∧ M1 = M ∧ n1 = n) := by
  refine GM.ofW (by decide) rfl (Nat.le_of_ble_eq_true rfl) rfl ?_
  have h5 := h.2.2.2.2.2.1
  have h6 := h.2.2.2.2.1
  refine g_iload_n dX1_isThere_0 rfl ?_
  refine g_if_lt (tgt := 19) dX1_isThere_1 (by decide) (fun c_1 => ?_) (fun c_1 => ?_)
  · skip
    refine g_iconst (v := nI 0) dX1_isThere_19 rfl ?_
    exact g_iret dX1_isThere_20 (Or.inr ⟨rfl, by first | exact Or.inl rfl | exact Or.inr rfl⟩) (Nat.le_of_ble_eq_true rfl) (Nat.le_of_ble_eq_true rfl) (by
      refine ⟨?_, rfl, rfl⟩
      (try rw [i_le, nI_t (by omega)] at c_12)
      (try rw [i_lt, t_0] at c_1)
      first | (rw [decide_eq_true (by omega)]; rfl) | (rw [decide_eq_false (by omega)]; rfl))
  · skip
    refine g_iload_n dX1_isThere_4 rfl ?_
    refine g_aload_n dX1_isThere_5 rfl ?_
    refine g_getR (f := 0) dX1_isThere_6 cl2 hp.1 (by decide) (Or.inl (iw_2 8 rfl)) (Or.inl rfl) rfl hp.2.1 ?_
    refine g_callV dX1_isThere_9 sJx4a65c_size_8abf5 (j_size M n (p + 1) d len E h) cl0 h.1 iJx4a65c_size_8abf5 vJx4a65c_size_8abf5 (iw_8 13 rfl) rfl rfl (Nat.le_of_ble_eq_true rfl) (Nat.le_of_ble_eq_true rfl) (Nat.le_of_ble_eq_true rfl) (Nat.le_of_ble_eq_true rfl) (Nat.le_of_ble_eq_true rfl) ?_
    intro r9 M9 n9 h9
    obtain ⟨h91, h92, h93⟩ := h9
    rw [h91, h92, h93]
    clear h91 h92 h93 r9 M9 n9
    refine g_icmp_ge (tgt := 19) dX1_isThere_12 (by decide) (fun c_12 => ?_) (fun c_12 => ?_)
    · skip
      refine g_iconst (v := nI 0) dX1_isThere_19 rfl ?_
      exact g_iret dX1_isThere_20 (Or.inr ⟨rfl, by first | exact Or.inl rfl | exact Or.inr rfl⟩) (Nat.le_of_ble_eq_true rfl) (Nat.le_of_ble_eq_true rfl) (by
        refine ⟨?_, rfl, rfl⟩
        (try rw [i_le, nI_t (by omega)] at c_12)
        (try rw [i_lt, t_0] at c_1)
        first | (rw [decide_eq_true (by omega)]; rfl) | (rw [decide_eq_false (by omega)]; rfl))
    · skip
      refine g_iconst (v := nI 1) dX1_isThere_15 rfl ?_
      refine g_goto (tgt := 20) dX1_isThere_16 (by decide) ?_
      exact g_iret dX1_isThere_20 (Or.inr ⟨rfl, by first | exact Or.inl rfl | exact Or.inr rfl⟩) (Nat.le_of_ble_eq_true rfl) (Nat.le_of_ble_eq_true rfl) (by
        refine ⟨?_, rfl, rfl⟩
        (try rw [i_le, nI_t (by omega)] at c_12)
        (try rw [i_lt, t_0] at c_1)
        first | (rw [decide_eq_true (by omega)]; rfl) | (rw [decide_eq_false (by omega)]; rfl))

set_option maxHeartbeats 4000000 in
set_option maxRecDepth 100000 in
theorem c_known (M : gM) (n e a : Nat) (s : St) (G : Nat → List Sp) (hs : sQ M e s) (hE : sE M a G) (hap : apS a (e + 1)) : GM μX4_becomeKnown 2 43 0 0 [.ref e, .ref a] M n (fun r M1 n1 => r = none ∧ n1 = n ∧ Off M M1 (fun i k => (i = e ∧ (k = 6 ∨ k = 7)) ∨ fB (e + 1) i k) ∧ sE M1 (e + 1) G ∧ mI M1 e 6 = nI 1 ∧ mI M1 e 7 = nI 1) := by
  refine GM.ofW (by decide) rfl (Nat.le_of_ble_eq_true rfl) rfl ?_
  refine g_aload_n dX4_becomeKnown_0 rfl ?_
  refine g_aload_n dX4_becomeKnown_1 rfl ?_
  refine g_getR (f := 4) dX4_becomeKnown_2 cl5 hs.1 (by decide) (Or.inl (iw_8 22 rfl)) (Or.inl rfl) rfl hs.2.2.2.2.2.1 ?_
  refine g_callSN dX4_becomeKnown_5 sX8_copySets (c_copySets M n a (e + 1) G hap hE hs.2.2.2.2.2.2) tX8_copySets (List.mem_of_getElem? (i := 10) rfl) rfl rfl (Nat.le_of_ble_eq_true rfl) (Nat.le_of_ble_eq_true rfl) (Nat.le_of_ble_eq_true rfl) (Nat.le_of_ble_eq_true rfl) (Nat.le_of_ble_eq_true rfl) ?_
  intro r9 M1 n9 h9
  obtain ⟨h91, h93, hO1, hG1⟩ := h9
  rw [h91, h93]
  clear h91 h93 r9 n9
  refine g_aload_n dX4_becomeKnown_8 rfl ?_
  refine g_iconst (v := nI 1) dX4_becomeKnown_9 rfl ?_
  refine g_putI (f := 6) dX4_becomeKnown_10 cl5 (hs.off hO1 (fun k _ q => by unfold fB at q; omega)).1 (by decide) (Or.inl (iw_15 3 rfl)) (Or.inl rfl) (Or.inl rfl) (Or.inr ⟨rfl, (Or.inr rfl)⟩) ?_
  refine g_aload_n dX4_becomeKnown_13 rfl ?_
  refine g_iconst (v := nI 1) dX4_becomeKnown_14 rfl ?_
  refine g_putI (f := 7) dX4_becomeKnown_15 cl5 (hs.off hO1 (fun k _ q => by unfold fB at q; omega)).1 (by decide) (Or.inl (iw_15 4 rfl)) (Or.inl rfl) (Or.inl rfl) (Or.inr ⟨rfl, (Or.inr rfl)⟩) ?_
  exact g_vret dX4_becomeKnown_18 rfl (Nat.le_of_ble_eq_true rfl) (Nat.le_of_ble_eq_true rfl) (by
    have ho : Off M1 (stI (stI M1 e 6 (nI 1)) e 7 (nI 1)) (fun i k => i = e ∧ (k = 6 ∨ k = 7)) := (Off.stI (S := fun i k => i = e ∧ (k = 6 ∨ k = 7)) Off.rf ⟨rfl, Or.inl rfl⟩).stI ⟨rfl, Or.inr rfl⟩
    refine ⟨rfl, rfl, (hO1.mono (fun i k q => Or.inr q)).trans (ho.mono (fun i k q => Or.inl q)), hG1.off ho (fun i k h1 h2 q => by omega), ?_, ?_⟩
    · rw [mI_st, if_neg (by omega), mI_st, if_pos ⟨rfl, rfl⟩]
    · rw [mI_st, if_pos ⟨rfl, rfl⟩])

set_option maxHeartbeats 4000000 in
set_option maxRecDepth 100000 in
theorem c_forgetF (M : gM) (n e : Nat) (hk : mK M e = 5) : GM μX4_forgetFacts 0 0 0 0 [.ref e] M n (fun r M1 n1 => r = none ∧ n1 = n ∧ Off M M1 (fun i k => i = e ∧ 6 ≤ k) ∧ mI M1 e 6 = nI 0 ∧ mI M1 e 7 = nI 0 ∧ mI M1 e 8 = nI 0) := by
  refine GM.ofW (by decide) rfl (Nat.le_of_ble_eq_true rfl) rfl ?_
  refine g_aload_n dX4_forgetFacts_0 rfl ?_
  refine g_iconst (v := nI 0) dX4_forgetFacts_1 rfl ?_
  refine g_putI (f := 6) dX4_forgetFacts_2 cl5 hk (by decide) (Or.inl (iw_15 3 rfl)) (Or.inl rfl) (Or.inl rfl) (Or.inr ⟨rfl, (Or.inl rfl)⟩) ?_
  refine g_aload_n dX4_forgetFacts_5 rfl ?_
  refine g_iconst (v := nI 0) dX4_forgetFacts_6 rfl ?_
  refine g_putI (f := 7) dX4_forgetFacts_7 cl5 hk (by decide) (Or.inl (iw_15 4 rfl)) (Or.inl rfl) (Or.inl rfl) (Or.inr ⟨rfl, (Or.inl rfl)⟩) ?_
  refine g_aload_n dX4_forgetFacts_10 rfl ?_
  refine g_iconst (v := nI 0) dX4_forgetFacts_11 rfl ?_
  refine g_putI (f := 8) dX4_forgetFacts_12 cl5 hk (by decide) (Or.inl (iw_15 5 rfl)) (Or.inl rfl) (Or.inl rfl) (Or.inl rfl) ?_
  exact g_vret dX4_forgetFacts_15 rfl (Nat.le_of_ble_eq_true rfl) (Nat.le_of_ble_eq_true rfl) (by
    refine ⟨rfl, rfl, ((Off.stI (S := fun i k => i = e ∧ 6 ≤ k) Off.rf ⟨rfl, by omega⟩).stI ⟨rfl, by omega⟩).stI ⟨rfl, by omega⟩, ?_, ?_, ?_⟩
    · rw [mI_st, if_neg (by omega), mI_st, if_neg (by omega), mI_st, if_pos ⟨rfl, rfl⟩]
    · rw [mI_st, if_neg (by omega), mI_st, if_pos ⟨rfl, rfl⟩]
    · rw [mI_st, if_pos ⟨rfl, rfl⟩])

set_option maxHeartbeats 4000000 in
set_option maxRecDepth 100000 in
theorem k_gr75 {M : gM} {n u p a e : Nat} {T : List Int} {P : List St} {X Y : List Sp} (hu : uR M u p) (hp : pR M p) (hT : tH M (p + 11) T (thA P)) (hX : cS M a X) (hY : cS M (u + 28) Y) (nX : X ≠ []) (nY : Y ≠ []) (hne : X ≠ Y) (hau : a ≠ u + 28) : GW μX2_grow (gRm 2 44 0 0) (gTh (fun r M1 n1 => r = none ∧ n1 = n ∧ Off M M1 (fun i k => i = a ∨ i = u + 28 ∨ (i = u ∧ k = 6)) ∧ cS M1 a (grw P true X Y) ∧ mI M1 u 6 = mI M u 6 + nI (if true = true then 1 else 0)) 0 0) 0 0 75 [some (.ref u), some (.ref e), some (.ref a), some (.int (iZ (if lo1 Y < lo1 X then nxt P (lo1 Y) false else lo1 Y))), some (.int (iZ (if hi1 X < hi1 Y then nxt P (hi1 Y) true else hi1 Y)))] [] M n := by
  have w9 := wdn_ok P (X := X) hY.2.1 nY
  have e8 : wdn P X Y = [((if lo1 Y < lo1 X then nxt P (lo1 Y) false else lo1 Y), (if hi1 X < hi1 Y then nxt P (hi1 Y) true else hi1 Y))] := rfl
  rw [e8] at w9
  refine g_aload_n dX2_grow_75 rfl ?_
  refine g_getR (f := 4) dX2_grow_76 cl3 hu.1 (by decide) (Or.inl (iw_4 17 rfl)) (Or.inl rfl) rfl hu.2.1.2.2.2.2 ?_
  refine g_iload_n dX2_grow_79 rfl ?_
  refine g_iload dX2_grow_80 rfl ?_
  refine g_callV dX2_grow_82 sX3_becomeSpan (c_span M n (u + 28) ((if lo1 Y < lo1 X then nxt P (lo1 Y) false else lo1 Y), (if hi1 X < hi1 Y then nxt P (hi1 Y) true else hi1 Y)) hY.1 w9.1) cl4 hY.1 iX3_becomeSpan vX3_becomeSpan (iw_21 12 rfl) rfl rfl (Nat.le_of_ble_eq_true rfl) (Nat.le_of_ble_eq_true rfl) (Nat.le_of_ble_eq_true rfl) (Nat.le_of_ble_eq_true rfl) (Nat.le_of_ble_eq_true rfl) ?_
  intro r9 M1 n9 h9
  obtain ⟨h91, h93, hO1, hI1⟩ := h9
  rw [h91, h93]
  clear h91 h93 r9 n9
  have hu1 := hu.off hO1
  have hX1 := hX.off hO1 (fun k q => hau q)
  refine g_aload_n dX2_grow_85 rfl ?_
  refine g_dup dX2_grow_86 rfl ?_
  refine g_getI (f := 6) dX2_grow_87 cl3 hu1.1 (by decide) (Or.inl (iw_14 18 rfl)) (Or.inl rfl) (Or.inl rfl) ?_
  refine g_iconst (v := nI 1) dX2_grow_90 rfl ?_
  refine g_iadd dX2_grow_91 ?_
  refine g_putI (f := 6) dX2_grow_92 cl3 hu1.1 (by decide) (Or.inl (iw_14 18 rfl)) (Or.inl rfl) (Or.inl rfl) (Or.inl rfl) ?_
  have ho : Off M1 (stI M1 u 6 (mI M1 u 6 + nI 1)) (fun i k => i = u ∧ k = 6) := Off.rf.stI ⟨rfl, rfl⟩
  have uk : mK M u = 3 := hu.1
  have hXu : a ≠ u := fun z => by have h1 := hX.1; rw [z, uk] at h1; cases h1
  have hX2 := hX1.off ho (fun k q => hXu q.1)
  have hI2 := hI1.off ho (fun k q => by omega)
  have e6 : mI (stI M1 u 6 (mI M1 u 6 + nI 1)) u 6 = mI M u 6 + nI 1 := by
    rw [mI_st, if_pos ⟨rfl, rfl⟩, hO1.i (fun q => by unfold fO at q; omega)]
  generalize stI M1 u 6 (mI M1 u 6 + nI 1) = M9 at ho hX2 hI2 e6 ⊢
  have hu1 := hu1.off ho
  have hX1 := hX2
  refine g_aload_n dX2_grow_95 rfl ?_
  refine g_aload_n dX2_grow_96 rfl ?_
  refine g_getR (f := 4) dX2_grow_97 cl3 hu1.1 (by decide) (Or.inl (iw_4 17 rfl)) (Or.inl rfl) rfl hu1.2.1.2.2.2.2 ?_
  refine g_callV dX2_grow_100 sX3_becomeCopy (c_copy M9 n a (u + 28) [((if lo1 Y < lo1 X then nxt P (lo1 Y) false else lo1 Y), (if hi1 X < hi1 Y then nxt P (hi1 Y) true else hi1 Y))] hX2.1 hI2) cl4 hX1.1 iX3_becomeCopy vX3_becomeCopy (iw_21 13 rfl) rfl rfl (Nat.le_of_ble_eq_true rfl) (Nat.le_of_ble_eq_true rfl) (Nat.le_of_ble_eq_true rfl) (Nat.le_of_ble_eq_true rfl) (Nat.le_of_ble_eq_true rfl) ?_
  intro r9 M3 n9 h9
  obtain ⟨h91, h93, hO3, hI3⟩ := h9
  rw [h91, h93]
  clear h91 h93 r9 n9
  exact g_vret dX2_grow_103 rfl (Nat.le_of_ble_eq_true rfl) (Nat.le_of_ble_eq_true rfl) (by
    refine ⟨rfl, rfl, (hO1.mono (fun i k q => Or.inr (Or.inl q))).trans ((ho.mono (fun i k q => Or.inr (Or.inr q))).trans (hO3.mono (fun i k q => Or.inl q))), ?_, ?_⟩
    · have e7 : grw P true X Y = wdn P X Y := by unfold grw; rw [if_pos ⟨rfl, hne⟩]
      rw [e7, e8]; exact hI3
    · rw [hO3.i (fun q => hXu (Eq.symm q)), e6]; rfl)

set_option maxHeartbeats 4000000 in
set_option maxRecDepth 100000 in
theorem k_gr52 {M : gM} {n u p a e : Nat} {T : List Int} {P : List St} {X Y : List Sp} (hu : uR M u p) (hp : pR M p) (hT : tH M (p + 11) T (thA P)) (hX : cS M a X) (hY : cS M (u + 28) Y) (nX : X ≠ []) (nY : Y ≠ []) (hne : X ≠ Y) (hau : a ≠ u + 28) : GW μX2_grow (gRm 2 44 0 0) (gTh (fun r M1 n1 => r = none ∧ n1 = n ∧ Off M M1 (fun i k => i = a ∨ i = u + 28 ∨ (i = u ∧ k = 6)) ∧ cS M1 a (grw P true X Y) ∧ mI M1 u 6 = mI M u 6 + nI (if true = true then 1 else 0)) 0 0) 0 0 52 [some (.ref u), some (.ref e), some (.ref a), some (.int (iZ (if lo1 Y < lo1 X then nxt P (lo1 Y) false else lo1 Y))), some (.int (iZ (hi1 Y)))] [] M n := by
  have rx := hi1_r hX.2.1 nX
  have ry := hi1_r hY.2.1 nY
  refine g_iload dX2_grow_52 rfl ?_
  refine g_aload_n dX2_grow_54 rfl ?_
  refine g_callV dX2_grow_55 sX3_greatest (c_greatest M n a X hX nX) cl4 hX.1 iX3_greatest vX3_greatest (iw_21 3 rfl) rfl rfl (Nat.le_of_ble_eq_true rfl) (Nat.le_of_ble_eq_true rfl) (Nat.le_of_ble_eq_true rfl) (Nat.le_of_ble_eq_true rfl) (Nat.le_of_ble_eq_true rfl) ?_
  intro r9 M9 n9 h9
  obtain ⟨h91, h92, h93⟩ := h9
  rw [h91, h92, h93]
  clear h91 h92 h93 r9 M9 n9
  refine g_icmp_le (tgt := 75) dX2_grow_58 (by decide) (fun c_58 => ?_) (fun c_58 => ?_)
  · skip
    have e9 := k_gr75 (n := n) (e := e) hu hp hT hX hY nX nY hne hau
    first
      | (rw [iZ_le ry rx] at c_58
         rw [if_neg (show ¬ hi1 X < hi1 Y by omega)] at e9
         exact e9)
      | (rw [if_pos (show hi1 X < hi1 Y by omega)] at e9
         exact e9)
  · skip
    rw [iZ_le ry rx] at c_58
    refine g_aload_n dX2_grow_61 rfl ?_
    refine g_getR (f := 0) dX2_grow_62 cl3 hu.1 (by decide) (Or.inl (iw_4 18 rfl)) (Or.inl rfl) rfl hu.2.1.1 ?_
    refine g_getR (f := 2) dX2_grow_65 cl2 hp.1 (by decide) (Or.inr (List.mem_of_getElem? (i := 21) rfl)) (Or.inl rfl) rfl hp.2.2.2 ?_
    refine g_iload dX2_grow_68 rfl ?_
    refine g_callV dX2_grow_70 sX6_leastNotBelow (c_lnb M n (p + 11) T P (hi1 Y) hT ry (by omega)) cl7 hT.1.1 iX6_leastNotBelow vX6_leastNotBelow (iw_21 8 rfl) rfl rfl (Nat.le_of_ble_eq_true rfl) (Nat.le_of_ble_eq_true rfl) (Nat.le_of_ble_eq_true rfl) (Nat.le_of_ble_eq_true rfl) (Nat.le_of_ble_eq_true rfl) ?_
    intro r9 M9 n9 h9
    obtain ⟨h91, h92, h93⟩ := h9
    rw [h91, h92, h93]
    clear h91 h92 h93 r9 M9 n9
    refine g_istore dX2_grow_73 (Nat.le_of_ble_eq_true rfl) ?_
    have e9 := k_gr75 (n := n) (e := e) hu hp hT hX hY nX nY hne hau
    first
      | (rw [iZ_le ry rx] at c_58
         rw [if_neg (show ¬ hi1 X < hi1 Y by omega)] at e9
         exact e9)
      | (rw [if_pos (show hi1 X < hi1 Y by omega)] at e9
         exact e9)

set_option maxHeartbeats 4000000 in
set_option maxRecDepth 100000 in
theorem c_grow (M : gM) (n u p a e c : Nat) (hd : Bool) (T : List Int) (P : List St) (X Y : List Sp) (hu : uR M u p) (hp : pR M p) (hT : tH M (p + 11) T (thA P)) (hX : cS M a X) (hY : cS M (u + 28) Y) (nX : X ≠ []) (nY : Y ≠ []) (hne : X ≠ Y) (hau : a ≠ u + 28) (he : mK M e = 5) (h5 : mI M e 5 = bI hd) (h8 : mI M e 8 = nI c) (hc : c < 2147483648) : GM μX2_grow 2 44 0 0 [.ref u, .ref e, .ref a] M n (fun r M1 n1 => r = none ∧ n1 = n ∧ Off M M1 (fun i k => i = a ∨ i = u + 28 ∨ (i = u ∧ k = 6)) ∧ cS M1 a (grw P (hd && decide (4 ≤ c)) X Y) ∧ mI M1 u 6 = mI M u 6 + nI (if (hd && decide (4 ≤ c)) = true then 1 else 0)) := by
  refine GM.ofW (by decide) rfl (Nat.le_of_ble_eq_true rfl) rfl ?_
  have hXu : a ≠ u := fun z => by have h1 := hX.1; rw [z, hu.1] at h1; cases h1
  refine g_aload_n dX2_grow_0 rfl ?_
  refine g_getI (f := 5) dX2_grow_1 cl5 he (by decide) (Or.inr (List.mem_of_getElem? (i := 20) rfl)) (Or.inl rfl) (Or.inr rfl) ?_
  rw [h5]
  refine g_if_eq (tgt := 95) dX2_grow_4 (by decide) (fun c_4 => ?_) (fun c_4 => ?_)
  · skip
    have ew : (hd && decide (4 ≤ c)) = false := by
      first
        | (rw [nI_leI (by omega) (by omega)] at c_12; rw [decide_eq_false (show ¬ 4 ≤ c by omega), Bool.and_false])
        | (rw [bI_eq0] at c_4; rw [c_4]; rfl)
    refine g_aload_n dX2_grow_95 rfl ?_
    refine g_aload_n dX2_grow_96 rfl ?_
    refine g_getR (f := 4) dX2_grow_97 cl3 hu.1 (by decide) (Or.inl (iw_4 17 rfl)) (Or.inl rfl) rfl hu.2.1.2.2.2.2 ?_
    refine g_callV dX2_grow_100 sX3_becomeCopy (c_copy M n a (u + 28) Y hX.1 hY) cl4 hX.1 iX3_becomeCopy vX3_becomeCopy (iw_21 13 rfl) rfl rfl (Nat.le_of_ble_eq_true rfl) (Nat.le_of_ble_eq_true rfl) (Nat.le_of_ble_eq_true rfl) (Nat.le_of_ble_eq_true rfl) (Nat.le_of_ble_eq_true rfl) ?_
    intro r9 M3 n9 h9
    obtain ⟨h91, h93, hO3, hI3⟩ := h9
    rw [h91, h93]
    clear h91 h93 r9 n9
    exact g_vret dX2_grow_103 rfl (Nat.le_of_ble_eq_true rfl) (Nat.le_of_ble_eq_true rfl) (by
      rw [ew]
      refine ⟨rfl, rfl, hO3.mono (fun i k q => Or.inl q), ?_, ?_⟩
      · have e7 : grw P false X Y = Y := by unfold grw; rw [if_neg (fun q => by cases q.1)]
        rw [e7]; exact hI3
      · rw [hO3.i (fun q => hXu (Eq.symm q))]
        show mI M u 6 = mI M u 6 + nI 0
        rw [show nI 0 = 0 from rfl, Int32.add_zero])
  · skip
    rw [bI_eq0, Bool.not_eq_false] at c_4
    refine g_aload_n dX2_grow_7 rfl ?_
    refine g_getI (f := 8) dX2_grow_8 cl5 he (by decide) (Or.inr (List.mem_of_getElem? (i := 19) rfl)) (Or.inl rfl) (Or.inl rfl) ?_
    rw [h8]
    refine g_iconst (v := nI 3) dX2_grow_11 rfl ?_
    refine g_icmp_le (tgt := 95) dX2_grow_12 (by decide) (fun c_12 => ?_) (fun c_12 => ?_)
    · skip
      have ew : (hd && decide (4 ≤ c)) = false := by
        first
          | (rw [nI_leI (by omega) (by omega)] at c_12; rw [decide_eq_false (show ¬ 4 ≤ c by omega), Bool.and_false])
          | (rw [bI_eq0] at c_4; rw [c_4]; rfl)
      refine g_aload_n dX2_grow_95 rfl ?_
      refine g_aload_n dX2_grow_96 rfl ?_
      refine g_getR (f := 4) dX2_grow_97 cl3 hu.1 (by decide) (Or.inl (iw_4 17 rfl)) (Or.inl rfl) rfl hu.2.1.2.2.2.2 ?_
      refine g_callV dX2_grow_100 sX3_becomeCopy (c_copy M n a (u + 28) Y hX.1 hY) cl4 hX.1 iX3_becomeCopy vX3_becomeCopy (iw_21 13 rfl) rfl rfl (Nat.le_of_ble_eq_true rfl) (Nat.le_of_ble_eq_true rfl) (Nat.le_of_ble_eq_true rfl) (Nat.le_of_ble_eq_true rfl) (Nat.le_of_ble_eq_true rfl) ?_
      intro r9 M3 n9 h9
      obtain ⟨h91, h93, hO3, hI3⟩ := h9
      rw [h91, h93]
      clear h91 h93 r9 n9
      exact g_vret dX2_grow_103 rfl (Nat.le_of_ble_eq_true rfl) (Nat.le_of_ble_eq_true rfl) (by
        rw [ew]
        refine ⟨rfl, rfl, hO3.mono (fun i k q => Or.inl q), ?_, ?_⟩
        · have e7 : grw P false X Y = Y := by unfold grw; rw [if_neg (fun q => by cases q.1)]
          rw [e7]; exact hI3
        · rw [hO3.i (fun q => hXu (Eq.symm q))]
          show mI M u 6 = mI M u 6 + nI 0
          rw [show nI 0 = 0 from rfl, Int32.add_zero])
    · skip
      rw [nI_leI (by omega) (by omega)] at c_12
      have ew : (hd && decide (4 ≤ c)) = true := by rw [c_4, decide_eq_true (show 4 ≤ c by omega)]; rfl
      have rx := lo1_r hX.2.1 nX
      have ry := lo1_r hY.2.1 nY
      refine g_aload_n dX2_grow_15 rfl ?_
      refine g_getR (f := 4) dX2_grow_16 cl3 hu.1 (by decide) (Or.inl (iw_4 17 rfl)) (Or.inl rfl) rfl hu.2.1.2.2.2.2 ?_
      refine g_callV dX2_grow_19 sX3_least (c_least M n (u + 28) Y hY nY) cl4 hY.1 iX3_least vX3_least (iw_21 2 rfl) rfl rfl (Nat.le_of_ble_eq_true rfl) (Nat.le_of_ble_eq_true rfl) (Nat.le_of_ble_eq_true rfl) (Nat.le_of_ble_eq_true rfl) (Nat.le_of_ble_eq_true rfl) ?_
      intro r9 M9 n9 h9
      obtain ⟨h91, h92, h93⟩ := h9
      rw [h91, h92, h93]
      clear h91 h92 h93 r9 M9 n9
      refine g_istore_n dX2_grow_22 (Nat.le_of_ble_eq_true rfl) ?_
      refine g_aload_n dX2_grow_23 rfl ?_
      refine g_getR (f := 4) dX2_grow_24 cl3 hu.1 (by decide) (Or.inl (iw_4 17 rfl)) (Or.inl rfl) rfl hu.2.1.2.2.2.2 ?_
      refine g_callV dX2_grow_27 sX3_greatest (c_greatest M n (u + 28) Y hY nY) cl4 hY.1 iX3_greatest vX3_greatest (iw_21 3 rfl) rfl rfl (Nat.le_of_ble_eq_true rfl) (Nat.le_of_ble_eq_true rfl) (Nat.le_of_ble_eq_true rfl) (Nat.le_of_ble_eq_true rfl) (Nat.le_of_ble_eq_true rfl) ?_
      intro r9 M9 n9 h9
      obtain ⟨h91, h92, h93⟩ := h9
      rw [h91, h92, h93]
      clear h91 h92 h93 r9 M9 n9
      refine g_istore dX2_grow_30 (Nat.le_of_ble_eq_true rfl) ?_
      refine g_iload_n dX2_grow_32 rfl ?_
      refine g_aload_n dX2_grow_33 rfl ?_
      refine g_callV dX2_grow_34 sX3_least (c_least M n a X hX nX) cl4 hX.1 iX3_least vX3_least (iw_21 2 rfl) rfl rfl (Nat.le_of_ble_eq_true rfl) (Nat.le_of_ble_eq_true rfl) (Nat.le_of_ble_eq_true rfl) (Nat.le_of_ble_eq_true rfl) (Nat.le_of_ble_eq_true rfl) ?_
      intro r9 M9 n9 h9
      obtain ⟨h91, h92, h93⟩ := h9
      rw [h91, h92, h93]
      clear h91 h92 h93 r9 M9 n9
      refine g_icmp_ge (tgt := 52) dX2_grow_37 (by decide) (fun c_37 => ?_) (fun c_37 => ?_)
      · skip
        rw [ew]
        have e9 := k_gr52 (n := n) (e := e) hu hp hT hX hY nX nY hne hau
        first
          | (rw [iZ_le rx ry] at c_37
             rw [if_neg (show ¬ lo1 Y < lo1 X by omega)] at e9
             exact e9)
          | (rw [if_pos (show lo1 Y < lo1 X by omega)] at e9
             exact e9)
      · skip
        rw [iZ_le rx ry] at c_37
        refine g_aload_n dX2_grow_40 rfl ?_
        refine g_getR (f := 0) dX2_grow_41 cl3 hu.1 (by decide) (Or.inl (iw_4 18 rfl)) (Or.inl rfl) rfl hu.2.1.1 ?_
        refine g_getR (f := 2) dX2_grow_44 cl2 hp.1 (by decide) (Or.inr (List.mem_of_getElem? (i := 21) rfl)) (Or.inl rfl) rfl hp.2.2.2 ?_
        refine g_iload_n dX2_grow_47 rfl ?_
        refine g_callV dX2_grow_48 sX6_greatestNotAbove (c_gna M n (p + 11) T P (lo1 Y) hT ry (by omega)) cl7 hT.1.1 iX6_greatestNotAbove vX6_greatestNotAbove (iw_21 4 rfl) rfl rfl (Nat.le_of_ble_eq_true rfl) (Nat.le_of_ble_eq_true rfl) (Nat.le_of_ble_eq_true rfl) (Nat.le_of_ble_eq_true rfl) (Nat.le_of_ble_eq_true rfl) ?_
        intro r9 M9 n9 h9
        obtain ⟨h91, h92, h93⟩ := h9
        rw [h91, h92, h93]
        clear h91 h92 h93 r9 M9 n9
        refine g_istore_n dX2_grow_51 (Nat.le_of_ble_eq_true rfl) ?_
        rw [ew]
        have e9 := k_gr52 (n := n) (e := e) hu hp hT hX hY nX nY hne hau
        first
          | (rw [iZ_le rx ry] at c_37
             rw [if_neg (show ¬ lo1 Y < lo1 X by omega)] at e9
             exact e9)
          | (rw [if_pos (show lo1 Y < lo1 X by omega)] at e9
             exact e9)

