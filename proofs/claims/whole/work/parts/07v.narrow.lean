/-! the class: narrowing -/
def fI (u : Nat) : Nat → Nat → Prop := fun i _ => (u + 16 ≤ i ∧ i ≤ u + 18) ∨ (u + 20 ≤ i ∧ i ≤ u + 27)
def tkJ (T G : Ev) (j : Nat) : Ev := fun p => if p < j then mkS (T p ++ G p) else T p
theorem tkJ_1 (T G : Ev) (j : Nat) : up1 (tkJ T G j) j (mkS (T j ++ G j)) = tkJ T G (j + 1) := by
  funext p
  unfold up1 tkJ
  by_cases e : p = j
  · rw [if_pos e, if_pos (by omega), e]
  · rw [if_neg e]
    by_cases c : p < j
    · rw [if_pos c, if_pos (by omega)]
    · rw [if_neg c, if_neg (by omega)]
set_option maxHeartbeats 4000000 in
set_option maxRecDepth 100000 in
theorem k_take {M : gM} {n u p : Nat} {v : Int32} {T G : Ev} {Q : gθ} (hu : uR M u p) (hG : sE M (u + 1 + 4) G) (hk : ∀ M1, Off M M1 (fI u) → sE M1 (u + 19) (tkJ T G 8) → GW μX2_takeGiven (gRm 3 71 0 0) Q 0 0 61 [some (.ref u), some (.int v), none] [] M1 n) : ∀ (d9 : Nat) (j : Nat) (M1 : gM), 8 - j < d9 → j ≤ 8 → Off M M1 (fI u) → sE M1 (u + 19) (tkJ T G j) → GW μX2_takeGiven (gRm 3 71 0 0) Q 0 0 21 [some (.ref u), some (.int v), some (.int (nI j))] [] M1 n := by
  intro d9
  induction d9 with
  | zero =>
    intro j M1 hd hj hO hI
    omega
  | succ d9 ih =>
    intro j M1 hd hj hO hI
    have hu1 := hu.off hO
    have hG1 := hG.off hO (fun i k h1 h2 q => by unfold fI at q; omega)
    refine g_iload_n dX2_takeGiven_21 rfl ?_
    refine g_bipush (v := nI 8) dX2_takeGiven_22 rfl ?_
    refine g_icmp_ge (tgt := 61) dX2_takeGiven_24 (by decide) (fun c_24 => ?_) (fun c_24 => ?_)
    · skip
      rw [nI_leI (by omega) (by omega)] at c_24
      refine g_drop 2 ?_
      rw [show j = 8 by omega] at hI
      exact hk M1 hO hI
    · skip
      rw [nI_leI (by omega) (by omega)] at c_24
      have hjl : j < 8 := by omega
      have hX := hI.2 j hjl
      have eX : tkJ T G j j = T j := by unfold tkJ; rw [if_neg (by omega)]
      rw [eX] at hX
      refine g_aload_n dX2_takeGiven_27 rfl ?_
      refine g_getR (f := 2) dX2_takeGiven_28 cl3 hu1.1 (by decide) (Or.inl (iw_4 14 rfl)) (Or.inl rfl) rfl hu1.2.1.2.2.1 ?_
      refine g_aload_n dX2_takeGiven_31 rfl ?_
      refine g_getR (f := 3) dX2_takeGiven_32 cl3 hu1.1 (by decide) (Or.inl (iw_4 15 rfl)) (Or.inl rfl) rfl hu1.2.1.2.2.2.1 ?_
      refine g_iload_n dX2_takeGiven_35 rfl ?_
      refine g_aaloadS dX2_takeGiven_36 (j := j) hI.1.1 hI.1.2.1 rfl hjl (by decide) (hI.1.2.2 j hjl).1 ?_
      refine g_aload_n dX2_takeGiven_37 rfl ?_
      refine g_getR (f := 1) dX2_takeGiven_38 cl3 hu1.1 (by decide) (Or.inl (iw_4 10 rfl)) (Or.inl rfl) rfl hu1.2.1.2.1 ?_
      refine g_getR (f := 1) dX2_takeGiven_41 cl6 hu1.2.2.1.1 (by decide) (Or.inr (List.mem_of_getElem? (i := 17) rfl)) (Or.inl rfl) rfl hu1.2.2.1.2.1.2.1 ?_
      refine g_iload_n dX2_takeGiven_44 rfl ?_
      refine g_aaloadS dX2_takeGiven_45 (j := j) hG1.1.1 hG1.1.2.1 rfl hjl (by decide) (hG1.1.2.2 j hjl).1 ?_
      refine g_aload_n dX2_takeGiven_46 rfl ?_
      refine g_getR (f := 3) dX2_takeGiven_47 cl3 hu1.1 (by decide) (Or.inl (iw_4 15 rfl)) (Or.inl rfl) rfl hu1.2.1.2.2.2.1 ?_
      refine g_iload_n dX2_takeGiven_50 rfl ?_
      refine g_aaloadS dX2_takeGiven_51 (j := j) hI.1.1 hI.1.2.1 rfl hjl (by decide) (hI.1.2.2 j hjl).1 ?_
      refine g_callV dX2_takeGiven_52 sX0_makeJoined (c_joined M1 n (u + 16) (u + 19 + 1 + j) (u + 1 + 4 + 1 + j) (u + 19 + 1 + j) (T j) (G j) hu1.2.2.2.1 hX (hG1.2 j hjl) hX.1) cl1 hu1.2.2.2.1.1 iX0_makeJoined vX0_makeJoined (iw_20 14 rfl) rfl rfl (Nat.le_of_ble_eq_true rfl) (Nat.le_of_ble_eq_true rfl) (Nat.le_of_ble_eq_true rfl) (Nat.le_of_ble_eq_true rfl) (Nat.le_of_ble_eq_true rfl) ?_
      intro r9 M2 n9 h9
      obtain ⟨h91, h93, hO2, hI2⟩ := h9
      rw [h91, h93]
      clear h91 h93 r9 n9
      refine g_iinc dX2_takeGiven_55 rfl (nI_1 j) (Nat.le_of_ble_eq_true rfl) ?_
      refine g_goto (tgt := 21) dX2_takeGiven_58 (by decide) ?_
      have hu1 := hu.off hO
      have hG1 := hG.off hO (fun i k h1 h2 q => by unfold fI at q; omega)
      exact ih (j + 1) M2 (by omega) (by omega) (hO.trans (hO2.mono (fun i k q => by unfold fI; unfold fY at q; omega))) (by rw [← tkJ_1]; exact hI.up hO2 (fun i k q h1 h2 => by unfold fY at q; omega) hI2)

set_option maxHeartbeats 4000000 in
set_option maxRecDepth 100000 in
theorem c_take (M : gM) (n u p : Nat) (tog : Option Ev) (G : Ev) (hu : uR M u p) (hG : sE M (u + 1 + 4) G) (hT : ∀ T, tog = some T → sE M (u + 19) T) : GM μX2_takeGiven 3 71 0 0 [.ref u, .int (bI tog.isSome)] M n (fun r M1 n1 => r = none ∧ n1 = n ∧ Off M M1 (fI u) ∧ sE M1 (u + 19) (addE tog G)) := by
  refine GM.ofW (by decide) rfl (Nat.le_of_ble_eq_true rfl) rfl ?_
  refine g_iload_n dX2_takeGiven_0 rfl ?_
  refine g_if_ne (tgt := 19) dX2_takeGiven_1 (by decide) (fun c_1 => ?_) (fun c_1 => ?_)
  · skip
    refine g_iconst (v := nI 0) dX2_takeGiven_19 rfl ?_
    refine g_istore_n dX2_takeGiven_20 (Nat.le_of_ble_eq_true rfl) ?_
    rw [bI_eq0, Bool.not_eq_false] at c_1
    obtain ⟨T, hT9⟩ := some_of c_1
    refine k_take (T := T) hu hG (fun M2 hO2 hI2 => ?_) 9 0 M (by omega) (by omega) Off.rf ((hT T hT9).to (fun p hp => by unfold tkJ; rw [if_neg (by omega)]))
    refine g_vret dX2_takeGiven_61 rfl (Nat.le_refl _) (Nat.le_refl _) ⟨rfl, rfl, hO2, ?_⟩
    rw [hT9]
    exact hI2.to (fun p hp => by unfold tkJ; rw [if_pos hp]; rfl)
  · skip
    refine g_aload_n dX2_takeGiven_4 rfl ?_
    refine g_getR (f := 1) dX2_takeGiven_5 cl3 hu.1 (by decide) (Or.inl (iw_4 10 rfl)) (Or.inl rfl) rfl hu.2.1.2.1 ?_
    refine g_getR (f := 1) dX2_takeGiven_8 cl6 hu.2.2.1.1 (by decide) (Or.inr (List.mem_of_getElem? (i := 17) rfl)) (Or.inl rfl) rfl hu.2.2.1.2.1.2.1 ?_
    refine g_aload_n dX2_takeGiven_11 rfl ?_
    refine g_getR (f := 3) dX2_takeGiven_12 cl3 hu.1 (by decide) (Or.inl (iw_4 15 rfl)) (Or.inl rfl) rfl hu.2.1.2.2.2.1 ?_
    refine g_callSN dX2_takeGiven_15 sX8_copySets (c_copySets M n (u + 1 + 4) (u + 19) G (by unfold apS; omega) hG hu.2.2.2.2.1) tX8_copySets (List.mem_of_getElem? (i := 4) rfl) rfl rfl (Nat.le_of_ble_eq_true rfl) (Nat.le_of_ble_eq_true rfl) (Nat.le_of_ble_eq_true rfl) (Nat.le_of_ble_eq_true rfl) (Nat.le_of_ble_eq_true rfl) ?_
    intro r9 M1 n9 h9
    obtain ⟨h91, h93, hO1, hG1⟩ := h9
    rw [h91, h93]
    clear h91 h93 r9 n9
    exact g_vret dX2_takeGiven_18 rfl (Nat.le_of_ble_eq_true rfl) (Nat.le_of_ble_eq_true rfl) (by
      rw [bI_eq0] at c_1
      rw [none_of c_1]
      exact ⟨rfl, rfl, hO1.mono (fun i k q => by unfold fB at q; unfold fI; omega), hG1⟩)

def mcJ (F T : Ev) (j : Nat) : Ev := fun p => if p < j then mtN F T p else T p
theorem mcJ_1 (F T : Ev) (j : Nat) : up1 (mcJ F T j) j (mkS (cmL (F j) (T j))) = mcJ F T (j + 1) := by
  funext p
  unfold up1 mcJ
  by_cases e : p = j
  · rw [if_pos e, if_pos (by omega), e]; rfl
  · rw [if_neg e]
    by_cases c : p < j
    · rw [if_pos c, if_pos (by omega)]
    · rw [if_neg c, if_neg (by omega)]
set_option maxHeartbeats 4000000 in
set_option maxRecDepth 100000 in
theorem k_mic {M : gM} {n u p e : Nat} {F T : Ev} (hu : uR M u p) (hE : sE M (e + 1) F) (hde : e + 9 < u ∨ u + 28 < e) : ∀ (d9 : Nat) (j : Nat) (M1 : gM), 8 - j < d9 → j ≤ 8 → stK (mtN F T) j = true → Off M M1 (fI u) → sE M1 (u + 19) (mcJ F T j) → GW μX2_makeIncomingCommon (gRm 3 75 0 0) (gTh (fun r M1 n1 => r = some (.int (bI (stK (mtN F T) 8))) ∧ n1 = n ∧ Off M M1 (fI u) ∧ (stK (mtN F T) 8 = true → sE M1 (u + 19) (mtN F T))) 0 0) 0 0 2 [some (.ref u), some (.ref (e + 1)), some (.int (nI j))] [] M1 n := by
  intro d9
  induction d9 with
  | zero =>
    intro j M1 hd hj hs hO hI
    omega
  | succ d9 ih =>
    intro j M1 hd hj hs hO hI
    have hu1 := hu.off hO
    have hE1 := hE.off hO (fun i k h1 h2 q => by unfold fI at q; omega)
    refine g_iload_n dX2_makeIncomingCommon_2 rfl ?_
    refine g_bipush (v := nI 8) dX2_makeIncomingCommon_3 rfl ?_
    refine g_icmp_ge (tgt := 50) dX2_makeIncomingCommon_5 (by decide) (fun c_5 => ?_) (fun c_5 => ?_)
    · skip
      refine g_iconst (v := nI 1) dX2_makeIncomingCommon_50 rfl ?_
      exact g_iret dX2_makeIncomingCommon_51 (Or.inr ⟨rfl, by first | exact Or.inl rfl | exact Or.inr rfl⟩) (Nat.le_of_ble_eq_true rfl) (Nat.le_of_ble_eq_true rfl) (by
        rw [nI_leI (by omega) (by omega)] at c_5
        rw [show j = 8 by omega] at hs hI
        rw [hs]
        exact ⟨rfl, rfl, hO, fun _ => hI.to (fun p hp => by unfold mcJ; rw [if_pos hp])⟩)
    · skip
      rw [nI_leI (by omega) (by omega)] at c_5
      have hjl : j < 8 := by omega
      have hX := hI.2 j hjl
      have eX : mcJ F T j j = T j := by unfold mcJ; rw [if_neg (by omega)]
      rw [eX] at hX
      refine g_aload_n dX2_makeIncomingCommon_8 rfl ?_
      refine g_getR (f := 2) dX2_makeIncomingCommon_9 cl3 hu1.1 (by decide) (Or.inl (iw_4 14 rfl)) (Or.inl rfl) rfl hu1.2.1.2.2.1 ?_
      refine g_aload_n dX2_makeIncomingCommon_12 rfl ?_
      refine g_iload_n dX2_makeIncomingCommon_13 rfl ?_
      refine g_aaloadS dX2_makeIncomingCommon_14 (j := j) hE1.1.1 hE1.1.2.1 rfl hjl (by decide) (hE1.1.2.2 j hjl).1 ?_
      refine g_aload_n dX2_makeIncomingCommon_15 rfl ?_
      refine g_getR (f := 3) dX2_makeIncomingCommon_16 cl3 hu1.1 (by decide) (Or.inl (iw_4 15 rfl)) (Or.inl rfl) rfl hu1.2.1.2.2.2.1 ?_
      refine g_iload_n dX2_makeIncomingCommon_19 rfl ?_
      refine g_aaloadS dX2_makeIncomingCommon_20 (j := j) hI.1.1 hI.1.2.1 rfl hjl (by decide) (hI.1.2.2 j hjl).1 ?_
      refine g_aload_n dX2_makeIncomingCommon_21 rfl ?_
      refine g_getR (f := 3) dX2_makeIncomingCommon_22 cl3 hu1.1 (by decide) (Or.inl (iw_4 15 rfl)) (Or.inl rfl) rfl hu1.2.1.2.2.2.1 ?_
      refine g_iload_n dX2_makeIncomingCommon_25 rfl ?_
      refine g_aaloadS dX2_makeIncomingCommon_26 (j := j) hI.1.1 hI.1.2.1 rfl hjl (by decide) (hI.1.2.2 j hjl).1 ?_
      refine g_callV dX2_makeIncomingCommon_27 sX0_makeCommon (c_common M1 n (u + 16) (e + 1 + 1 + j) (u + 19 + 1 + j) (u + 19 + 1 + j) (F j) (T j) hu1.2.2.2.1 (hE1.2 j hjl) hX hX.1) cl1 hu1.2.2.2.1.1 iX0_makeCommon vX0_makeCommon (iw_24 10 rfl) rfl rfl (Nat.le_of_ble_eq_true rfl) (Nat.le_of_ble_eq_true rfl) (Nat.le_of_ble_eq_true rfl) (Nat.le_of_ble_eq_true rfl) (Nat.le_of_ble_eq_true rfl) ?_
      intro r9 M2 n9 h9
      obtain ⟨h91, h93, hO2, hI2⟩ := h9
      rw [h91, h93]
      clear h91 h93 r9 n9
      have hO2' := hO.trans (hO2.mono (S2 := fI u) (fun i k q => by unfold fI; unfold fY at q; omega))
      have hu2 := hu1.off hO2
      have g2 : sE M2 (u + 19) (mcJ F T (j + 1)) := by rw [← mcJ_1]; exact hI.up hO2 (fun i k q h1 h2 => by unfold fY at q; omega) hI2
      have es := stK_s (mtN F T) j
      refine g_aload_n dX2_makeIncomingCommon_30 rfl ?_
      refine g_getR (f := 3) dX2_makeIncomingCommon_31 cl3 hu2.1 (by decide) (Or.inl (iw_4 15 rfl)) (Or.inl rfl) rfl hu2.2.1.2.2.2.1 ?_
      refine g_iload_n dX2_makeIncomingCommon_34 rfl ?_
      refine g_aaloadS dX2_makeIncomingCommon_35 (j := j) g2.1.1 g2.1.2.1 rfl hjl (by decide) (g2.1.2.2 j hjl).1 ?_
      refine g_callV dX2_makeIncomingCommon_36 sX3_isNothing (c_isNothing M2 n (u + 19 + 1 + j) (mkS (cmL (F j) (T j))) hI2) cl4 hI2.1 iX3_isNothing vX3_isNothing (iw_24 11 rfl) rfl rfl (Nat.le_of_ble_eq_true rfl) (Nat.le_of_ble_eq_true rfl) (Nat.le_of_ble_eq_true rfl) (Nat.le_of_ble_eq_true rfl) (Nat.le_of_ble_eq_true rfl) ?_
      intro r9 M9 n9 h9
      obtain ⟨h91, h92, h93⟩ := h9
      rw [h91, h92, h93]
      clear h91 h92 h93 r9 M9 n9
      refine g_if_eq (tgt := 44) dX2_makeIncomingCommon_39 (by decide) (fun c_39 => ?_) (fun c_39 => ?_)
      · skip
        refine g_iinc dX2_makeIncomingCommon_44 rfl (nI_1 j) (Nat.le_of_ble_eq_true rfl) ?_
        refine g_goto (tgt := 2) dX2_makeIncomingCommon_47 (by decide) ?_
        have hu1 := hu.off hO
        have hE1 := hE.off hO (fun i k h1 h2 q => by unfold fI at q; omega)
        exact ih (j + 1) M2 (by omega) (by omega) (by rw [es, hs, decide_eq_true (show mtN F T j ≠ [] from dF c_39)]; rfl) hO2' g2
      · skip
        refine g_iconst (v := nI 0) dX2_makeIncomingCommon_42 rfl ?_
        exact g_iret dX2_makeIncomingCommon_43 (Or.inr ⟨rfl, by first | exact Or.inl rfl | exact Or.inr rfl⟩) (Nat.le_of_ble_eq_true rfl) (Nat.le_of_ble_eq_true rfl) (by
          have e0 : mtN F T j = [] := dT c_39
          have e1 : stK (mtN F T) (j + 1) = false := by rw [es, decide_eq_false (fun q => q e0), Bool.and_false]
          have e2 := stK_no e1 (show j + 1 ≤ 8 by omega)
          rw [e2]
          exact ⟨rfl, rfl, hO2', fun q => by cases q⟩)

set_option maxHeartbeats 4000000 in
set_option maxRecDepth 100000 in
theorem c_mic (M : gM) (n u p e : Nat) (F T : Ev) (hu : uR M u p) (hE : sE M (e + 1) F) (hde : e + 9 < u ∨ u + 28 < e) (hT : sE M (u + 19) T) : GM μX2_makeIncomingCommon 3 75 0 0 [.ref u, .ref (e + 1)] M n (fun r M1 n1 => r = some (.int (bI (stK (mtN F T) 8))) ∧ n1 = n ∧ Off M M1 (fI u) ∧ (stK (mtN F T) 8 = true → sE M1 (u + 19) (mtN F T))) := by
  refine GM.ofW (by decide) rfl (Nat.le_of_ble_eq_true rfl) rfl ?_
  refine g_iconst (v := nI 0) dX2_makeIncomingCommon_0 rfl ?_
  refine g_istore_n dX2_makeIncomingCommon_1 (Nat.le_of_ble_eq_true rfl) ?_
  exact k_mic hu hE hde 9 0 M (by omega) (by omega) rfl Off.rf (hT.to (fun p hp => by unfold mcJ; rw [if_neg (by omega)]))

set_option maxHeartbeats 4000000 in
set_option maxRecDepth 100000 in
theorem k_cnt {M : gM} {n u p e : Nat} {F N : Ev} (hu : uR M u p) (hE : sE M (e + 1) F) (hN : sE M (u + 19) N) (hF : gdF F) (hNd : ∀ p, p < 8 → N p ≠ []) : ∀ (d9 : Nat) (j : Nat), 8 - j < d9 → j ≤ 8 → GW μX2_countOthers (gRm 1 21 0 0) (gTh (fun r M1 n1 => r = some (.int (nI (ctK F N 8))) ∧ M1 = M ∧ n1 = n) 0 0) 0 0 4 [some (.ref u), some (.ref (e + 1)), some (.int (nI (ctK F N j))), some (.int (nI j))] [] M n := by
  intro d9
  induction d9 with
  | zero =>
    intro j hd hj
    omega
  | succ d9 ih =>
    intro j hd hj
    refine g_iload_n dX2_countOthers_4 rfl ?_
    refine g_bipush (v := nI 8) dX2_countOthers_5 rfl ?_
    refine g_icmp_ge (tgt := 39) dX2_countOthers_7 (by decide) (fun c_7 => ?_) (fun c_7 => ?_)
    · skip
      refine g_iload_n dX2_countOthers_39 rfl ?_
      exact g_iret dX2_countOthers_40 (Or.inl rfl) (Nat.le_of_ble_eq_true rfl) (Nat.le_of_ble_eq_true rfl) (by
        rw [nI_leI (by omega) (by omega)] at c_7
        rw [show j = 8 by omega]
        exact ⟨rfl, rfl, rfl⟩)
    · skip
      rw [nI_leI (by omega) (by omega)] at c_7
      have hjl : j < 8 := by omega
      have es := ctK_s F N j
      refine g_iload_n dX2_countOthers_10 rfl ?_
      refine g_aload_n dX2_countOthers_11 rfl ?_
      refine g_iload_n dX2_countOthers_12 rfl ?_
      refine g_aaloadS dX2_countOthers_13 (j := j) hE.1.1 hE.1.2.1 rfl hjl (by decide) (hE.1.2.2 j hjl).1 ?_
      refine g_aload_n dX2_countOthers_14 rfl ?_
      refine g_getR (f := 3) dX2_countOthers_15 cl3 hu.1 (by decide) (Or.inl (iw_4 15 rfl)) (Or.inl rfl) rfl hu.2.1.2.2.2.1 ?_
      refine g_iload_n dX2_countOthers_18 rfl ?_
      refine g_aaloadS dX2_countOthers_19 (j := j) hN.1.1 hN.1.2.1 rfl hjl (by decide) (hN.1.2.2 j hjl).1 ?_
      refine g_callV dX2_countOthers_20 sX3_isSame (c_isSame M n (e + 1 + 1 + j) (u + 19 + 1 + j) (F j) (N j) (hE.2 j hjl) (hN.2 j hjl) (hF j hjl).2 (hNd j hjl)) cl4 (hE.2 j hjl).1 iX3_isSame vX3_isSame (iw_20 10 rfl) rfl rfl (Nat.le_of_ble_eq_true rfl) (Nat.le_of_ble_eq_true rfl) (Nat.le_of_ble_eq_true rfl) (Nat.le_of_ble_eq_true rfl) (Nat.le_of_ble_eq_true rfl) ?_
      intro r9 M9 n9 h9
      obtain ⟨h91, h92, h93⟩ := h9
      rw [h91, h92, h93]
      clear h91 h92 h93 r9 M9 n9
      refine g_if_eq (tgt := 30) dX2_countOthers_23 (by decide) (fun c_23 => ?_) (fun c_23 => ?_)
      · skip
        refine g_iconst (v := nI 1) dX2_countOthers_30 rfl ?_
        refine g_iadd dX2_countOthers_31 ?_
        rw [nI_add]
        refine g_istore_n dX2_countOthers_32 (Nat.le_of_ble_eq_true rfl) ?_
        refine g_iinc dX2_countOthers_33 rfl (nI_1 j) (Nat.le_of_ble_eq_true rfl) ?_
        refine g_goto (tgt := 4) dX2_countOthers_36 (by decide) ?_
        have e9 := ih (j + 1) (by omega) (by omega)
        rw [es] at e9
        by_cases q : F j = N j
        · rw [if_pos q.symm] at e9
          first
            | exact e9
            | (exfalso; rw [decide_eq_true q] at c_23; exact absurd c_23 (by decide))
        · rw [if_neg (fun z => q z.symm)] at e9
          first
            | exact e9
            | (exfalso; rw [decide_eq_false q] at c_23; exact absurd rfl c_23)
      · skip
        skip
        refine g_iconst (v := nI 0) dX2_countOthers_26 rfl ?_
        refine g_goto (tgt := 31) dX2_countOthers_27 (by decide) ?_
        refine g_iadd dX2_countOthers_31 ?_
        rw [nI_add]
        refine g_istore_n dX2_countOthers_32 (Nat.le_of_ble_eq_true rfl) ?_
        refine g_iinc dX2_countOthers_33 rfl (nI_1 j) (Nat.le_of_ble_eq_true rfl) ?_
        refine g_goto (tgt := 4) dX2_countOthers_36 (by decide) ?_
        have e9 := ih (j + 1) (by omega) (by omega)
        rw [es] at e9
        by_cases q : F j = N j
        · rw [if_pos q.symm] at e9
          first
            | exact e9
            | (exfalso; rw [decide_eq_true q] at c_23; exact absurd c_23 (by decide))
        · rw [if_neg (fun z => q z.symm)] at e9
          first
            | exact e9
            | (exfalso; rw [decide_eq_false q] at c_23; exact absurd rfl c_23)

set_option maxHeartbeats 4000000 in
set_option maxRecDepth 100000 in
theorem c_count (M : gM) (n u p e : Nat) (F N : Ev) (hu : uR M u p) (hE : sE M (e + 1) F) (hN : sE M (u + 19) N) (hF : gdF F) (hNd : ∀ p, p < 8 → N p ≠ []) : GM μX2_countOthers 1 21 0 0 [.ref u, .ref (e + 1)] M n (fun r M1 n1 => r = some (.int (nI (ctK F N 8))) ∧ M1 = M ∧ n1 = n) := by
  refine GM.ofW (by decide) rfl (Nat.le_of_ble_eq_true rfl) rfl ?_
  refine g_iconst (v := nI 0) dX2_countOthers_0 rfl ?_
  refine g_istore_n dX2_countOthers_1 (Nat.le_of_ble_eq_true rfl) ?_
  refine g_iconst (v := nI 0) dX2_countOthers_2 rfl ?_
  refine g_istore_n dX2_countOthers_3 (Nat.le_of_ble_eq_true rfl) ?_
  exact k_cnt hu hE hN hF hNd 9 0 (by omega) (by omega)

def fGi (u : Nat) : Nat → Nat → Prop := fun i _ => u + 1 ≤ i ∧ i ≤ u + 27
def giS (M M1 : gM) (u : Nat) (g : Option Ev) : Prop := Off M M1 (fGi u) ∧ ∀ T, g = some T → sE M1 (u + 19) T
theorem nmI_eq {s : St} (hv : vS s) {k : Nat} (hk : k < 40) : nmI s = nI k ↔ nmO s = k := by
  by_cases c : 11 ≤ s.1 ∧ s.1 ≤ 18
  · rw [nmI_O hv c]
    have := nmO_le hv
    rw [nI_inj (by omega) (by omega)]
  · rw [(nmI_no hv).mpr c]
    constructor
    · intro h
      have h9 : (-1 : Int32).toInt = (nI k).toInt := by rw [h]
      rw [nI_t (by omega), show (-1 : Int32).toInt = -1 from rfl] at h9
      omega
    · intro h
      unfold nmO at h
      rw [if_neg (by omega), if_neg (by omega)] at h
      omega
theorem gth1_some {P : List St} {A : RA} {s t : Nat} {g : Option Ev} {nm c : Bool} {G : Ev} (hc : c = true) (h : gvn (P.getD t st0) (aF A t) nm = some G) : gth1 P A s t g nm c = addG g G := by
  unfold gth1
  rw [if_pos hc, h]
theorem gth1_no {P : List St} {A : RA} {s t : Nat} {g : Option Ev} {nm c : Bool} (hc : c = false) : gth1 P A s t g nm c = g := by
  unfold gth1
  rw [if_neg (by rw [hc]; decide)]
theorem gth1_none {P : List St} {A : RA} {s t : Nat} {g : Option Ev} {nm c : Bool} (h : gvn (P.getD t st0) (aF A t) nm = none) : gth1 P A s t g nm c = g := by
  unfold gth1
  rw [h]
  split <;> rfl
theorem addG_is (g : Option Ev) (G : Ev) : (addG g G).isSome = true := rfl
theorem sE.addG {M : gM} {b : Nat} {g : Option Ev} {G : Ev} (h : sE M b (addE g G)) : ∀ T, Jvm.Pilot.CWholeSpansLaw_law_r3418_190b4e.addG g G = some T → sE M b T := fun T hT => by
  unfold Jvm.Pilot.CWholeSpansLaw_law_r3418_190b4e.addG at hT
  cases hT
  exact h.to (fun p hp => cut8_lt hp)
set_option maxHeartbeats 4000000 in
set_option maxRecDepth 100000 in
theorem k_gi96 {M M1 : gM} {n p u d bs s t : Nat} {E : Nat → Nat} {P : List St} {A : RA} {st : Nat → Bool} {g : Option Ev} {Q : gθ} (hW : wS M p u d bs E P) (hf : fE M E P.length A st) (hgd : gdA P A) (hs : s < P.length) (ht : t < P.length) (hI : giS M M1 u g) (hk : ∀ M2, giS M M2 u (gth1 P A s t g false (aR A t && decide (t + 1 = s))) → GW μX2_gatherIncoming (gRm 5 123 0 0) Q 0 0 130 [some (.ref u), some (.int (nI s)), some (.int (bI (gth1 P A s t g false (aR A t && decide (t + 1 = s))).isSome)), some (.int (nI t)), none] [] M2 n) : GW μX2_gatherIncoming (gRm 5 123 0 0) Q 0 0 96 [some (.ref u), some (.int (nI s)), some (.int (bI g.isSome)), some (.int (nI t)), some (.ref (E t))] [] M1 n := by
  have hvP := hW.2.2.2.2.2.1
  have hl40 := hvP.1
  have hbs := hW.2.2.2.2.2.2.2.2.2.1 t ht
  have hlay := hW.2.2.2.2.2.2.2.2.1
  have hW1 := hW.off (hI.1.mono (fun i k q => by unfold fGi at q; exact Or.inl ⟨by omega, by omega⟩))
  have hs1 := (hW1.2.2.2.2.2.2.1 t ht).1
  obtain ⟨k1, k2, k3, k4⟩ := hf t ht
  have n1 : ∀ k, ¬ fGi u (E t) k := fun k q => by unfold fGi at q; omega
  have g1 := (hI.1.i (n1 6)).trans k1
  refine g_aload dX2_gatherIncoming_96 rfl ?_
  refine g_getI (f := 6) dX2_gatherIncoming_98 cl5 hs1.1 (by decide) (Or.inr (List.mem_of_getElem? (i := 24) rfl)) (Or.inl rfl) (Or.inr rfl) ?_
  rw [g1]
  refine g_if_eq (tgt := 130) dX2_gatherIncoming_101 (by decide) (fun c_101 => ?_) (fun c_101 => ?_)
  · skip
    refine g_drop 4 ?_
    first
      | (have q9 := hO3
         have ec : (aR A t && decide (t + 1 = s)) = true := by rw [c_101, decide_eq_true c_108]; rfl
         have e9 := gth1_some (s := s) (g := g) ec hgG
         have e8 := hk M3 ⟨hI.1.trans ((hO2.mono (fun i k q => by unfold fV at q; unfold fGi; omega)).trans (hO3.mono (fun i k q => by unfold fI at q; unfold fGi; omega))), by rw [e9]; exact hI3.addG⟩
         rw [e9] at e8
         exact e8)
      | (have q9 := hO2
         rw [bI_eq0] at c_120
         have e9 := gth1_none (s := s) (g := g) (c := (aR A t && decide (t + 1 = s))) (none_of c_120)
         have e8 := hk M2 ⟨hI.1.trans (hO2.mono (fun i k q => by unfold fV at q; unfold fGi; omega)), by
           rw [e9]
           exact fun T hT => (hI.2 T hT).off hO2 (fun i k h1 h2 q => by unfold fV at q; omega)⟩
         rw [e9] at e8
         exact e8)
      | (have e0 : (aR A t && decide (t + 1 = s)) = false := by
           first
             | (rw [decide_eq_false (show ¬ (t + 1 = s) from by rw [nI_inj (by omega) (by omega)] at c_108; exact c_108), Bool.and_false])
             | (rw [bI_eq0] at c_101; rw [c_101]; rfl)
         have e9 := gth1_no (P := P) (A := A) (s := s) (t := t) (g := g) (nm := false) e0
         have e8 := hk M1 (by rw [e9]; exact hI)
         rw [e9] at e8
         exact e8)
  · skip
    rw [bI_eq0, Bool.not_eq_false] at c_101
    have hE1 := (k4 c_101).off hI.1 (fun i k h1 h2 q => by unfold fGi at q; omega)
    have hF1 := hgd t ht c_101
    refine g_iload_n dX2_gatherIncoming_104 rfl ?_
    refine g_iconst (v := nI 1) dX2_gatherIncoming_105 rfl ?_
    refine g_iadd dX2_gatherIncoming_106 ?_
    rw [nI_add]
    refine g_iload_n dX2_gatherIncoming_107 rfl ?_
    refine g_icmp_ne (tgt := 130) dX2_gatherIncoming_108 (by decide) (fun c_108 => ?_) (fun c_108 => ?_)
    · skip
      refine g_drop 4 ?_
      first
        | (have q9 := hO3
           have ec : (aR A t && decide (t + 1 = s)) = true := by rw [c_101, decide_eq_true c_108]; rfl
           have e9 := gth1_some (s := s) (g := g) ec hgG
           have e8 := hk M3 ⟨hI.1.trans ((hO2.mono (fun i k q => by unfold fV at q; unfold fGi; omega)).trans (hO3.mono (fun i k q => by unfold fI at q; unfold fGi; omega))), by rw [e9]; exact hI3.addG⟩
           rw [e9] at e8
           exact e8)
        | (have q9 := hO2
           rw [bI_eq0] at c_120
           have e9 := gth1_none (s := s) (g := g) (c := (aR A t && decide (t + 1 = s))) (none_of c_120)
           have e8 := hk M2 ⟨hI.1.trans (hO2.mono (fun i k q => by unfold fV at q; unfold fGi; omega)), by
             rw [e9]
             exact fun T hT => (hI.2 T hT).off hO2 (fun i k h1 h2 q => by unfold fV at q; omega)⟩
           rw [e9] at e8
           exact e8)
        | (have e0 : (aR A t && decide (t + 1 = s)) = false := by
             first
               | (rw [decide_eq_false (show ¬ (t + 1 = s) from by rw [nI_inj (by omega) (by omega)] at c_108; exact c_108), Bool.and_false])
               | (rw [bI_eq0] at c_101; rw [c_101]; rfl)
           have e9 := gth1_no (P := P) (A := A) (s := s) (t := t) (g := g) (nm := false) e0
           have e8 := hk M1 (by rw [e9]; exact hI)
           rw [e9] at e8
           exact e8)
    · skip
      rw [nI_inj (by omega) (by omega)] at c_108
      refine g_aload_n dX2_gatherIncoming_111 rfl ?_
      refine g_getR (f := 1) dX2_gatherIncoming_112 cl3 hW1.2.1.1 (by decide) (Or.inl (iw_4 10 rfl)) (Or.inl rfl) rfl hW1.2.1.2.1.2.1 ?_
      refine g_aload dX2_gatherIncoming_115 rfl ?_
      refine g_callV dX2_gatherIncoming_117 sX5_goesBehind (c_behind M1 n (u + 1) (E t) (P.getD t st0) (aF A t) hW1.2.1.2.2.1 hs1 (hvP.2 t ht) hE1 (hW.dis ht) hF1) cl6 hW1.2.1.2.2.1.1 iX5_goesBehind vX5_goesBehind (iw_21 14 rfl) rfl rfl (Nat.le_of_ble_eq_true rfl) (Nat.le_of_ble_eq_true rfl) (Nat.le_of_ble_eq_true rfl) (Nat.le_of_ble_eq_true rfl) (Nat.le_of_ble_eq_true rfl) ?_
      intro r9 M2 n9 h9
      obtain ⟨h91, h93, hO2, hZ2⟩ := h9
      rw [h91, h93]
      clear h91 h93 r9 n9
      refine g_if_eq (tgt := 130) dX2_gatherIncoming_120 (by decide) (fun c_120 => ?_) (fun c_120 => ?_)
      · skip
        refine g_drop 4 ?_
        first
          | (have q9 := hO3
             have ec : (aR A t && decide (t + 1 = s)) = true := by rw [c_101, decide_eq_true c_108]; rfl
             have e9 := gth1_some (s := s) (g := g) ec hgG
             have e8 := hk M3 ⟨hI.1.trans ((hO2.mono (fun i k q => by unfold fV at q; unfold fGi; omega)).trans (hO3.mono (fun i k q => by unfold fI at q; unfold fGi; omega))), by rw [e9]; exact hI3.addG⟩
             rw [e9] at e8
             exact e8)
          | (have q9 := hO2
             rw [bI_eq0] at c_120
             have e9 := gth1_none (s := s) (g := g) (c := (aR A t && decide (t + 1 = s))) (none_of c_120)
             have e8 := hk M2 ⟨hI.1.trans (hO2.mono (fun i k q => by unfold fV at q; unfold fGi; omega)), by
               rw [e9]
               exact fun T hT => (hI.2 T hT).off hO2 (fun i k h1 h2 q => by unfold fV at q; omega)⟩
             rw [e9] at e8
             exact e8)
          | (have e0 : (aR A t && decide (t + 1 = s)) = false := by
               first
                 | (rw [decide_eq_false (show ¬ (t + 1 = s) from by rw [nI_inj (by omega) (by omega)] at c_108; exact c_108), Bool.and_false])
                 | (rw [bI_eq0] at c_101; rw [c_101]; rfl)
             have e9 := gth1_no (P := P) (A := A) (s := s) (t := t) (g := g) (nm := false) e0
             have e8 := hk M1 (by rw [e9]; exact hI)
             rw [e9] at e8
             exact e8)
      · skip
        rw [bI_eq0, Bool.not_eq_false] at c_120
        obtain ⟨G, hgG⟩ := some_of c_120
        have hG2 := hZ2 G hgG
        have hT2 : ∀ T, g = some T → sE M2 (u + 19) T := fun T hT => (hI.2 T hT).off hO2 (fun i k h1 h2 q => by unfold fV at q; omega)
        have hu2 := hW1.2.1.off hO2
        refine g_aload_n dX2_gatherIncoming_123 rfl ?_
        refine g_iload_n dX2_gatherIncoming_124 rfl ?_
        refine g_callV dX2_gatherIncoming_125 sX2_takeGiven (c_take M2 n u p g G hu2 hG2 hT2) cl3 hu2.1 iX2_takeGiven vX2_takeGiven (iw_24 2 rfl) rfl rfl (Nat.le_of_ble_eq_true rfl) (Nat.le_of_ble_eq_true rfl) (Nat.le_of_ble_eq_true rfl) (Nat.le_of_ble_eq_true rfl) (Nat.le_of_ble_eq_true rfl) ?_
        intro r9 M3 n9 h9
        obtain ⟨h91, h93, hO3, hI3⟩ := h9
        rw [h91, h93]
        clear h91 h93 r9 n9
        refine g_iconst (v := nI 1) dX2_gatherIncoming_128 rfl ?_
        refine g_istore_n dX2_gatherIncoming_129 (Nat.le_of_ble_eq_true rfl) ?_
        refine g_drop 4 ?_
        first
          | (have q9 := hO3
             have ec : (aR A t && decide (t + 1 = s)) = true := by rw [c_101, decide_eq_true c_108]; rfl
             have e9 := gth1_some (s := s) (g := g) ec hgG
             have e8 := hk M3 ⟨hI.1.trans ((hO2.mono (fun i k q => by unfold fV at q; unfold fGi; omega)).trans (hO3.mono (fun i k q => by unfold fI at q; unfold fGi; omega))), by rw [e9]; exact hI3.addG⟩
             rw [e9] at e8
             exact e8)
          | (have q9 := hO2
             rw [bI_eq0] at c_120
             have e9 := gth1_none (s := s) (g := g) (c := (aR A t && decide (t + 1 = s))) (none_of c_120)
             have e8 := hk M2 ⟨hI.1.trans (hO2.mono (fun i k q => by unfold fV at q; unfold fGi; omega)), by
               rw [e9]
               exact fun T hT => (hI.2 T hT).off hO2 (fun i k h1 h2 q => by unfold fV at q; omega)⟩
             rw [e9] at e8
             exact e8)
          | (have e0 : (aR A t && decide (t + 1 = s)) = false := by
               first
                 | (rw [decide_eq_false (show ¬ (t + 1 = s) from by rw [nI_inj (by omega) (by omega)] at c_108; exact c_108), Bool.and_false])
                 | (rw [bI_eq0] at c_101; rw [c_101]; rfl)
             have e9 := gth1_no (P := P) (A := A) (s := s) (t := t) (g := g) (nm := false) e0
             have e8 := hk M1 (by rw [e9]; exact hI)
             rw [e9] at e8
             exact e8)

set_option maxHeartbeats 4000000 in
set_option maxRecDepth 100000 in
theorem k_gi60 {M M1 : gM} {n p u d bs s t : Nat} {E : Nat → Nat} {P : List St} {A : RA} {st : Nat → Bool} {g : Option Ev} {Q : gθ} (hW : wS M p u d bs E P) (hf : fE M E P.length A st) (hgd : gdA P A) (hs : s < P.length) (ht : t < P.length) (hI : giS M M1 u g) (hk : ∀ M2, giS M M2 u (gth1 P A s t g true (aR A t && decide (nmA P t = s))) → GW μX2_gatherIncoming (gRm 5 123 0 0) Q 0 0 96 [some (.ref u), some (.int (nI s)), some (.int (bI (gth1 P A s t g true (aR A t && decide (nmA P t = s))).isSome)), some (.int (nI t)), some (.ref (E t))] [] M2 n) : GW μX2_gatherIncoming (gRm 5 123 0 0) Q 0 0 60 [some (.ref u), some (.int (nI s)), some (.int (bI g.isSome)), some (.int (nI t)), some (.ref (E t))] [] M1 n := by
  have hvP := hW.2.2.2.2.2.1
  have hl40 := hvP.1
  have hbs := hW.2.2.2.2.2.2.2.2.2.1 t ht
  have hlay := hW.2.2.2.2.2.2.2.2.1
  have hW1 := hW.off (hI.1.mono (fun i k q => by unfold fGi at q; exact Or.inl ⟨by omega, by omega⟩))
  have hs1 := (hW1.2.2.2.2.2.2.1 t ht).1
  obtain ⟨k1, k2, k3, k4⟩ := hf t ht
  have n1 : ∀ k, ¬ fGi u (E t) k := fun k q => by unfold fGi at q; omega
  have g1 := (hI.1.i (n1 6)).trans k1
  refine g_aload dX2_gatherIncoming_60 rfl ?_
  refine g_getI (f := 6) dX2_gatherIncoming_62 cl5 hs1.1 (by decide) (Or.inr (List.mem_of_getElem? (i := 24) rfl)) (Or.inl rfl) (Or.inr rfl) ?_
  rw [g1]
  refine g_if_eq (tgt := 96) dX2_gatherIncoming_65 (by decide) (fun c_65 => ?_) (fun c_65 => ?_)
  · skip
    first
      | (have q9 := hO3
         have ec : (aR A t && decide (nmA P t = s)) = true := by rw [c_65, decide_eq_true c74]; rfl
         have e9 := gth1_some (s := s) (g := g) ec hgG
         have e8 := hk M3 ⟨hI.1.trans ((hO2.mono (fun i k q => by unfold fV at q; unfold fGi; omega)).trans (hO3.mono (fun i k q => by unfold fI at q; unfold fGi; omega))), by rw [e9]; exact hI3.addG⟩
         rw [e9] at e8
         exact e8)
      | (have q9 := hO2
         rw [bI_eq0] at c_86
         have e9 := gth1_none (s := s) (g := g) (c := (aR A t && decide (nmA P t = s))) (none_of c_86)
         have e8 := hk M2 ⟨hI.1.trans (hO2.mono (fun i k q => by unfold fV at q; unfold fGi; omega)), by
           rw [e9]
           exact fun T hT => (hI.2 T hT).off hO2 (fun i k h1 h2 q => by unfold fV at q; omega)⟩
         rw [e9] at e8
         exact e8)
      | (have e0 : (aR A t && decide (nmA P t = s)) = false := by
           first
             | (rw [decide_eq_false (show ¬ (nmA P t = s) from by rw [nmI_eq (hvP.2 t ht) (by omega)] at c_74; exact c_74), Bool.and_false])
             | (rw [bI_eq0] at c_65; rw [c_65]; rfl)
         have e9 := gth1_no (P := P) (A := A) (s := s) (t := t) (g := g) (nm := true) e0
         have e8 := hk M1 (by rw [e9]; exact hI)
         rw [e9] at e8
         exact e8)
  · skip
    rw [bI_eq0, Bool.not_eq_false] at c_65
    have hE1 := (k4 c_65).off hI.1 (fun i k h1 h2 q => by unfold fGi at q; omega)
    have hF1 := hgd t ht c_65
    refine g_aload dX2_gatherIncoming_68 rfl ?_
    refine g_callV dX2_gatherIncoming_70 sX4_named (c_named M1 n (E t) (P.getD t st0) hs1 (hvP.2 t ht)) cl5 hs1.1 iX4_named vX4_named (iw_20 5 rfl) rfl rfl (Nat.le_of_ble_eq_true rfl) (Nat.le_of_ble_eq_true rfl) (Nat.le_of_ble_eq_true rfl) (Nat.le_of_ble_eq_true rfl) (Nat.le_of_ble_eq_true rfl) ?_
    intro r9 M9 n9 h9
    obtain ⟨h91, h92, h93⟩ := h9
    rw [h91, h92, h93]
    clear h91 h92 h93 r9 M9 n9
    refine g_iload_n dX2_gatherIncoming_73 rfl ?_
    refine g_icmp_ne (tgt := 96) dX2_gatherIncoming_74 (by decide) (fun c_74 => ?_) (fun c_74 => ?_)
    · skip
      first
        | (have q9 := hO3
           have ec : (aR A t && decide (nmA P t = s)) = true := by rw [c_65, decide_eq_true c74]; rfl
           have e9 := gth1_some (s := s) (g := g) ec hgG
           have e8 := hk M3 ⟨hI.1.trans ((hO2.mono (fun i k q => by unfold fV at q; unfold fGi; omega)).trans (hO3.mono (fun i k q => by unfold fI at q; unfold fGi; omega))), by rw [e9]; exact hI3.addG⟩
           rw [e9] at e8
           exact e8)
        | (have q9 := hO2
           rw [bI_eq0] at c_86
           have e9 := gth1_none (s := s) (g := g) (c := (aR A t && decide (nmA P t = s))) (none_of c_86)
           have e8 := hk M2 ⟨hI.1.trans (hO2.mono (fun i k q => by unfold fV at q; unfold fGi; omega)), by
             rw [e9]
             exact fun T hT => (hI.2 T hT).off hO2 (fun i k h1 h2 q => by unfold fV at q; omega)⟩
           rw [e9] at e8
           exact e8)
        | (have e0 : (aR A t && decide (nmA P t = s)) = false := by
             first
               | (rw [decide_eq_false (show ¬ (nmA P t = s) from by rw [nmI_eq (hvP.2 t ht) (by omega)] at c_74; exact c_74), Bool.and_false])
               | (rw [bI_eq0] at c_65; rw [c_65]; rfl)
           have e9 := gth1_no (P := P) (A := A) (s := s) (t := t) (g := g) (nm := true) e0
           have e8 := hk M1 (by rw [e9]; exact hI)
           rw [e9] at e8
           exact e8)
    · skip
      rw [nmI_eq (hvP.2 t ht) (by omega)] at c_74
      have c74 : nmA P t = s := c_74
      refine g_aload_n dX2_gatherIncoming_77 rfl ?_
      refine g_getR (f := 1) dX2_gatherIncoming_78 cl3 hW1.2.1.1 (by decide) (Or.inl (iw_4 10 rfl)) (Or.inl rfl) rfl hW1.2.1.2.1.2.1 ?_
      refine g_aload dX2_gatherIncoming_81 rfl ?_
      refine g_callV dX2_gatherIncoming_83 sX5_goesToNamed (c_toNamed M1 n (u + 1) (E t) (P.getD t st0) (aF A t) hW1.2.1.2.2.1 hs1 (hvP.2 t ht) hE1 (hW.dis ht) hF1) cl6 hW1.2.1.2.2.1.1 iX5_goesToNamed vX5_goesToNamed (iw_16 7 rfl) rfl rfl (Nat.le_of_ble_eq_true rfl) (Nat.le_of_ble_eq_true rfl) (Nat.le_of_ble_eq_true rfl) (Nat.le_of_ble_eq_true rfl) (Nat.le_of_ble_eq_true rfl) ?_
      intro r9 M2 n9 h9
      obtain ⟨h91, h93, hO2, hZ2⟩ := h9
      rw [h91, h93]
      clear h91 h93 r9 n9
      refine g_if_eq (tgt := 96) dX2_gatherIncoming_86 (by decide) (fun c_86 => ?_) (fun c_86 => ?_)
      · skip
        first
          | (have q9 := hO3
             have ec : (aR A t && decide (nmA P t = s)) = true := by rw [c_65, decide_eq_true c74]; rfl
             have e9 := gth1_some (s := s) (g := g) ec hgG
             have e8 := hk M3 ⟨hI.1.trans ((hO2.mono (fun i k q => by unfold fV at q; unfold fGi; omega)).trans (hO3.mono (fun i k q => by unfold fI at q; unfold fGi; omega))), by rw [e9]; exact hI3.addG⟩
             rw [e9] at e8
             exact e8)
          | (have q9 := hO2
             rw [bI_eq0] at c_86
             have e9 := gth1_none (s := s) (g := g) (c := (aR A t && decide (nmA P t = s))) (none_of c_86)
             have e8 := hk M2 ⟨hI.1.trans (hO2.mono (fun i k q => by unfold fV at q; unfold fGi; omega)), by
               rw [e9]
               exact fun T hT => (hI.2 T hT).off hO2 (fun i k h1 h2 q => by unfold fV at q; omega)⟩
             rw [e9] at e8
             exact e8)
          | (have e0 : (aR A t && decide (nmA P t = s)) = false := by
               first
                 | (rw [decide_eq_false (show ¬ (nmA P t = s) from by rw [nmI_eq (hvP.2 t ht) (by omega)] at c_74; exact c_74), Bool.and_false])
                 | (rw [bI_eq0] at c_65; rw [c_65]; rfl)
             have e9 := gth1_no (P := P) (A := A) (s := s) (t := t) (g := g) (nm := true) e0
             have e8 := hk M1 (by rw [e9]; exact hI)
             rw [e9] at e8
             exact e8)
      · skip
        rw [bI_eq0, Bool.not_eq_false] at c_86
        obtain ⟨G, hgG⟩ := some_of c_86
        have hG2 := hZ2 G hgG
        have hT2 : ∀ T, g = some T → sE M2 (u + 19) T := fun T hT => (hI.2 T hT).off hO2 (fun i k h1 h2 q => by unfold fV at q; omega)
        have hu2 := hW1.2.1.off hO2
        refine g_aload_n dX2_gatherIncoming_89 rfl ?_
        refine g_iload_n dX2_gatherIncoming_90 rfl ?_
        refine g_callV dX2_gatherIncoming_91 sX2_takeGiven (c_take M2 n u p g G hu2 hG2 hT2) cl3 hu2.1 iX2_takeGiven vX2_takeGiven (iw_24 2 rfl) rfl rfl (Nat.le_of_ble_eq_true rfl) (Nat.le_of_ble_eq_true rfl) (Nat.le_of_ble_eq_true rfl) (Nat.le_of_ble_eq_true rfl) (Nat.le_of_ble_eq_true rfl) ?_
        intro r9 M3 n9 h9
        obtain ⟨h91, h93, hO3, hI3⟩ := h9
        rw [h91, h93]
        clear h91 h93 r9 n9
        refine g_iconst (v := nI 1) dX2_gatherIncoming_94 rfl ?_
        refine g_istore_n dX2_gatherIncoming_95 (Nat.le_of_ble_eq_true rfl) ?_
        first
          | (have q9 := hO3
             have ec : (aR A t && decide (nmA P t = s)) = true := by rw [c_65, decide_eq_true c74]; rfl
             have e9 := gth1_some (s := s) (g := g) ec hgG
             have e8 := hk M3 ⟨hI.1.trans ((hO2.mono (fun i k q => by unfold fV at q; unfold fGi; omega)).trans (hO3.mono (fun i k q => by unfold fI at q; unfold fGi; omega))), by rw [e9]; exact hI3.addG⟩
             rw [e9] at e8
             exact e8)
          | (have q9 := hO2
             rw [bI_eq0] at c_86
             have e9 := gth1_none (s := s) (g := g) (c := (aR A t && decide (nmA P t = s))) (none_of c_86)
             have e8 := hk M2 ⟨hI.1.trans (hO2.mono (fun i k q => by unfold fV at q; unfold fGi; omega)), by
               rw [e9]
               exact fun T hT => (hI.2 T hT).off hO2 (fun i k h1 h2 q => by unfold fV at q; omega)⟩
             rw [e9] at e8
             exact e8)
          | (have e0 : (aR A t && decide (nmA P t = s)) = false := by
               first
                 | (rw [decide_eq_false (show ¬ (nmA P t = s) from by rw [nmI_eq (hvP.2 t ht) (by omega)] at c_74; exact c_74), Bool.and_false])
                 | (rw [bI_eq0] at c_65; rw [c_65]; rfl)
             have e9 := gth1_no (P := P) (A := A) (s := s) (t := t) (g := g) (nm := true) e0
             have e8 := hk M1 (by rw [e9]; exact hI)
             rw [e9] at e8
             exact e8)

