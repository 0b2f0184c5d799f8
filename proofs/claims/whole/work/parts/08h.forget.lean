/-! the program is forgotten, is counted -/
theorem nI_ad (a b : Nat) : nI a + nI b = nI (a + b) := by
  rw [nI_iZ, nI_iZ, nI_iZ, iZ_add]; congr 1
theorem c_span0 (M : gM) (n a : Nat) (hk : mK M a = 4) : GM μX3_becomeSpan 0 0 0 0 [.ref a, .int (nI 0), .int (nI 0)] M n (fun r M1 n1 => r = none ∧ n1 = n ∧ Off M M1 (fO a) ∧ cS M1 a [(0, 0)]) := c_span M n a (0, 0) hk okX_0
/-- the first j places of the beginning are 0 again -/
def fgI (M M1 : gM) (b j : Nat) : Prop := Off M M1 (fB b) ∧ ∀ i, i < j → cS M1 (b + 1 + i) [(0, 0)]
set_option maxHeartbeats 4000000 in
set_option maxRecDepth 100000 in
theorem k_fg {M : gM} {n p : Nat} {Q : gθ} (hp : pR M p) (hA : sA M (p + 2)) (hk : ∀ M1, fgI M M1 (p + 2) 8 → GW μX1_forget (gRm 1 23 0 0) Q 0 0 39 [some (.ref p), some (.int (nI 8))] [] M1 n) : ∀ (d : Nat) (j : Nat) (M1 : gM), 8 - j < d → j ≤ 8 → fgI M M1 (p + 2) j → GW μX1_forget (gRm 1 23 0 0) Q 0 0 16 [some (.ref p), some (.int (nI j))] [] M1 n := by
  intro d
  induction d with
  | zero =>
    intro j M1 hd hj hI
    omega
  | succ d ih =>
    intro j M1 hd hj hI
    refine g_iload_n dX1_forget_16 rfl ?_
    refine g_bipush (v := nI 8) dX1_forget_17 rfl ?_
    refine g_icmp_ge (tgt := 39) dX1_forget_19 (by decide) (fun c_19 => ?_) (fun c_19 => ?_)
    · skip
      rw [nI_leI (by omega) (by omega)] at c_19
      have e : j = 8 := by omega
      subst e
      exact hk M1 hI
    · skip
      rw [nI_leI (by omega) (by omega)] at c_19
      have hjl : j < 8 := by omega
      have hA1 := hA.off hI.1
      have hp1 := hp.off hI.1
      refine g_aload_n dX1_forget_22 rfl ?_
      refine g_getR (f := 1) dX1_forget_23 cl2 hp1.1 (by decide) (Or.inl (iw_2 9 rfl)) (Or.inl rfl) rfl hp1.2.2.1 ?_
      refine g_iload_n dX1_forget_26 rfl ?_
      refine g_aaloadS dX1_forget_27 (j := j) hA1.1 hA1.2.1 rfl hjl (by decide) (hA1.2.2 j hjl).1 ?_
      refine g_iconst (v := nI 0) dX1_forget_28 rfl ?_
      refine g_iconst (v := nI 0) dX1_forget_29 rfl ?_
      refine g_callV dX1_forget_30 sX3_becomeSpan (c_span0 M1 n (p + 2 + 1 + j) (hA1.2.2 j hjl).2) cl4 (hA1.2.2 j hjl).2 iX3_becomeSpan vX3_becomeSpan (iw_40 2 rfl) rfl rfl (Nat.le_of_ble_eq_true rfl) (Nat.le_of_ble_eq_true rfl) (Nat.le_of_ble_eq_true rfl) (Nat.le_of_ble_eq_true rfl) (Nat.le_of_ble_eq_true rfl) ?_
      intro r9 M2 n9 h9
      obtain ⟨h91, h93, hO2, hc2⟩ := h9
      rw [h91, h93]
      clear h91 h93 r9 n9
      refine g_iinc dX1_forget_33 rfl (nI_1 j) (Nat.le_of_ble_eq_true rfl) ?_
      refine g_goto (tgt := 16) dX1_forget_36 (by decide) ?_
      exact ih (j + 1) M2 (by omega) (by omega) ⟨hI.1.trans (hO2.mono (fun i k z => by unfold fO at z; unfold fB; omega)), fun i hi => by
        by_cases c : i = j
        · rw [c]; exact hc2
        · exact (hI.2 i (by omega)).off hO2 (fun k => by unfold fO; omega)⟩

set_option maxHeartbeats 4000000 in
set_option maxRecDepth 100000 in
theorem c_forget (M : gM) (n p u d bs : Nat) (E : Nat → Nat) (P : List St) (hW : wS M p u d bs E P) (hb : bs ≤ n) (hp1 : 1 ≤ p) (hd : d = 0 ∨ bs ≤ d) : GM μX1_forget 1 23 0 0 [.ref p] M n (fun r M1 n1 => r = none ∧ n1 = n ∧ wS M1 p u d bs E [] ∧ sE M1 (p + 2) (fun _ => [(0, 0)]) ∧ Fr n (fun i => (p + 1 ≤ i ∧ i ≤ p + 12) ∨ i = d) M M1) := by
  refine GM.ofW (by decide) rfl (Nat.le_of_ble_eq_true rfl) rfl ?_
  have hL := hW.2.2.1
  have b1 := hW.2.2.2.2.2.2.2.1
  have b2 := hW.2.2.2.2.2.2.2.2.1
  refine g_aload_n dX1_forget_0 rfl ?_
  refine g_getR (f := 0) dX1_forget_1 cl2 hW.1.1 (by decide) (Or.inl (iw_2 8 rfl)) (Or.inl rfl) rfl hW.1.2.1 ?_
  refine g_callV dX1_forget_4 sJx4a65c_clear_da8c8 (j_clear M n (p + 1) d P.length E hL) cl0 hL.1 iJx4a65c_clear_da8c8 vJx4a65c_clear_da8c8 (iw_39 21 rfl) rfl rfl (Nat.le_of_ble_eq_true rfl) (Nat.le_of_ble_eq_true rfl) (Nat.le_of_ble_eq_true rfl) (Nat.le_of_ble_eq_true rfl) (Nat.le_of_ble_eq_true rfl) ?_
  intro r9 M2 n9 h9
  obtain ⟨h91, h93, hL2, hf2⟩ := h9
  rw [h91, h93]
  clear h91 h93 r9 n9
  have rw1 : ∀ lo hi, hi < bs → 1 ≤ lo → (hi < p + 1 ∨ p + 1 < lo) → Rw M M2 lo hi := fun lo hi h1 h2 h3 => hf2.rw (by omega) (fun i a b z => by omega)
  have hp2 : pR M2 p := hW.1.rw (rw1 p p (by omega) (by omega) (by omega)) (Nat.le_refl _) (Nat.le_refl _)
  have hA2 : sA M2 (p + 2) := hW.2.2.2.1.rw (rw1 (p + 2) (p + 10) (by omega) (by omega) (by omega)) (Nat.le_refl _) (Nat.le_refl _)
  have hT2 : tT M2 (p + 11) := by
    obtain ⟨T, hT⟩ := hW.2.2.2.2.1
    exact (hT.rw (rw1 (p + 11) (p + 12) (by omega) (by omega) (by omega)) (Nat.le_refl _) (Nat.le_refl _)).1
  have hu2 : uR M2 u p := hW.2.1.rw (rw1 u (u + 28) (by omega) (by omega) (by omega)) (Nat.le_refl _) (Nat.le_refl _)
  refine g_aload_n dX1_forget_7 rfl ?_
  refine g_getR (f := 2) dX1_forget_8 cl2 hp2.1 (by decide) (Or.inl (iw_2 13 rfl)) (Or.inl rfl) rfl hp2.2.2.2 ?_
  refine g_callV dX1_forget_11 sX6_forgetAll (c_forgetAll M2 n (p + 11) hT2) cl7 hT2.1 iX6_forgetAll vX6_forgetAll (iw_40 1 rfl) rfl rfl (Nat.le_of_ble_eq_true rfl) (Nat.le_of_ble_eq_true rfl) (Nat.le_of_ble_eq_true rfl) (Nat.le_of_ble_eq_true rfl) (Nat.le_of_ble_eq_true rfl) ?_
  intro r9 M3 n9 h9
  obtain ⟨h91, h93, hO3, hT3⟩ := h9
  rw [h91, h93]
  clear h91 h93 r9 n9
  refine g_iconst (v := nI 0) dX1_forget_14 rfl ?_
  refine g_istore_n dX1_forget_15 (Nat.le_of_ble_eq_true rfl) ?_
  refine k_fg (hp2.off hO3) (hA2.off hO3) (fun M4 hI => ?_) 9 0 M3 (by omega) (by omega) ⟨Off.rf, fun i hi => by omega⟩
  refine g_vret dX1_forget_39 rfl (Nat.le_of_ble_eq_true rfl) (Nat.le_of_ble_eq_true rfl) ?_
  have hA4 := (hA2.off hO3).off hI.1
  refine ⟨rfl, rfl, ⟨(hp2.off hO3).off hI.1, (hu2.off hO3).off hI.1, (hL2.off hO3 (by unfold fT2; omega)).off hI.1 (by unfold fB; omega), hA4, ⟨_, hT3.off hI.1 (fun i k z => by unfold fT2 at z; unfold fB; omega)⟩, vP_nil, fun k hk => absurd hk (Nat.not_lt_zero _), b1, b2, fun k hk => absurd hk (Nat.not_lt_zero _), fun j k h hk => absurd hk (Nat.not_lt_zero _)⟩, ⟨hA4, fun i hi => hI.2 i hi⟩, ?_⟩
  exact ((hf2.mono (fun i z => by rcases z with z | z; exact Or.inl (by omega); exact Or.inr z)).trans (Fr.off (n := n) hO3 (fun i k z => Or.inl (by unfold fT2 at z; omega))) (Nat.le_refl _)).trans (Fr.off (n := n) hI.1 (fun i k z => Or.inl (by unfold fB at z; omega))) (Nat.le_refl _)

set_option maxHeartbeats 4000000 in
set_option maxRecDepth 100000 in
theorem k_known {M : gM} {n p d len : Nat} {E : Nat → Nat} {f : Nat → Bool} (hp : pR M p) (hL : aL M (p + 1) d len E) (hlen : len ≤ 40) (hf : ∀ k, k < len → mI M (E k) 6 = bI (f k)) : ∀ (d9 : Nat) (i : Nat), len - i < d9 → i ≤ len → GW μX1_countKnown (gRm 3 64 0 0) (gTh (fun r M1 n1 => r = some (.int (nI (cntK f len))) ∧ M1 = M ∧ n1 = n) 0 0) 0 0 4 [some (.ref p), some (.int (nI (cntK f i))), some (.int (nI i))] [] M n := by
  intro d9
  induction d9 with
  | zero =>
    intro i hd hi
    omega
  | succ d9 ih =>
    intro i hd hi
    refine g_iload_n dX1_countKnown_4 rfl ?_
    refine g_aload_n dX1_countKnown_5 rfl ?_
    refine g_getR (f := 0) dX1_countKnown_6 cl2 hp.1 (by decide) (Or.inl (iw_2 8 rfl)) (Or.inl rfl) rfl hp.2.1 ?_
    refine g_callV dX1_countKnown_9 sJx4a65c_size_8abf5 (j_size M n (p + 1) d len E hL) cl0 hL.1 iJx4a65c_size_8abf5 vJx4a65c_size_8abf5 (iw_8 13 rfl) rfl rfl (Nat.le_of_ble_eq_true rfl) (Nat.le_of_ble_eq_true rfl) (Nat.le_of_ble_eq_true rfl) (Nat.le_of_ble_eq_true rfl) (Nat.le_of_ble_eq_true rfl) ?_
    intro r9 M9 n9 h9
    obtain ⟨h91, h92, h93⟩ := h9
    rw [h91, h92, h93]
    clear h91 h92 h93 r9 M9 n9
    refine g_icmp_ge (tgt := 46) dX1_countKnown_12 (by decide) (fun c_12 => ?_) (fun c_12 => ?_)
    · skip
      refine g_iload_n dX1_countKnown_46 rfl ?_
      exact g_iret dX1_countKnown_47 (Or.inl rfl) (Nat.le_of_ble_eq_true rfl) (Nat.le_of_ble_eq_true rfl) (by
        rw [nI_leI (by omega) (by omega)] at c_12
        have e : i = len := by omega
        subst e
        exact ⟨rfl, rfl, rfl⟩)
    · skip
      rw [nI_leI (by omega) (by omega)] at c_12
      have hil : i < len := by omega
      refine g_iload_n dX1_countKnown_15 rfl ?_
      refine g_aload_n dX1_countKnown_16 rfl ?_
      refine g_getR (f := 0) dX1_countKnown_17 cl2 hp.1 (by decide) (Or.inl (iw_2 8 rfl)) (Or.inl rfl) rfl hp.2.1 ?_
      refine g_iload_n dX1_countKnown_20 rfl ?_
      refine g_callV dX1_countKnown_21 sJx4a65c_get_915e3 (j_get M n (p + 1) d len i E hL hil) cl0 hL.1 iJx4a65c_get_915e3 vJx4a65c_get_915e3 (iw_11 15 rfl) rfl rfl (Nat.le_of_ble_eq_true rfl) (Nat.le_of_ble_eq_true rfl) (Nat.le_of_ble_eq_true rfl) (Nat.le_of_ble_eq_true rfl) (Nat.le_of_ble_eq_true rfl) ?_
      intro r9 M9 n9 h9
      obtain ⟨h91, h92, h93⟩ := h9
      rw [h91, h92, h93]
      clear h91 h92 h93 r9 M9 n9
      refine g_castSt dX1_countKnown_24 (iw_8 12 rfl) (hL.2.2.2.2.2.2 i hil).2 ?_
      refine g_getI (f := 6) dX1_countKnown_27 cl5 (hL.2.2.2.2.2.2 i hil).2 (by decide) (Or.inr (List.mem_of_getElem? (i := 16) rfl)) (Or.inl rfl) (Or.inr rfl) ?_
      rw [hf i hil]
      refine g_if_eq (tgt := 37) dX1_countKnown_30 (by decide) (fun c_30 => ?_) (fun c_30 => ?_)
      · skip
        refine g_iconst (v := nI 0) dX1_countKnown_37 rfl ?_
        refine g_iadd dX1_countKnown_38 ?_
        refine g_istore_n dX1_countKnown_39 (Nat.le_of_ble_eq_true rfl) ?_
        refine g_iinc dX1_countKnown_40 rfl (nI_1 i) (Nat.le_of_ble_eq_true rfl) ?_
        refine g_goto (tgt := 4) dX1_countKnown_43 (by decide) ?_
        rw [bI_eq0] at c_30
        have e9 : cntK f (i + 1) = cntK f i + (if f i = true then 1 else 0) := rfl
        first
        | (rw [if_neg (by rw [c_30]; decide)] at e9
           have h9 := ih (i + 1) (by omega) (by omega)
           rw [e9] at h9
           rw [show nI (cntK f i) + nI 0 = nI (cntK f i + 0) from (nI_ad _ _)]
           exact h9)
        | (rw [if_pos (by rw [Bool.not_eq_false] at c_30; exact c_30)] at e9
           have h9 := ih (i + 1) (by omega) (by omega)
           rw [e9] at h9
           rw [show nI (cntK f i) + nI 1 = nI (cntK f i + 1) from (nI_ad _ _)]
           exact h9)
      · skip
        refine g_iconst (v := nI 1) dX1_countKnown_33 rfl ?_
        refine g_goto (tgt := 38) dX1_countKnown_34 (by decide) ?_
        refine g_iadd dX1_countKnown_38 ?_
        refine g_istore_n dX1_countKnown_39 (Nat.le_of_ble_eq_true rfl) ?_
        refine g_iinc dX1_countKnown_40 rfl (nI_1 i) (Nat.le_of_ble_eq_true rfl) ?_
        refine g_goto (tgt := 4) dX1_countKnown_43 (by decide) ?_
        rw [bI_eq0] at c_30
        have e9 : cntK f (i + 1) = cntK f i + (if f i = true then 1 else 0) := rfl
        first
        | (rw [if_neg (by rw [c_30]; decide)] at e9
           have h9 := ih (i + 1) (by omega) (by omega)
           rw [e9] at h9
           rw [show nI (cntK f i) + nI 0 = nI (cntK f i + 0) from (nI_ad _ _)]
           exact h9)
        | (rw [if_pos (by rw [Bool.not_eq_false] at c_30; exact c_30)] at e9
           have h9 := ih (i + 1) (by omega) (by omega)
           rw [e9] at h9
           rw [show nI (cntK f i) + nI 1 = nI (cntK f i + 1) from (nI_ad _ _)]
           exact h9)

set_option maxHeartbeats 4000000 in
set_option maxRecDepth 100000 in
theorem c_knownN (M : gM) (n p d len : Nat) (E : Nat → Nat) (f : Nat → Bool) (hp : pR M p) (hL : aL M (p + 1) d len E) (hlen : len ≤ 40) (hf : ∀ k, k < len → mI M (E k) 6 = bI (f k)) : GM μX1_countKnown 3 64 0 0 [.ref p] M n (fun r M1 n1 => r = some (.int (nI (cntK f len))) ∧ M1 = M ∧ n1 = n) := by
  refine GM.ofW (by decide) rfl (Nat.le_of_ble_eq_true rfl) rfl ?_
  refine g_iconst (v := nI 0) dX1_countKnown_0 rfl ?_
  refine g_istore_n dX1_countKnown_1 (Nat.le_of_ble_eq_true rfl) ?_
  refine g_iconst (v := nI 0) dX1_countKnown_2 rfl ?_
  refine g_istore_n dX1_countKnown_3 (Nat.le_of_ble_eq_true rfl) ?_
  exact k_known hp hL hlen hf (len + 1) 0 (by omega) (by omega)

set_option maxHeartbeats 4000000 in
set_option maxRecDepth 100000 in
theorem k_head {M : gM} {n p d len : Nat} {E : Nat → Nat} {f : Nat → Bool} (hp : pR M p) (hL : aL M (p + 1) d len E) (hlen : len ≤ 40) (hf : ∀ k, k < len → mI M (E k) 5 = bI (f k)) : ∀ (d9 : Nat) (i : Nat), len - i < d9 → i ≤ len → GW μX1_countHeads (gRm 3 64 0 0) (gTh (fun r M1 n1 => r = some (.int (nI (cntK f len))) ∧ M1 = M ∧ n1 = n) 0 0) 0 0 4 [some (.ref p), some (.int (nI (cntK f i))), some (.int (nI i))] [] M n := by
  intro d9
  induction d9 with
  | zero =>
    intro i hd hi
    omega
  | succ d9 ih =>
    intro i hd hi
    refine g_iload_n dX1_countHeads_4 rfl ?_
    refine g_aload_n dX1_countHeads_5 rfl ?_
    refine g_getR (f := 0) dX1_countHeads_6 cl2 hp.1 (by decide) (Or.inl (iw_2 8 rfl)) (Or.inl rfl) rfl hp.2.1 ?_
    refine g_callV dX1_countHeads_9 sJx4a65c_size_8abf5 (j_size M n (p + 1) d len E hL) cl0 hL.1 iJx4a65c_size_8abf5 vJx4a65c_size_8abf5 (iw_8 13 rfl) rfl rfl (Nat.le_of_ble_eq_true rfl) (Nat.le_of_ble_eq_true rfl) (Nat.le_of_ble_eq_true rfl) (Nat.le_of_ble_eq_true rfl) (Nat.le_of_ble_eq_true rfl) ?_
    intro r9 M9 n9 h9
    obtain ⟨h91, h92, h93⟩ := h9
    rw [h91, h92, h93]
    clear h91 h92 h93 r9 M9 n9
    refine g_icmp_ge (tgt := 46) dX1_countHeads_12 (by decide) (fun c_12 => ?_) (fun c_12 => ?_)
    · skip
      refine g_iload_n dX1_countHeads_46 rfl ?_
      exact g_iret dX1_countHeads_47 (Or.inl rfl) (Nat.le_of_ble_eq_true rfl) (Nat.le_of_ble_eq_true rfl) (by
        rw [nI_leI (by omega) (by omega)] at c_12
        have e : i = len := by omega
        subst e
        exact ⟨rfl, rfl, rfl⟩)
    · skip
      rw [nI_leI (by omega) (by omega)] at c_12
      have hil : i < len := by omega
      refine g_iload_n dX1_countHeads_15 rfl ?_
      refine g_aload_n dX1_countHeads_16 rfl ?_
      refine g_getR (f := 0) dX1_countHeads_17 cl2 hp.1 (by decide) (Or.inl (iw_2 8 rfl)) (Or.inl rfl) rfl hp.2.1 ?_
      refine g_iload_n dX1_countHeads_20 rfl ?_
      refine g_callV dX1_countHeads_21 sJx4a65c_get_915e3 (j_get M n (p + 1) d len i E hL hil) cl0 hL.1 iJx4a65c_get_915e3 vJx4a65c_get_915e3 (iw_11 15 rfl) rfl rfl (Nat.le_of_ble_eq_true rfl) (Nat.le_of_ble_eq_true rfl) (Nat.le_of_ble_eq_true rfl) (Nat.le_of_ble_eq_true rfl) (Nat.le_of_ble_eq_true rfl) ?_
      intro r9 M9 n9 h9
      obtain ⟨h91, h92, h93⟩ := h9
      rw [h91, h92, h93]
      clear h91 h92 h93 r9 M9 n9
      refine g_castSt dX1_countHeads_24 (iw_8 12 rfl) (hL.2.2.2.2.2.2 i hil).2 ?_
      refine g_getI (f := 5) dX1_countHeads_27 cl5 (hL.2.2.2.2.2.2 i hil).2 (by decide) (Or.inr (List.mem_of_getElem? (i := 15) rfl)) (Or.inl rfl) (Or.inr rfl) ?_
      rw [hf i hil]
      refine g_if_eq (tgt := 37) dX1_countHeads_30 (by decide) (fun c_30 => ?_) (fun c_30 => ?_)
      · skip
        refine g_iconst (v := nI 0) dX1_countHeads_37 rfl ?_
        refine g_iadd dX1_countHeads_38 ?_
        refine g_istore_n dX1_countHeads_39 (Nat.le_of_ble_eq_true rfl) ?_
        refine g_iinc dX1_countHeads_40 rfl (nI_1 i) (Nat.le_of_ble_eq_true rfl) ?_
        refine g_goto (tgt := 4) dX1_countHeads_43 (by decide) ?_
        rw [bI_eq0] at c_30
        have e9 : cntK f (i + 1) = cntK f i + (if f i = true then 1 else 0) := rfl
        first
        | (rw [if_neg (by rw [c_30]; decide)] at e9
           have h9 := ih (i + 1) (by omega) (by omega)
           rw [e9] at h9
           rw [show nI (cntK f i) + nI 0 = nI (cntK f i + 0) from (nI_ad _ _)]
           exact h9)
        | (rw [if_pos (by rw [Bool.not_eq_false] at c_30; exact c_30)] at e9
           have h9 := ih (i + 1) (by omega) (by omega)
           rw [e9] at h9
           rw [show nI (cntK f i) + nI 1 = nI (cntK f i + 1) from (nI_ad _ _)]
           exact h9)
      · skip
        refine g_iconst (v := nI 1) dX1_countHeads_33 rfl ?_
        refine g_goto (tgt := 38) dX1_countHeads_34 (by decide) ?_
        refine g_iadd dX1_countHeads_38 ?_
        refine g_istore_n dX1_countHeads_39 (Nat.le_of_ble_eq_true rfl) ?_
        refine g_iinc dX1_countHeads_40 rfl (nI_1 i) (Nat.le_of_ble_eq_true rfl) ?_
        refine g_goto (tgt := 4) dX1_countHeads_43 (by decide) ?_
        rw [bI_eq0] at c_30
        have e9 : cntK f (i + 1) = cntK f i + (if f i = true then 1 else 0) := rfl
        first
        | (rw [if_neg (by rw [c_30]; decide)] at e9
           have h9 := ih (i + 1) (by omega) (by omega)
           rw [e9] at h9
           rw [show nI (cntK f i) + nI 0 = nI (cntK f i + 0) from (nI_ad _ _)]
           exact h9)
        | (rw [if_pos (by rw [Bool.not_eq_false] at c_30; exact c_30)] at e9
           have h9 := ih (i + 1) (by omega) (by omega)
           rw [e9] at h9
           rw [show nI (cntK f i) + nI 1 = nI (cntK f i + 1) from (nI_ad _ _)]
           exact h9)

set_option maxHeartbeats 4000000 in
set_option maxRecDepth 100000 in
theorem c_headN (M : gM) (n p d len : Nat) (E : Nat → Nat) (f : Nat → Bool) (hp : pR M p) (hL : aL M (p + 1) d len E) (hlen : len ≤ 40) (hf : ∀ k, k < len → mI M (E k) 5 = bI (f k)) : GM μX1_countHeads 3 64 0 0 [.ref p] M n (fun r M1 n1 => r = some (.int (nI (cntK f len))) ∧ M1 = M ∧ n1 = n) := by
  refine GM.ofW (by decide) rfl (Nat.le_of_ble_eq_true rfl) rfl ?_
  refine g_iconst (v := nI 0) dX1_countHeads_0 rfl ?_
  refine g_istore_n dX1_countHeads_1 (Nat.le_of_ble_eq_true rfl) ?_
  refine g_iconst (v := nI 0) dX1_countHeads_2 rfl ?_
  refine g_istore_n dX1_countHeads_3 (Nat.le_of_ble_eq_true rfl) ?_
  exact k_head hp hL hlen hf (len + 1) 0 (by omega) (by omega)

