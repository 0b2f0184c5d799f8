/-! the class: rounds -/
def fGf (u : Nat) (E : Nat → Nat) (len : Nat) : Nat → Nat → Prop := fun i k => (i = u ∧ k = 6) ∨ (u + 1 ≤ i ∧ i ≤ u + 28) ∨ stm E len i k
theorem fGf_Z {u len i k : Nat} {E : Nat → Nat} (h : fGf u E len i k) : fZ u E len i k := by
  rcases h with h | h | h
  · left; omega
  · left; omega
  · exact Or.inr h
theorem fGs_f {u len i k : Nat} {E : Nat → Nat} (h : fGs u E len i k) : fGf u E len i k := by
  rcases h with h | h | h | h
  · exact Or.inl h
  · right; left; omega
  · right; left; omega
  · exact Or.inr (Or.inr h)
theorem fV_f {u len i k : Nat} {E : Nat → Nat} (h : fV (u + 1) i k) : fGf u E len i k := by unfold fV at h; right; left; omega
/-- facts, what is stirred, how many were widened -/
def gS (M : gM) (u : Nat) (E : Nat → Nat) (P : List St) (A : RA) (st : Nat → Bool) : Prop := fE M E P.length A st ∧ mI M u 6 = nI (aW A)
theorem fE.offV {M M1 : gM} {p u d bs : Nat} {E : Nat → Nat} {P : List St} {A : RA} {st : Nat → Bool} (h : fE M E P.length A st) (hW : wS M p u d bs E P) (ho : Off M M1 (fV (u + 1))) : fE M1 E P.length A st := h.off ho (fun j i k hj q h1 h2 => by
  have := hW.2.2.2.2.2.2.2.2.2.1 j hj
  have := hW.2.2.2.2.2.2.2.2.1
  unfold fV at q
  omega)
set_option maxHeartbeats 4000000 in
set_option maxRecDepth 100000 in
theorem k_gf64 {M M1 : gM} {n p u d bs k : Nat} {E : Nat → Nat} {P : List St} {A : RA} {st : Nat → Bool} (hW : wS M p u d bs E P) (hk : k < P.length) (hgd : gdA P A) (hC : ∀ t, aC A t < 1900000000) (hqt : qt P A st) (hO : Off M M1 (fGf u E P.length)) (hS : gS M1 u E P (dirA P (dirA P A k true (nmA P k)).1 k false (k + 1)).1 (mkr (mkr (up1 st k false) (dirA P A k true (nmA P k)).2 (nmA P k)) (dirA P (dirA P A k true (nmA P k)).1 k false (k + 1)).2 (k + 1))) : GW μX2_giveFrom (gRm 5 123 0 0) (gTh (fun r M1 n1 => r = some (.int (bI (stpA P A k).2)) ∧ n1 = n ∧ Off M M1 (fGf u E P.length) ∧ ∃ st1, gS M1 u E P (stpA P A k).1 st1 ∧ qt P (stpA P A k).1 st1) 0 0) 0 0 64 [some (.ref u), some (.ref (E k)), some (.int (nI (k + 1))), some (.int (bI ((dirA P A k true (nmA P k)).2 || (dirA P (dirA P A k true (nmA P k)).1 k false (k + 1)).2)))] [] M1 n := by
  refine g_iload_n dX2_giveFrom_64 rfl ?_
  exact g_iret dX2_giveFrom_65 (Or.inr ⟨rfl, bI_01 _⟩) (Nat.le_of_ble_eq_true rfl) (Nat.le_of_ble_eq_true rfl) ⟨rfl, rfl, hO, _, hS, qt_step hW.2.2.2.2.2.1 hgd hk hqt⟩

set_option maxHeartbeats 4000000 in
set_option maxRecDepth 100000 in
theorem k_gf45 {M M1 : gM} {n p u d bs k : Nat} {E : Nat → Nat} {P : List St} {A : RA} {st : Nat → Bool} (hW : wS M p u d bs E P) (hk : k < P.length) (hgd : gdA P A) (hC : ∀ t, aC A t < 1900000000) (hqt : qt P A st) (hRk : aR A k = true) (hO : Off M M1 (fGf u E P.length)) (hS : gS M1 u E P (dirA P A k true (nmA P k)).1 (mkr (up1 st k false) (dirA P A k true (nmA P k)).2 (nmA P k))) : GW μX2_giveFrom (gRm 5 123 0 0) (gTh (fun r M1 n1 => r = some (.int (bI (stpA P A k).2)) ∧ n1 = n ∧ Off M M1 (fGf u E P.length) ∧ ∃ st1, gS M1 u E P (stpA P A k).1 st1 ∧ qt P (stpA P A k).1 st1) 0 0) 0 0 45 [some (.ref u), some (.ref (E k)), some (.int (nI (k + 1))), some (.int (bI (dirA P A k true (nmA P k)).2))] [] M1 n := by
  have hvP := hW.2.2.2.2.2.1
  have hW1 := hW.off (hO.mono (fun i k q => fGf_Z q))
  obtain ⟨f1, f2, f3, f4, -, -, -, f8, f9⟩ := dir_facts hvP hgd hk true (nmA P k)
  have hR1 := f9 k hRk
  obtain ⟨a1, a2, a3, a4⟩ := hS.1 k hk
  have hE1 := a4 hR1
  have hF1 := f1 k hk hR1
  refine g_aload_n dX2_giveFrom_45 rfl ?_
  refine g_getR (f := 1) dX2_giveFrom_46 cl3 hW1.2.1.1 (by decide) (Or.inl (iw_4 10 rfl)) (Or.inl rfl) rfl hW1.2.1.2.1.2.1 ?_
  refine g_aload_n dX2_giveFrom_49 rfl ?_
  refine g_callV dX2_giveFrom_50 sX5_goesBehind (c_behind M1 n (u + 1) (E k) (P.getD k st0) (aF (dirA P A k true (nmA P k)).1 k) hW1.2.1.2.2.1 (hW1.2.2.2.2.2.2.1 k hk).1 (hvP.2 k hk) hE1 (hW.dis hk) hF1) cl6 hW1.2.1.2.2.1.1 iX5_goesBehind vX5_goesBehind (iw_21 14 rfl) rfl rfl (Nat.le_of_ble_eq_true rfl) (Nat.le_of_ble_eq_true rfl) (Nat.le_of_ble_eq_true rfl) (Nat.le_of_ble_eq_true rfl) (Nat.le_of_ble_eq_true rfl) ?_
  intro r9 M2 n9 h9
  obtain ⟨h91, h93, hO2, hZ2⟩ := h9
  rw [h91, h93]
  clear h91 h93 r9 n9
  refine g_if_eq (tgt := 64) dX2_giveFrom_53 (by decide) (fun c_53 => ?_) (fun c_53 => ?_)
  · skip
    first
      | (have q9 := hO3
         rw [← eD] at hf3 h63
         have e9 := k_gf64 (M := M) (n := n) hW hk hgd hC hqt (hO.trans ((hO2.mono (fun i k q => fV_f q)).trans (hO3.mono (fun i k q => fGs_f q)))) ⟨hf3, h63⟩
         rw [show bI ((dirA P A k true (nmA P k)).2 || (dirA P (dirA P A k true (nmA P k)).1 k false (k + 1)).2) = bI (dirA P A k true (nmA P k)).2 ||| bI (dirA P (dirA P A k true (nmA P k)).1 k false (k + 1)).2 by cases (dirA P A k true (nmA P k)).2 <;> cases (dirA P (dirA P A k true (nmA P k)).1 k false (k + 1)).2 <;> rfl, eD] at e9
         exact e9)
      | (rw [bI_eq0] at c_53
         have eN := none_of c_53
         have eD := dirA_none (A := (dirA P A k true (nmA P k)).1) (P := P) (s := k) (t := k + 1) eN
         have e9 := k_gf64 (M := M) (M1 := M2) (n := n) hW hk hgd hC hqt (hO.trans (hO2.mono (fun i k q => fV_f q))) (by
           rw [eD]
           exact ⟨hS.1.offV hW1 hO2, (hO2.i (fun q => by unfold fV at q; omega)).trans hS.2⟩)
         rw [eD, Bool.or_false] at e9
         exact e9)
  · skip
    rw [bI_eq0, Bool.not_eq_false] at c_53
    obtain ⟨G, hgG⟩ := some_of c_53
    have hG2 := hZ2 G hgG
    have hGd := gvn_ok (hvP.2 k hk) hF1 hgG
    have eD := dirA_some (t := k + 1) hR1 hgG
    have hW2 := hW1.off (hO2.mono (fun i k q => fGf_Z (fV_f q)))
    have hf2 := hS.1.offV hW1 hO2
    have h62 : mI M2 u 6 = nI (aW (dirA P A k true (nmA P k)).1) := (hO2.i (fun q => by unfold fV at q; omega)).trans hS.2
    have hl40 := hvP.1
    refine g_iload_n dX2_giveFrom_56 rfl ?_
    refine g_aload_n dX2_giveFrom_57 rfl ?_
    refine g_iload_n dX2_giveFrom_58 rfl ?_
    refine g_callV dX2_giveFrom_59 sX2_giveTo (c_giveTo M2 n p u d bs (k + 1) E P (dirA P A k true (nmA P k)).1 (mkr (up1 st k false) (dirA P A k true (nmA P k)).2 (nmA P k)) G hW2 hf2 hG2 hGd f1 (by have := f8 (k + 1); have := hC (k + 1); omega) (by omega) h62) cl3 hW2.2.1.1 iX2_giveTo vX2_giveTo (iw_20 6 rfl) rfl rfl (Nat.le_of_ble_eq_true rfl) (Nat.le_of_ble_eq_true rfl) (Nat.le_of_ble_eq_true rfl) (Nat.le_of_ble_eq_true rfl) (Nat.le_of_ble_eq_true rfl) ?_
    intro r9 M3 n9 h9
    obtain ⟨h91, h93, hO3, hf3, h63⟩ := h9
    rw [h91, h93]
    clear h91 h93 r9 n9
    refine g_ior dX2_giveFrom_62 ?_
    refine g_istore_n dX2_giveFrom_63 (Nat.le_of_ble_eq_true rfl) ?_
    first
      | (have q9 := hO3
         rw [← eD] at hf3 h63
         have e9 := k_gf64 (M := M) (n := n) hW hk hgd hC hqt (hO.trans ((hO2.mono (fun i k q => fV_f q)).trans (hO3.mono (fun i k q => fGs_f q)))) ⟨hf3, h63⟩
         rw [show bI ((dirA P A k true (nmA P k)).2 || (dirA P (dirA P A k true (nmA P k)).1 k false (k + 1)).2) = bI (dirA P A k true (nmA P k)).2 ||| bI (dirA P (dirA P A k true (nmA P k)).1 k false (k + 1)).2 by cases (dirA P A k true (nmA P k)).2 <;> cases (dirA P (dirA P A k true (nmA P k)).1 k false (k + 1)).2 <;> rfl, eD] at e9
         exact e9)
      | (rw [bI_eq0] at c_53
         have eN := none_of c_53
         have eD := dirA_none (A := (dirA P A k true (nmA P k)).1) (P := P) (s := k) (t := k + 1) eN
         have e9 := k_gf64 (M := M) (M1 := M2) (n := n) hW hk hgd hC hqt (hO.trans (hO2.mono (fun i k q => fV_f q))) (by
           rw [eD]
           exact ⟨hS.1.offV hW1 hO2, (hO2.i (fun q => by unfold fV at q; omega)).trans hS.2⟩)
         rw [eD, Bool.or_false] at e9
         exact e9)

set_option maxHeartbeats 4000000 in
set_option maxRecDepth 100000 in
theorem c_giveFrom (M : gM) (n p u d bs k : Nat) (E : Nat → Nat) (P : List St) (A : RA) (st : Nat → Bool) (hW : wS M p u d bs E P) (hk : k < P.length) (hgd : gdA P A) (hC : ∀ t, aC A t < 1900000000) (hS : gS M u E P A st) (hqt : qt P A st) : GM μX2_giveFrom 5 123 0 0 [.ref u, .ref (E k), .int (nI (k + 1))] M n (fun r M1 n1 => r = some (.int (bI (stpA P A k).2)) ∧ n1 = n ∧ Off M M1 (fGf u E P.length) ∧ ∃ st1, gS M1 u E P (stpA P A k).1 st1 ∧ qt P (stpA P A k).1 st1) := by
  refine GM.ofW (by decide) rfl (Nat.le_of_ble_eq_true rfl) rfl ?_
  have hvP := hW.2.2.2.2.2.1
  have hs := (hW.2.2.2.2.2.2.1 k hk).1
  obtain ⟨k1, k2, k3, k4⟩ := hS.1 k hk
  have hbs := hW.2.2.2.2.2.2.2.2.2.1 k hk
  have hlay := hW.2.2.2.2.2.2.2.2.1
  refine g_aload_n dX2_giveFrom_0 rfl ?_
  refine g_getI (f := 6) dX2_giveFrom_1 cl5 hs.1 (by decide) (Or.inr (List.mem_of_getElem? (i := 24) rfl)) (Or.inl rfl) (Or.inr rfl) ?_
  rw [k1]
  refine g_if_eq (tgt := 14) dX2_giveFrom_4 (by decide) (fun c_4 => ?_) (fun c_4 => ?_)
  · skip
    refine g_iconst (v := nI 0) dX2_giveFrom_14 rfl ?_
    exact g_iret dX2_giveFrom_15 (Or.inr ⟨rfl, by first | exact Or.inl rfl | exact Or.inr rfl⟩) (Nat.le_of_ble_eq_true rfl) (Nat.le_of_ble_eq_true rfl) (by
      have e9 : stpA P A k = (A, false) := qt_off hqt hk (by
        first
          | (rw [bI_eq0] at c_11; rw [c_11]; simp)
          | (rw [bI_eq0] at c_4; rw [c_4]; simp)) hvP hgd
      rw [e9]
      exact ⟨rfl, rfl, Off.rf, st, hS, hqt⟩)
  · skip
    rw [bI_eq0, Bool.not_eq_false] at c_4
    refine g_aload_n dX2_giveFrom_7 rfl ?_
    refine g_getI (f := 7) dX2_giveFrom_8 cl5 hs.1 (by decide) (Or.inr (List.mem_of_getElem? (i := 25) rfl)) (Or.inl rfl) (Or.inr rfl) ?_
    rw [k2]
    refine g_if_ne (tgt := 16) dX2_giveFrom_11 (by decide) (fun c_11 => ?_) (fun c_11 => ?_)
    · skip
      rw [bI_eq0, Bool.not_eq_false] at c_11
      refine g_aload_n dX2_giveFrom_16 rfl ?_
      refine g_iconst (v := nI 0) dX2_giveFrom_17 rfl ?_
      refine g_putI (f := 7) dX2_giveFrom_18 cl5 hs.1 (by decide) (Or.inr (List.mem_of_getElem? (i := 25) rfl)) (Or.inl rfl) (Or.inl rfl) (Or.inr ⟨rfl, (Or.inl rfl)⟩) ?_
      have ho1 : Off M (stI M (E k) 7 (nI 0)) (fun i j => i = E k ∧ j = 7) := Off.rf.stI ⟨rfl, rfl⟩
      have e17 : mI (stI M (E k) 7 (nI 0)) (E k) 7 = bI false := by rw [mI_st, if_pos ⟨rfl, rfl⟩]; rfl
      generalize stI M (E k) 7 (nI 0) = M1 at ho1 e17 ⊢
      have hO1 : Off M M1 (fGf u E P.length) := ho1.mono (fun i j q => Or.inr (Or.inr ⟨k, hk, by omega, by omega, fun _ => by omega⟩))
      have hW1 := hW.off (hO1.mono (fun i k q => fGf_Z q))
      have hE1 := (k4 c_4).off ho1 (fun i j h1 h2 q => by omega)
      have hF1 := hgd k hk c_4
      have hf1 : fE M1 E P.length A (up1 st k false) := hS.1.at ho1 (t := k) (fun j i z hj hne q h1 h2 => by have := hW.apart hj hk hne; omega) (fun j hj hne => ⟨⟨rfl, rfl, rfl⟩, up1_ne _ _ hne⟩) (fun _ => ⟨(ho1.i (fun q => by omega)).trans k1, by rw [up1_eq]; exact e17, (ho1.i (fun q => by omega)).trans k3, fun _ => hE1⟩)
      have h61 : mI M1 u 6 = nI (aW A) := (ho1.i (fun q => by omega)).trans hS.2
      refine g_iconst (v := nI 0) dX2_giveFrom_21 rfl ?_
      refine g_istore_n dX2_giveFrom_22 (Nat.le_of_ble_eq_true rfl) ?_
      refine g_aload_n dX2_giveFrom_23 rfl ?_
      refine g_getR (f := 1) dX2_giveFrom_24 cl3 hW1.2.1.1 (by decide) (Or.inl (iw_4 10 rfl)) (Or.inl rfl) rfl hW1.2.1.2.1.2.1 ?_
      refine g_aload_n dX2_giveFrom_27 rfl ?_
      refine g_callV dX2_giveFrom_28 sX5_goesToNamed (c_toNamed M1 n (u + 1) (E k) (P.getD k st0) (aF A k) hW1.2.1.2.2.1 (hW1.2.2.2.2.2.2.1 k hk).1 (hvP.2 k hk) hE1 (hW.dis hk) hF1) cl6 hW1.2.1.2.2.1.1 iX5_goesToNamed vX5_goesToNamed (iw_16 7 rfl) rfl rfl (Nat.le_of_ble_eq_true rfl) (Nat.le_of_ble_eq_true rfl) (Nat.le_of_ble_eq_true rfl) (Nat.le_of_ble_eq_true rfl) (Nat.le_of_ble_eq_true rfl) ?_
      intro r9 M2 n9 h9
      obtain ⟨h91, h93, hO2, hZ2⟩ := h9
      rw [h91, h93]
      clear h91 h93 r9 n9
      refine g_if_eq (tgt := 45) dX2_giveFrom_31 (by decide) (fun c_31 => ?_) (fun c_31 => ?_)
      · skip
        first
          | (have q9 := hO3
             rw [← eD] at hf3 h63
             have e9 := k_gf45 (M := M) (n := n) hW hk hgd hC hqt c_4 (hO1.trans ((hO2.mono (fun i k q => fV_f q)).trans (hO3.mono (fun i k q => fGs_f q)))) ⟨hf3, h63⟩
             rw [eD] at e9
             rw [show nI 0 ||| bI (giveA P A (nmA P k) G).2 = bI (giveA P A (nmA P k) G).2 by cases (giveA P A (nmA P k) G).2 <;> rfl]
             exact e9)
          | (rw [bI_eq0] at c_31
             have eN := none_of c_31
             have eD := dirA_none (A := A) (P := P) (s := k) (t := nmA P k) eN
             have e9 := k_gf45 (M := M) (M1 := M2) (n := n) hW hk hgd hC hqt c_4 (hO1.trans (hO2.mono (fun i k q => fV_f q))) (by
               rw [eD]
               exact ⟨hf1.offV hW1 hO2, (hO2.i (fun q => by unfold fV at q; omega)).trans h61⟩)
             rw [eD] at e9
             exact e9)
      · skip
        rw [bI_eq0, Bool.not_eq_false] at c_31
        obtain ⟨G, hgG⟩ := some_of c_31
        have hG2 := hZ2 G hgG
        have hGd := gvn_ok (hvP.2 k hk) hF1 hgG
        have eD := dirA_some (t := nmA P k) c_4 hgG
        have hW2 := hW1.off (hO2.mono (fun i k q => fGf_Z (fV_f q)))
        have hs2 := (hW2.2.2.2.2.2.2.1 k hk).1
        have hf2 := hf1.offV hW1 hO2
        have h62 : mI M2 u 6 = nI (aW A) := (hO2.i (fun q => by unfold fV at q; omega)).trans h61
        have h1118 : 11 ≤ (P.getD k st0).1 ∧ (P.getD k st0).1 ≤ 18 := by
          apply Classical.byContradiction
          intro q
          have e8 : gvn (P.getD k st0) (aF A k) true = none := by
            unfold gvn
            by_cases t : (P.getD k st0).1 = 19
            · rw [if_pos t]
            · have := (hvP.2 k hk).1
              rw [if_neg t, if_neg (by omega), if_pos (by omega)]; rfl
          rw [e8] at hgG; cases hgG
        have hl41 : nmA P k ≤ 40 := nmO_le (hvP.2 k hk)
        refine g_iload_n dX2_giveFrom_34 rfl ?_
        refine g_aload_n dX2_giveFrom_35 rfl ?_
        refine g_aload_n dX2_giveFrom_36 rfl ?_
        refine g_callV dX2_giveFrom_37 sX4_named (c_named M2 n (E k) (P.getD k st0) hs2 (hvP.2 k hk)) cl5 hs2.1 iX4_named vX4_named (iw_20 5 rfl) rfl rfl (Nat.le_of_ble_eq_true rfl) (Nat.le_of_ble_eq_true rfl) (Nat.le_of_ble_eq_true rfl) (Nat.le_of_ble_eq_true rfl) (Nat.le_of_ble_eq_true rfl) ?_
        intro r9 M9 n9 h9
        obtain ⟨h91, h92, h93⟩ := h9
        rw [h91, h92, h93]
        clear h91 h92 h93 r9 M9 n9
        rw [nmI_O (hvP.2 k hk) h1118]
        refine g_callV dX2_giveFrom_40 sX2_giveTo (c_giveTo M2 n p u d bs (nmA P k) E P A (up1 st k false) G hW2 hf2 hG2 hGd hgd (by have := hC (nmA P k); omega) (by omega) h62) cl3 hW2.2.1.1 iX2_giveTo vX2_giveTo (iw_20 6 rfl) rfl rfl (Nat.le_of_ble_eq_true rfl) (Nat.le_of_ble_eq_true rfl) (Nat.le_of_ble_eq_true rfl) (Nat.le_of_ble_eq_true rfl) (Nat.le_of_ble_eq_true rfl) ?_
        intro r9 M3 n9 h9
        obtain ⟨h91, h93, hO3, hf3, h63⟩ := h9
        rw [h91, h93]
        clear h91 h93 r9 n9
        refine g_ior dX2_giveFrom_43 ?_
        refine g_istore_n dX2_giveFrom_44 (Nat.le_of_ble_eq_true rfl) ?_
        first
          | (have q9 := hO3
             rw [← eD] at hf3 h63
             have e9 := k_gf45 (M := M) (n := n) hW hk hgd hC hqt c_4 (hO1.trans ((hO2.mono (fun i k q => fV_f q)).trans (hO3.mono (fun i k q => fGs_f q)))) ⟨hf3, h63⟩
             rw [eD] at e9
             rw [show nI 0 ||| bI (giveA P A (nmA P k) G).2 = bI (giveA P A (nmA P k) G).2 by cases (giveA P A (nmA P k) G).2 <;> rfl]
             exact e9)
          | (rw [bI_eq0] at c_31
             have eN := none_of c_31
             have eD := dirA_none (A := A) (P := P) (s := k) (t := nmA P k) eN
             have e9 := k_gf45 (M := M) (M1 := M2) (n := n) hW hk hgd hC hqt c_4 (hO1.trans (hO2.mono (fun i k q => fV_f q))) (by
               rw [eD]
               exact ⟨hf1.offV hW1 hO2, (hO2.i (fun q => by unfold fV at q; omega)).trans h61⟩)
             rw [eD] at e9
             exact e9)
    · skip
      refine g_iconst (v := nI 0) dX2_giveFrom_14 rfl ?_
      exact g_iret dX2_giveFrom_15 (Or.inr ⟨rfl, by first | exact Or.inl rfl | exact Or.inr rfl⟩) (Nat.le_of_ble_eq_true rfl) (Nat.le_of_ble_eq_true rfl) (by
        have e9 : stpA P A k = (A, false) := qt_off hqt hk (by
          first
            | (rw [bI_eq0] at c_11; rw [c_11]; simp)
            | (rw [bI_eq0] at c_4; rw [c_4]; simp)) hvP hgd
        rw [e9]
        exact ⟨rfl, rfl, Off.rf, st, hS, hqt⟩)

