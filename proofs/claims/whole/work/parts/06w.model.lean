/-! the reference: gather, meet -/
def fT (m : Nat) : Nat → Nat → Prop := fun i k => fA m i k ∨ (i = m ∧ k = 17)
def fN (m : Nat) : Nat → Nat → Prop := fun i k => fA m i k ∨ (i = m ∧ k = 17) ∨ (i = m ∧ k = 15) ∨ i = m + 9
theorem fT_N {m i k : Nat} (h : fT m i k) : fN m i k := h.elim (fun h => Or.inl h) (fun h => Or.inr (Or.inl h))
def gaS (S : Nat → List Sp) (b : Bool) (j : Nat) : Nat → List Sp := fun u => if 350 ≤ u ∧ u < 350 + j then (if b = true then mkS (S u ++ S (328 + (u - 350))) else S (328 + (u - 350))) else S u
theorem gaS_0 (S : Nat → List Sp) (b : Bool) : gaS S b 0 = S := by
  funext u; unfold gaS; rw [if_neg (by omega)]
theorem gaS_out {S : Nat → List Sp} {b : Bool} {j u : Nat} (h : ¬ (350 ≤ u ∧ u < 350 + j)) : gaS S b j u = S u := by
  unfold gaS; rw [if_neg h]
theorem gaS_1 {S : Nat → List Sp} {b : Bool} {j : Nat} : up1 (gaS S b j) (350 + j) (if b = true then mkS (S (350 + j) ++ S (328 + j)) else S (328 + j)) = gaS S b (j + 1) := by
  funext u
  by_cases e : u = 350 + j
  · subst e; rw [up1_eq]; unfold gaS; rw [if_pos (show 350 ≤ 350 + j ∧ 350 + j < 350 + (j + 1) by omega), show 350 + j - 350 = j by omega]
  · rw [up1_ne _ _ e]
    unfold gaS
    by_cases c : 350 ≤ u ∧ u < 350 + j
    · rw [if_pos c, if_pos (show 350 ≤ u ∧ u < 350 + (j + 1) by omega)]
    · rw [if_neg c, if_neg (show ¬ (350 ≤ u ∧ u < 350 + (j + 1)) by omega)]
set_option maxHeartbeats 4000000 in
set_option maxRecDepth 100000 in
theorem l_gath {M : gM} {n m : Nat} {S : Nat → List Sp} {tog : Option Ev} (hs : mI M m 17 = bI tog.isSome) (hT : ∀ T, tog = some T → ∀ p, p < 8 → S (350 + p) = T p) : ∀ (d : Nat) (j : Nat) (M1 : gM), 8 - j < d → j ≤ 8 → Off M M1 (fA m) → rS M1 m (gaS S tog.isSome j) → GW μX9_gather (gRm 4 97 0 0) (gTh (fun r M1 n1 => r = none ∧ n1 = n ∧ Off M M1 (fT m) ∧ mI M1 m 17 = bI true ∧ ∃ S1, rS M1 m S1 ∧ (∀ p, p < 8 → S1 (350 + p) = addE tog (fun p => S (328 + p)) p) ∧ agr S S1 (fun u => 350 ≤ u ∧ u < 358)) 0 0) 0 0 2 [some (.ref m), some (.int (nI j))] [] M1 n := by
  intro d
  induction d with
  | zero =>
    intro j M1 hd hj hO hG1
    omega
  | succ d ih =>
    intro j M1 hd hj hO hG1
    refine g_iload_n dX9_gather_2 rfl ?_
    refine g_bipush (v := nI 8) dX9_gather_3 rfl ?_
    refine g_icmp_ge (tgt := 57) dX9_gather_5 (by decide) (fun c_5 => ?_) (fun c_5 => ?_)
    · skip
      rw [nI_leI (by omega) (by omega)] at c_5
      have e8 : j = 8 := by omega
      subst e8
      refine g_aload_n dX9_gather_57 rfl ?_
      refine g_iconst (v := nI 1) dX9_gather_58 rfl ?_
      refine g_putI (f := 17) dX9_gather_59 cl10 hG1.1.1 (by decide) (Or.inl (iw_30 21 rfl)) (Or.inl rfl) (Or.inl rfl) (Or.inr ⟨rfl, (Or.inr rfl)⟩) ?_
      exact g_vret dX9_gather_62 rfl (Nat.le_of_ble_eq_true rfl) (Nat.le_of_ble_eq_true rfl) (by
        refine ⟨rfl, rfl, (hO.mono (fun i k h => Or.inl h)).stI (Or.inr ⟨rfl, rfl⟩), by rw [mI_st, if_pos ⟨rfl, rfl⟩]; rfl, _, hG1.offI (Q := fun i k => i = m ∧ k = 17) (Off.rf.stI ⟨rfl, rfl⟩) (fun i k h => by unfold fA; omega), fun p hp => ?_, fun u hu => gaS_out hu⟩
        unfold gaS addE
        rw [if_pos (by omega), show 350 + p - 350 = p by omega]
        cases tog with
        | none => rfl
        | some T => rw [hT T rfl p hp]; rfl)
    · skip
      rw [nI_leI (by omega) (by omega)] at c_5
      refine g_aload_n dX9_gather_8 rfl ?_
      refine g_getI (f := 17) dX9_gather_9 cl10 hG1.1.1 (by decide) (Or.inl (iw_30 21 rfl)) (Or.inl rfl) (Or.inr rfl) ?_
      rw [(hO.i (by unfold fA; omega)).trans hs]
      refine g_if_eq (tgt := 37) dX9_gather_12 (by decide) (fun c_12 => ?_) (fun c_12 => ?_)
      · skip
        rw [bI_eq0] at c_12
        refine g_aload_n dX9_gather_37 rfl ?_
        refine g_sipush (v := nI 350) dX9_gather_38 rfl ?_
        refine g_iload_n dX9_gather_41 rfl ?_
        refine g_iadd dX9_gather_42 ?_
        rw [nI_add]
        refine g_sipush (v := nI 328) dX9_gather_43 rfl ?_
        refine g_iload_n dX9_gather_46 rfl ?_
        refine g_iadd dX9_gather_47 ?_
        rw [nI_add]
        refine g_callV dX9_gather_48 sX9_copy (s_copy M1 n m (350 + j) (328 + j) _ hG1 (by omega) (by omega)) cl10 hG1.1.1 iX9_copy vX9_copy (iw_25 3 rfl) rfl rfl (Nat.le_of_ble_eq_true rfl) (Nat.le_of_ble_eq_true rfl) (Nat.le_of_ble_eq_true rfl) (Nat.le_of_ble_eq_true rfl) (Nat.le_of_ble_eq_true rfl) ?_
        intro r9 M2 n9 h9
        obtain ⟨h91, h93, hO2, hG2⟩ := h9
        rw [h91, h93]
        clear h91 h93 r9 n9
        have hx := gaS_1 (S := S) (b := tog.isSome) (j := j)
        rw [if_neg (by rw [c_12]; decide)] at hx
        rw [gaS_out (by omega), hx] at hG2
        refine g_iinc dX9_gather_51 rfl (nI_1 j) (Nat.le_of_ble_eq_true rfl) ?_
        refine g_goto (tgt := 2) dX9_gather_54 (by decide) ?_
        exact ih (j + 1) M2 (by omega) (by omega) (hO.trans hO2) hG2
      · skip
        rw [bI_eq0, Bool.not_eq_false] at c_12
        refine g_aload_n dX9_gather_15 rfl ?_
        refine g_sipush (v := nI 350) dX9_gather_16 rfl ?_
        refine g_iload_n dX9_gather_19 rfl ?_
        refine g_iadd dX9_gather_20 ?_
        rw [nI_add]
        refine g_sipush (v := nI 350) dX9_gather_21 rfl ?_
        refine g_iload_n dX9_gather_24 rfl ?_
        refine g_iadd dX9_gather_25 ?_
        rw [nI_add]
        refine g_sipush (v := nI 328) dX9_gather_26 rfl ?_
        refine g_iload_n dX9_gather_29 rfl ?_
        refine g_iadd dX9_gather_30 ?_
        rw [nI_add]
        refine g_callV dX9_gather_31 sX9_join (s_join M1 n m (350 + j) (350 + j) (328 + j) _ hG1 (by omega) (by omega) (by omega)) cl10 hG1.1.1 iX9_join vX9_join (iw_30 1 rfl) rfl rfl (Nat.le_of_ble_eq_true rfl) (Nat.le_of_ble_eq_true rfl) (Nat.le_of_ble_eq_true rfl) (Nat.le_of_ble_eq_true rfl) (Nat.le_of_ble_eq_true rfl) ?_
        intro r9 M2 n9 h9
        obtain ⟨h91, h93, hO2, hG2⟩ := h9
        rw [h91, h93]
        clear h91 h93 r9 n9
        have hx := gaS_1 (S := S) (b := tog.isSome) (j := j)
        rw [if_pos c_12] at hx
        rw [gaS_out (by omega), gaS_out (by omega), hx] at hG2
        refine g_goto (tgt := 51) dX9_gather_34 (by decide) ?_
        refine g_iinc dX9_gather_51 rfl (nI_1 j) (Nat.le_of_ble_eq_true rfl) ?_
        refine g_goto (tgt := 2) dX9_gather_54 (by decide) ?_
        exact ih (j + 1) M2 (by omega) (by omega) (hO.trans hO2) hG2

set_option maxHeartbeats 4000000 in
set_option maxRecDepth 100000 in
theorem s_gather (M : gM) (n m : Nat) (S : Nat → List Sp) (tog : Option Ev) (hG : rS M m S) (hs : mI M m 17 = bI tog.isSome) (hT : ∀ T, tog = some T → ∀ p, p < 8 → S (350 + p) = T p) : GM μX9_gather 4 97 0 0 [.ref m] M n (fun r M1 n1 => r = none ∧ n1 = n ∧ Off M M1 (fT m) ∧ mI M1 m 17 = bI true ∧ ∃ S1, rS M1 m S1 ∧ (∀ p, p < 8 → S1 (350 + p) = addE tog (fun p => S (328 + p)) p) ∧ agr S S1 (fun u => 350 ≤ u ∧ u < 358)) := by
  refine GM.ofW (by decide) rfl (Nat.le_of_ble_eq_true rfl) rfl ?_
  refine g_iconst (v := nI 0) dX9_gather_0 rfl ?_
  refine g_istore_n dX9_gather_1 (Nat.le_of_ble_eq_true rfl) ?_
  exact l_gath hs hT 9 0 M (by omega) (by omega) Off.rf (by rw [gaS_0]; exact hG)

def meS (S : Nat → List Sp) (s j : Nat) : Nat → List Sp := fun u => if 336 ≤ u ∧ u < 336 + j then mkS (cmL (S (8 * s + (u - 336))) (S (350 + (u - 336)))) else S u
theorem meS_0 (S : Nat → List Sp) (s : Nat) : meS S s 0 = S := by
  funext u; unfold meS; rw [if_neg (by omega)]
theorem meS_out {S : Nat → List Sp} {s j u : Nat} (h : u < 336 ∨ 344 ≤ u) (hj : j ≤ 8) : meS S s j u = S u := by
  unfold meS; rw [if_neg (by omega)]
theorem meS_at {S : Nat → List Sp} {s j p : Nat} (h : p < j) : meS S s j (336 + p) = mkS (cmL (S (8 * s + p)) (S (350 + p))) := by
  unfold meS; rw [if_pos (by omega), show 336 + p - 336 = p by omega]
theorem meS_1 {S : Nat → List Sp} {s j : Nat} (ht : s < 40) (hj : j < 8) : up1 (meS S s j) (336 + j) (mkS (cmL (meS S s j (8 * s + j)) (meS S s j (350 + j)))) = meS S s (j + 1) := by
  rw [meS_out (by omega) (by omega), meS_out (by omega) (by omega)]
  funext u
  by_cases e : u = 336 + j
  · subst e; rw [up1_eq, meS_at (by omega)]
  · rw [up1_ne _ _ e]
    unfold meS
    by_cases c : 336 ≤ u ∧ u < 336 + j
    · rw [if_pos c, if_pos (by omega)]
    · rw [if_neg c, if_neg (by omega)]
set_option maxHeartbeats 4000000 in
set_option maxRecDepth 100000 in
theorem l_me1 {M : gM} {n m s : Nat} {S : Nat → List Sp} {Q : gθ} (hs : s < 40) (hk : ∀ (j : Nat) (M1 : gM), Off M M1 (fA m) → rS M1 m (meS S s j) → j ≤ 8 → (j = 8 ∨ stK (mtN (fun p => S (8 * s + p)) (fun p => S (350 + p))) j = false) → GW μX9_meet (gRm 4 99 0 0) Q 0 0 98 [some (.ref m), some (.int (nI s)), some (.int (bI (stK (mtN (fun p => S (8 * s + p)) (fun p => S (350 + p))) j))), some (.int (nI (ctK (fun p => S (8 * s + p)) (mtN (fun p => S (8 * s + p)) (fun p => S (350 + p))) j))), some (.int (nI (j)))] [] M1 n) : ∀ (d : Nat) (j : Nat) (M1 : gM), 8 - j < d → j ≤ 8 → Off M M1 (fA m) → rS M1 m (meS S s j) → GW μX9_meet (gRm 4 99 0 0) Q 0 0 10 [some (.ref m), some (.int (nI s)), some (.int (bI (stK (mtN (fun p => S (8 * s + p)) (fun p => S (350 + p))) j))), some (.int (nI (ctK (fun p => S (8 * s + p)) (mtN (fun p => S (8 * s + p)) (fun p => S (350 + p))) j))), some (.int (nI (j)))] [] M1 n := by
  intro d
  induction d with
  | zero =>
    intro j M1 hd hj hO hG1
    omega
  | succ d ih =>
    intro j M1 hd hj hO hG1
    refine g_iload dX9_meet_10 rfl ?_
    refine g_bipush (v := nI 8) dX9_meet_12 rfl ?_
    refine g_icmp_ge (tgt := 98) dX9_meet_14 (by decide) (fun c_14 => ?_) (fun c_14 => ?_)
    · skip
      first
        | (rw [nI_leI (by omega) (by omega)] at c_14
           exact hk j M1 hO hG1 hj (Or.inl (by omega)))
        | (rw [bI_eq0] at c_18
           exact hk j M1 hO hG1 hj (Or.inr c_18))
    · skip
      rw [nI_leI (by omega) (by omega)] at c_14
      refine g_iload_n dX9_meet_17 rfl ?_
      refine g_if_eq (tgt := 98) dX9_meet_18 (by decide) (fun c_18 => ?_) (fun c_18 => ?_)
      · skip
        first
          | (rw [nI_leI (by omega) (by omega)] at c_14
             exact hk j M1 hO hG1 hj (Or.inl (by omega)))
          | (rw [bI_eq0] at c_18
             exact hk j M1 hO hG1 hj (Or.inr c_18))
      · skip
        rw [bI_eq0, Bool.not_eq_false] at c_18
        refine g_aload_n dX9_meet_21 rfl ?_
        refine g_sipush (v := nI 336) dX9_meet_22 rfl ?_
        refine g_iload dX9_meet_25 rfl ?_
        refine g_iadd dX9_meet_27 ?_
        rw [nI_add]
        refine g_aload_n dX9_meet_28 rfl ?_
        refine g_iload_n dX9_meet_29 rfl ?_
        refine g_iload dX9_meet_30 rfl ?_
        refine g_callV dX9_meet_32 sX9_fact (m_fact M1 n m s j) cl10 hG1.1.1 iX9_fact vX9_fact (iw_24 23 rfl) rfl rfl (Nat.le_of_ble_eq_true rfl) (Nat.le_of_ble_eq_true rfl) (Nat.le_of_ble_eq_true rfl) (Nat.le_of_ble_eq_true rfl) (Nat.le_of_ble_eq_true rfl) ?_
        intro r9 M9 n9 h9
        obtain ⟨h91, h92, h93⟩ := h9
        rw [h91, h92, h93]
        clear h91 h92 h93 r9 M9 n9
        refine g_sipush (v := nI 350) dX9_meet_35 rfl ?_
        refine g_iload dX9_meet_38 rfl ?_
        refine g_iadd dX9_meet_40 ?_
        rw [nI_add]
        refine g_callV dX9_meet_41 sX9_common (s_common M1 n m (336 + j) (8 * s + j) (350 + j) _ hG1 (by omega) (by omega) (by omega)) cl10 hG1.1.1 iX9_common vX9_common (iw_29 5 rfl) rfl rfl (Nat.le_of_ble_eq_true rfl) (Nat.le_of_ble_eq_true rfl) (Nat.le_of_ble_eq_true rfl) (Nat.le_of_ble_eq_true rfl) (Nat.le_of_ble_eq_true rfl) ?_
        intro r9 M2 n9 h9
        obtain ⟨h91, h93, hO2, hG2⟩ := h9
        rw [h91, h93]
        clear h91 h93 r9 n9
        rw [meS_1 hs (by omega)] at hG2
        refine g_aload_n dX9_meet_44 rfl ?_
        refine g_getR (f := 1) dX9_meet_45 cl10 hG2.1.1 (by decide) (Or.inl (iw_5 20 rfl)) (Or.inl rfl) rfl hG2.1.r_many ?_
        refine g_sipush (v := nI 336) dX9_meet_48 rfl ?_
        refine g_iload dX9_meet_51 rfl ?_
        refine g_iadd dX9_meet_53 ?_
        rw [nI_add]
        refine g_iaload dX9_meet_54 (j := 336 + j) hG2.1.k_many hG2.1.n_many rfl (by omega) (by decide) ?_
        rw [(hG2.2.1 (336 + j) (by omega)).1.2.1, meS_at (show j < j + 1 by omega)]
        have l2 := (hG2.ok (336 + j)).2.1
        rw [meS_at (show j < j + 1 by omega)] at l2
        have z0 : (0 : Int32) = nI 0 := rfl
        refine g_if_le (tgt := 62) dX9_meet_55 (by decide) (fun c_55 => ?_) (fun c_55 => ?_)
        · skip
          rw [z0, nI_leI (by omega) (by omega)] at c_55
          refine g_iconst (v := nI 0) dX9_meet_62 rfl ?_
          refine g_istore_n dX9_meet_63 (Nat.le_of_ble_eq_true rfl) ?_
          refine g_iload_n dX9_meet_64 rfl ?_
          refine g_aload_n dX9_meet_65 rfl ?_
          refine g_sipush (v := nI 336) dX9_meet_66 rfl ?_
          refine g_iload dX9_meet_69 rfl ?_
          refine g_iadd dX9_meet_71 ?_
          rw [nI_add]
          refine g_aload_n dX9_meet_72 rfl ?_
          refine g_iload_n dX9_meet_73 rfl ?_
          refine g_iload dX9_meet_74 rfl ?_
          refine g_callV dX9_meet_76 sX9_fact (m_fact M2 n m s j) cl10 hG2.1.1 iX9_fact vX9_fact (iw_24 23 rfl) rfl rfl (Nat.le_of_ble_eq_true rfl) (Nat.le_of_ble_eq_true rfl) (Nat.le_of_ble_eq_true rfl) (Nat.le_of_ble_eq_true rfl) (Nat.le_of_ble_eq_true rfl) ?_
          intro r9 M9 n9 h9
          obtain ⟨h91, h92, h93⟩ := h9
          rw [h91, h92, h93]
          clear h91 h92 h93 r9 M9 n9
          refine g_callV dX9_meet_79 sX9_same (s_same M2 n m (336 + j) (8 * s + j) _ hG2 (by omega) (by omega)) cl10 hG2.1.1 iX9_same vX9_same (iw_30 5 rfl) rfl rfl (Nat.le_of_ble_eq_true rfl) (Nat.le_of_ble_eq_true rfl) (Nat.le_of_ble_eq_true rfl) (Nat.le_of_ble_eq_true rfl) (Nat.le_of_ble_eq_true rfl) ?_
          intro r9 M9 n9 h9
          obtain ⟨h91, h92, h93⟩ := h9
          rw [h91, h92, h93]
          clear h91 h92 h93 r9 M9 n9
          rw [meS_at (show j < j + 1 by omega), meS_out (show 8 * s + j < 336 ∨ 344 ≤ 8 * s + j by omega) (by omega)]
          refine g_if_eq (tgt := 89) dX9_meet_82 (by decide) (fun c_82 => ?_) (fun c_82 => ?_)
          · skip
            rw [bI_eq0, decide_eq_false_iff_not] at c_82
            refine g_iconst (v := nI 1) dX9_meet_89 rfl ?_
            refine g_iadd dX9_meet_90 ?_
            rw [nI_add]
            refine g_istore_n dX9_meet_91 (Nat.le_of_ble_eq_true rfl) ?_
            refine g_iinc dX9_meet_92 rfl (nI_1 j) (Nat.le_of_ble_eq_true rfl) ?_
            refine g_goto (tgt := 10) dX9_meet_95 (by decide) ?_
            have hg := ih (j + 1) M2 (by omega) (by omega) (hO.trans hO2) hG2
            rw [stK_s, ctK_s, c_18, Bool.true_and] at hg
            have en : (mtN (fun p => S (8 * s + p)) (fun p => S (350 + p))) j = mkS (cmL (S (8 * s + j)) (S (350 + j))) := rfl
            rw [en] at hg
            first
              | (rw [decide_eq_true (show mkS (cmL (S (8 * s + j)) (S (350 + j))) ≠ [] from fun h => by rw [h] at c_55; exact c_55 (Nat.le_refl _))] at hg
                 first
                   | (rw [if_pos c_82] at hg; exact hg)
                   | (rw [if_neg c_82] at hg; exact hg))
              | (rw [decide_eq_false (show ¬ mkS (cmL (S (8 * s + j)) (S (350 + j))) ≠ [] from fun h => h (List.eq_nil_of_length_eq_zero (by omega)))] at hg
                 first
                   | (rw [if_pos c_82] at hg; exact hg)
                   | (rw [if_neg c_82] at hg; exact hg))
          · skip
            rw [bI_eq0, Bool.not_eq_false, decide_eq_true_eq] at c_82
            refine g_iconst (v := nI 0) dX9_meet_85 rfl ?_
            refine g_goto (tgt := 90) dX9_meet_86 (by decide) ?_
            refine g_iadd dX9_meet_90 ?_
            rw [nI_add]
            refine g_istore_n dX9_meet_91 (Nat.le_of_ble_eq_true rfl) ?_
            refine g_iinc dX9_meet_92 rfl (nI_1 j) (Nat.le_of_ble_eq_true rfl) ?_
            refine g_goto (tgt := 10) dX9_meet_95 (by decide) ?_
            have hg := ih (j + 1) M2 (by omega) (by omega) (hO.trans hO2) hG2
            rw [stK_s, ctK_s, c_18, Bool.true_and] at hg
            have en : (mtN (fun p => S (8 * s + p)) (fun p => S (350 + p))) j = mkS (cmL (S (8 * s + j)) (S (350 + j))) := rfl
            rw [en] at hg
            first
              | (rw [decide_eq_true (show mkS (cmL (S (8 * s + j)) (S (350 + j))) ≠ [] from fun h => by rw [h] at c_55; exact c_55 (Nat.le_refl _))] at hg
                 first
                   | (rw [if_pos c_82] at hg; exact hg)
                   | (rw [if_neg c_82] at hg; exact hg))
              | (rw [decide_eq_false (show ¬ mkS (cmL (S (8 * s + j)) (S (350 + j))) ≠ [] from fun h => h (List.eq_nil_of_length_eq_zero (by omega)))] at hg
                 first
                   | (rw [if_pos c_82] at hg; exact hg)
                   | (rw [if_neg c_82] at hg; exact hg))
        · skip
          rw [z0, nI_leI (by omega) (by omega)] at c_55
          refine g_iconst (v := nI 1) dX9_meet_58 rfl ?_
          refine g_goto (tgt := 63) dX9_meet_59 (by decide) ?_
          refine g_istore_n dX9_meet_63 (Nat.le_of_ble_eq_true rfl) ?_
          refine g_iload_n dX9_meet_64 rfl ?_
          refine g_aload_n dX9_meet_65 rfl ?_
          refine g_sipush (v := nI 336) dX9_meet_66 rfl ?_
          refine g_iload dX9_meet_69 rfl ?_
          refine g_iadd dX9_meet_71 ?_
          rw [nI_add]
          refine g_aload_n dX9_meet_72 rfl ?_
          refine g_iload_n dX9_meet_73 rfl ?_
          refine g_iload dX9_meet_74 rfl ?_
          refine g_callV dX9_meet_76 sX9_fact (m_fact M2 n m s j) cl10 hG2.1.1 iX9_fact vX9_fact (iw_24 23 rfl) rfl rfl (Nat.le_of_ble_eq_true rfl) (Nat.le_of_ble_eq_true rfl) (Nat.le_of_ble_eq_true rfl) (Nat.le_of_ble_eq_true rfl) (Nat.le_of_ble_eq_true rfl) ?_
          intro r9 M9 n9 h9
          obtain ⟨h91, h92, h93⟩ := h9
          rw [h91, h92, h93]
          clear h91 h92 h93 r9 M9 n9
          refine g_callV dX9_meet_79 sX9_same (s_same M2 n m (336 + j) (8 * s + j) _ hG2 (by omega) (by omega)) cl10 hG2.1.1 iX9_same vX9_same (iw_30 5 rfl) rfl rfl (Nat.le_of_ble_eq_true rfl) (Nat.le_of_ble_eq_true rfl) (Nat.le_of_ble_eq_true rfl) (Nat.le_of_ble_eq_true rfl) (Nat.le_of_ble_eq_true rfl) ?_
          intro r9 M9 n9 h9
          obtain ⟨h91, h92, h93⟩ := h9
          rw [h91, h92, h93]
          clear h91 h92 h93 r9 M9 n9
          rw [meS_at (show j < j + 1 by omega), meS_out (show 8 * s + j < 336 ∨ 344 ≤ 8 * s + j by omega) (by omega)]
          refine g_if_eq (tgt := 89) dX9_meet_82 (by decide) (fun c_82 => ?_) (fun c_82 => ?_)
          · skip
            rw [bI_eq0, decide_eq_false_iff_not] at c_82
            refine g_iconst (v := nI 1) dX9_meet_89 rfl ?_
            refine g_iadd dX9_meet_90 ?_
            rw [nI_add]
            refine g_istore_n dX9_meet_91 (Nat.le_of_ble_eq_true rfl) ?_
            refine g_iinc dX9_meet_92 rfl (nI_1 j) (Nat.le_of_ble_eq_true rfl) ?_
            refine g_goto (tgt := 10) dX9_meet_95 (by decide) ?_
            have hg := ih (j + 1) M2 (by omega) (by omega) (hO.trans hO2) hG2
            rw [stK_s, ctK_s, c_18, Bool.true_and] at hg
            have en : (mtN (fun p => S (8 * s + p)) (fun p => S (350 + p))) j = mkS (cmL (S (8 * s + j)) (S (350 + j))) := rfl
            rw [en] at hg
            first
              | (rw [decide_eq_true (show mkS (cmL (S (8 * s + j)) (S (350 + j))) ≠ [] from fun h => by rw [h] at c_55; exact c_55 (Nat.le_refl _))] at hg
                 first
                   | (rw [if_pos c_82] at hg; exact hg)
                   | (rw [if_neg c_82] at hg; exact hg))
              | (rw [decide_eq_false (show ¬ mkS (cmL (S (8 * s + j)) (S (350 + j))) ≠ [] from fun h => h (List.eq_nil_of_length_eq_zero (by omega)))] at hg
                 first
                   | (rw [if_pos c_82] at hg; exact hg)
                   | (rw [if_neg c_82] at hg; exact hg))
          · skip
            rw [bI_eq0, Bool.not_eq_false, decide_eq_true_eq] at c_82
            refine g_iconst (v := nI 0) dX9_meet_85 rfl ?_
            refine g_goto (tgt := 90) dX9_meet_86 (by decide) ?_
            refine g_iadd dX9_meet_90 ?_
            rw [nI_add]
            refine g_istore_n dX9_meet_91 (Nat.le_of_ble_eq_true rfl) ?_
            refine g_iinc dX9_meet_92 rfl (nI_1 j) (Nat.le_of_ble_eq_true rfl) ?_
            refine g_goto (tgt := 10) dX9_meet_95 (by decide) ?_
            have hg := ih (j + 1) M2 (by omega) (by omega) (hO.trans hO2) hG2
            rw [stK_s, ctK_s, c_18, Bool.true_and] at hg
            have en : (mtN (fun p => S (8 * s + p)) (fun p => S (350 + p))) j = mkS (cmL (S (8 * s + j)) (S (350 + j))) := rfl
            rw [en] at hg
            first
              | (rw [decide_eq_true (show mkS (cmL (S (8 * s + j)) (S (350 + j))) ≠ [] from fun h => by rw [h] at c_55; exact c_55 (Nat.le_refl _))] at hg
                 first
                   | (rw [if_pos c_82] at hg; exact hg)
                   | (rw [if_neg c_82] at hg; exact hg))
              | (rw [decide_eq_false (show ¬ mkS (cmL (S (8 * s + j)) (S (350 + j))) ≠ [] from fun h => h (List.eq_nil_of_length_eq_zero (by omega)))] at hg
                 first
                   | (rw [if_pos c_82] at hg; exact hg)
                   | (rw [if_neg c_82] at hg; exact hg))

