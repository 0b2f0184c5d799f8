/-! the reference: a statement is given facts -/
def fW (m : Nat) : Nat → Nat → Prop := fun i k => fA m i k ∨ (i = m ∧ k = 14)
def fG (m : Nat) : Nat → Nat → Prop := fun i k => fA m i k ∨ (i = m ∧ k = 14) ∨ i = m + 9 ∨ i = m + 10
theorem fW_G {m i k : Nat} (h : fW m i k) : fG m i k := h.elim (fun h => Or.inl h) (fun h => Or.inr (Or.inl h))
/-- the reference holds the picture A -/
def rA (M : gM) (m : Nat) (A : RA) (S : Nat → List Sp) : Prop := (∀ t, t < 40 → mI M (m + 9) t = bI (aR A t)) ∧ (∀ t, t < 40 → mI M (m + 10) t = nI (aC A t)) ∧ mI M m 14 = nI (aW A) ∧ ∀ t, t < 40 → aR A t = true → ∀ p, p < 8 → S (8 * t + p) = aF A t p
theorem rA.off {M M1 : gM} {m : Nat} {A : RA} {S : Nat → List Sp} (h : rA M m A S) (ho : Off M M1 (fA m)) : rA M1 m A S := by
  refine ⟨fun t ht => (ho.i (by unfold fA; omega)).trans (h.1 t ht), fun t ht => (ho.i (by unfold fA; omega)).trans (h.2.1 t ht), (ho.i (by unfold fA; omega)).trans h.2.2.1, h.2.2.2⟩
theorem rA.agr {M : gM} {m : Nat} {A : RA} {S S1 : Nat → List Sp} (h : rA M m A S) {Q : Nat → Prop} (ha : agr S S1 Q) (hq : ∀ u, Q u → 320 ≤ u) : rA M m A S1 :=
  ⟨h.1, h.2.1, h.2.2.1, fun t ht hr p hp => by rw [ha _ (fun q => by have := hq _ q; omega)]; exact h.2.2.2 t ht hr p hp⟩
theorem rP.offG {M M1 : gM} {m : Nat} {P : List St} (h : rP M m P) (ho : Off M M1 (fG m)) : rP M1 m P := h.off ho (by unfold fG fA; omega) (fun i k h1 h2 => by unfold fG fA; omega)
theorem rS.offI {M M1 : gM} {m : Nat} {S : Nat → List Sp} {Q : Nat → Nat → Prop} (h : rS M m S) (ho : Off M M1 Q) (hq : ∀ i k, Q i k → ¬ fA m i k) : rS M1 m S :=
  ⟨h.1.off ho, fun s hs => ⟨(h.2.1 s hs).1.off ho (fun i k h1 h2 => hq i k h2 (fS_A h1)), (h.2.1 s hs).2⟩, h.2.2.1.off ho (fun i k h1 h2 => hq i k h2 (by unfold fL at h1; unfold fA; omega)), h.2.2.2⟩
/-- the store as the sets are joined -/
def jnS (S : Nat → List Sp) (t j : Nat) : Nat → List Sp := fun u => if 336 ≤ u ∧ u < 336 + j then mkS (S (8 * t + (u - 336)) ++ S (328 + (u - 336))) else S u
theorem jnS_0 (S : Nat → List Sp) (t : Nat) : jnS S t 0 = S := by
  funext u; unfold jnS; rw [if_neg (by omega)]
theorem jnS_lo {S : Nat → List Sp} {t j u : Nat} (h : u < 336 ∨ 344 ≤ u) (hj : j ≤ 8) : jnS S t j u = S u := by
  unfold jnS; rw [if_neg (by omega)]
theorem jnS_at {S : Nat → List Sp} {t j p : Nat} (h : p < j) : jnS S t j (336 + p) = mkS (S (8 * t + p) ++ S (328 + p)) := by
  unfold jnS; rw [if_pos (by omega), show 336 + p - 336 = p by omega]
theorem jnS_1 {S : Nat → List Sp} {t j : Nat} (ht : t < 40) (hj : j < 8) : up1 (jnS S t j) (336 + j) (mkS (jnS S t j (8 * t + j) ++ jnS S t j (328 + j))) = jnS S t (j + 1) := by
  rw [jnS_lo (by omega) (by omega), jnS_lo (by omega) (by omega)]
  funext u
  by_cases e : u = 336 + j
  · subst e; rw [up1_eq, jnS_at (by omega)]
  · rw [up1_ne _ _ e]
    unfold jnS
    by_cases c : 336 ≤ u ∧ u < 336 + j
    · rw [if_pos c, if_pos (by omega)]
    · rw [if_neg c, if_neg (by omega)]
/-- the store as the joined sets become the facts -/
def grS (P : List St) (wd : Bool) (S : Nat → List Sp) (t j : Nat) : Nat → List Sp := fun u => if 8 * t ≤ u ∧ u < 8 * t + j then grw P wd (S u) (S (336 + (u - 8 * t))) else if 336 ≤ u ∧ u < 336 + j then grw P wd (S (8 * t + (u - 336))) (S u) else S u
theorem grS_0 (P : List St) (wd : Bool) (S : Nat → List Sp) (t : Nat) : grS P wd S t 0 = S := by
  funext u; unfold grS; rw [if_neg (by omega), if_neg (by omega)]
theorem grS_out {P : List St} {wd : Bool} {S : Nat → List Sp} {t j u : Nat} (h : ¬ (8 * t ≤ u ∧ u < 8 * t + j)) (h2 : ¬ (336 ≤ u ∧ u < 336 + j)) : grS P wd S t j u = S u := by
  unfold grS; rw [if_neg h, if_neg h2]
theorem grS_1 {P : List St} {wd : Bool} {S : Nat → List Sp} {t j : Nat} (ht : t < 40) (hj : j < 8) : up1 (up1 (grS P wd S t j) (336 + j) (grw P wd (S (8 * t + j)) (S (336 + j)))) (8 * t + j) (grw P wd (S (8 * t + j)) (S (336 + j))) = grS P wd S t (j + 1) := by
  funext u
  by_cases e : u = 8 * t + j
  · subst e; rw [up1_eq]; unfold grS; rw [if_pos (by omega), show 8 * t + j - 8 * t = j by omega]
  · rw [up1_ne _ _ e]
    by_cases e2 : u = 336 + j
    · subst e2; rw [up1_eq]; unfold grS; rw [if_neg (by omega), if_pos (by omega), show 336 + j - 336 = j by omega]
    · rw [up1_ne _ _ e2]
      unfold grS
      by_cases c : 8 * t ≤ u ∧ u < 8 * t + j
      · rw [if_pos c, if_pos (by omega)]
      · rw [if_neg c, if_neg (show ¬ (8 * t ≤ u ∧ u < 8 * t + (j + 1)) by omega)]
        by_cases c2 : 336 ≤ u ∧ u < 336 + j
        · rw [if_pos c2, if_pos (by omega)]
        · rw [if_neg c2, if_neg (by omega)]
theorem cwK_s (wd : Bool) (F N : Nat → List Sp) (j : Nat) : cwK wd F N (j + 1) = cwK wd F N j + (if wd = true ∧ F j ≠ N j then 1 else 0) := rfl
theorem bI_1' : bI true = 1 := rfl
theorem bI_0' : bI false = 0 := rfl
set_option maxHeartbeats 4000000 in
set_option maxRecDepth 100000 in
theorem l_gv28 {M : gM} {n m t : Nat} {S : Nat → List Sp} {Q : gθ} (ht : t < 40) (hk : ∀ M1, Off M M1 (fA m) → rS M1 m (blk S (8 * t) 328 8) → GW μX9_give (gRm 4 97 0 0) Q 0 0 55 [some (.ref m), some (.int (nI t)), none, none, none, none, none, none, none, none, none] [] M1 n) : ∀ (d : Nat) (j : Nat) (M1 : gM), 8 - j < d → j ≤ 8 → Off M M1 (fA m) → rS M1 m (blk S (8 * t) 328 j) → GW μX9_give (gRm 4 97 0 0) Q 0 0 28 [some (.ref m), some (.int (nI t)), some (.int (nI (j))), none, none, none, none, none, none, none, none] [] M1 n := by
  intro d
  induction d with
  | zero =>
    intro j M1 hd hj hO hG1
    omega
  | succ d ih =>
    intro j M1 hd hj hO hG1
    refine g_iload_n dX9_give_28 rfl ?_
    refine g_bipush (v := nI 8) dX9_give_29 rfl ?_
    refine g_icmp_ge (tgt := 55) dX9_give_31 (by decide) (fun c_31 => ?_) (fun c_31 => ?_)
    · skip
      rw [nI_leI (by omega) (by omega)] at c_31
      have e8 : j = 8 := by omega
      subst e8
      refine g_msk [true, true, false, false, false, false, false, false, false, false, false] ?_
      exact hk M1 hO hG1
    · skip
      rw [nI_leI (by omega) (by omega)] at c_31
      refine g_aload_n dX9_give_34 rfl ?_
      refine g_aload_n dX9_give_35 rfl ?_
      refine g_iload_n dX9_give_36 rfl ?_
      refine g_iload_n dX9_give_37 rfl ?_
      refine g_callV dX9_give_38 sX9_fact (m_fact M1 n m t j) cl10 hG1.1.1 iX9_fact vX9_fact (iw_24 23 rfl) rfl rfl (Nat.le_of_ble_eq_true rfl) (Nat.le_of_ble_eq_true rfl) (Nat.le_of_ble_eq_true rfl) (Nat.le_of_ble_eq_true rfl) (Nat.le_of_ble_eq_true rfl) ?_
      intro r9 M9 n9 h9
      obtain ⟨h91, h92, h93⟩ := h9
      rw [h91, h92, h93]
      clear h91 h92 h93 r9 M9 n9
      refine g_sipush (v := nI 328) dX9_give_41 rfl ?_
      refine g_iload_n dX9_give_44 rfl ?_
      refine g_iadd dX9_give_45 ?_
      rw [nI_add]
      refine g_callV dX9_give_46 sX9_copy (s_copy M1 n m (8 * t + j) (328 + j) _ hG1 (by omega) (by omega)) cl10 hG1.1.1 iX9_copy vX9_copy (iw_25 3 rfl) rfl rfl (Nat.le_of_ble_eq_true rfl) (Nat.le_of_ble_eq_true rfl) (Nat.le_of_ble_eq_true rfl) (Nat.le_of_ble_eq_true rfl) (Nat.le_of_ble_eq_true rfl) ?_
      intro r9 M2 n9 h9
      obtain ⟨h91, h93, hO2, hG2⟩ := h9
      rw [h91, h93]
      clear h91 h93 r9 n9
      refine g_iinc dX9_give_49 rfl (nI_1 j) (Nat.le_of_ble_eq_true rfl) ?_
      refine g_goto (tgt := 28) dX9_give_52 (by decide) ?_
      rw [blk_1 (by omega)] at hG2
      exact ih (j + 1) M2 (by omega) (by omega) (hO.trans hO2) hG2

set_option maxHeartbeats 4000000 in
set_option maxRecDepth 100000 in
theorem l_gv61 {M : gM} {n m t : Nat} {S : Nat → List Sp} {Q : gθ} (ht : t < 40) (hk : ∀ M1, Off M M1 (fA m) → rS M1 m (jnS S t 8) → GW μX9_give (gRm 4 97 0 0) Q 0 0 121 [some (.ref m), some (.int (nI t)), some (.int (bI (chK (fun p => S (8 * t + p)) (fun p => S (328 + p)) 8))), none, none, none, none, none, none, none, none] [] M1 n) : ∀ (d : Nat) (j : Nat) (M1 : gM), 8 - j < d → j ≤ 8 → Off M M1 (fA m) → rS M1 m (jnS S t j) → GW μX9_give (gRm 4 97 0 0) Q 0 0 61 [some (.ref m), some (.int (nI t)), some (.int (bI (chK (fun p => S (8 * t + p)) (fun p => S (328 + p)) j))), some (.int (nI (j))), none, none, none, none, none, none, none] [] M1 n := by
  intro d
  induction d with
  | zero =>
    intro j M1 hd hj hO hG1
    omega
  | succ d ih =>
    intro j M1 hd hj hO hG1
    refine g_iload_n dX9_give_61 rfl ?_
    refine g_bipush (v := nI 8) dX9_give_62 rfl ?_
    refine g_icmp_ge (tgt := 121) dX9_give_64 (by decide) (fun c_64 => ?_) (fun c_64 => ?_)
    · skip
      rw [nI_leI (by omega) (by omega)] at c_64
      have e8 : j = 8 := by omega
      subst e8
      refine g_msk [true, true, true, false, false, false, false, false, false, false, false] ?_
      exact hk M1 hO hG1
    · skip
      rw [nI_leI (by omega) (by omega)] at c_64
      refine g_aload_n dX9_give_67 rfl ?_
      refine g_sipush (v := nI 336) dX9_give_68 rfl ?_
      refine g_iload_n dX9_give_71 rfl ?_
      refine g_iadd dX9_give_72 ?_
      rw [nI_add]
      refine g_aload_n dX9_give_73 rfl ?_
      refine g_iload_n dX9_give_74 rfl ?_
      refine g_iload_n dX9_give_75 rfl ?_
      refine g_callV dX9_give_76 sX9_fact (m_fact M1 n m t j) cl10 hG1.1.1 iX9_fact vX9_fact (iw_24 23 rfl) rfl rfl (Nat.le_of_ble_eq_true rfl) (Nat.le_of_ble_eq_true rfl) (Nat.le_of_ble_eq_true rfl) (Nat.le_of_ble_eq_true rfl) (Nat.le_of_ble_eq_true rfl) ?_
      intro r9 M9 n9 h9
      obtain ⟨h91, h92, h93⟩ := h9
      rw [h91, h92, h93]
      clear h91 h92 h93 r9 M9 n9
      refine g_sipush (v := nI 328) dX9_give_79 rfl ?_
      refine g_iload_n dX9_give_82 rfl ?_
      refine g_iadd dX9_give_83 ?_
      rw [nI_add]
      refine g_callV dX9_give_84 sX9_join (s_join M1 n m (336 + j) (8 * t + j) (328 + j) _ hG1 (by omega) (by omega) (by omega)) cl10 hG1.1.1 iX9_join vX9_join (iw_30 1 rfl) rfl rfl (Nat.le_of_ble_eq_true rfl) (Nat.le_of_ble_eq_true rfl) (Nat.le_of_ble_eq_true rfl) (Nat.le_of_ble_eq_true rfl) (Nat.le_of_ble_eq_true rfl) ?_
      intro r9 M2 n9 h9
      obtain ⟨h91, h93, hO2, hG2⟩ := h9
      rw [h91, h93]
      clear h91 h93 r9 n9
      rw [jnS_1 ht (by omega)] at hG2
      refine g_iload_n dX9_give_87 rfl ?_
      refine g_if_ne (tgt := 109) dX9_give_88 (by decide) (fun c_88 => ?_) (fun c_88 => ?_)
      · skip
        try rw [bI_eq0, Bool.not_eq_false] at c_88
        try rw [bI_eq0] at c_106
        refine g_iconst (v := nI 1) dX9_give_109 rfl ?_
        refine g_goto (tgt := 114) dX9_give_110 (by decide) ?_
        refine g_istore_n dX9_give_114 (Nat.le_of_ble_eq_true rfl) ?_
        refine g_iinc dX9_give_115 rfl (nI_1 j) (Nat.le_of_ble_eq_true rfl) ?_
        refine g_goto (tgt := 61) dX9_give_118 (by decide) ?_
        have hg := ih (j + 1) M2 (by omega) (by omega) (hO.trans hO2) hG2
        unfold chK at hg
        first
          | (rw [c_88, Bool.true_or] at hg; exact hg)
          | (rw [decide_eq_false_iff_not] at c_106; rw [decide_eq_true (show jn (fun p => S (8 * t + p)) (fun p => S (328 + p)) j ≠ (fun p => S (8 * t + p)) j from c_106), Bool.or_true] at hg; exact hg)
          | (rw [decide_eq_true_eq] at c_106; rw [c_88, decide_eq_false (show ¬ jn (fun p => S (8 * t + p)) (fun p => S (328 + p)) j ≠ (fun p => S (8 * t + p)) j from fun h => h c_106)] at hg; exact hg)
      · skip
        rw [bI_eq0] at c_88
        refine g_aload_n dX9_give_91 rfl ?_
        refine g_sipush (v := nI 336) dX9_give_92 rfl ?_
        refine g_iload_n dX9_give_95 rfl ?_
        refine g_iadd dX9_give_96 ?_
        rw [nI_add]
        refine g_aload_n dX9_give_97 rfl ?_
        refine g_iload_n dX9_give_98 rfl ?_
        refine g_iload_n dX9_give_99 rfl ?_
        refine g_callV dX9_give_100 sX9_fact (m_fact M2 n m t j) cl10 hG2.1.1 iX9_fact vX9_fact (iw_24 23 rfl) rfl rfl (Nat.le_of_ble_eq_true rfl) (Nat.le_of_ble_eq_true rfl) (Nat.le_of_ble_eq_true rfl) (Nat.le_of_ble_eq_true rfl) (Nat.le_of_ble_eq_true rfl) ?_
        intro r9 M9 n9 h9
        obtain ⟨h91, h92, h93⟩ := h9
        rw [h91, h92, h93]
        clear h91 h92 h93 r9 M9 n9
        refine g_callV dX9_give_103 sX9_same (s_same M2 n m (336 + j) (8 * t + j) _ hG2 (by omega) (by omega)) cl10 hG2.1.1 iX9_same vX9_same (iw_30 5 rfl) rfl rfl (Nat.le_of_ble_eq_true rfl) (Nat.le_of_ble_eq_true rfl) (Nat.le_of_ble_eq_true rfl) (Nat.le_of_ble_eq_true rfl) (Nat.le_of_ble_eq_true rfl) ?_
        intro r9 M9 n9 h9
        obtain ⟨h91, h92, h93⟩ := h9
        rw [h91, h92, h93]
        clear h91 h92 h93 r9 M9 n9
        rw [jnS_at (show j < j + 1 by omega), jnS_lo (show 8 * t + j < 336 ∨ 344 ≤ 8 * t + j by omega) (by omega)]
        refine g_if_ne (tgt := 113) dX9_give_106 (by decide) (fun c_106 => ?_) (fun c_106 => ?_)
        · skip
          rw [bI_eq0, Bool.not_eq_false] at c_106
          refine g_iconst (v := nI 0) dX9_give_113 rfl ?_
          refine g_istore_n dX9_give_114 (Nat.le_of_ble_eq_true rfl) ?_
          refine g_iinc dX9_give_115 rfl (nI_1 j) (Nat.le_of_ble_eq_true rfl) ?_
          refine g_goto (tgt := 61) dX9_give_118 (by decide) ?_
          have hg := ih (j + 1) M2 (by omega) (by omega) (hO.trans hO2) hG2
          unfold chK at hg
          first
            | (rw [c_88, Bool.true_or] at hg; exact hg)
            | (rw [decide_eq_false_iff_not] at c_106; rw [decide_eq_true (show jn (fun p => S (8 * t + p)) (fun p => S (328 + p)) j ≠ (fun p => S (8 * t + p)) j from c_106), Bool.or_true] at hg; exact hg)
            | (rw [decide_eq_true_eq] at c_106; rw [c_88, decide_eq_false (show ¬ jn (fun p => S (8 * t + p)) (fun p => S (328 + p)) j ≠ (fun p => S (8 * t + p)) j from fun h => h c_106)] at hg; exact hg)
        · skip
          try rw [bI_eq0, Bool.not_eq_false] at c_88
          try rw [bI_eq0] at c_106
          refine g_iconst (v := nI 1) dX9_give_109 rfl ?_
          refine g_goto (tgt := 114) dX9_give_110 (by decide) ?_
          refine g_istore_n dX9_give_114 (Nat.le_of_ble_eq_true rfl) ?_
          refine g_iinc dX9_give_115 rfl (nI_1 j) (Nat.le_of_ble_eq_true rfl) ?_
          refine g_goto (tgt := 61) dX9_give_118 (by decide) ?_
          have hg := ih (j + 1) M2 (by omega) (by omega) (hO.trans hO2) hG2
          unfold chK at hg
          first
            | (rw [c_88, Bool.true_or] at hg; exact hg)
            | (rw [decide_eq_false_iff_not] at c_106; rw [decide_eq_true (show jn (fun p => S (8 * t + p)) (fun p => S (328 + p)) j ≠ (fun p => S (8 * t + p)) j from c_106), Bool.or_true] at hg; exact hg)
            | (rw [decide_eq_true_eq] at c_106; rw [c_88, decide_eq_false (show ¬ jn (fun p => S (8 * t + p)) (fun p => S (328 + p)) j ≠ (fun p => S (8 * t + p)) j from fun h => h c_106)] at hg; exact hg)

set_option maxHeartbeats 4000000 in
set_option maxRecDepth 100000 in
theorem p_gv279 {M : gM} {n m t w : Nat} {S : Nat → List Sp} {P : List St} {wd : Bool} {Q : gθ} (ht : t < 40) (hP : rP M m P) (hF : ∀ p, p < 8 → S (8 * t + p) ≠ []) (hN : ∀ p, p < 8 → S (336 + p) ≠ []) {M1 : gM} {j : Nat} {lo hi : Int} (hj : j < 8) (hwd : wd = true) (hne : (S (8 * t + j)) ≠ (S (336 + j))) (hO : Off M M1 (fW m)) (hG1 : rS M1 m (grS P wd S t j)) (hI : mI M1 m 14 = nI (w + cwK wd (fun p => S (8 * t + p)) (fun p => S (336 + p)) j)) (hlo : lo = (if lo1 (S (336 + j)) < lo1 (S (8 * t + j)) then nxt P (lo1 (S (336 + j))) false else lo1 (S (336 + j)))) (hhi : hi = (if hi1 (S (8 * t + j)) < hi1 (S (336 + j)) then nxt P (hi1 (S (336 + j))) true else hi1 (S (336 + j)))) (hk : ∀ M2, Off M M2 (fW m) → rS M2 m (grS P wd S t (j + 1)) → mI M2 m 14 = nI (w + cwK wd (fun p => S (8 * t + p)) (fun p => S (336 + p)) (j + 1)) → GW μX9_give (gRm 4 97 0 0) Q 0 0 307 [some (.ref m), some (.int (nI t)), none, some (.int (bI wd)), some (.int (nI (j))), none, none, none, none, none, none] [] M2 n) : GW μX9_give (gRm 4 97 0 0) Q 0 0 279 [some (.ref m), some (.int (nI t)), none, some (.int (bI wd)), some (.int (nI (j))), some (.int (nI (8 * t + j))), some (.int (nI (336 + j))), some (.long (jI lo)), none, some (.long (jI hi)), none] [] M1 n := by
  subst hlo
  subst hhi
  have ok1 := hG1.ok (336 + j)
  have en : grS P wd S t j (336 + j) = S (336 + j) := grS_out (by omega) (by omega)
  rw [en] at ok1
  obtain ⟨w1, w2, w3, w4⟩ := wdn_ok P (X := S (8 * t + j)) ok1 (hN j hj)
  have wr := lo1_r w1 w2
  have wh := hi1_r w1 w2
  have wle := lo_hi w1 w2
  have hw0 : grw P wd (S (8 * t + j)) (S (336 + j)) = wdn P (S (8 * t + j)) (S (336 + j)) := by unfold grw; rw [if_pos ⟨hwd, hne⟩]
  refine g_aload_n dX9_give_279 rfl ?_
  refine g_iload dX9_give_280 rfl ?_
  refine g_lload dX9_give_282 rfl ?_
  refine g_lload dX9_give_284 rfl ?_
  refine g_callV dX9_give_286 sX9_one (s_one M1 n m (336 + j) _ (lo1 (wdn P (S (8 * t + j)) (S (336 + j)))) (hi1 (wdn P (S (8 * t + j)) (S (336 + j)))) hG1 (by omega) (r6_of wr) (r6_of wh) (fun _ => ⟨wr, wh⟩)) cl10 hG1.1.1 iX9_one vX9_one (iw_6 9 rfl) rfl rfl (Nat.le_of_ble_eq_true rfl) (Nat.le_of_ble_eq_true rfl) (Nat.le_of_ble_eq_true rfl) (Nat.le_of_ble_eq_true rfl) (Nat.le_of_ble_eq_true rfl) ?_
  intro r9 M2 n9 h9
  obtain ⟨h91, h93, hO2, hG2⟩ := h9
  rw [h91, h93]
  clear h91 h93 r9 n9
  rw [if_pos wle, show [(lo1 (wdn P (S (8 * t + j)) (S (336 + j))), hi1 (wdn P (S (8 * t + j)) (S (336 + j))))] = wdn P (S (8 * t + j)) (S (336 + j)) from rfl] at hG2
  refine g_aload_n dX9_give_289 rfl ?_
  refine g_dup dX9_give_290 rfl ?_
  refine g_getI (f := 14) dX9_give_291 cl10 hG2.1.1 (by decide) (Or.inl (iw_24 21 rfl)) (Or.inl rfl) (Or.inl rfl) ?_
  refine g_iconst (v := nI 1) dX9_give_294 rfl ?_
  rw [show mI M2 m 14 = nI (w + cwK wd (fun p => S (8 * t + p)) (fun p => S (336 + p)) j) from (hO2.i (by unfold fA; omega)).trans hI]
  refine g_iadd dX9_give_295 ?_
  rw [nI_add]
  refine g_putI (f := 14) dX9_give_296 cl10 hG2.1.1 (by decide) (Or.inl (iw_24 21 rfl)) (Or.inl rfl) (Or.inl rfl) (Or.inl rfl) ?_
  have hO3 : Off M (stI M2 m 14 (nI (w + cwK wd (fun p => S (8 * t + p)) (fun p => S (336 + p)) j + 1))) (fW m) := (hO.trans (hO2.mono (fun i k h => Or.inl h))).stI (Or.inr ⟨rfl, rfl⟩)
  have hG3 : rS (stI M2 m 14 (nI (w + cwK wd (fun p => S (8 * t + p)) (fun p => S (336 + p)) j + 1))) m (up1 (grS P wd S t j) (336 + j) (wdn P (S (8 * t + j)) (S (336 + j)))) := hG2.offI (Q := fun i k => i = m ∧ k = 14) (Off.rf.stI ⟨rfl, rfl⟩) (fun i k h => by unfold fA; omega)
  have hI3 : mI (stI M2 m 14 (nI (w + cwK wd (fun p => S (8 * t + p)) (fun p => S (336 + p)) j + 1))) m 14 = nI (w + cwK wd (fun p => S (8 * t + p)) (fun p => S (336 + p)) (j + 1)) := by
    rw [mI_st, if_pos ⟨rfl, rfl⟩]
    rw [cwK_s, if_pos ⟨hwd, hne⟩, Nat.add_assoc]
  generalize stI M2 m 14 (nI (w + cwK wd (fun p => S (8 * t + p)) (fun p => S (336 + p)) j + 1)) = M3 at hO3 hG3 hI3 ⊢
  refine g_aload_n dX9_give_299 rfl ?_
  refine g_iload dX9_give_300 rfl ?_
  refine g_iload dX9_give_302 rfl ?_
  refine g_callV dX9_give_304 sX9_copy (s_copy M3 n m (8 * t + j) (336 + j) _ hG3 (by omega) (by omega)) cl10 hG3.1.1 iX9_copy vX9_copy (iw_25 3 rfl) rfl rfl (Nat.le_of_ble_eq_true rfl) (Nat.le_of_ble_eq_true rfl) (Nat.le_of_ble_eq_true rfl) (Nat.le_of_ble_eq_true rfl) (Nat.le_of_ble_eq_true rfl) ?_
  intro r9 M4 n9 h9
  obtain ⟨h91, h93, hO4, hG4⟩ := h9
  rw [h91, h93]
  clear h91 h93 r9 n9
  rw [up1_eq, ← hw0, grS_1 ht hj] at hG4
  refine g_msk [true, true, false, true, true, false, false, false, false, false, false] ?_
  exact hk M4 (hO3.trans (hO4.mono (fun i k h => Or.inl h))) hG4 ((hO4.i (by unfold fA; omega)).trans hI3)

set_option maxHeartbeats 4000000 in
set_option maxRecDepth 100000 in
theorem l_gv164 {M : gM} {n m t w : Nat} {S : Nat → List Sp} {P : List St} {wd : Bool} {Q : gθ} (ht : t < 40) (hP : rP M m P) (hF : ∀ p, p < 8 → S (8 * t + p) ≠ []) (hN : ∀ p, p < 8 → S (336 + p) ≠ []) (hk : ∀ M1, Off M M1 (fW m) → rS M1 m (grS P wd S t 8) → mI M1 m 14 = nI (w + cwK wd (fun p => S (8 * t + p)) (fun p => S (336 + p)) 8) → GW μX9_give (gRm 4 97 0 0) Q 0 0 313 [some (.ref m), some (.int (nI t)), none, some (.int (bI wd)), none, none, none, none, none, none, none] [] M1 n) : ∀ (d : Nat) (j : Nat) (M1 : gM), 8 - j < d → j ≤ 8 → Off M M1 (fW m) → rS M1 m (grS P wd S t j) → mI M1 m 14 = nI (w + cwK wd (fun p => S (8 * t + p)) (fun p => S (336 + p)) j) → GW μX9_give (gRm 4 97 0 0) Q 0 0 164 [some (.ref m), some (.int (nI t)), none, some (.int (bI wd)), some (.int (nI (j))), none, none, none, none, none, none] [] M1 n := by
  intro d
  induction d with
  | zero =>
    intro j M1 hd hj hO hG1 hI
    omega
  | succ d ih =>
    intro j M1 hd hj hO hG1 hI
    refine g_iload dX9_give_164 rfl ?_
    refine g_bipush (v := nI 8) dX9_give_166 rfl ?_
    refine g_icmp_ge (tgt := 313) dX9_give_168 (by decide) (fun c_168 => ?_) (fun c_168 => ?_)
    · skip
      rw [nI_leI (by omega) (by omega)] at c_168
      have e8 : j = 8 := by omega
      subst e8
      refine g_msk [true, true, false, true, false, false, false, false, false, false, false] ?_
      exact hk M1 hO hG1 hI
    · skip
      rw [nI_leI (by omega) (by omega)] at c_168
      have eo : grS P wd S t j (8 * t + j) = S (8 * t + j) := grS_out (by omega) (by omega)
      have en : grS P wd S t j (336 + j) = S (336 + j) := grS_out (by omega) (by omega)
      have hP1 : rP M1 m P := hP.off hO (by unfold fW fA; omega) (fun i k h1 h2 => by unfold fW fA; omega)
      have ok0 := hG1.ok (8 * t + j)
      have ok1 := hG1.ok (336 + j)
      rw [eo] at ok0
      rw [en] at ok1
      have nO := hF j (by omega)
      have nN := hN j (by omega)
      have r1 := lo1_r ok0 nO
      have r2 := hi1_r ok0 nO
      have r3 := lo1_r ok1 nN
      have r4 := hi1_r ok1 nN
      have q1 := nxt_r P (lo1 (S (336 + j))) false
      have q2 := nxt_r P (hi1 (S (336 + j))) true
      refine g_aload_n dX9_give_171 rfl ?_
      refine g_iload_n dX9_give_172 rfl ?_
      refine g_iload dX9_give_173 rfl ?_
      refine g_callV dX9_give_175 sX9_fact (m_fact M1 n m t j) cl10 hG1.1.1 iX9_fact vX9_fact (iw_24 23 rfl) rfl rfl (Nat.le_of_ble_eq_true rfl) (Nat.le_of_ble_eq_true rfl) (Nat.le_of_ble_eq_true rfl) (Nat.le_of_ble_eq_true rfl) (Nat.le_of_ble_eq_true rfl) ?_
      intro r9 M9 n9 h9
      obtain ⟨h91, h92, h93⟩ := h9
      rw [h91, h92, h93]
      clear h91 h92 h93 r9 M9 n9
      refine g_istore dX9_give_178 (Nat.le_of_ble_eq_true rfl) ?_
      refine g_sipush (v := nI 336) dX9_give_180 rfl ?_
      refine g_iload dX9_give_183 rfl ?_
      refine g_iadd dX9_give_185 ?_
      rw [nI_add]
      refine g_istore dX9_give_186 (Nat.le_of_ble_eq_true rfl) ?_
      refine g_iload_n dX9_give_188 rfl ?_
      refine g_if_eq (tgt := 299) dX9_give_189 (by decide) (fun c_189 => ?_) (fun c_189 => ?_)
      · skip
        refine g_aload_n dX9_give_299 rfl ?_
        refine g_iload dX9_give_300 rfl ?_
        refine g_iload dX9_give_302 rfl ?_
        refine g_callV dX9_give_304 sX9_copy (s_copy M1 n m (8 * t + j) (336 + j) _ hG1 (by omega) (by omega)) cl10 hG1.1.1 iX9_copy vX9_copy (iw_25 3 rfl) rfl rfl (Nat.le_of_ble_eq_true rfl) (Nat.le_of_ble_eq_true rfl) (Nat.le_of_ble_eq_true rfl) (Nat.le_of_ble_eq_true rfl) (Nat.le_of_ble_eq_true rfl) ?_
        intro r9 M4 n9 h9
        obtain ⟨h91, h93, hO4, hG4⟩ := h9
        rw [h91, h93]
        clear h91 h93 r9 n9
        have hw9 : ¬ (wd = true ∧ S (8 * t + j) ≠ S (336 + j)) := by
          first
            | (rw [bI_eq0] at c_189; rw [c_189]; exact fun h => absurd h.1 (by decide))
            | (rw [bI_eq0, Bool.not_eq_false, decide_eq_true_eq] at c_200; exact fun h => h.2 c_200)
        have hw0 : grw P wd (S (8 * t + j)) (S (336 + j)) = S (336 + j) := by unfold grw; rw [if_neg hw9]
        have hw1 : up1 (grS P wd S t j) (336 + j) (S (336 + j)) = grS P wd S t j := by rw [← en, up1_self]
        have hw2 := grS_1 (P := P) (wd := wd) (S := S) (t := t) (j := j) ht (by omega)
        rw [hw0, hw1] at hw2
        rw [en, hw2] at hG4
        refine g_iinc dX9_give_307 rfl (nI_1 j) (Nat.le_of_ble_eq_true rfl) ?_
        refine g_goto (tgt := 164) dX9_give_310 (by decide) ?_
        refine g_msk [true, true, false, true, true, false, false, false, false, false, false] ?_
        refine ih (j + 1) M4 (by omega) (by omega) (hO.trans (hO4.mono (fun i k h => Or.inl h))) hG4 ?_
        rw [hO4.i (by unfold fA; omega), hI]
        rw [cwK_s, if_neg hw9]
        rfl
      · skip
        rw [bI_eq0, Bool.not_eq_false] at c_189
        refine g_aload_n dX9_give_192 rfl ?_
        refine g_iload dX9_give_193 rfl ?_
        refine g_iload dX9_give_195 rfl ?_
        refine g_callV dX9_give_197 sX9_same (s_same M1 n m (8 * t + j) (336 + j) _ hG1 (by omega) (by omega)) cl10 hG1.1.1 iX9_same vX9_same (iw_30 5 rfl) rfl rfl (Nat.le_of_ble_eq_true rfl) (Nat.le_of_ble_eq_true rfl) (Nat.le_of_ble_eq_true rfl) (Nat.le_of_ble_eq_true rfl) (Nat.le_of_ble_eq_true rfl) ?_
        intro r9 M9 n9 h9
        obtain ⟨h91, h92, h93⟩ := h9
        rw [h91, h92, h93]
        clear h91 h92 h93 r9 M9 n9
        rw [eo, en]
        refine g_if_ne (tgt := 299) dX9_give_200 (by decide) (fun c_200 => ?_) (fun c_200 => ?_)
        · skip
          refine g_aload_n dX9_give_299 rfl ?_
          refine g_iload dX9_give_300 rfl ?_
          refine g_iload dX9_give_302 rfl ?_
          refine g_callV dX9_give_304 sX9_copy (s_copy M1 n m (8 * t + j) (336 + j) _ hG1 (by omega) (by omega)) cl10 hG1.1.1 iX9_copy vX9_copy (iw_25 3 rfl) rfl rfl (Nat.le_of_ble_eq_true rfl) (Nat.le_of_ble_eq_true rfl) (Nat.le_of_ble_eq_true rfl) (Nat.le_of_ble_eq_true rfl) (Nat.le_of_ble_eq_true rfl) ?_
          intro r9 M4 n9 h9
          obtain ⟨h91, h93, hO4, hG4⟩ := h9
          rw [h91, h93]
          clear h91 h93 r9 n9
          have hw9 : ¬ (wd = true ∧ S (8 * t + j) ≠ S (336 + j)) := by
            first
              | (rw [bI_eq0] at c_189; rw [c_189]; exact fun h => absurd h.1 (by decide))
              | (rw [bI_eq0, Bool.not_eq_false, decide_eq_true_eq] at c_200; exact fun h => h.2 c_200)
          have hw0 : grw P wd (S (8 * t + j)) (S (336 + j)) = S (336 + j) := by unfold grw; rw [if_neg hw9]
          have hw1 : up1 (grS P wd S t j) (336 + j) (S (336 + j)) = grS P wd S t j := by rw [← en, up1_self]
          have hw2 := grS_1 (P := P) (wd := wd) (S := S) (t := t) (j := j) ht (by omega)
          rw [hw0, hw1] at hw2
          rw [en, hw2] at hG4
          refine g_iinc dX9_give_307 rfl (nI_1 j) (Nat.le_of_ble_eq_true rfl) ?_
          refine g_goto (tgt := 164) dX9_give_310 (by decide) ?_
          refine g_msk [true, true, false, true, true, false, false, false, false, false, false] ?_
          refine ih (j + 1) M4 (by omega) (by omega) (hO.trans (hO4.mono (fun i k h => Or.inl h))) hG4 ?_
          rw [hO4.i (by unfold fA; omega), hI]
          rw [cwK_s, if_neg hw9]
          rfl
        · skip
          rw [bI_eq0, decide_eq_false_iff_not] at c_200
          refine g_aload_n dX9_give_203 rfl ?_
          refine g_iload dX9_give_204 rfl ?_
          refine g_callV dX9_give_206 sX9_least (s_least M1 n m (336 + j) _ hG1 (by omega) (by rw [en]; exact nN)) cl10 hG1.1.1 iX9_least vX9_least (iw_29 1 rfl) rfl rfl (Nat.le_of_ble_eq_true rfl) (Nat.le_of_ble_eq_true rfl) (Nat.le_of_ble_eq_true rfl) (Nat.le_of_ble_eq_true rfl) (Nat.le_of_ble_eq_true rfl) ?_
          intro r9 M9 n9 h9
          obtain ⟨h91, h92, h93⟩ := h9
          rw [h91, h92, h93]
          clear h91 h92 h93 r9 M9 n9
          rw [en]
          refine g_aload_n dX9_give_209 rfl ?_
          refine g_iload dX9_give_210 rfl ?_
          refine g_callV dX9_give_212 sX9_least (s_least M1 n m (8 * t + j) _ hG1 (by omega) (by rw [eo]; exact nO)) cl10 hG1.1.1 iX9_least vX9_least (iw_29 1 rfl) rfl rfl (Nat.le_of_ble_eq_true rfl) (Nat.le_of_ble_eq_true rfl) (Nat.le_of_ble_eq_true rfl) (Nat.le_of_ble_eq_true rfl) (Nat.le_of_ble_eq_true rfl) ?_
          intro r9 M9 n9 h9
          obtain ⟨h91, h92, h93⟩ := h9
          rw [h91, h92, h93]
          clear h91 h92 h93 r9 M9 n9
          rw [eo]
          refine g_lcmp dX9_give_215 ?_
          refine g_if_ge (tgt := 233) dX9_give_216 (by decide) (fun c_216 => ?_) (fun c_216 => ?_)
          · skip
            rw [jc_ge (r6_of r3) (r6_of r1)] at c_216
            refine g_aload_n dX9_give_233 rfl ?_
            refine g_iload dX9_give_234 rfl ?_
            refine g_callV dX9_give_236 sX9_least (s_least M1 n m (336 + j) _ hG1 (by omega) (by rw [en]; exact nN)) cl10 hG1.1.1 iX9_least vX9_least (iw_29 1 rfl) rfl rfl (Nat.le_of_ble_eq_true rfl) (Nat.le_of_ble_eq_true rfl) (Nat.le_of_ble_eq_true rfl) (Nat.le_of_ble_eq_true rfl) (Nat.le_of_ble_eq_true rfl) ?_
            intro r9 M9 n9 h9
            obtain ⟨h91, h92, h93⟩ := h9
            rw [h91, h92, h93]
            clear h91 h92 h93 r9 M9 n9
            rw [en]
            refine g_lstore dX9_give_239 (Nat.le_of_ble_eq_true rfl) ?_
            refine g_aload_n dX9_give_241 rfl ?_
            refine g_iload dX9_give_242 rfl ?_
            refine g_callV dX9_give_244 sX9_most (s_most M1 n m (336 + j) _ hG1 (by omega) (by rw [en]; exact nN)) cl10 hG1.1.1 iX9_most vX9_most (iw_28 21 rfl) rfl rfl (Nat.le_of_ble_eq_true rfl) (Nat.le_of_ble_eq_true rfl) (Nat.le_of_ble_eq_true rfl) (Nat.le_of_ble_eq_true rfl) (Nat.le_of_ble_eq_true rfl) ?_
            intro r9 M9 n9 h9
            obtain ⟨h91, h92, h93⟩ := h9
            rw [h91, h92, h93]
            clear h91 h92 h93 r9 M9 n9
            rw [en]
            refine g_aload_n dX9_give_247 rfl ?_
            refine g_iload dX9_give_248 rfl ?_
            refine g_callV dX9_give_250 sX9_most (s_most M1 n m (8 * t + j) _ hG1 (by omega) (by rw [eo]; exact nO)) cl10 hG1.1.1 iX9_most vX9_most (iw_28 21 rfl) rfl rfl (Nat.le_of_ble_eq_true rfl) (Nat.le_of_ble_eq_true rfl) (Nat.le_of_ble_eq_true rfl) (Nat.le_of_ble_eq_true rfl) (Nat.le_of_ble_eq_true rfl) ?_
            intro r9 M9 n9 h9
            obtain ⟨h91, h92, h93⟩ := h9
            rw [h91, h92, h93]
            clear h91 h92 h93 r9 M9 n9
            rw [eo]
            refine g_lcmp dX9_give_253 ?_
            refine g_if_le (tgt := 271) dX9_give_254 (by decide) (fun c_254 => ?_) (fun c_254 => ?_)
            · skip
              refine g_aload_n dX9_give_271 rfl ?_
              refine g_iload dX9_give_272 rfl ?_
              refine g_callV dX9_give_274 sX9_most (s_most M1 n m (336 + j) _ hG1 (by omega) (by rw [en]; exact nN)) cl10 hG1.1.1 iX9_most vX9_most (iw_28 21 rfl) rfl rfl (Nat.le_of_ble_eq_true rfl) (Nat.le_of_ble_eq_true rfl) (Nat.le_of_ble_eq_true rfl) (Nat.le_of_ble_eq_true rfl) (Nat.le_of_ble_eq_true rfl) ?_
              intro r9 M9 n9 h9
              obtain ⟨h91, h92, h93⟩ := h9
              rw [h91, h92, h93]
              clear h91 h92 h93 r9 M9 n9
              rw [en]
              refine g_lstore dX9_give_277 (Nat.le_of_ble_eq_true rfl) ?_
              rw [jc_le (r6_of r4) (r6_of r2)] at c_254
              refine p_gv279 ht hP hF hN (by omega) c_189 c_200 hO hG1 hI (by first | rw [if_pos (by omega)] | rw [if_neg (by omega)]) (by first | rw [if_pos (by omega)] | rw [if_neg (by omega)]) (fun M2 hO2 hG2 hI2 => ?_)
              refine g_iinc dX9_give_307 rfl (nI_1 j) (Nat.le_of_ble_eq_true rfl) ?_
              refine g_goto (tgt := 164) dX9_give_310 (by decide) ?_
              exact ih (j + 1) M2 (by omega) (by omega) hO2 hG2 hI2
            · skip
              refine g_aload_n dX9_give_257 rfl ?_
              refine g_aload_n dX9_give_258 rfl ?_
              refine g_iload dX9_give_259 rfl ?_
              refine g_callV dX9_give_261 sX9_most (s_most M1 n m (336 + j) _ hG1 (by omega) (by rw [en]; exact nN)) cl10 hG1.1.1 iX9_most vX9_most (iw_28 21 rfl) rfl rfl (Nat.le_of_ble_eq_true rfl) (Nat.le_of_ble_eq_true rfl) (Nat.le_of_ble_eq_true rfl) (Nat.le_of_ble_eq_true rfl) (Nat.le_of_ble_eq_true rfl) ?_
              intro r9 M9 n9 h9
              obtain ⟨h91, h92, h93⟩ := h9
              rw [h91, h92, h93]
              clear h91 h92 h93 r9 M9 n9
              rw [en]
              refine g_iconst (v := nI 1) dX9_give_264 rfl ?_
              refine g_callV dX9_give_265 sX9_next (m_next M1 n m P (hi1 (S (336 + j))) true hG1.1 hP1 (r6_of r4)) cl10 hG1.1.1 iX9_next vX9_next (iw_30 13 rfl) rfl rfl (Nat.le_of_ble_eq_true rfl) (Nat.le_of_ble_eq_true rfl) (Nat.le_of_ble_eq_true rfl) (Nat.le_of_ble_eq_true rfl) (Nat.le_of_ble_eq_true rfl) ?_
              intro r9 M9 n9 h9
              obtain ⟨h91, h92, h93⟩ := h9
              rw [h91, h92, h93]
              clear h91 h92 h93 r9 M9 n9
              refine g_goto (tgt := 277) dX9_give_268 (by decide) ?_
              refine g_lstore dX9_give_277 (Nat.le_of_ble_eq_true rfl) ?_
              rw [jc_le (r6_of r4) (r6_of r2)] at c_254
              refine p_gv279 ht hP hF hN (by omega) c_189 c_200 hO hG1 hI (by first | rw [if_pos (by omega)] | rw [if_neg (by omega)]) (by first | rw [if_pos (by omega)] | rw [if_neg (by omega)]) (fun M2 hO2 hG2 hI2 => ?_)
              refine g_iinc dX9_give_307 rfl (nI_1 j) (Nat.le_of_ble_eq_true rfl) ?_
              refine g_goto (tgt := 164) dX9_give_310 (by decide) ?_
              exact ih (j + 1) M2 (by omega) (by omega) hO2 hG2 hI2
          · skip
            rw [jc_ge (r6_of r3) (r6_of r1)] at c_216
            refine g_aload_n dX9_give_219 rfl ?_
            refine g_aload_n dX9_give_220 rfl ?_
            refine g_iload dX9_give_221 rfl ?_
            refine g_callV dX9_give_223 sX9_least (s_least M1 n m (336 + j) _ hG1 (by omega) (by rw [en]; exact nN)) cl10 hG1.1.1 iX9_least vX9_least (iw_29 1 rfl) rfl rfl (Nat.le_of_ble_eq_true rfl) (Nat.le_of_ble_eq_true rfl) (Nat.le_of_ble_eq_true rfl) (Nat.le_of_ble_eq_true rfl) (Nat.le_of_ble_eq_true rfl) ?_
            intro r9 M9 n9 h9
            obtain ⟨h91, h92, h93⟩ := h9
            rw [h91, h92, h93]
            clear h91 h92 h93 r9 M9 n9
            rw [en]
            refine g_iconst (v := nI 0) dX9_give_226 rfl ?_
            refine g_callV dX9_give_227 sX9_next (m_next M1 n m P (lo1 (S (336 + j))) false hG1.1 hP1 (r6_of r3)) cl10 hG1.1.1 iX9_next vX9_next (iw_30 13 rfl) rfl rfl (Nat.le_of_ble_eq_true rfl) (Nat.le_of_ble_eq_true rfl) (Nat.le_of_ble_eq_true rfl) (Nat.le_of_ble_eq_true rfl) (Nat.le_of_ble_eq_true rfl) ?_
            intro r9 M9 n9 h9
            obtain ⟨h91, h92, h93⟩ := h9
            rw [h91, h92, h93]
            clear h91 h92 h93 r9 M9 n9
            refine g_goto (tgt := 239) dX9_give_230 (by decide) ?_
            refine g_lstore dX9_give_239 (Nat.le_of_ble_eq_true rfl) ?_
            refine g_aload_n dX9_give_241 rfl ?_
            refine g_iload dX9_give_242 rfl ?_
            refine g_callV dX9_give_244 sX9_most (s_most M1 n m (336 + j) _ hG1 (by omega) (by rw [en]; exact nN)) cl10 hG1.1.1 iX9_most vX9_most (iw_28 21 rfl) rfl rfl (Nat.le_of_ble_eq_true rfl) (Nat.le_of_ble_eq_true rfl) (Nat.le_of_ble_eq_true rfl) (Nat.le_of_ble_eq_true rfl) (Nat.le_of_ble_eq_true rfl) ?_
            intro r9 M9 n9 h9
            obtain ⟨h91, h92, h93⟩ := h9
            rw [h91, h92, h93]
            clear h91 h92 h93 r9 M9 n9
            rw [en]
            refine g_aload_n dX9_give_247 rfl ?_
            refine g_iload dX9_give_248 rfl ?_
            refine g_callV dX9_give_250 sX9_most (s_most M1 n m (8 * t + j) _ hG1 (by omega) (by rw [eo]; exact nO)) cl10 hG1.1.1 iX9_most vX9_most (iw_28 21 rfl) rfl rfl (Nat.le_of_ble_eq_true rfl) (Nat.le_of_ble_eq_true rfl) (Nat.le_of_ble_eq_true rfl) (Nat.le_of_ble_eq_true rfl) (Nat.le_of_ble_eq_true rfl) ?_
            intro r9 M9 n9 h9
            obtain ⟨h91, h92, h93⟩ := h9
            rw [h91, h92, h93]
            clear h91 h92 h93 r9 M9 n9
            rw [eo]
            refine g_lcmp dX9_give_253 ?_
            refine g_if_le (tgt := 271) dX9_give_254 (by decide) (fun c_254 => ?_) (fun c_254 => ?_)
            · skip
              refine g_aload_n dX9_give_271 rfl ?_
              refine g_iload dX9_give_272 rfl ?_
              refine g_callV dX9_give_274 sX9_most (s_most M1 n m (336 + j) _ hG1 (by omega) (by rw [en]; exact nN)) cl10 hG1.1.1 iX9_most vX9_most (iw_28 21 rfl) rfl rfl (Nat.le_of_ble_eq_true rfl) (Nat.le_of_ble_eq_true rfl) (Nat.le_of_ble_eq_true rfl) (Nat.le_of_ble_eq_true rfl) (Nat.le_of_ble_eq_true rfl) ?_
              intro r9 M9 n9 h9
              obtain ⟨h91, h92, h93⟩ := h9
              rw [h91, h92, h93]
              clear h91 h92 h93 r9 M9 n9
              rw [en]
              refine g_lstore dX9_give_277 (Nat.le_of_ble_eq_true rfl) ?_
              rw [jc_le (r6_of r4) (r6_of r2)] at c_254
              refine p_gv279 ht hP hF hN (by omega) c_189 c_200 hO hG1 hI (by first | rw [if_pos (by omega)] | rw [if_neg (by omega)]) (by first | rw [if_pos (by omega)] | rw [if_neg (by omega)]) (fun M2 hO2 hG2 hI2 => ?_)
              refine g_iinc dX9_give_307 rfl (nI_1 j) (Nat.le_of_ble_eq_true rfl) ?_
              refine g_goto (tgt := 164) dX9_give_310 (by decide) ?_
              exact ih (j + 1) M2 (by omega) (by omega) hO2 hG2 hI2
            · skip
              refine g_aload_n dX9_give_257 rfl ?_
              refine g_aload_n dX9_give_258 rfl ?_
              refine g_iload dX9_give_259 rfl ?_
              refine g_callV dX9_give_261 sX9_most (s_most M1 n m (336 + j) _ hG1 (by omega) (by rw [en]; exact nN)) cl10 hG1.1.1 iX9_most vX9_most (iw_28 21 rfl) rfl rfl (Nat.le_of_ble_eq_true rfl) (Nat.le_of_ble_eq_true rfl) (Nat.le_of_ble_eq_true rfl) (Nat.le_of_ble_eq_true rfl) (Nat.le_of_ble_eq_true rfl) ?_
              intro r9 M9 n9 h9
              obtain ⟨h91, h92, h93⟩ := h9
              rw [h91, h92, h93]
              clear h91 h92 h93 r9 M9 n9
              rw [en]
              refine g_iconst (v := nI 1) dX9_give_264 rfl ?_
              refine g_callV dX9_give_265 sX9_next (m_next M1 n m P (hi1 (S (336 + j))) true hG1.1 hP1 (r6_of r4)) cl10 hG1.1.1 iX9_next vX9_next (iw_30 13 rfl) rfl rfl (Nat.le_of_ble_eq_true rfl) (Nat.le_of_ble_eq_true rfl) (Nat.le_of_ble_eq_true rfl) (Nat.le_of_ble_eq_true rfl) (Nat.le_of_ble_eq_true rfl) ?_
              intro r9 M9 n9 h9
              obtain ⟨h91, h92, h93⟩ := h9
              rw [h91, h92, h93]
              clear h91 h92 h93 r9 M9 n9
              refine g_goto (tgt := 277) dX9_give_268 (by decide) ?_
              refine g_lstore dX9_give_277 (Nat.le_of_ble_eq_true rfl) ?_
              rw [jc_le (r6_of r4) (r6_of r2)] at c_254
              refine p_gv279 ht hP hF hN (by omega) c_189 c_200 hO hG1 hI (by first | rw [if_pos (by omega)] | rw [if_neg (by omega)]) (by first | rw [if_pos (by omega)] | rw [if_neg (by omega)]) (fun M2 hO2 hG2 hI2 => ?_)
              refine g_iinc dX9_give_307 rfl (nI_1 j) (Nat.le_of_ble_eq_true rfl) ?_
              refine g_goto (tgt := 164) dX9_give_310 (by decide) ?_
              exact ih (j + 1) M2 (by omega) (by omega) hO2 hG2 hI2

set_option maxHeartbeats 4000000 in
set_option maxRecDepth 100000 in
theorem p_gv161 {M M1 : gM} {n m t : Nat} {S : Nat → List Sp} {P : List St} {A : RA} (hG : rS M m S) (hP : rP M m P) (hA : rA M m A S) (ht : t < P.length) (hF : ∀ p, p < 8 → S (8 * t + p) ≠ []) (hC : aC A t < 2000000000) (hR : aR A t = true) (hch : chK (fun p => S (8 * t + p)) (fun p => S (328 + p)) 8 = true) (hO : Off M M1 (fG m)) (hG1 : rS M1 m (jnS S t 8)) (h9 : ∀ u, u < 40 → mI M1 (m + 9) u = bI (aR A u)) (h10 : ∀ u, u < 40 → mI M1 (m + 10) u = nI (up1 (aC A) t (aC A t + 1) u)) (h14 : mI M1 m 14 = nI (aW A)) {w : Int32} (hw : w = bI (isHd P t && decide (4 ≤ aC A t + 1))) : GW μX9_give (gRm 4 97 0 0) (gTh (fun r M1 n1 => r = some (.int (bI (giveB P A t (cut8 (fun p => S (328 + p)))).2)) ∧ n1 = n ∧ Off M M1 (fG m) ∧ ∃ S1, rS M1 m S1 ∧ rA M1 m (giveB P A t (cut8 (fun p => S (328 + p)))).1 S1 ∧ agr S S1 (fun u => u < 320 ∨ (336 ≤ u ∧ u < 344))) 0 0) 0 0 161 [some (.ref m), some (.int (nI t)), none, some (.int w), none, none, none, none, none, none, none] [] M1 n := by
  refine g_iconst (v := nI 0) dX9_give_161 rfl ?_
  refine g_istore dX9_give_162 (Nat.le_of_ble_eq_true rfl) ?_
  subst hw
  have l40 := hP.2.1
  have eF : ∀ p, p < 8 → S (8 * t + p) = aF A t p := fun p hp => hA.2.2.2 t (by omega) hR p hp
  have hP1 : rP M1 m P := hP.offG hO
  have eG : (giveB P A t (cut8 (fun p => S (328 + p)))) = ((aR A, up1 (aF A) t (cut8 (fun p => grw P (isHd P t && decide (4 ≤ aC A t + 1)) (aF A t p) (jn (aF A t) (cut8 (fun p => S (328 + p))) p))), up1 (aC A) t (aC A t + 1), aW A + cwK (isHd P t && decide (4 ≤ aC A t + 1)) (aF A t) (jn (aF A t) (cut8 (fun p => S (328 + p)))) 8), true) := by
    unfold giveB
    rw [if_neg (by omega), if_neg (by rw [hR]; decide), if_neg]
    rw [← chK_congr (F := aF A t) (G := cut8 (fun p => S (328 + p))) eF (fun p hp => (cut8_lt hp).symm) 8 (Nat.le_refl _), hch]
    decide
  have eN : ∀ p, p < 8 → jnS S t 8 (336 + p) = jn (aF A t) (cut8 (fun p => S (328 + p))) p := fun p hp => by rw [jnS_at hp, eF p hp]; unfold jn; rw [cut8_lt hp]
  have eO : ∀ p, p < 8 → jnS S t 8 (8 * t + p) = aF A t p := fun p hp => by rw [jnS_lo (by omega) (by omega)]; exact eF p hp
  refine l_gv164 (P := P) (S := jnS S t 8) (w := aW A) (by omega) hP1 (fun p hp => by rw [eO p hp, ← eF p hp]; exact hF p hp) (fun p hp => by rw [eN p hp]; exact jn_ne (by rw [← eF p hp]; exact hG.ok _) (by rw [cut8_lt hp]; exact hG.ok _) (by rw [← eF p hp]; exact hF p hp)) (fun M2 hO2 hG2 hI2 => ?_) 9 0 M1 (by omega) (by omega) Off.rf (by rw [grS_0]; exact hG1) (by rw [h14]; rfl)
  refine g_iconst (v := nI 1) dX9_give_313 rfl ?_
  refine g_iret dX9_give_314 (Or.inr ⟨rfl, Or.inr rfl⟩) (Nat.le_of_ble_eq_true rfl) (Nat.le_of_ble_eq_true rfl) ⟨by rw [eG]; rfl, rfl, hO.trans (hO2.mono (fun i k h => fW_G h)), _, hG2, ?_, fun u hu => ?_⟩
  · rw [eG]
    refine ⟨fun u hu => (hO2.i (by unfold fW fA; omega)).trans (h9 u hu), fun u hu => (hO2.i (by unfold fW fA; omega)).trans (h10 u hu), ?_, fun u hu hr p hp => ?_⟩
    · rw [hI2, cwK_congr (F := aF A t) (N := jn (aF A t) (cut8 (fun p => S (328 + p)))) eO eN 8 (Nat.le_refl _)]; rfl
    · show _ = up1 (aF A) t _ u p
      by_cases e : u = t
      · subst e
        rw [up1_eq, cut8_lt hp, ← eO p hp, ← eN p hp]
        unfold grS
        rw [if_pos (by omega), show 8 * u + p - 8 * u = p by omega]
      · rw [up1_ne _ _ e, grS_out (by omega) (by omega), jnS_lo (by omega) (by omega)]
        exact hA.2.2.2 u hu hr p hp
  · rw [grS_out (by omega) (by omega), jnS_lo (by omega) (by omega)]

set_option maxHeartbeats 4000000 in
set_option maxRecDepth 100000 in
theorem p_gv57 {M : gM} {n m t : Nat} {S : Nat → List Sp} {P : List St} {A : RA} (hG : rS M m S) (hP : rP M m P) (hA : rA M m A S) (ht : t < P.length) (hF : ∀ p, p < 8 → S (8 * t + p) ≠ []) (hC : aC A t < 2000000000) (hR : aR A t = true) : GW μX9_give (gRm 4 97 0 0) (gTh (fun r M1 n1 => r = some (.int (bI (giveB P A t (cut8 (fun p => S (328 + p)))).2)) ∧ n1 = n ∧ Off M M1 (fG m) ∧ ∃ S1, rS M1 m S1 ∧ rA M1 m (giveB P A t (cut8 (fun p => S (328 + p)))).1 S1 ∧ agr S S1 (fun u => u < 320 ∨ (336 ≤ u ∧ u < 344))) 0 0) 0 0 57 [some (.ref m), some (.int (nI t)), none, none, none, none, none, none, none, none, none] [] M n := by
  refine g_iconst (v := nI 0) dX9_give_57 rfl ?_
  refine g_istore_n dX9_give_58 (Nat.le_of_ble_eq_true rfl) ?_
  refine g_iconst (v := nI 0) dX9_give_59 rfl ?_
  refine g_istore_n dX9_give_60 (Nat.le_of_ble_eq_true rfl) ?_
  have l40 := hP.2.1
  have eF : ∀ p, p < 8 → S (8 * t + p) = aF A t p := fun p hp => hA.2.2.2 t (by omega) hR p hp
  have ec := chK_congr (F := aF A t) (G := cut8 (fun p => S (328 + p))) eF (fun p hp => (cut8_lt (G := fun p => S (328 + p)) hp).symm) 8 (Nat.le_refl _)
  refine l_gv61 (S := S) (by omega) (fun M1 hO1 hG1 => ?_) 9 0 M (by omega) (by omega) Off.rf (by rw [jnS_0]; exact hG)
  refine g_iload_n dX9_give_121 rfl ?_
  refine g_if_ne (tgt := 127) dX9_give_122 (by decide) (fun c_122 => ?_) (fun c_122 => ?_)
  · skip
    rw [bI_eq0, Bool.not_eq_false] at c_122
    refine g_aload_n dX9_give_127 rfl ?_
    refine g_getR (f := 16) dX9_give_128 cl10 hG1.1.1 (by decide) (Or.inl (iw_6 6 rfl)) (Or.inl rfl) rfl hG1.1.r_changes ?_
    refine g_iload_n dX9_give_131 rfl ?_
    refine g_dup2 dX9_give_132 rfl rfl ?_
    refine g_iaload dX9_give_133 (j := t) hG1.1.k_changes hG1.1.n_changes rfl (by omega) (by decide) ?_
    rw [show mI M1 (m + 10) t = nI (aC A t) from (hO1.i (by unfold fA; omega)).trans (hA.2.1 t (by omega))]
    refine g_iconst (v := nI 1) dX9_give_134 rfl ?_
    refine g_iadd dX9_give_135 ?_
    rw [nI_add]
    refine g_iastore dX9_give_136 (j := t) hG1.1.k_changes hG1.1.n_changes rfl (by omega) (by decide) ?_
    have hO2 : Off M (stI M1 (m + 10) t (nI (aC A t + 1))) (fG m) := (hO1.mono (fun i k h => Or.inl h)).stI (Or.inr (Or.inr (Or.inr rfl)))
    have hG2 : rS (stI M1 (m + 10) t (nI (aC A t + 1))) m (jnS S t 8) := hG1.offI (Q := fun i k => i = m + 10) (Off.rf.stI rfl) (fun i k h => by unfold fA; omega)
    have h9 : ∀ u, u < 40 → mI (stI M1 (m + 10) t (nI (aC A t + 1))) (m + 9) u = bI (aR A u) := fun u hu => by
      rw [mI_st, if_neg (by omega), hO1.i (by unfold fA; omega)]; exact hA.1 u hu
    have h10 : ∀ u, u < 40 → mI (stI M1 (m + 10) t (nI (aC A t + 1))) (m + 10) u = nI (up1 (aC A) t (aC A t + 1) u) := fun u hu => by
      rw [mI_st]
      by_cases e : u = t
      · subst e; rw [if_pos ⟨rfl, rfl⟩, up1_eq]
      · rw [if_neg (by omega), up1_ne _ _ e, hO1.i (by unfold fA; omega)]; exact hA.2.1 u hu
    have h14 : mI (stI M1 (m + 10) t (nI (aC A t + 1))) m 14 = nI (aW A) := by
      rw [mI_st, if_neg (by omega), hO1.i (by unfold fA; omega)]; exact hA.2.2.1
    have hP2 : rP (stI M1 (m + 10) t (nI (aC A t + 1))) m P := hP.offG hO2
    generalize stI M1 (m + 10) t (nI (aC A t + 1)) = M2 at hO2 hG2 h9 h10 h14 hP2 ⊢
    refine g_aload_n dX9_give_137 rfl ?_
    refine g_iload_n dX9_give_138 rfl ?_
    refine g_callV dX9_give_139 sX9_isHead (m_isHead M2 n m t P hG2.1 hP2 (by omega)) cl10 hG2.1.1 iX9_isHead vX9_isHead (iw_30 9 rfl) rfl rfl (Nat.le_of_ble_eq_true rfl) (Nat.le_of_ble_eq_true rfl) (Nat.le_of_ble_eq_true rfl) (Nat.le_of_ble_eq_true rfl) (Nat.le_of_ble_eq_true rfl) ?_
    intro r9 M9 n9 h9
    obtain ⟨h91, h92, h93⟩ := h9
    rw [h91, h92, h93]
    clear h91 h92 h93 r9 M9 n9
    refine g_if_eq (tgt := 159) dX9_give_142 (by decide) (fun c_142 => ?_) (fun c_142 => ?_)
    · skip
      try rw [bI_eq0] at c_142
      try rw [nI_ltI (by omega) (by omega)] at c_152
      refine g_iconst (v := nI 0) dX9_give_159 rfl ?_
      refine g_istore_n dX9_give_160 (Nat.le_of_ble_eq_true rfl) ?_
      refine g_drop 2 ?_
      exact p_gv161 hG hP hA ht hF hC hR c_122 hO2 hG2 h9 h10 h14 (by first | (rw [c_142, decide_eq_true (by omega)]; rfl) | (rw [c_142, Bool.false_and]; rfl) | (rw [c_142, decide_eq_false (by omega)]; rfl))
    · skip
      rw [bI_eq0, Bool.not_eq_false] at c_142
      refine g_aload_n dX9_give_145 rfl ?_
      refine g_getR (f := 16) dX9_give_146 cl10 hG2.1.1 (by decide) (Or.inl (iw_6 6 rfl)) (Or.inl rfl) rfl hG2.1.r_changes ?_
      refine g_iload_n dX9_give_149 rfl ?_
      refine g_iaload dX9_give_150 (j := t) hG2.1.k_changes hG2.1.n_changes rfl (by omega) (by decide) ?_
      rw [h10 t (by omega), up1_eq]
      refine g_iconst (v := nI 4) dX9_give_151 rfl ?_
      refine g_icmp_lt (tgt := 159) dX9_give_152 (by decide) (fun c_152 => ?_) (fun c_152 => ?_)
      · skip
        try rw [bI_eq0] at c_142
        try rw [nI_ltI (by omega) (by omega)] at c_152
        refine g_iconst (v := nI 0) dX9_give_159 rfl ?_
        refine g_istore_n dX9_give_160 (Nat.le_of_ble_eq_true rfl) ?_
        refine g_drop 2 ?_
        exact p_gv161 hG hP hA ht hF hC hR c_122 hO2 hG2 h9 h10 h14 (by first | (rw [c_142, decide_eq_true (by omega)]; rfl) | (rw [c_142, Bool.false_and]; rfl) | (rw [c_142, decide_eq_false (by omega)]; rfl))
      · skip
        rw [nI_ltI (by omega) (by omega)] at c_152
        refine g_iconst (v := nI 1) dX9_give_155 rfl ?_
        refine g_goto (tgt := 160) dX9_give_156 (by decide) ?_
        refine g_istore_n dX9_give_160 (Nat.le_of_ble_eq_true rfl) ?_
        refine g_drop 2 ?_
        exact p_gv161 hG hP hA ht hF hC hR c_122 hO2 hG2 h9 h10 h14 (by first | (rw [c_142, decide_eq_true (by omega)]; rfl) | (rw [c_142, Bool.false_and]; rfl) | (rw [c_142, decide_eq_false (by omega)]; rfl))
  · skip
    skip
    refine g_iconst (v := nI 0) dX9_give_125 rfl ?_
    exact g_iret dX9_give_126 (Or.inr ⟨rfl, by first | exact Or.inl rfl | exact Or.inr rfl⟩) (Nat.le_of_ble_eq_true rfl) (Nat.le_of_ble_eq_true rfl) (by
      rw [bI_eq0] at c_122
      have eG : (giveB P A t (cut8 (fun p => S (328 + p)))) = (A, false) := by
        unfold giveB
        rw [if_neg (by omega), if_neg (by rw [hR]; decide), if_pos]
        rw [← ec, c_122]
      exact ⟨by rw [eG]; rfl, rfl, hO1.mono (fun i k h => Or.inl h), _, hG1, by rw [eG]; exact (hA.off hO1).agr (Q := fun u => 336 ≤ u ∧ u < 344) (fun u hu => jnS_lo (by omega) (by omega)) (fun u hu => by omega), fun u hu => jnS_lo (by omega) (by omega)⟩)

set_option maxHeartbeats 4000000 in
set_option maxRecDepth 100000 in
theorem s_give (M : gM) (n m t : Nat) (S : Nat → List Sp) (P : List St) (A : RA) (hG : rS M m S) (hP : rP M m P) (hA : rA M m A S) (ht : t ≤ 40) (hF : t < P.length → aR A t = true → ∀ p, p < 8 → aF A t p ≠ []) (hC : aC A t < 2000000000) : GM μX9_give 4 97 0 0 [.ref m, .int (nI t)] M n (fun r M1 n1 => r = some (.int (bI (giveB P A t (cut8 (fun p => S (328 + p)))).2)) ∧ n1 = n ∧ Off M M1 (fG m) ∧ ∃ S1, rS M1 m S1 ∧ rA M1 m (giveB P A t (cut8 (fun p => S (328 + p)))).1 S1 ∧ agr S S1 (fun u => u < 320 ∨ (336 ≤ u ∧ u < 344))) := by
  refine GM.ofW (by decide) rfl (Nat.le_of_ble_eq_true rfl) rfl ?_
  have l40 := hP.2.1
  refine g_iload_n dX9_give_0 rfl ?_
  refine g_aload_n dX9_give_1 rfl ?_
  refine g_getI (f := 6) dX9_give_2 cl10 hG.1.1 (by decide) (Or.inl (iw_12 20 rfl)) (Or.inl rfl) (Or.inl rfl) ?_
  rw [hP.1]
  refine g_icmp_lt (tgt := 10) dX9_give_5 (by decide) (fun c_5 => ?_) (fun c_5 => ?_)
  · skip
    rw [nI_ltI (by omega) (by omega)] at c_5
    refine g_aload_n dX9_give_10 rfl ?_
    refine g_getR (f := 12) dX9_give_11 cl10 hG.1.1 (by decide) (Or.inl (iw_6 5 rfl)) (Or.inl rfl) rfl hG.1.r_reached ?_
    refine g_iload_n dX9_give_14 rfl ?_
    refine g_baload dX9_give_15 (j := t) hG.1.k_reached hG.1.n_reached rfl (by omega) (by decide) ?_
    rw [hA.1 t (by omega)]
    refine g_if_ne (tgt := 57) dX9_give_16 (by decide) (fun c_16 => ?_) (fun c_16 => ?_)
    · skip
      rw [bI_eq0, Bool.not_eq_false] at c_16
      exact p_gv57 hG hP hA c_5 (fun p hp => by rw [hA.2.2.2 t (by omega) c_16 p hp]; exact hF c_5 c_16 p hp) hC c_16
    · skip
      rw [bI_eq0] at c_16
      refine g_aload_n dX9_give_19 rfl ?_
      refine g_getR (f := 12) dX9_give_20 cl10 hG.1.1 (by decide) (Or.inl (iw_6 5 rfl)) (Or.inl rfl) rfl hG.1.r_reached ?_
      refine g_iload_n dX9_give_23 rfl ?_
      refine g_iconst (v := nI 1) dX9_give_24 rfl ?_
      refine g_bastore dX9_give_25 (j := t) hG.1.k_reached hG.1.n_reached rfl (by omega) (by decide) (Or.inr rfl) ?_
      refine g_iconst (v := nI 0) dX9_give_26 rfl ?_
      refine g_istore_n dX9_give_27 (Nat.le_of_ble_eq_true rfl) ?_
      have hO1 : Off M (stI M (m + 9) t (nI 1)) (fun i k => i = m + 9) := Off.rf.stI rfl
      have hG1 : rS (stI M (m + 9) t (nI 1)) m S := hG.offI hO1 (fun i k h => by unfold fA; omega)
      have h9 : ∀ u, u < 40 → mI (stI M (m + 9) t (nI 1)) (m + 9) u = bI (up1 (aR A) t true u) := fun u hu => by
        rw [mI_st]
        by_cases e : u = t
        · subst e; rw [if_pos ⟨rfl, rfl⟩, up1_eq]; rfl
        · rw [if_neg (by omega), up1_ne _ _ e]; exact hA.1 u hu
      have h10 : ∀ u, u < 40 → mI (stI M (m + 9) t (nI 1)) (m + 10) u = nI (aC A u) := fun u hu => by
        rw [mI_st, if_neg (by omega)]; exact hA.2.1 u hu
      have h14 : mI (stI M (m + 9) t (nI 1)) m 14 = nI (aW A) := by
        rw [mI_st, if_neg (by omega)]; exact hA.2.2.1
      generalize stI M (m + 9) t (nI 1) = M1 at hO1 hG1 h9 h10 h14 ⊢
      refine l_gv28 (S := S) (by omega) (fun M2 hO2 hG2 => ?_) 9 0 M1 (by omega) (by omega) Off.rf (by rw [blk_0]; exact hG1)
      have eG : (giveB P A t (cut8 (fun p => S (328 + p)))) = ((up1 (aR A) t true, up1 (aF A) t (cut8 (fun p => S (328 + p))), aC A, aW A), true) := by
        unfold giveB
        rw [if_neg (by omega), if_pos c_16]
      refine g_iconst (v := nI 1) dX9_give_55 rfl ?_
      refine g_iret dX9_give_56 (Or.inr ⟨rfl, Or.inr rfl⟩) (Nat.le_of_ble_eq_true rfl) (Nat.le_of_ble_eq_true rfl) ⟨by rw [eG]; rfl, rfl, (hO1.mono (fun i k h => Or.inr (Or.inr (Or.inl h)))).trans (hO2.mono (fun i k h => Or.inl h)), _, hG2, ?_, fun u hu => ?_⟩
      · rw [eG]
        refine ⟨fun u hu => (hO2.i (by unfold fA; omega)).trans (h9 u hu), fun u hu => (hO2.i (by unfold fA; omega)).trans (h10 u hu), (hO2.i (by unfold fA; omega)).trans h14, fun u hu hr p hp => ?_⟩
        show _ = up1 (aF A) t _ u p
        by_cases e : u = t
        · subst e
          rw [up1_eq, cut8_lt hp]
          unfold blk
          rw [if_pos (by omega), show 8 * u + p - 8 * u = p by omega]
        · rw [up1_ne _ _ e]
          unfold blk
          rw [if_neg (by omega)]
          exact hA.2.2.2 u hu (by have h9 : up1 (aR A) t true u = true := hr; rw [up1_ne _ _ e] at h9; exact h9) p hp
      · unfold blk
        rw [if_neg (by omega)]
  · skip
    rw [nI_ltI (by omega) (by omega)] at c_5
    refine g_iconst (v := nI 0) dX9_give_8 rfl ?_
    exact g_iret dX9_give_9 (Or.inr ⟨rfl, by first | exact Or.inl rfl | exact Or.inr rfl⟩) (Nat.le_of_ble_eq_true rfl) (Nat.le_of_ble_eq_true rfl) (by
      have eG : (giveB P A t (cut8 (fun p => S (328 + p)))) = (A, false) := by
        unfold giveB
        rw [if_pos (by omega)]
      exact ⟨by rw [eG]; rfl, rfl, Off.rf, _, hG, by rw [eG]; exact hA, fun u hu => rfl⟩)

