/-! the reference: meet -/
theorem rA.store {M : gM} {m : Nat} {A A1 : RA} {S S1 : Nat → List Sp} (h : rA M m A S) (hR : aR A1 = aR A) (hC : aC A1 = aC A) (hW : aW A1 = aW A) (hF : ∀ t, t < 40 → aR A t = true → ∀ p, p < 8 → S1 (8 * t + p) = aF A1 t p) : rA M m A1 S1 := by
  refine ⟨fun t ht => by rw [hR]; exact h.1 t ht, fun t ht => by rw [hC]; exact h.2.1 t ht, by rw [hW]; exact h.2.2.1, fun t ht hr p hp => hF t ht (by rw [← hR]; exact hr) p hp⟩
set_option maxHeartbeats 4000000 in
set_option maxRecDepth 100000 in
theorem l_me2 {M : gM} {n m s ct : Nat} {st : Bool} {S : Nat → List Sp} {Q : gθ} (hs : s < 40) (hst : st = true) (hk : ∀ (M1 : gM), Off M M1 (fA m) → rS M1 m (blk S (8 * s) 336 8) → GW μX9_meet (gRm 4 99 0 0) Q 0 0 142 [some (.ref m), some (.int (nI s)), some (.int (bI st)), some (.int (nI (ct))), none] [] M1 n) : ∀ (d : Nat) (j : Nat) (M1 : gM), 8 - j < d → j ≤ 8 → Off M M1 (fA m) → rS M1 m (blk S (8 * s) 336 j) → GW μX9_meet (gRm 4 99 0 0) Q 0 0 108 [some (.ref m), some (.int (nI s)), some (.int (bI st)), some (.int (nI (ct))), some (.int (nI (j)))] [] M1 n := by
  intro d
  induction d with
  | zero =>
    intro j M1 hd hj hO hG1
    omega
  | succ d ih =>
    intro j M1 hd hj hO hG1
    refine g_iload dX9_meet_108 rfl ?_
    refine g_bipush (v := nI 8) dX9_meet_110 rfl ?_
    refine g_icmp_ge (tgt := 142) dX9_meet_112 (by decide) (fun c_112 => ?_) (fun c_112 => ?_)
    · skip
      rw [nI_leI (by omega) (by omega)] at c_112
      have e8 : j = 8 := by omega
      subst e8
      refine g_drop 4 ?_
      exact hk M1 hO hG1
    · skip
      rw [nI_leI (by omega) (by omega)] at c_112
      refine g_iload_n dX9_meet_115 rfl ?_
      refine g_if_eq (tgt := 142) dX9_meet_116 (by decide) (fun c_116 => ?_) (fun c_116 => ?_)
      · skip
        exfalso; rw [hst] at c_116; exact absurd c_116 (by decide)
      · skip
        refine g_aload_n dX9_meet_119 rfl ?_
        refine g_aload_n dX9_meet_120 rfl ?_
        refine g_iload_n dX9_meet_121 rfl ?_
        refine g_iload dX9_meet_122 rfl ?_
        refine g_callV dX9_meet_124 sX9_fact (m_fact M1 n m s j) cl10 hG1.1.1 iX9_fact vX9_fact (iw_24 23 rfl) rfl rfl (Nat.le_of_ble_eq_true rfl) (Nat.le_of_ble_eq_true rfl) (Nat.le_of_ble_eq_true rfl) (Nat.le_of_ble_eq_true rfl) (Nat.le_of_ble_eq_true rfl) ?_
        intro r9 M9 n9 h9
        obtain ⟨h91, h92, h93⟩ := h9
        rw [h91, h92, h93]
        clear h91 h92 h93 r9 M9 n9
        refine g_sipush (v := nI 336) dX9_meet_127 rfl ?_
        refine g_iload dX9_meet_130 rfl ?_
        refine g_iadd dX9_meet_132 ?_
        rw [nI_add]
        refine g_callV dX9_meet_133 sX9_copy (s_copy M1 n m (8 * s + j) (336 + j) _ hG1 (by omega) (by omega)) cl10 hG1.1.1 iX9_copy vX9_copy (iw_25 3 rfl) rfl rfl (Nat.le_of_ble_eq_true rfl) (Nat.le_of_ble_eq_true rfl) (Nat.le_of_ble_eq_true rfl) (Nat.le_of_ble_eq_true rfl) (Nat.le_of_ble_eq_true rfl) ?_
        intro r9 M2 n9 h9
        obtain ⟨h91, h93, hO2, hG2⟩ := h9
        rw [h91, h93]
        clear h91 h93 r9 n9
        rw [blk_1 (by omega)] at hG2
        refine g_iinc dX9_meet_136 rfl (nI_1 j) (Nat.le_of_ble_eq_true rfl) ?_
        refine g_goto (tgt := 108) dX9_meet_139 (by decide) ?_
        exact ih (j + 1) M2 (by omega) (by omega) (hO.trans hO2) hG2

set_option maxHeartbeats 4000000 in
set_option maxRecDepth 100000 in
theorem p_me98f {M M1 : gM} {n m s w ct j : Nat} {A : RA} {tog : Option Ev} {S S1 : Nat → List Sp} (hA : rA M m A S) (hs : s < 40) (hR : aR A s = true) (h15 : mI M m 15 = nI w) (hO : Off M M1 (fA m)) (hG1 : rS M1 m S1) (ag : agr S S1 (fun u => 336 ≤ u ∧ u < 344)) {st : Bool} (hst : st = false) (e : meetA A w s tog = ((up1 (aR A) s false, aF A, aC A, aW A), w)) : GW μX9_meet (gRm 4 99 0 0) (gTh (fun r M1 n1 => r = none ∧ n1 = n ∧ Off M M1 (fN m) ∧ ∃ S1, rS M1 m S1 ∧ rA M1 m (meetA A w s tog).1 S1 ∧ mI M1 m 15 = nI (meetA A w s tog).2 ∧ agr S S1 (fun u => u < 320 ∨ (336 ≤ u ∧ u < 344))) 0 0) 0 0 98 [some (.ref m), some (.int (nI s)), some (.int (bI st)), some (.int (nI (ct))), some (.int (nI (j)))] [] M1 n := by
  subst hst
  refine g_aload_n dX9_meet_98 rfl ?_
  refine g_getR (f := 12) dX9_meet_99 cl10 hG1.1.1 (by decide) (Or.inl (iw_6 5 rfl)) (Or.inl rfl) rfl hG1.1.r_reached ?_
  refine g_iload_n dX9_meet_102 rfl ?_
  refine g_iload_n dX9_meet_103 rfl ?_
  refine g_bastore dX9_meet_104 (j := s) hG1.1.k_reached hG1.1.n_reached rfl (by omega) (by decide) (bI_01 _) ?_
  have hO2 : Off M (stI M1 (m + 9) s (bI false)) (fN m) := (hO.mono (fun i k h => Or.inl h)).stI (Or.inr (Or.inr (Or.inr rfl)))
  have hG2 : rS (stI M1 (m + 9) s (bI false)) m S1 := hG1.offI (Q := fun i k => i = m + 9) (Off.rf.stI rfl) (fun i k h => by unfold fA; omega)
  have hA1 := hA.off hO
  have h9 : ∀ u, u < 40 → mI (stI M1 (m + 9) s (bI false)) (m + 9) u = bI (up1 (aR A) s false u) := fun u hu => by
    rw [mI_st]
    by_cases e : u = s
    · subst e; rw [if_pos ⟨rfl, rfl⟩, up1_eq]
    · rw [if_neg (by omega), up1_ne _ _ e]; exact hA1.1 u hu
  have h10 : ∀ u, u < 40 → mI (stI M1 (m + 9) s (bI false)) (m + 10) u = nI (aC A u) := fun u hu => by
    rw [mI_st, if_neg (by omega)]; exact hA1.2.1 u hu
  have h14 : mI (stI M1 (m + 9) s (bI false)) m 14 = nI (aW A) := by
    rw [mI_st, if_neg (by omega)]; exact hA1.2.2.1
  have g15 : mI (stI M1 (m + 9) s (bI false)) m 15 = nI w := by
    rw [mI_st, if_neg (by omega), hO.i (by unfold fA; omega)]; exact h15
  generalize stI M1 (m + 9) s (bI false) = M2 at hO2 hG2 h9 h10 h14 g15 ⊢
  refine g_iconst (v := nI 0) dX9_meet_105 rfl ?_
  refine g_istore dX9_meet_106 (Nat.le_of_ble_eq_true rfl) ?_
  refine g_iload dX9_meet_108 rfl ?_
  refine g_bipush (v := nI 8) dX9_meet_110 rfl ?_
  refine g_icmp_ge (tgt := 142) dX9_meet_112 (by decide) (fun c_112 => ?_) (fun c_112 => ?_)
  · skip
    exact absurd c_112 (by decide)
  · skip
    refine g_iload_n dX9_meet_115 rfl ?_
    refine g_if_eq (tgt := 142) dX9_meet_116 (by decide) (fun c_116 => ?_) (fun c_116 => ?_)
    · skip
      refine g_msk [true, true, true, true, false] ?_
      refine g_aload_n dX9_meet_142 rfl ?_
      refine g_dup dX9_meet_143 rfl ?_
      refine g_getI (f := 15) dX9_meet_144 cl10 hG2.1.1 (by decide) (Or.inl (iw_24 22 rfl)) (Or.inl rfl) (Or.inl rfl) ?_
      rw [g15]
      refine g_iload_n dX9_meet_147 rfl ?_
      refine g_if_eq (tgt := 155) dX9_meet_148 (by decide) (fun _ => ?_) (fun c => absurd rfl c)
      refine g_iconst (v := nI 0) dX9_meet_155 rfl ?_
      refine g_iadd dX9_meet_156 ?_
      rw [nI_add]
      refine g_putI (f := 15) dX9_meet_157 cl10 hG2.1.1 (by decide) (Or.inl (iw_24 22 rfl)) (Or.inl rfl) (Or.inl rfl) (Or.inl rfl) ?_
      refine g_vret dX9_meet_160 rfl (Nat.le_of_ble_eq_true rfl) (Nat.le_of_ble_eq_true rfl) ⟨rfl, rfl, hO2.stI (Or.inr (Or.inr (Or.inl ⟨rfl, rfl⟩))), S1, hG2.offI (Q := fun i k => i = m ∧ k = 15) (Off.rf.stI ⟨rfl, rfl⟩) (fun i k h => by unfold fA; omega), ?_, ?_, fun u hu => ag u (by omega)⟩
      · rw [e]
        refine ⟨fun t ht => by rw [mI_st, if_neg (by omega)]; exact h9 t ht, fun t ht => by rw [mI_st, if_neg (by omega)]; exact h10 t ht, ?_, fun t ht hr p hp => ?_⟩
        · rw [mI_st, if_neg (by omega)]; exact h14
        · have hr' : up1 (aR A) s false t = true := hr
          by_cases q : t = s
          · rw [q, up1_eq] at hr'; cases hr'
          · rw [up1_ne _ _ q] at hr'
            rw [ag _ (by omega)]
            exact hA.2.2.2 t ht hr' p hp
      · rw [e, mI_st, if_pos ⟨rfl, rfl⟩]; rfl
    · skip
      exact absurd rfl c_116

set_option maxHeartbeats 4000000 in
set_option maxRecDepth 100000 in
theorem p_me98t {M M1 : gM} {n m s w ct j : Nat} {A : RA} {tog : Option Ev} {T : Ev} {S S1 : Nat → List Sp} (hA : rA M m A S) (hs : s < 40) (hR : aR A s = true) (h15 : mI M m 15 = nI w) (hO : Off M M1 (fA m)) (hG1 : rS M1 m S1) (ag : agr S S1 (fun u => 336 ≤ u ∧ u < 344)) {st : Bool} (hst : st = true) (e : meetA A w s tog = ((aR A, up1 (aF A) s (cut8 T), aC A, aW A), w + ct)) (hT : ∀ p, p < 8 → S1 (336 + p) = T p) : GW μX9_meet (gRm 4 99 0 0) (gTh (fun r M1 n1 => r = none ∧ n1 = n ∧ Off M M1 (fN m) ∧ ∃ S1, rS M1 m S1 ∧ rA M1 m (meetA A w s tog).1 S1 ∧ mI M1 m 15 = nI (meetA A w s tog).2 ∧ agr S S1 (fun u => u < 320 ∨ (336 ≤ u ∧ u < 344))) 0 0) 0 0 98 [some (.ref m), some (.int (nI s)), some (.int (bI st)), some (.int (nI (ct))), some (.int (nI (j)))] [] M1 n := by
  subst hst
  refine g_aload_n dX9_meet_98 rfl ?_
  refine g_getR (f := 12) dX9_meet_99 cl10 hG1.1.1 (by decide) (Or.inl (iw_6 5 rfl)) (Or.inl rfl) rfl hG1.1.r_reached ?_
  refine g_iload_n dX9_meet_102 rfl ?_
  refine g_iload_n dX9_meet_103 rfl ?_
  refine g_bastore dX9_meet_104 (j := s) hG1.1.k_reached hG1.1.n_reached rfl (by omega) (by decide) (bI_01 _) ?_
  have hA1 := hA.off hO
  have h15' : mI M1 m 15 = nI w := (hO.i (by unfold fA; omega)).trans h15
  have hO2 : Off M (stI M1 (m + 9) s (bI true)) (fN m) := (hO.mono (fun i k h => Or.inl h)).stI (Or.inr (Or.inr (Or.inr rfl)))
  have hG2 : rS (stI M1 (m + 9) s (bI true)) m S1 := hG1.offI (Q := fun i k => i = m + 9) (Off.rf.stI rfl) (fun i k h => by unfold fA; omega)
  have hA2 : rA (stI M1 (m + 9) s (bI true)) m A S := by
    refine ⟨fun u hu => ?_, fun u hu => ?_, ?_, hA1.2.2.2⟩
    · rw [mI_st]
      by_cases e : u = s
      · subst e; rw [if_pos ⟨rfl, rfl⟩, hR]
      · rw [if_neg (by omega)]; exact hA1.1 u hu
    · rw [mI_st, if_neg (by omega)]; exact hA1.2.1 u hu
    · rw [mI_st, if_neg (by omega)]; exact hA1.2.2.1
  have g15 : mI (stI M1 (m + 9) s (bI true)) m 15 = nI w := by
    rw [mI_st, if_neg (by omega)]; exact h15'
  generalize stI M1 (m + 9) s (bI true) = M2 at hO2 hG2 hA2 g15 ⊢
  refine g_iconst (v := nI 0) dX9_meet_105 rfl ?_
  refine g_istore dX9_meet_106 (Nat.le_of_ble_eq_true rfl) ?_
  refine l_me2 (S := S1) hs rfl (fun M3 hO3 hG3 => ?_) 9 0 M2 (by omega) (by omega) Off.rf (by rw [blk_0]; exact hG2)
  have g15' : mI M3 m 15 = nI w := (hO3.i (by unfold fA; omega)).trans g15
  refine g_aload_n dX9_meet_142 rfl ?_
  refine g_dup dX9_meet_143 rfl ?_
  refine g_getI (f := 15) dX9_meet_144 cl10 hG3.1.1 (by decide) (Or.inl (iw_24 22 rfl)) (Or.inl rfl) (Or.inl rfl) ?_
  rw [g15']
  refine g_iload_n dX9_meet_147 rfl ?_
  refine g_if_eq (tgt := 155) dX9_meet_148 (by decide) (fun c => absurd c (by decide)) (fun _ => ?_)
  refine g_iload_n dX9_meet_151 rfl ?_
  refine g_goto (tgt := 156) dX9_meet_152 (by decide) ?_
  refine g_iadd dX9_meet_156 ?_
  rw [nI_add]
  refine g_putI (f := 15) dX9_meet_157 cl10 hG3.1.1 (by decide) (Or.inl (iw_24 22 rfl)) (Or.inl rfl) (Or.inl rfl) (Or.inl rfl) ?_
  refine g_vret dX9_meet_160 rfl (Nat.le_of_ble_eq_true rfl) (Nat.le_of_ble_eq_true rfl) ⟨rfl, rfl, (hO2.trans (hO3.mono (fun i k h => Or.inl h))).stI (Or.inr (Or.inr (Or.inl ⟨rfl, rfl⟩))), _, hG3.offI (Q := fun i k => i = m ∧ k = 15) (Off.rf.stI ⟨rfl, rfl⟩) (fun i k h => by unfold fA; omega), ?_, ?_, fun u hu => ?_⟩
  · rw [e]
    have hA3 := hA2.off hO3
    refine ⟨fun t ht => by rw [mI_st, if_neg (by omega)]; exact hA3.1 t ht, fun t ht => by rw [mI_st, if_neg (by omega)]; exact hA3.2.1 t ht, ?_, fun t ht hr p hp => ?_⟩
    · rw [mI_st, if_neg (by omega)]; exact hA3.2.2.1
    · show _ = up1 (aF A) s (cut8 T) t p
      by_cases q : t = s
      · subst q
        rw [up1_eq, cut8_lt hp, ← hT p hp]
        unfold blk
        rw [if_pos (by omega), show 8 * t + p - 8 * t = p by omega]
      · rw [up1_ne _ _ q]
        unfold blk
        rw [if_neg (by omega), ag _ (by omega)]
        exact hA.2.2.2 t ht hr p hp
  · rw [e, mI_st, if_pos ⟨rfl, rfl⟩]
  · unfold blk
    rw [if_neg (by omega)]
    exact ag u (by omega)

set_option maxHeartbeats 4000000 in
set_option maxRecDepth 100000 in
theorem s_meet (M : gM) (n m s w : Nat) (S : Nat → List Sp) (A : RA) (tog : Option Ev) (hG : rS M m S) (hA : rA M m A S) (hs : s < 40) (hR : aR A s = true) (h15 : mI M m 15 = nI w) (h17 : mI M m 17 = bI tog.isSome) (hT : ∀ T, tog = some T → ∀ p, p < 8 → S (350 + p) = T p) : GM μX9_meet 4 99 0 0 [.ref m, .int (nI s)] M n (fun r M1 n1 => r = none ∧ n1 = n ∧ Off M M1 (fN m) ∧ ∃ S1, rS M1 m S1 ∧ rA M1 m (meetA A w s tog).1 S1 ∧ mI M1 m 15 = nI (meetA A w s tog).2 ∧ agr S S1 (fun u => u < 320 ∨ (336 ≤ u ∧ u < 344))) := by
  refine GM.ofW (by decide) rfl (Nat.le_of_ble_eq_true rfl) rfl ?_
  refine g_aload_n dX9_meet_0 rfl ?_
  refine g_getI (f := 17) dX9_meet_1 cl10 hG.1.1 (by decide) (Or.inl (iw_30 21 rfl)) (Or.inl rfl) (Or.inr rfl) ?_
  rw [h17]
  refine g_istore_n dX9_meet_4 (Nat.le_of_ble_eq_true rfl) ?_
  refine g_iconst (v := nI 0) dX9_meet_5 rfl ?_
  refine g_istore_n dX9_meet_6 (Nat.le_of_ble_eq_true rfl) ?_
  refine g_iconst (v := nI 0) dX9_meet_7 rfl ?_
  refine g_istore dX9_meet_8 (Nat.le_of_ble_eq_true rfl) ?_
  cases tog with
  | none =>
    refine g_iload dX9_meet_10 rfl ?_
    refine g_bipush (v := nI 8) dX9_meet_12 rfl ?_
    refine g_icmp_ge (tgt := 98) dX9_meet_14 (by decide) (fun c => absurd c (by decide)) (fun _ => ?_)
    refine g_iload_n dX9_meet_17 rfl ?_
    refine g_if_eq (tgt := 98) dX9_meet_18 (by decide) (fun _ => ?_) (fun c => absurd rfl c)
    exact p_me98f (ct := 0) (j := 0) hA hs hR h15 Off.rf hG (fun u _ => rfl) rfl rfl
  | some T =>
    have eF : ∀ p, p < 8 → S (8 * s + p) = aF A s p := fun p hp => hA.2.2.2 s hs hR p hp
    have eN : ∀ p, p < 8 → mtN (fun p => S (8 * s + p)) (fun p => S (350 + p)) p = mtN (aF A s) T p := fun p hp => by
      unfold mtN; dsimp only; rw [eF p hp, hT T rfl p hp]
    refine l_me1 (S := S) (s := s) hs (fun j M1 hO1 hG1 hj hc => ?_) 9 0 M (by omega) (by omega) Off.rf (by rw [meS_0]; exact hG)
    have ag : agr S (meS S s j) (fun u => 336 ≤ u ∧ u < 344) := fun u hu => meS_out (by omega) hj
    cases hk : stK (mtN (fun p => S (8 * s + p)) (fun p => S (350 + p))) j with
    | false =>
      refine p_me98f hA hs hR h15 hO1 hG1 ag rfl ?_
      have h8 := stK_no hk hj
      rw [stK_congr eN 8 (Nat.le_refl _)] at h8
      unfold meetA
      dsimp only
      rw [h8, if_neg (by decide)]
    | true =>
      have e8 : j = 8 := by
        rcases hc with h | h
        · exact h
        · rw [hk] at h; cases h
      subst e8
      refine p_me98t (T := mtN (aF A s) T) hA hs hR h15 hO1 hG1 ag rfl ?_ (fun p hp => by rw [meS_at hp, ← eN p hp]; rfl)
      rw [stK_congr eN 8 (Nat.le_refl _)] at hk
      unfold meetA
      dsimp only
      rw [hk, if_pos rfl, ctK_congr eF eN 8 (Nat.le_refl _)]

