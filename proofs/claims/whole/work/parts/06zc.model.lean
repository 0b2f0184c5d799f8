/-! the reference: clear, told, threshold, ways -/
theorem cntK_s (f : Nat → Bool) (j : Nat) : cntK f (j + 1) = cntK f j + (if f j = true then 1 else 0) := rfl
def clS (σ : MS) : MS := ([], fun _ => [(0, 0)], false, zH σ, zN σ)
def clT (S : Nat → List Sp) (j : Nat) : Nat → List Sp := fun u => if 320 ≤ u ∧ u < 320 + j then [(0, 0)] else S u
theorem clT_0 (S : Nat → List Sp) : clT S 0 = S := by
  funext u; unfold clT; rw [if_neg (by omega)]
theorem clT_1 (S : Nat → List Sp) (j : Nat) : up1 (clT S j) (320 + j) [(0, 0)] = clT S (j + 1) := by
  funext u
  by_cases e : u = 320 + j
  · subst e; rw [up1_eq]; unfold clT; rw [if_pos (by omega)]
  · rw [up1_ne _ _ e]
    unfold clT
    by_cases c : 320 ≤ u ∧ u < 320 + j
    · rw [if_pos c, if_pos (by omega)]
    · rw [if_neg c, if_neg (by omega)]
theorem one0 : (if (0 : Int) ≤ 0 then [((0 : Int), (0 : Int))] else []) = [(0, 0)] := rfl
set_option maxHeartbeats 4000000 in
set_option maxRecDepth 100000 in
theorem l_clear {M : gM} {n m : Nat} {v : Int32} {S : Nat → List Sp} {Q : gθ} (hk : ∀ M1, Off M M1 (fA m) → rS M1 m (clT S 8) → GW μX9_clear (gRm 1 25 0 0) Q 0 0 40 [some (.ref m), some (.int v), none] [] M1 n) : ∀ (d : Nat) (j : Nat) (M1 : gM), 8 - j < d → j ≤ 8 → Off M M1 (fA m) → rS M1 m (clT S j) → GW μX9_clear (gRm 1 25 0 0) Q 0 0 17 [some (.ref m), some (.int v), some (.int (nI j))] [] M1 n := by
  intro d
  induction d with
  | zero =>
    intro j M1 hd hj hO hG1
    omega
  | succ d ih =>
    intro j M1 hd hj hO hG1
    refine g_iload_n dX9_clear_17 rfl ?_
    refine g_bipush (v := nI 8) dX9_clear_18 rfl ?_
    refine g_icmp_ge (tgt := 40) dX9_clear_20 (by decide) (fun c_20 => ?_) (fun c_20 => ?_)
    · skip
      rw [nI_leI (by omega) (by omega)] at c_20
      have e8 : j = 8 := by omega
      subst e8
      refine g_drop 2 ?_
      exact hk M1 hO hG1
    · skip
      rw [nI_leI (by omega) (by omega)] at c_20
      refine g_aload_n dX9_clear_23 rfl ?_
      refine g_sipush (v := nI 320) dX9_clear_24 rfl ?_
      refine g_iload_n dX9_clear_27 rfl ?_
      refine g_iadd dX9_clear_28 ?_
      rw [nI_add]
      refine g_lconst (v := jI 0) dX9_clear_29 rfl ?_
      refine g_lconst (v := jI 0) dX9_clear_30 rfl ?_
      refine g_callV dX9_clear_31 sX9_one (s_one M1 n m (320 + j) _ 0 0 hG1 (by omega) (by constructor <;> omega) (by constructor <;> omega) (fun _ => ⟨by constructor <;> omega, by constructor <;> omega⟩)) cl10 hG1.1.1 iX9_one vX9_one (iw_6 9 rfl) rfl rfl (Nat.le_of_ble_eq_true rfl) (Nat.le_of_ble_eq_true rfl) (Nat.le_of_ble_eq_true rfl) (Nat.le_of_ble_eq_true rfl) (Nat.le_of_ble_eq_true rfl) ?_
      intro r9 M2 n9 h9
      obtain ⟨h91, h93, hO2, hG2⟩ := h9
      rw [h91, h93]
      clear h91 h93 r9 n9
      rw [one0, clT_1] at hG2
      refine g_iinc dX9_clear_34 rfl (nI_1 j) (Nat.le_of_ble_eq_true rfl) ?_
      refine g_goto (tgt := 17) dX9_clear_37 (by decide) ?_
      exact ih (j + 1) M2 (by omega) (by omega) (hO.trans hO2) hG2

set_option maxHeartbeats 4000000 in
set_option maxRecDepth 100000 in
theorem l_init {M : gM} {n m : Nat} {v : Int32} {S : Nat → List Sp} {Q : gθ} {mc ms k q : Nat} (hc : k ≤ mc) (hq : q ≤ ms) (hk : ∀ M1, Off M M1 (fA m) → rS M1 m (clT S 8) → GW μX9_init (gRm 1 25 mc ms) Q k q 124 [some (.ref m), none] [] M1 n) : ∀ (d : Nat) (j : Nat) (M1 : gM), 8 - j < d → j ≤ 8 → Off M M1 (fA m) → rS M1 m (clT S j) → GW μX9_init (gRm 1 25 mc ms) Q k q 101 [some (.ref m), some (.int (nI j))] [] M1 n := by
  intro d
  induction d with
  | zero =>
    intro j M1 hd hj hO hG1
    omega
  | succ d ih =>
    intro j M1 hd hj hO hG1
    refine g_iload_n dX9_init_101 rfl ?_
    refine g_bipush (v := nI 8) dX9_init_102 rfl ?_
    refine g_icmp_ge (tgt := 124) dX9_init_104 (by decide) (fun c_104 => ?_) (fun c_104 => ?_)
    · skip
      rw [nI_leI (by omega) (by omega)] at c_104
      have e8 : j = 8 := by omega
      subst e8
      refine g_drop 1 ?_
      exact hk M1 hO hG1
    · skip
      rw [nI_leI (by omega) (by omega)] at c_104
      refine g_aload_n dX9_init_107 rfl ?_
      refine g_sipush (v := nI 320) dX9_init_108 rfl ?_
      refine g_iload_n dX9_init_111 rfl ?_
      refine g_iadd dX9_init_112 ?_
      rw [nI_add]
      refine g_lconst (v := jI 0) dX9_init_113 rfl ?_
      refine g_lconst (v := jI 0) dX9_init_114 rfl ?_
      refine g_callV dX9_init_115 sX9_one (s_one M1 n m (320 + j) _ 0 0 hG1 (by omega) (by constructor <;> omega) (by constructor <;> omega) (fun _ => ⟨by constructor <;> omega, by constructor <;> omega⟩)) cl10 hG1.1.1 iX9_one vX9_one (iw_6 9 rfl) rfl rfl (Nat.le_of_ble_eq_true rfl) (Nat.le_of_ble_eq_true rfl) (Nat.le_of_ble_eq_true rfl) hc hq ?_
      intro r9 M2 n9 h9
      obtain ⟨h91, h93, hO2, hG2⟩ := h9
      rw [h91, h93]
      clear h91 h93 r9 n9
      rw [one0, clT_1] at hG2
      refine g_iinc dX9_init_118 rfl (nI_1 j) (Nat.le_of_ble_eq_true rfl) ?_
      refine g_goto (tgt := 101) dX9_init_121 (by decide) ?_
      exact ih (j + 1) M2 (by omega) (by omega) (hO.trans hO2) hG2

set_option maxHeartbeats 4000000 in
set_option maxRecDepth 100000 in
theorem s_clear (M : gM) (n m : Nat) (σ : MS) (hQ : rM M m σ) : GM μX9_clear 1 25 0 0 [.ref m] M n (fun r M1 n1 => r = some (.int (nI (zP σ).length)) ∧ n1 = n ∧ Off M M1 (fX m) ∧ rM M1 m (clS σ) ∧ mI M1 m 0 = 0) := by
  refine GM.ofW (by decide) rfl (Nat.le_of_ble_eq_true rfl) rfl ?_
  obtain ⟨S, hQ⟩ := hQ
  have l40 := hQ.2.1.2.1
  refine g_aload_n dX9_clear_0 rfl ?_
  refine g_iconst (v := nI 0) dX9_clear_1 rfl ?_
  refine g_putI (f := 0) dX9_clear_2 cl10 hQ.1.1.1 (by decide) (Or.inl (iw_12 11 rfl)) (Or.inl rfl) (Or.inl rfl) (Or.inl rfl) ?_
  have hO1 : Off M (stI M m 0 (nI 0)) (fX m) := Off.rf.stI ⟨by omega, by omega⟩
  have hQ1 := hQ.thr (nI 0)
  have h0 : mI (stI M m 0 (nI 0)) m 0 = nI 0 := by rw [mI_st, if_pos ⟨rfl, rfl⟩]
  generalize stI M m 0 (nI 0) = M1 at hO1 hQ1 h0 ⊢
  have hG := hQ1.1
  have hP := hQ1.2.1
  refine g_aload_n dX9_clear_5 rfl ?_
  refine g_getI (f := 6) dX9_clear_6 cl10 hG.1.1 (by decide) (Or.inl (iw_12 20 rfl)) (Or.inl rfl) (Or.inl rfl) ?_
  rw [hP.1]
  refine g_istore_n dX9_clear_9 (Nat.le_of_ble_eq_true rfl) ?_
  refine g_aload_n dX9_clear_10 rfl ?_
  refine g_iconst (v := nI 0) dX9_clear_11 rfl ?_
  refine g_putI (f := 6) dX9_clear_12 cl10 hG.1.1 (by decide) (Or.inl (iw_12 20 rfl)) (Or.inl rfl) (Or.inl rfl) (Or.inl rfl) ?_
  have hO2 : Off M1 (stI M1 m 6 (nI 0)) (fX m) := Off.rf.stI ⟨by omega, by omega⟩
  have hG2 : rS (stI M1 m 6 (nI 0)) m S := hG.offI (Q := fun i k => i = m ∧ k = 6) (Off.rf.stI ⟨rfl, rfl⟩) (fun i k h => by unfold fA; omega)
  have e0 : mI (stI M1 m 6 (nI 0)) m 0 = nI 0 := by rw [mI_st, if_neg (by omega)]; exact h0
  have e6 : mI (stI M1 m 6 (nI 0)) m 6 = nI 0 := by rw [mI_st, if_pos ⟨rfl, rfl⟩]
  have e19 : mI (stI M1 m 6 (nI 0)) m 19 = zH σ := by rw [mI_st, if_neg (by omega)]; exact hQ1.2.2.2.2.2.1
  have eN : ∀ p, p < 8 → mI (stI M1 m 6 (nI 0)) (m + 11) p = zN σ p := fun p hp => by rw [mI_st, if_neg (by omega)]; exact hQ1.2.2.2.2.2.2.1 p hp
  generalize stI M1 m 6 (nI 0) = M2 at hO2 hG2 e0 e6 e19 eN ⊢
  refine g_iconst (v := nI 0) dX9_clear_15 rfl ?_
  refine g_istore_n dX9_clear_16 (Nat.le_of_ble_eq_true rfl) ?_
  refine l_clear (S := S) (fun M3 hO3 hG3 => ?_) 9 0 M2 (by omega) (by omega) Off.rf (by rw [clT_0]; exact hG2)
  refine g_aload_n dX9_clear_40 rfl ?_
  refine g_iconst (v := nI 0) dX9_clear_41 rfl ?_
  refine g_putI (f := 11) dX9_clear_42 cl10 hG3.1.1 (by decide) (Or.inl (iw_12 21 rfl)) (Or.inl rfl) (Or.inl rfl) (Or.inr ⟨rfl, (Or.inl rfl)⟩) ?_
  refine g_iload_n dX9_clear_45 rfl ?_
  exact g_iret dX9_clear_46 (Or.inl rfl) (Nat.le_of_ble_eq_true rfl) (Nat.le_of_ble_eq_true rfl) (by
    have hO4 : Off M2 (stI M3 m 11 (nI 0)) (fun i k => fA m i k ∨ (i = m ∧ k = 11)) := (hO3.mono (fun i k h => Or.inl h)).stI (Or.inr ⟨rfl, rfl⟩)
    have hq : ∀ {i k : Nat}, ¬ (i = m + 1 ∨ i = m + 2 ∨ (i = m ∧ k = 3) ∨ i = m + 3 ∨ i = m + 4 ∨ (i = m ∧ k = 11)) → mI (stI M3 m 11 (nI 0)) i k = mI M2 i k := fun h => hO4.i (by unfold fA; omega)
    refine ⟨rfl, rfl, ((hO1.trans hO2).trans (hO3.mono (fun i k h => fA_X h))).stI ⟨by omega, by omega⟩, ⟨clT S 8, hG3.offI (Q := fun i k => i = m ∧ k = 11) (Off.rf.stI ⟨rfl, rfl⟩) (fun i k h => by unfold fA; omega), ⟨?_, by simp [clS, zP], fun a ha => absurd ha (by simp [clS, zP])⟩, ⟨⟨by simp [clS, zP], fun a ha => absurd ha (by simp [clS, zP])⟩, fun p hp => ?_⟩, fun p hp => ?_, ?_, ?_, fun p hp => ?_, fun hr => by cases hr⟩, ?_⟩
    · rw [hq (by omega)]; exact e6
    · show okX [(0, 0)] ∧ [((0 : Int), (0 : Int))].length = 1
      exact ⟨⟨Int.le_refl _, by simp, fun r hr => by simp at hr; rw [hr]; exact ⟨by constructor <;> simp, by constructor <;> simp⟩⟩, rfl⟩
    · show clT S 8 (320 + p) = [(0, 0)]
      unfold clT; rw [if_pos (by omega)]
    · rw [mI_st, if_pos ⟨rfl, rfl⟩]; rfl
    · rw [hq (by omega)]; exact e19
    · rw [hq (by omega)]; exact eN p hp
    · rw [hq (by omega)]; exact e0)

set_option maxHeartbeats 4000000 in
set_option maxRecDepth 100000 in
theorem l_told {M : gM} {n m : Nat} {σ : MS} {x : Int32} {S : Nat → List Sp} {Q : gθ} (hG : rS M m S) (hP : rP M m (zP σ)) (hA : rA M m (zA σ) S) (hk : GW μX9_told (gRm 3 69 0 0) Q 0 0 97 [some (.ref m), some (.int x), some (.int (nI (cntK (fun s => if x = 2 then aR (zA σ) s else if x = 4 then isHd (zP σ) s else false) (zP σ).length))), none] [] M n) : ∀ (d : Nat) (s : Nat), (zP σ).length - s < d → s ≤ (zP σ).length → GW μX9_told (gRm 3 69 0 0) Q 0 0 40 [some (.ref m), some (.int x), some (.int (nI (cntK (fun s => if x = 2 then aR (zA σ) s else if x = 4 then isHd (zP σ) s else false) s))), some (.int (nI s))] [] M n := by
  intro d
  induction d with
  | zero =>
    intro s hd hs
    omega
  | succ d ih =>
    intro s hd hs
    have l40 := hP.2.1
    refine g_iload_n dX9_told_40 rfl ?_
    refine g_aload_n dX9_told_41 rfl ?_
    refine g_getI (f := 6) dX9_told_42 cl10 hG.1.1 (by decide) (Or.inl (iw_12 20 rfl)) (Or.inl rfl) (Or.inl rfl) ?_
    rw [hP.1]
    refine g_icmp_ge (tgt := 97) dX9_told_45 (by decide) (fun c_45 => ?_) (fun c_45 => ?_)
    · skip
      rw [nI_leI (by omega) (by omega)] at c_45
      have e : s = (zP σ).length := by omega
      subst e
      refine g_drop 3 ?_
      exact hk
    · skip
      rw [nI_leI (by omega) (by omega)] at c_45
      refine g_iload_n dX9_told_48 rfl ?_
      refine g_iload_n dX9_told_49 rfl ?_
      refine g_iconst (v := 2) dX9_told_50 rfl ?_
      refine g_icmp_ne (tgt := 71) dX9_told_51 (by decide) (fun c_51 => ?_) (fun c_51 => ?_)
      · skip
        refine g_iload_n dX9_told_71 rfl ?_
        refine g_iconst (v := 4) dX9_told_72 rfl ?_
        refine g_icmp_ne (tgt := 88) dX9_told_73 (by decide) (fun c_73 => ?_) (fun c_73 => ?_)
        · skip
          refine g_iconst (v := nI 0) dX9_told_88 rfl ?_
          refine g_iadd dX9_told_89 ?_
          rw [nI_add]
          refine g_istore_n dX9_told_90 (Nat.le_of_ble_eq_true rfl) ?_
          refine g_iinc dX9_told_91 rfl (nI_1 s) (Nat.le_of_ble_eq_true rfl) ?_
          refine g_goto (tgt := 40) dX9_told_94 (by decide) ?_
          have l40 := hP.2.1
          have hg := ih (s + 1) (by omega) (by omega)
          rw [cntK_s] at hg
          first
            | (rw [if_pos c_51, if_pos c_60] at hg; exact hg)
            | (rw [if_pos c_51, if_neg (by rw [c_60]; decide)] at hg; exact hg)
            | (rw [if_neg c_51, if_pos c_73, if_pos c_81] at hg; exact hg)
            | (rw [bI_eq0] at c_81; rw [if_neg c_51, if_pos c_73, if_neg (by rw [c_81]; decide)] at hg; exact hg)
            | (rw [if_neg c_51, if_neg c_73, if_neg (by decide)] at hg; exact hg)
        · skip
          refine g_aload_n dX9_told_76 rfl ?_
          refine g_iload_n dX9_told_77 rfl ?_
          refine g_callV dX9_told_78 sX9_isHead (m_isHead M n m s _ hG.1 hP (by omega)) cl10 hG.1.1 iX9_isHead vX9_isHead (iw_30 9 rfl) rfl rfl (Nat.le_of_ble_eq_true rfl) (Nat.le_of_ble_eq_true rfl) (Nat.le_of_ble_eq_true rfl) (Nat.le_of_ble_eq_true rfl) (Nat.le_of_ble_eq_true rfl) ?_
          intro r9 M9 n9 h9
          obtain ⟨h91, h92, h93⟩ := h9
          rw [h91, h92, h93]
          clear h91 h92 h93 r9 M9 n9
          refine g_if_eq (tgt := 88) dX9_told_81 (by decide) (fun c_81 => ?_) (fun c_81 => ?_)
          · skip
            refine g_iconst (v := nI 0) dX9_told_88 rfl ?_
            refine g_iadd dX9_told_89 ?_
            rw [nI_add]
            refine g_istore_n dX9_told_90 (Nat.le_of_ble_eq_true rfl) ?_
            refine g_iinc dX9_told_91 rfl (nI_1 s) (Nat.le_of_ble_eq_true rfl) ?_
            refine g_goto (tgt := 40) dX9_told_94 (by decide) ?_
            have l40 := hP.2.1
            have hg := ih (s + 1) (by omega) (by omega)
            rw [cntK_s] at hg
            first
              | (rw [if_pos c_51, if_pos c_60] at hg; exact hg)
              | (rw [if_pos c_51, if_neg (by rw [c_60]; decide)] at hg; exact hg)
              | (rw [if_neg c_51, if_pos c_73, if_pos c_81] at hg; exact hg)
              | (rw [bI_eq0] at c_81; rw [if_neg c_51, if_pos c_73, if_neg (by rw [c_81]; decide)] at hg; exact hg)
              | (rw [if_neg c_51, if_neg c_73, if_neg (by decide)] at hg; exact hg)
          · skip
            rw [bI_eq0, Bool.not_eq_false] at c_81
            refine g_iconst (v := nI 1) dX9_told_84 rfl ?_
            refine g_goto (tgt := 89) dX9_told_85 (by decide) ?_
            refine g_iadd dX9_told_89 ?_
            rw [nI_add]
            refine g_istore_n dX9_told_90 (Nat.le_of_ble_eq_true rfl) ?_
            refine g_iinc dX9_told_91 rfl (nI_1 s) (Nat.le_of_ble_eq_true rfl) ?_
            refine g_goto (tgt := 40) dX9_told_94 (by decide) ?_
            have l40 := hP.2.1
            have hg := ih (s + 1) (by omega) (by omega)
            rw [cntK_s] at hg
            first
              | (rw [if_pos c_51, if_pos c_60] at hg; exact hg)
              | (rw [if_pos c_51, if_neg (by rw [c_60]; decide)] at hg; exact hg)
              | (rw [if_neg c_51, if_pos c_73, if_pos c_81] at hg; exact hg)
              | (rw [bI_eq0] at c_81; rw [if_neg c_51, if_pos c_73, if_neg (by rw [c_81]; decide)] at hg; exact hg)
              | (rw [if_neg c_51, if_neg c_73, if_neg (by decide)] at hg; exact hg)
      · skip
        refine g_aload_n dX9_told_54 rfl ?_
        refine g_getR (f := 12) dX9_told_55 cl10 hG.1.1 (by decide) (Or.inl (iw_6 5 rfl)) (Or.inl rfl) rfl hG.1.r_reached ?_
        refine g_iload_n dX9_told_58 rfl ?_
        refine g_baload dX9_told_59 (j := s) hG.1.k_reached hG.1.n_reached rfl (by omega) (by decide) ?_
        rw [hA.1 s (by omega)]
        refine g_if_eq (tgt := 67) dX9_told_60 (by decide) (fun c_60 => ?_) (fun c_60 => ?_)
        · skip
          rw [bI_eq0] at c_60
          refine g_iconst (v := nI 0) dX9_told_67 rfl ?_
          refine g_goto (tgt := 89) dX9_told_68 (by decide) ?_
          refine g_iadd dX9_told_89 ?_
          rw [nI_add]
          refine g_istore_n dX9_told_90 (Nat.le_of_ble_eq_true rfl) ?_
          refine g_iinc dX9_told_91 rfl (nI_1 s) (Nat.le_of_ble_eq_true rfl) ?_
          refine g_goto (tgt := 40) dX9_told_94 (by decide) ?_
          have l40 := hP.2.1
          have hg := ih (s + 1) (by omega) (by omega)
          rw [cntK_s] at hg
          first
            | (rw [if_pos c_51, if_pos c_60] at hg; exact hg)
            | (rw [if_pos c_51, if_neg (by rw [c_60]; decide)] at hg; exact hg)
            | (rw [if_neg c_51, if_pos c_73, if_pos c_81] at hg; exact hg)
            | (rw [bI_eq0] at c_81; rw [if_neg c_51, if_pos c_73, if_neg (by rw [c_81]; decide)] at hg; exact hg)
            | (rw [if_neg c_51, if_neg c_73, if_neg (by decide)] at hg; exact hg)
        · skip
          rw [bI_eq0, Bool.not_eq_false] at c_60
          refine g_iconst (v := nI 1) dX9_told_63 rfl ?_
          refine g_goto (tgt := 89) dX9_told_64 (by decide) ?_
          refine g_iadd dX9_told_89 ?_
          rw [nI_add]
          refine g_istore_n dX9_told_90 (Nat.le_of_ble_eq_true rfl) ?_
          refine g_iinc dX9_told_91 rfl (nI_1 s) (Nat.le_of_ble_eq_true rfl) ?_
          refine g_goto (tgt := 40) dX9_told_94 (by decide) ?_
          have l40 := hP.2.1
          have hg := ih (s + 1) (by omega) (by omega)
          rw [cntK_s] at hg
          first
            | (rw [if_pos c_51, if_pos c_60] at hg; exact hg)
            | (rw [if_pos c_51, if_neg (by rw [c_60]; decide)] at hg; exact hg)
            | (rw [if_neg c_51, if_pos c_73, if_pos c_81] at hg; exact hg)
            | (rw [bI_eq0] at c_81; rw [if_neg c_51, if_pos c_73, if_neg (by rw [c_81]; decide)] at hg; exact hg)
            | (rw [if_neg c_51, if_neg c_73, if_neg (by decide)] at hg; exact hg)

set_option maxHeartbeats 4000000 in
set_option maxRecDepth 100000 in
theorem s_told (M : gM) (n m : Nat) (σ : MS) (x : Int32) (hQ : rM M m σ) : GM μX9_told 3 69 0 0 [.ref m, .int x] M n (fun r M1 n1 => r = some (.int (nI (tdZ σ x).2)) ∧ n1 = n ∧ Off M M1 (fX m) ∧ rM M1 m σ ∧ mI M1 m 0 = nI (tdZ σ x).1) := by
  refine GM.ofW (by decide) rfl (Nat.le_of_ble_eq_true rfl) rfl ?_
  obtain ⟨S, hQ⟩ := hQ
  have l40 := hQ.2.1.2.1
  have hxr := i_rng x
  refine g_aload_n dX9_told_0 rfl ?_
  refine g_iconst (v := nI 0) dX9_told_1 rfl ?_
  refine g_putI (f := 0) dX9_told_2 cl10 hQ.1.1.1 (by decide) (Or.inl (iw_12 11 rfl)) (Or.inl rfl) (Or.inl rfl) (Or.inl rfl) ?_
  have hO1 : Off M (stI M m 0 (nI 0)) (fX m) := Off.rf.stI ⟨by omega, by omega⟩
  have hQ1 := hQ.thr (nI 0)
  have h0 : mI (stI M m 0 (nI 0)) m 0 = nI 0 := by rw [mI_st, if_pos ⟨rfl, rfl⟩]
  generalize stI M m 0 (nI 0) = M1 at hO1 hQ1 h0 ⊢
  have hG := hQ1.1
  have hP := hQ1.2.1
  refine g_iload_n dX9_told_5 rfl ?_
  refine g_i2l dX9_told_6 ?_
  rw [i_j]
  refine g_lconst (v := jI 0) dX9_told_7 rfl ?_
  refine g_ldc2 (v := jI (4)) dX9_told_8 (iw_35 7 rfl) ?_
  refine g_callS dX9_told_11 sX9_isIn (m_isInZ M1 n x.toInt 0 4 (by constructor <;> omega) (by constructor <;> omega) (by constructor <;> omega)) tX9_isIn (iw_12 22 rfl) rfl rfl (Nat.le_of_ble_eq_true rfl) (Nat.le_of_ble_eq_true rfl) (Nat.le_of_ble_eq_true rfl) (Nat.le_of_ble_eq_true rfl) (Nat.le_of_ble_eq_true rfl) ?_
  intro r9 M9 n9 h9
  obtain ⟨h91, h92, h93⟩ := h9
  rw [h91, h92, h93]
  clear h91 h92 h93 r9 M9 n9
  refine g_if_ne (tgt := 23) dX9_told_14 (by decide) (fun c_14 => ?_) (fun c_14 => ?_)
  · skip
    rw [bI_eq0, decide_eq_false_iff_not, Classical.not_not] at c_14
    refine g_aload_n dX9_told_23 rfl ?_
    refine g_getI (f := 11) dX9_told_24 cl10 hG.1.1 (by decide) (Or.inl (iw_12 21 rfl)) (Or.inl rfl) (Or.inr rfl) ?_
    rw [hQ1.2.2.2.2.1]
    refine g_if_ne (tgt := 36) dX9_told_27 (by decide) (fun c_27 => ?_) (fun c_27 => ?_)
    · skip
      rw [bI_eq0, Bool.not_eq_false] at c_27
      obtain ⟨hA, h13, h15⟩ := hQ1.2.2.2.2.2.2.2 c_27
      refine g_iconst (v := nI 0) dX9_told_36 rfl ?_
      refine g_istore_n dX9_told_37 (Nat.le_of_ble_eq_true rfl) ?_
      refine g_iconst (v := nI 0) dX9_told_38 rfl ?_
      refine g_istore_n dX9_told_39 (Nat.le_of_ble_eq_true rfl) ?_
      refine l_told hG hP hA ?_ ((zP σ).length + 1) 0 (by omega) (by omega)
      refine g_iload_n dX9_told_97 rfl ?_
      refine g_if_ne (tgt := 108) dX9_told_98 (by decide) (fun c_98 => ?_) (fun c_98 => ?_)
      · skip
        refine g_iload_n dX9_told_108 rfl ?_
        refine g_iconst (v := 1) dX9_told_109 rfl ?_
        refine g_icmp_ne (tgt := 120) dX9_told_110 (by decide) (fun c_110 => ?_) (fun c_110 => ?_)
        · skip
          refine g_iload_n dX9_told_120 rfl ?_
          refine g_iconst (v := 3) dX9_told_121 rfl ?_
          refine g_icmp_ne (tgt := 132) dX9_told_122 (by decide) (fun c_122 => ?_) (fun c_122 => ?_)
          · skip
            refine g_iload_n dX9_told_132 rfl ?_
            exact g_iret dX9_told_133 (Or.inl rfl) (Nat.le_of_ble_eq_true rfl) (Nat.le_of_ble_eq_true rfl) (by
              have e : tdZ σ x = (0, if x = 0 then (runA (zP σ) (zF σ)).2.1 else if x = 1 then aW (zA σ) else if x = 3 then (runA (zP σ) (zF σ)).2.2 else if x = 2 then cntK (aR (zA σ)) (zP σ).length else cntK (isHd (zP σ)) (zP σ).length) := by
                unfold tdZ; rw [if_neg (fun h => h c_14), if_neg (by rw [c_27]; decide)]
              refine ⟨?_, rfl, hO1, ⟨S, hQ1⟩, by rw [e]; exact h0⟩
              rw [e]
              first
                | rw [if_pos c_98]
                | (rw [if_neg c_98, if_pos c_110]; rfl)
                | rw [if_neg c_98, if_neg c_110, if_pos c_122]
                | (rw [if_neg c_98, if_neg c_110, if_neg c_122]
                   by_cases c2 : x = 2
                   · rw [if_pos c2]
                     rw [show (fun s => if x = 2 then aR (zA σ) s else if x = 4 then isHd (zP σ) s else false) = aR (zA σ) from funext (fun s => by rw [if_pos c2])]
                   · have c4 : x = 4 := by
                       rw [iZ_of x] at c_98 c_110 c_122 c2 ⊢
                       have q0 : ¬ x.toInt = 0 := fun h => c_98 (by rw [h]; rfl)
                       have q1 : ¬ x.toInt = 1 := fun h => c_110 (by rw [h]; rfl)
                       have q2 : ¬ x.toInt = 2 := fun h => c2 (by rw [h]; rfl)
                       have q3 : ¬ x.toInt = 3 := fun h => c_122 (by rw [h]; rfl)
                       have q4 : x.toInt = 4 := by omega
                       rw [q4]; rfl
                     rw [if_neg c2]
                     rw [show (fun s => if x = 2 then aR (zA σ) s else if x = 4 then isHd (zP σ) s else false) = isHd (zP σ) from funext (fun s => by rw [if_neg c2, if_pos c4])]))
          · skip
            refine g_aload_n dX9_told_125 rfl ?_
            refine g_getI (f := 15) dX9_told_126 cl10 hG.1.1 (by decide) (Or.inl (iw_24 22 rfl)) (Or.inl rfl) (Or.inl rfl) ?_
            rw [h15]
            refine g_goto (tgt := 133) dX9_told_129 (by decide) ?_
            exact g_iret dX9_told_133 (Or.inl rfl) (Nat.le_of_ble_eq_true rfl) (Nat.le_of_ble_eq_true rfl) (by
              have e : tdZ σ x = (0, if x = 0 then (runA (zP σ) (zF σ)).2.1 else if x = 1 then aW (zA σ) else if x = 3 then (runA (zP σ) (zF σ)).2.2 else if x = 2 then cntK (aR (zA σ)) (zP σ).length else cntK (isHd (zP σ)) (zP σ).length) := by
                unfold tdZ; rw [if_neg (fun h => h c_14), if_neg (by rw [c_27]; decide)]
              refine ⟨?_, rfl, hO1, ⟨S, hQ1⟩, by rw [e]; exact h0⟩
              rw [e]
              first
                | rw [if_pos c_98]
                | (rw [if_neg c_98, if_pos c_110]; rfl)
                | rw [if_neg c_98, if_neg c_110, if_pos c_122]
                | (rw [if_neg c_98, if_neg c_110, if_neg c_122]
                   by_cases c2 : x = 2
                   · rw [if_pos c2]
                     rw [show (fun s => if x = 2 then aR (zA σ) s else if x = 4 then isHd (zP σ) s else false) = aR (zA σ) from funext (fun s => by rw [if_pos c2])]
                   · have c4 : x = 4 := by
                       rw [iZ_of x] at c_98 c_110 c_122 c2 ⊢
                       have q0 : ¬ x.toInt = 0 := fun h => c_98 (by rw [h]; rfl)
                       have q1 : ¬ x.toInt = 1 := fun h => c_110 (by rw [h]; rfl)
                       have q2 : ¬ x.toInt = 2 := fun h => c2 (by rw [h]; rfl)
                       have q3 : ¬ x.toInt = 3 := fun h => c_122 (by rw [h]; rfl)
                       have q4 : x.toInt = 4 := by omega
                       rw [q4]; rfl
                     rw [if_neg c2]
                     rw [show (fun s => if x = 2 then aR (zA σ) s else if x = 4 then isHd (zP σ) s else false) = isHd (zP σ) from funext (fun s => by rw [if_neg c2, if_pos c4])]))
        · skip
          refine g_aload_n dX9_told_113 rfl ?_
          refine g_getI (f := 14) dX9_told_114 cl10 hG.1.1 (by decide) (Or.inl (iw_24 21 rfl)) (Or.inl rfl) (Or.inl rfl) ?_
          rw [hA.2.2.1]
          refine g_goto (tgt := 133) dX9_told_117 (by decide) ?_
          exact g_iret dX9_told_133 (Or.inl rfl) (Nat.le_of_ble_eq_true rfl) (Nat.le_of_ble_eq_true rfl) (by
            have e : tdZ σ x = (0, if x = 0 then (runA (zP σ) (zF σ)).2.1 else if x = 1 then aW (zA σ) else if x = 3 then (runA (zP σ) (zF σ)).2.2 else if x = 2 then cntK (aR (zA σ)) (zP σ).length else cntK (isHd (zP σ)) (zP σ).length) := by
              unfold tdZ; rw [if_neg (fun h => h c_14), if_neg (by rw [c_27]; decide)]
            refine ⟨?_, rfl, hO1, ⟨S, hQ1⟩, by rw [e]; exact h0⟩
            rw [e]
            first
              | rw [if_pos c_98]
              | (rw [if_neg c_98, if_pos c_110]; rfl)
              | rw [if_neg c_98, if_neg c_110, if_pos c_122]
              | (rw [if_neg c_98, if_neg c_110, if_neg c_122]
                 by_cases c2 : x = 2
                 · rw [if_pos c2]
                   rw [show (fun s => if x = 2 then aR (zA σ) s else if x = 4 then isHd (zP σ) s else false) = aR (zA σ) from funext (fun s => by rw [if_pos c2])]
                 · have c4 : x = 4 := by
                     rw [iZ_of x] at c_98 c_110 c_122 c2 ⊢
                     have q0 : ¬ x.toInt = 0 := fun h => c_98 (by rw [h]; rfl)
                     have q1 : ¬ x.toInt = 1 := fun h => c_110 (by rw [h]; rfl)
                     have q2 : ¬ x.toInt = 2 := fun h => c2 (by rw [h]; rfl)
                     have q3 : ¬ x.toInt = 3 := fun h => c_122 (by rw [h]; rfl)
                     have q4 : x.toInt = 4 := by omega
                     rw [q4]; rfl
                   rw [if_neg c2]
                   rw [show (fun s => if x = 2 then aR (zA σ) s else if x = 4 then isHd (zP σ) s else false) = isHd (zP σ) from funext (fun s => by rw [if_neg c2, if_pos c4])]))
      · skip
        refine g_aload_n dX9_told_101 rfl ?_
        refine g_getI (f := 13) dX9_told_102 cl10 hG.1.1 (by decide) (Or.inl (iw_24 20 rfl)) (Or.inl rfl) (Or.inl rfl) ?_
        rw [h13]
        refine g_goto (tgt := 133) dX9_told_105 (by decide) ?_
        exact g_iret dX9_told_133 (Or.inl rfl) (Nat.le_of_ble_eq_true rfl) (Nat.le_of_ble_eq_true rfl) (by
          have e : tdZ σ x = (0, if x = 0 then (runA (zP σ) (zF σ)).2.1 else if x = 1 then aW (zA σ) else if x = 3 then (runA (zP σ) (zF σ)).2.2 else if x = 2 then cntK (aR (zA σ)) (zP σ).length else cntK (isHd (zP σ)) (zP σ).length) := by
            unfold tdZ; rw [if_neg (fun h => h c_14), if_neg (by rw [c_27]; decide)]
          refine ⟨?_, rfl, hO1, ⟨S, hQ1⟩, by rw [e]; exact h0⟩
          rw [e]
          first
            | rw [if_pos c_98]
            | (rw [if_neg c_98, if_pos c_110]; rfl)
            | rw [if_neg c_98, if_neg c_110, if_pos c_122]
            | (rw [if_neg c_98, if_neg c_110, if_neg c_122]
               by_cases c2 : x = 2
               · rw [if_pos c2]
                 rw [show (fun s => if x = 2 then aR (zA σ) s else if x = 4 then isHd (zP σ) s else false) = aR (zA σ) from funext (fun s => by rw [if_pos c2])]
               · have c4 : x = 4 := by
                   rw [iZ_of x] at c_98 c_110 c_122 c2 ⊢
                   have q0 : ¬ x.toInt = 0 := fun h => c_98 (by rw [h]; rfl)
                   have q1 : ¬ x.toInt = 1 := fun h => c_110 (by rw [h]; rfl)
                   have q2 : ¬ x.toInt = 2 := fun h => c2 (by rw [h]; rfl)
                   have q3 : ¬ x.toInt = 3 := fun h => c_122 (by rw [h]; rfl)
                   have q4 : x.toInt = 4 := by omega
                   rw [q4]; rfl
                 rw [if_neg c2]
                 rw [show (fun s => if x = 2 then aR (zA σ) s else if x = 4 then isHd (zP σ) s else false) = isHd (zP σ) from funext (fun s => by rw [if_neg c2, if_pos c4])]))
    · skip
      rw [bI_eq0] at c_27
      refine g_aload_n dX9_told_30 rfl ?_
      refine g_iconst (v := nI 2) dX9_told_31 rfl ?_
      refine g_callV dX9_told_32 sX9_fail (m_fail M1 n m (nI 2) hG.1) cl10 hG.1.1 iX9_fail vX9_fail (iw_13 5 rfl) rfl rfl (Nat.le_of_ble_eq_true rfl) (Nat.le_of_ble_eq_true rfl) (Nat.le_of_ble_eq_true rfl) (Nat.le_of_ble_eq_true rfl) (Nat.le_of_ble_eq_true rfl) ?_
      intro r9 M9 n9 h9
      obtain ⟨h91, h92, h93⟩ := h9
      rw [h91, h92, h93]
      clear h91 h92 h93 r9 M9 n9
      exact g_iret dX9_told_35 (Or.inl rfl) (Nat.le_of_ble_eq_true rfl) (Nat.le_of_ble_eq_true rfl) (by
        have e : tdZ σ x = (2, 0) := by
          unfold tdZ
          rw [if_neg (fun h => h c_14), if_pos c_27]
        exact ⟨by rw [e]; rfl, rfl, hO1.stI ⟨by omega, by omega⟩, ⟨S, hQ1.thr _⟩, by rw [e, mI_st, if_pos ⟨rfl, rfl⟩]⟩)
  · skip
    rw [bI_eq0, decide_eq_false_iff_not] at c_14
    refine g_aload_n dX9_told_17 rfl ?_
    refine g_iconst (v := nI 1) dX9_told_18 rfl ?_
    refine g_callV dX9_told_19 sX9_fail (m_fail M1 n m (nI 1) hG.1) cl10 hG.1.1 iX9_fail vX9_fail (iw_13 5 rfl) rfl rfl (Nat.le_of_ble_eq_true rfl) (Nat.le_of_ble_eq_true rfl) (Nat.le_of_ble_eq_true rfl) (Nat.le_of_ble_eq_true rfl) (Nat.le_of_ble_eq_true rfl) ?_
    intro r9 M9 n9 h9
    obtain ⟨h91, h92, h93⟩ := h9
    rw [h91, h92, h93]
    clear h91 h92 h93 r9 M9 n9
    exact g_iret dX9_told_22 (Or.inl rfl) (Nat.le_of_ble_eq_true rfl) (Nat.le_of_ble_eq_true rfl) (by
      have e : tdZ σ x = (1, 0) := by
        unfold tdZ
        rw [if_pos c_14]
      exact ⟨by rw [e]; rfl, rfl, hO1.stI ⟨by omega, by omega⟩, ⟨S, hQ1.thr _⟩, by rw [e, mI_st, if_pos ⟨rfl, rfl⟩]⟩)

