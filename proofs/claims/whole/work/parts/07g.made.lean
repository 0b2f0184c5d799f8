/-! the class: the closest are united; a set is made -/
def fwZ (N : List Sp) (i : Nat) : Int := if i = 0 then 4294967296 else gp N (bst N i)
theorem bst_s (N : List Sp) (i : Nat) : bst N (i + 1) = if gp N i < gp N (bst N i) then i else bst N i := rfl
def clI (M M1 : gM) (g : Nat) (N : List Sp) (l i : Nat) : Prop := Off M M1 (fY g) ∧ mI M1 g 2 = nI N.length ∧ (∀ k, k < i → ro M1 g k ((uni N l).getD k (0, 0))) ∧ ∀ k, i ≤ k → k < N.length → ro M1 g k (N.getD k (0, 0))
theorem clI.up {M M1 : gM} {g l i : Nat} {N : List Sp} (h : clI M M1 g N l i) (hl : l + 1 < N.length) (hi : l < i) (h2 : i + 1 < N.length) : clI M (stI (stI M1 (g + 1) i (iZ (N.getD (i + 1) (0, 0)).1)) (g + 2) i (iZ (N.getD (i + 1) (0, 0)).2)) g N l (i + 1) := by
  obtain ⟨h1, h3, h4, h5⟩ := h
  refine ⟨(h1.stI (Or.inr (Or.inl rfl))).stI (Or.inr (Or.inr rfl)), by rw [mI_st, if_neg (by omega), mI_st, if_neg (by omega)]; exact h3, fun k hk => ?_, fun k hk hk2 => ?_⟩
  · by_cases e : k = i
    · subst e
      rw [uni_getD N l k hl, if_neg (by omega), if_neg (by omega)]
      unfold ro
      rw [mI_st, if_neg (by omega), mI_st, if_pos ⟨rfl, rfl⟩, mI_st, if_pos ⟨rfl, rfl⟩]
      exact ⟨rfl, rfl⟩
    · have h9 := h4 k (by omega)
      unfold ro at h9 ⊢
      rw [mI_st, if_neg (by omega), mI_st, if_neg (by omega), mI_st, if_neg (by omega), mI_st, if_neg (by omega)]
      exact h9
  · have h9 := h5 k (by omega) hk2
    unfold ro at h9 ⊢
    rw [mI_st, if_neg (by omega), mI_st, if_neg (by omega), mI_st, if_neg (by omega), mI_st, if_neg (by omega)]
    exact h9
theorem clI.start {M : gM} {g l : Nat} {N : List Sp} (h : gL M g N) (hl : l + 1 < N.length) : clI M (stI M (g + 2) l (iZ (N.getD (l + 1) (0, 0)).2)) g N l (l + 1) := by
  obtain ⟨h1, h3, h4, h5⟩ := h
  refine ⟨Off.rf.stI (Or.inr (Or.inr rfl)), by rw [mI_st, if_neg (by omega)]; exact h4, fun k hk => ?_, fun k hk hk2 => ?_⟩
  · have h9 := h5 k (by omega)
    rw [uni_getD N l k hl]
    by_cases e : k < l
    · rw [if_pos e]
      unfold ro at h9 ⊢
      rw [mI_st, if_neg (by omega), mI_st, if_neg (by omega)]
      exact h9
    · rw [if_neg e]
      have e2 : k = l := by omega
      subst e2
      rw [if_pos rfl]
      unfold ro at h9 ⊢
      rw [mI_st, if_neg (by omega), mI_st, if_pos ⟨rfl, rfl⟩]
      exact ⟨h9.1, rfl⟩
  · have h9 := h5 k hk2
    unfold ro at h9 ⊢
    rw [mI_st, if_neg (by omega), mI_st, if_neg (by omega)]
    exact h9
set_option maxHeartbeats 4000000 in
set_option maxRecDepth 100000 in
theorem l_cl1 {M : gM} {n g : Nat} {N : List Sp} {Q : gθ} (h : gL M g N) (hc : cn N) (h5 : r5L N) (h2 : 2 ≤ N.length) (hk : GW μX0_uniteClosest (gRm 0 0 0 0) Q 0 0 60 [some (.ref g), some (.int (nI (bst N (N.length - 1)))), none, none, none, none, none] [] M n) : ∀ (d : Nat) (i : Nat), N.length - 1 - i < d → i ≤ N.length - 1 → GW μX0_uniteClosest (gRm 0 0 0 0) Q 0 0 9 [some (.ref g), some (.int (nI (bst N (i)))), some (.long (jI (fwZ N (i)))), none, some (.int (nI (i))), none, none] [] M n := by
  intro d
  induction d with
  | zero =>
    intro i hd hi
    omega
  | succ d ih =>
    intro i hd hi
    have hg := h.1
    have hl16 := h.2.1
    refine g_iload dX0_uniteClosest_9 rfl ?_
    refine g_iconst (v := nI 1) dX0_uniteClosest_11 rfl ?_
    refine g_iadd dX0_uniteClosest_12 ?_
    rw [nI_add]
    refine g_aload_n dX0_uniteClosest_13 rfl ?_
    refine g_getI (f := 2) dX0_uniteClosest_14 cl1 hg.1 (by decide) (Or.inl (iw_18 14 rfl)) (Or.inl rfl) (Or.inl rfl) ?_
    rw [h.2.2.1]
    refine g_icmp_ge (tgt := 60) dX0_uniteClosest_17 (by decide) (fun c_17 => ?_) (fun c_17 => ?_)
    · skip
      rw [nI_leI (by omega) (by omega)] at c_17
      refine g_msk [true, true, false, false, false, false, false] ?_
      rw [show i = N.length - 1 by omega]
      exact hk
    · skip
      rw [nI_leI (by omega) (by omega)] at c_17
      have r1 := h5 _ (getD_mem (show i < N.length by omega))
      have r2 := h5 _ (getD_mem (show i + 1 < N.length by omega))
      have gs := gp_small hc h5 (show i + 1 < N.length by omega)
      have fs : 0 < fwZ N i ∧ fwZ N i ≤ 4294967296 := by
        unfold fwZ
        split
        · omega
        · have hb := bst_lt N i (by omega)
          have := gp_small hc h5 (show bst N i + 1 < N.length by omega)
          omega
      refine g_aload_n dX0_uniteClosest_20 rfl ?_
      refine g_getR (f := 0) dX0_uniteClosest_21 cl1 hg.1 (by decide) (Or.inl (iw_5 7 rfl)) (Or.inl rfl) rfl hg.2.1 ?_
      refine g_iload dX0_uniteClosest_24 rfl ?_
      refine g_iconst (v := nI 1) dX0_uniteClosest_26 rfl ?_
      refine g_iadd dX0_uniteClosest_27 ?_
      refine g_iaload dX0_uniteClosest_28 (j := i + 1) hg.2.2.2.1 hg.2.2.2.2.2.1 (nI_add i 1) (by omega) (by decide) ?_
      rw [(h.2.2.2 (i + 1) (by omega)).1]
      refine g_i2l dX0_uniteClosest_29 ?_
      rw [iZ_j r2.1.1 r2.1.2]
      refine g_aload_n dX0_uniteClosest_30 rfl ?_
      refine g_getR (f := 1) dX0_uniteClosest_31 cl1 hg.1 (by decide) (Or.inl (iw_5 8 rfl)) (Or.inl rfl) rfl hg.2.2.1 ?_
      refine g_iload dX0_uniteClosest_34 rfl ?_
      refine g_iaload dX0_uniteClosest_36 (j := i) hg.2.2.2.2.1 hg.2.2.2.2.2.2 rfl (by omega) (by decide) ?_
      rw [(h.2.2.2 i (by omega)).2]
      refine g_i2l dX0_uniteClosest_37 ?_
      rw [iZ_j r1.2.1 r1.2.2]
      refine g_lsub dX0_uniteClosest_38 ?_
      rw [jI_sub, show (N.getD (i + 1) (0, 0)).1 - (N.getD i (0, 0)).2 = gp N i from rfl]
      refine g_lstore dX0_uniteClosest_39 (Nat.le_of_ble_eq_true rfl) ?_
      refine g_lload dX0_uniteClosest_41 rfl ?_
      refine g_lload_n dX0_uniteClosest_43 rfl ?_
      refine g_lcmp dX0_uniteClosest_44 ?_
      refine g_if_ge (tgt := 54) dX0_uniteClosest_45 (by decide) (fun c_45 => ?_) (fun c_45 => ?_)
      · skip
        first
          | (have e8 := e9)
          | (rw [jc_ge (by constructor <;> omega) (by constructor <;> omega)] at c_45
             have e9 : bst N (i + 1) = bst N i ∧ fwZ N (i + 1) = fwZ N i := by
               have e0 : ¬ i = 0 := fun e => by
                 rw [e] at c_45 gs
                 unfold fwZ at c_45
                 rw [if_pos rfl] at c_45
                 omega
               have e1 : bst N (i + 1) = bst N i := by
                 rw [bst_s]; unfold fwZ at c_45; rw [if_neg e0] at c_45; rw [if_neg (by omega)]
               refine ⟨e1, ?_⟩
               unfold fwZ
               rw [if_neg (by omega), if_neg e0, e1])
        refine g_msk [true, true, true, false, true, false, false] ?_
        refine g_iinc dX0_uniteClosest_54 rfl (nI_1 i) (Nat.le_of_ble_eq_true rfl) ?_
        refine g_goto (tgt := 9) dX0_uniteClosest_57 (by decide) ?_
        have hg := h.1
        have hl16 := h.2.1
        have h8 := ih (i + 1) (by omega) (by omega)
        rw [e9.1, e9.2] at h8
        exact h8
      · skip
        rw [jc_ge (by constructor <;> omega) (by constructor <;> omega)] at c_45
        have e9 : bst N (i + 1) = i ∧ fwZ N (i + 1) = gp N i := by
          have e1 : bst N (i + 1) = i := by
            by_cases e : i = 0
            · subst e; exact bst_1 N
            · rw [bst_s]; unfold fwZ at c_45; rw [if_neg e] at c_45; rw [if_pos (by omega)]
          refine ⟨e1, ?_⟩
          unfold fwZ
          rw [if_neg (by omega), e1]
        refine g_lload dX0_uniteClosest_48 rfl ?_
        refine g_lstore_n dX0_uniteClosest_50 (Nat.le_of_ble_eq_true rfl) ?_
        refine g_iload dX0_uniteClosest_51 rfl ?_
        refine g_istore_n dX0_uniteClosest_53 (Nat.le_of_ble_eq_true rfl) ?_
        first
          | (have e8 := e9)
          | (rw [jc_ge (by constructor <;> omega) (by constructor <;> omega)] at c_45
             have e9 : bst N (i + 1) = bst N i ∧ fwZ N (i + 1) = fwZ N i := by
               have e0 : ¬ i = 0 := fun e => by
                 rw [e] at c_45 gs
                 unfold fwZ at c_45
                 rw [if_pos rfl] at c_45
                 omega
               have e1 : bst N (i + 1) = bst N i := by
                 rw [bst_s]; unfold fwZ at c_45; rw [if_neg e0] at c_45; rw [if_neg (by omega)]
               refine ⟨e1, ?_⟩
               unfold fwZ
               rw [if_neg (by omega), if_neg e0, e1])
        refine g_msk [true, true, true, false, true, false, false] ?_
        refine g_iinc dX0_uniteClosest_54 rfl (nI_1 i) (Nat.le_of_ble_eq_true rfl) ?_
        refine g_goto (tgt := 9) dX0_uniteClosest_57 (by decide) ?_
        have hg := h.1
        have hl16 := h.2.1
        have h8 := ih (i + 1) (by omega) (by omega)
        rw [e9.1, e9.2] at h8
        exact h8

set_option maxHeartbeats 4000000 in
set_option maxRecDepth 100000 in
theorem l_cl2 {M : gM} {n g l : Nat} {N : List Sp} {Q : gθ} (hg0 : gG M g) (hl16 : N.length ≤ 16) (hl : l + 1 < N.length) (hk : ∀ M1, clI M M1 g N l (N.length - 1) → GW μX0_uniteClosest (gRm 0 0 0 0) Q 0 0 128 [some (.ref g), none, none, none, none, none, none] [] M1 n) : ∀ (d : Nat) (i : Nat) (M1 : gM), N.length - 1 - i < d → i ≤ N.length - 1 → l < i → clI M M1 g N l i → GW μX0_uniteClosest (gRm 0 0 0 0) Q 0 0 79 [some (.ref g), none, none, none, some (.int (nI i)), none, none] [] M1 n := by
  intro d
  induction d with
  | zero =>
    intro i M1 hd hi hli hI
    omega
  | succ d ih =>
    intro i M1 hd hi hli hI
    have hg := hg0.off hI.1
    refine g_iload dX0_uniteClosest_79 rfl ?_
    refine g_iconst (v := nI 1) dX0_uniteClosest_81 rfl ?_
    refine g_iadd dX0_uniteClosest_82 ?_
    rw [nI_add]
    refine g_aload_n dX0_uniteClosest_83 rfl ?_
    refine g_getI (f := 2) dX0_uniteClosest_84 cl1 hg.1 (by decide) (Or.inl (iw_18 14 rfl)) (Or.inl rfl) (Or.inl rfl) ?_
    rw [hI.2.1]
    refine g_icmp_ge (tgt := 128) dX0_uniteClosest_87 (by decide) (fun c_87 => ?_) (fun c_87 => ?_)
    · skip
      rw [nI_leI (by omega) (by omega)] at c_87
      refine g_drop 4 ?_
      rw [show i = N.length - 1 by omega] at hI
      exact hk M1 hI
    · skip
      rw [nI_leI (by omega) (by omega)] at c_87
      have e9 := hI.2.2.2 (i + 1) (by omega) (by omega)
      refine g_aload_n dX0_uniteClosest_90 rfl ?_
      refine g_getR (f := 0) dX0_uniteClosest_91 cl1 hg.1 (by decide) (Or.inl (iw_5 7 rfl)) (Or.inl rfl) rfl hg.2.1 ?_
      refine g_iload dX0_uniteClosest_94 rfl ?_
      refine g_aload_n dX0_uniteClosest_96 rfl ?_
      refine g_getR (f := 0) dX0_uniteClosest_97 cl1 hg.1 (by decide) (Or.inl (iw_5 7 rfl)) (Or.inl rfl) rfl hg.2.1 ?_
      refine g_iload dX0_uniteClosest_100 rfl ?_
      refine g_iconst (v := nI 1) dX0_uniteClosest_102 rfl ?_
      refine g_iadd dX0_uniteClosest_103 ?_
      refine g_iaload dX0_uniteClosest_104 (j := i + 1) hg.2.2.2.1 hg.2.2.2.2.2.1 (nI_add i 1) (by omega) (by decide) ?_
      rw [e9.1]
      refine g_iastore dX0_uniteClosest_105 (j := i) hg.2.2.2.1 hg.2.2.2.2.2.1 rfl (by omega) (by decide) ?_
      refine g_aload_n dX0_uniteClosest_106 rfl ?_
      refine g_getR (f := 1) dX0_uniteClosest_107 cl1 hg.1 (by decide) (Or.inl (iw_5 8 rfl)) (Or.inl rfl) rfl hg.2.2.1 ?_
      refine g_iload dX0_uniteClosest_110 rfl ?_
      refine g_aload_n dX0_uniteClosest_112 rfl ?_
      refine g_getR (f := 1) dX0_uniteClosest_113 cl1 hg.1 (by decide) (Or.inl (iw_5 8 rfl)) (Or.inl rfl) rfl hg.2.2.1 ?_
      refine g_iload dX0_uniteClosest_116 rfl ?_
      refine g_iconst (v := nI 1) dX0_uniteClosest_118 rfl ?_
      refine g_iadd dX0_uniteClosest_119 ?_
      refine g_iaload dX0_uniteClosest_120 (j := i + 1) hg.2.2.2.2.1 hg.2.2.2.2.2.2 (nI_add i 1) (by omega) (by decide) ?_
      rw [mI_st, if_neg (by omega), e9.2]
      refine g_iastore dX0_uniteClosest_121 (j := i) hg.2.2.2.2.1 hg.2.2.2.2.2.2 rfl (by omega) (by decide) ?_
      refine g_iinc dX0_uniteClosest_122 rfl (nI_1 i) (Nat.le_of_ble_eq_true rfl) ?_
      refine g_goto (tgt := 79) dX0_uniteClosest_125 (by decide) ?_
      have hg := hg0.off hI.1
      exact ih (i + 1) _ (by omega) (by omega) (by omega) (hI.up hl hli (by omega))

set_option maxHeartbeats 4000000 in
set_option maxRecDepth 100000 in
theorem c_close (M : gM) (n g : Nat) (N : List Sp) (h : gL M g N) (hc : cn N) (h5 : r5L N) (h2 : 2 ≤ N.length) : GM μX0_uniteClosest 0 0 0 0 [.ref g] M n (fun r M1 n1 => r = none ∧ n1 = n ∧ Off M M1 (fY g) ∧ gL M1 g (uni N (bst N (N.length - 1)))) := by
  refine GM.ofW (by decide) rfl (Nat.le_of_ble_eq_true rfl) rfl ?_
  refine g_iconst (v := nI 0) dX0_uniteClosest_0 rfl ?_
  refine g_istore_n dX0_uniteClosest_1 (Nat.le_of_ble_eq_true rfl) ?_
  refine g_ldc2 (v := jI (4294967296)) dX0_uniteClosest_2 (iw_19 9 rfl) ?_
  refine g_lstore_n dX0_uniteClosest_5 (Nat.le_of_ble_eq_true rfl) ?_
  refine g_iconst (v := nI 0) dX0_uniteClosest_6 rfl ?_
  refine g_istore dX0_uniteClosest_7 (Nat.le_of_ble_eq_true rfl) ?_
  have hl16 := h.2.1
  have hb := bst_lt N (N.length - 1) (by omega)
  refine l_cl1 h hc h5 h2 ?_ (N.length + 1) 0 (by omega) (by omega)
  have hg := h.1
  have e9 := (h.2.2.2 (bst N (N.length - 1) + 1) (by omega)).2
  generalize hbl : bst N (N.length - 1) = l at hb e9 ⊢
  refine g_aload_n dX0_uniteClosest_60 rfl ?_
  refine g_getR (f := 1) dX0_uniteClosest_61 cl1 hg.1 (by decide) (Or.inl (iw_5 8 rfl)) (Or.inl rfl) rfl hg.2.2.1 ?_
  refine g_iload_n dX0_uniteClosest_64 rfl ?_
  refine g_aload_n dX0_uniteClosest_65 rfl ?_
  refine g_getR (f := 1) dX0_uniteClosest_66 cl1 hg.1 (by decide) (Or.inl (iw_5 8 rfl)) (Or.inl rfl) rfl hg.2.2.1 ?_
  refine g_iload_n dX0_uniteClosest_69 rfl ?_
  refine g_iconst (v := nI 1) dX0_uniteClosest_70 rfl ?_
  refine g_iadd dX0_uniteClosest_71 ?_
  refine g_iaload dX0_uniteClosest_72 (j := l + 1) hg.2.2.2.2.1 hg.2.2.2.2.2.2 (nI_add l 1) (by omega) (by decide) ?_
  rw [e9]
  refine g_iastore dX0_uniteClosest_73 (j := l) hg.2.2.2.2.1 hg.2.2.2.2.2.2 rfl (by omega) (by decide) ?_
  refine g_iload_n dX0_uniteClosest_74 rfl ?_
  refine g_iconst (v := nI 1) dX0_uniteClosest_75 rfl ?_
  refine g_iadd dX0_uniteClosest_76 ?_
  rw [nI_add]
  refine g_istore dX0_uniteClosest_77 (Nat.le_of_ble_eq_true rfl) ?_
  refine g_drop 1 ?_
  refine l_cl2 h.1 hl16 (by omega) (fun M1 hI => ?_) (N.length + 1) (l + 1) _ (by omega) (by omega) (by omega) (clI.start h (by omega))
  have hg2 := h.1.off hI.1
  refine g_aload_n dX0_uniteClosest_128 rfl ?_
  refine g_dup dX0_uniteClosest_129 rfl ?_
  refine g_getI (f := 2) dX0_uniteClosest_130 cl1 hg2.1 (by decide) (Or.inl (iw_18 14 rfl)) (Or.inl rfl) (Or.inl rfl) ?_
  refine g_iconst (v := nI 1) dX0_uniteClosest_133 rfl ?_
  refine g_isub dX0_uniteClosest_134 ?_
  rw [hI.2.1, nI_p (by omega)]
  refine g_putI (f := 2) dX0_uniteClosest_135 cl1 hg2.1 (by decide) (Or.inl (iw_18 14 rfl)) (Or.inl rfl) (Or.inl rfl) (Or.inl rfl) ?_
  exact g_vret dX0_uniteClosest_138 rfl (Nat.le_of_ble_eq_true rfl) (Nat.le_of_ble_eq_true rfl) (by
    refine ⟨rfl, rfl, hI.1.stI (Or.inl rfl), hg2, by rw [uni_len N l (by omega)]; omega, by rw [mI_st, if_pos ⟨rfl, rfl⟩, uni_len N l (by omega)], fun k hk => ?_⟩
    rw [uni_len N l (by omega)] at hk
    have h9 := hI.2.2.1 k hk
    unfold ro at h9 ⊢
    rw [mI_st, if_neg (by omega), mI_st, if_neg (by omega)]
    exact h9)

set_option maxHeartbeats 4000000 in
set_option maxRecDepth 100000 in
theorem l_into1 {M : gM} {n g a : Nat} {X : List Sp} {Q : gθ} (hg0 : gG M g) (hk : ∀ M1 N, Off M M1 (fY g) → gL M1 g N → cn N → r5L N → N.length ≤ 2 → N = X → GW μX0_makeInto (gRm 1 26 0 0) Q 0 0 24 [some (.ref g), some (.ref a), none] [] M1 n) : ∀ (d : Nat) (N : List Sp) (M1 : gM), N.length < d → Off M M1 (fY g) → gL M1 g N → cn N → r5L N → rdF N.length N = X → GW μX0_makeInto (gRm 1 26 0 0) Q 0 0 9 [some (.ref g), some (.ref a), some (.int (nI N.length))] [] M1 n := by
  intro d
  induction d with
  | zero =>
    intro N M1 hd hO hI hc h5 hX
    omega
  | succ d ih =>
    intro N M1 hd hO hI hc h5 hX
    have hg := hI.1
    have hl16 := hI.2.1
    refine g_iload_n dX0_makeInto_9 rfl ?_
    refine g_iconst (v := nI 2) dX0_makeInto_10 rfl ?_
    refine g_icmp_le (tgt := 24) dX0_makeInto_11 (by decide) (fun c_11 => ?_) (fun c_11 => ?_)
    · skip
      rw [nI_leI (by omega) (by omega)] at c_11
      refine g_drop 2 ?_
      exact hk M1 N hO hI hc h5 c_11 (by rw [← hX, rdF_end c_11])
    · skip
      rw [nI_leI (by omega) (by omega)] at c_11
      have hbl := bst_lt N (N.length - 1) (by omega)
      have hul := uni_len N (bst N (N.length - 1)) (by omega)
      refine g_aload_n dX0_makeInto_14 rfl ?_
      refine g_callV dX0_makeInto_15 sX0_uniteClosest (c_close M1 n g N hI hc h5 (by omega)) cl1 hg.1 iX0_uniteClosest vX0_uniteClosest (iw_19 5 rfl) rfl rfl (Nat.le_of_ble_eq_true rfl) (Nat.le_of_ble_eq_true rfl) (Nat.le_of_ble_eq_true rfl) (Nat.le_of_ble_eq_true rfl) (Nat.le_of_ble_eq_true rfl) ?_
      intro r9 M2 n9 h9
      obtain ⟨h91, h93, hO2, hI2⟩ := h9
      rw [h91, h93]
      clear h91 h93 r9 n9
      refine g_iinc dX0_makeInto_18 rfl (nI_m (by omega)) (Nat.le_of_ble_eq_true rfl) ?_
      refine g_goto (tgt := 9) dX0_makeInto_21 (by decide) ?_
      have hg := hI.1
      have hl16 := hI.2.1
      rw [← hul]
      exact ih (uni N (bst N (N.length - 1))) M2 (by omega) (hO.trans hO2) hI2 (uni_cn hc (by omega)) (uni_r5 h5 (by omega)) (by rw [← rdF_step (by omega)]; exact hX)

set_option maxHeartbeats 4000000 in
set_option maxRecDepth 100000 in
theorem l_into2 {M : gM} {n g a : Nat} {X : List Sp} {Q : gθ} (h : gL M g X) (hX : okX X) (ha : mK M a = 4) (hk : ∀ M1, Off M M1 (fO a) → cS M1 a X → GW μX0_makeInto (gRm 1 26 0 0) Q 0 0 60 [some (.ref g), some (.ref a), none] [] M1 n) : ∀ (d : Nat) (k : Nat) (M1 : gM), X.length - k < d → k ≤ X.length → Off M M1 (fO a) → cS M1 a (X.take k) → GW μX0_makeInto (gRm 1 26 0 0) Q 0 0 30 [some (.ref g), some (.ref a), some (.int (nI k))] [] M1 n := by
  intro d
  induction d with
  | zero =>
    intro k M1 hd hk1 hO hI
    omega
  | succ d ih =>
    intro k M1 hd hk1 hO hI
    have hne : ∀ i k, fY g i k → ¬ i = a := fun i k q e => by
      subst e
      rcases q with q | q | q <;> rw [q] at ha
      · rw [h.1.1] at ha; cases ha
      · rw [h.1.2.2.2.1] at ha; cases ha
      · rw [h.1.2.2.2.2.1] at ha; cases ha
    have h1 := h.off hO hne
    have hg := h1.1
    have l2 := hX.2.1
    refine g_iload_n dX0_makeInto_30 rfl ?_
    refine g_aload_n dX0_makeInto_31 rfl ?_
    refine g_getI (f := 2) dX0_makeInto_32 cl1 hg.1 (by decide) (Or.inl (iw_18 14 rfl)) (Or.inl rfl) (Or.inl rfl) ?_
    rw [h1.2.2.1]
    refine g_icmp_ge (tgt := 60) dX0_makeInto_35 (by decide) (fun c_35 => ?_) (fun c_35 => ?_)
    · skip
      rw [nI_leI (by omega) (by omega)] at c_35
      refine g_drop 2 ?_
      exact hk M1 hO (by rw [List.take_of_length_le (by omega)] at hI; exact hI)
    · skip
      rw [nI_leI (by omega) (by omega)] at c_35
      have hkl : k < X.length := by omega
      have e9 := h1.2.2.2 k hkl
      refine g_aload_n dX0_makeInto_38 rfl ?_
      refine g_aload_n dX0_makeInto_39 rfl ?_
      refine g_getR (f := 0) dX0_makeInto_40 cl1 hg.1 (by decide) (Or.inl (iw_5 7 rfl)) (Or.inl rfl) rfl hg.2.1 ?_
      refine g_iload_n dX0_makeInto_43 rfl ?_
      refine g_iaload dX0_makeInto_44 (j := k) hg.2.2.2.1 hg.2.2.2.2.2.1 rfl (by omega) (by decide) ?_
      rw [e9.1]
      refine g_aload_n dX0_makeInto_45 rfl ?_
      refine g_getR (f := 1) dX0_makeInto_46 cl1 hg.1 (by decide) (Or.inl (iw_5 8 rfl)) (Or.inl rfl) rfl hg.2.2.1 ?_
      refine g_iload_n dX0_makeInto_49 rfl ?_
      refine g_iaload dX0_makeInto_50 (j := k) hg.2.2.2.2.1 hg.2.2.2.2.2.2 rfl (by omega) (by decide) ?_
      rw [e9.2]
      refine g_callV dX0_makeInto_51 sX3_append (c_append M1 n a (X.take k) (X.getD k (0, 0)) hI (by rw [← take_one hkl]; exact okX_take hX (k + 1))) cl4 hI.1 iX3_append vX3_append (iw_19 11 rfl) rfl rfl (Nat.le_of_ble_eq_true rfl) (Nat.le_of_ble_eq_true rfl) (Nat.le_of_ble_eq_true rfl) (Nat.le_of_ble_eq_true rfl) (Nat.le_of_ble_eq_true rfl) ?_
      intro r9 M2 n9 h9
      obtain ⟨h91, h93, hO2, hI2⟩ := h9
      rw [h91, h93]
      clear h91 h93 r9 n9
      refine g_iinc dX0_makeInto_54 rfl (nI_1 k) (Nat.le_of_ble_eq_true rfl) ?_
      refine g_goto (tgt := 30) dX0_makeInto_57 (by decide) ?_
      have hne : ∀ i k, fY g i k → ¬ i = a := fun i k q e => by
        subst e
        rcases q with q | q | q <;> rw [q] at ha
        · rw [h.1.1] at ha; cases ha
        · rw [h.1.2.2.2.1] at ha; cases ha
        · rw [h.1.2.2.2.2.1] at ha; cases ha
      have h1 := h.off hO hne
      have hg := h1.1
      have l2 := hX.2.1
      exact ih (k + 1) M2 (by omega) (by omega) (hO.trans hO2) (by rw [take_one hkl]; exact hI2)

set_option maxHeartbeats 4000000 in
set_option maxRecDepth 100000 in
theorem c_into (M : gM) (n g a : Nat) (U : List Sp) (h : gt M g U) (hw : wl U) (ha : mK M a = 4) : GM μX0_makeInto 1 26 0 0 [.ref g, .ref a] M n (fun r M1 n1 => r = none ∧ n1 = n ∧ Off M M1 (fun i k => fY g i k ∨ i = a) ∧ cS M1 a (mkS U)) := by
  refine GM.ofW (by decide) rfl (Nat.le_of_ble_eq_true rfl) rfl ?_
  refine g_aload_n dX0_makeInto_0 rfl ?_
  refine g_callV dX0_makeInto_1 sX0_uniteTouching (c_touch M n g U h hw) cl1 h.g.1 iX0_uniteTouching vX0_uniteTouching (iw_19 1 rfl) rfl rfl (Nat.le_of_ble_eq_true rfl) (Nat.le_of_ble_eq_true rfl) (Nat.le_of_ble_eq_true rfl) (Nat.le_of_ble_eq_true rfl) (Nat.le_of_ble_eq_true rfl) ?_
  intro r9 M1 n9 h9
  obtain ⟨h91, h93, hO1, hI1⟩ := h9
  rw [h91, h93]
  clear h91 h93 r9 n9
  refine g_aload_n dX0_makeInto_4 rfl ?_
  refine g_getI (f := 2) dX0_makeInto_5 cl1 hI1.1.1 (by decide) (Or.inl (iw_18 14 rfl)) (Or.inl rfl) (Or.inl rfl) ?_
  rw [hI1.2.2.1]
  refine g_istore_n dX0_makeInto_8 (Nat.le_of_ble_eq_true rfl) ?_
  refine l_into1 hI1.1 (X := mkS U) (fun M2 N hO2 hI2 hc h5 hl hX => ?_) ((nrm U).length + 1) (nrm U) M1 (by omega) Off.rf hI1 (nrm_cn U hw.1) (by
    intro x hx
    exact nrm_r5 hw x hx) rfl
  have ha2 : mK M2 a = 4 := by rw [hO2.1, hO1.1]; exact ha
  subst hX
  refine g_aload_n dX0_makeInto_24 rfl ?_
  refine g_callV dX0_makeInto_25 sX3_becomeNothing (c_nothing M2 n a ha2) cl4 ha2 iX3_becomeNothing vX3_becomeNothing (iw_19 10 rfl) rfl rfl (Nat.le_of_ble_eq_true rfl) (Nat.le_of_ble_eq_true rfl) (Nat.le_of_ble_eq_true rfl) (Nat.le_of_ble_eq_true rfl) (Nat.le_of_ble_eq_true rfl) ?_
  intro r9 M3 n9 h9
  obtain ⟨h91, h93, hO3, hI3⟩ := h9
  rw [h91, h93]
  clear h91 h93 r9 n9
  refine g_iconst (v := nI 0) dX0_makeInto_28 rfl ?_
  refine g_istore_n dX0_makeInto_29 (Nat.le_of_ble_eq_true rfl) ?_
  have hne : ∀ i k, fY g i k → ¬ i = a := fun i k q e => by
    subst e
    rcases q with q | q | q <;> rw [q] at ha2
    · rw [hI2.1.1] at ha2; cases ha2
    · rw [hI2.1.2.2.2.1] at ha2; cases ha2
    · rw [hI2.1.2.2.2.2.1] at ha2; cases ha2
  refine l_into2 (hI2.off hO3 hne) ⟨hc, hl, h5⟩ hI3.1 (fun M4 hO4 hI4 => ?_) ((mkS U).length + 1) 0 M3 (by omega) (by omega) Off.rf (by simpa using hI3)
  exact g_vret dX0_makeInto_60 rfl (Nat.le_refl _) (Nat.le_refl _) ⟨rfl, rfl, (((hO1.trans hO2).mono (fun i k q => Or.inl q)).trans ((hO3.trans hO4).mono (fun i k q => Or.inr q))), hI4⟩

set_option maxHeartbeats 4000000 in
set_option maxRecDepth 100000 in
theorem c_joined (M : gM) (n g x y a : Nat) (X Y : List Sp) (hg : gG M g) (hX : cS M x X) (hY : cS M y Y) (ha : mK M a = 4) : GM μX0_makeJoined 2 48 0 0 [.ref g, .ref x, .ref y, .ref a] M n (fun r M1 n1 => r = none ∧ n1 = n ∧ Off M M1 (fun i k => fY g i k ∨ i = a) ∧ cS M1 a (mkS (X ++ Y))) := by
  refine GM.ofW (by decide) rfl (Nat.le_of_ble_eq_true rfl) rfl ?_
  have l2 := hX.2.1.2.1
  have l3 := hY.2.1.2.1
  refine g_aload_n dX0_makeJoined_0 rfl ?_
  refine g_callV dX0_makeJoined_1 sX0_startAnew (c_anew M n g hg) cl1 hg.1 iX0_startAnew vX0_startAnew (iw_18 10 rfl) rfl rfl (Nat.le_of_ble_eq_true rfl) (Nat.le_of_ble_eq_true rfl) (Nat.le_of_ble_eq_true rfl) (Nat.le_of_ble_eq_true rfl) (Nat.le_of_ble_eq_true rfl) ?_
  intro r9 M1 n9 h9
  obtain ⟨h91, h93, hO1, hI1⟩ := h9
  rw [h91, h93]
  clear h91 h93 r9 n9
  refine g_aload_n dX0_makeJoined_4 rfl ?_
  refine g_aload_n dX0_makeJoined_5 rfl ?_
  refine g_callV dX0_makeJoined_6 sX0_addAll (c_addAll M1 n g x [] X hI1 (hX.offY hg hO1) (by simp; omega) wl_nil.2) cl1 hI1.g.1 iX0_addAll vX0_addAll (iw_20 18 rfl) rfl rfl (Nat.le_of_ble_eq_true rfl) (Nat.le_of_ble_eq_true rfl) (Nat.le_of_ble_eq_true rfl) (Nat.le_of_ble_eq_true rfl) (Nat.le_of_ble_eq_true rfl) ?_
  intro r9 M2 n9 h9
  obtain ⟨h91, h93, hO2, hI2⟩ := h9
  rw [h91, h93]
  clear h91 h93 r9 n9
  refine g_aload_n dX0_makeJoined_9 rfl ?_
  refine g_aload_n dX0_makeJoined_10 rfl ?_
  refine g_callV dX0_makeJoined_11 sX0_addAll (c_addAll M2 n g y ([] ++ X) Y hI2 (hY.offY hg (hO1.trans hO2)) (by simp; omega) (by rw [List.nil_append]; exact hX.2.1.2.2)) cl1 hI2.g.1 iX0_addAll vX0_addAll (iw_20 18 rfl) rfl rfl (Nat.le_of_ble_eq_true rfl) (Nat.le_of_ble_eq_true rfl) (Nat.le_of_ble_eq_true rfl) (Nat.le_of_ble_eq_true rfl) (Nat.le_of_ble_eq_true rfl) ?_
  intro r9 M3 n9 h9
  obtain ⟨h91, h93, hO3, hI3⟩ := h9
  rw [h91, h93]
  clear h91 h93 r9 n9
  refine g_aload_n dX0_makeJoined_14 rfl ?_
  refine g_aload_n dX0_makeJoined_15 rfl ?_
  refine g_callV dX0_makeJoined_16 sX0_makeInto (c_into M3 n g a ([] ++ X ++ Y) hI3 (by simpa using wl_app hX.2.1.wl hY.2.1.wl) (by rw [hO3.1, hO2.1, hO1.1]; exact ha)) cl1 hI3.g.1 iX0_makeInto vX0_makeInto (iw_18 21 rfl) rfl rfl (Nat.le_of_ble_eq_true rfl) (Nat.le_of_ble_eq_true rfl) (Nat.le_of_ble_eq_true rfl) (Nat.le_of_ble_eq_true rfl) (Nat.le_of_ble_eq_true rfl) ?_
  intro r9 M4 n9 h9
  obtain ⟨h91, h93, hO4, hI4⟩ := h9
  rw [h91, h93]
  clear h91 h93 r9 n9
  exact g_vret dX0_makeJoined_19 rfl (Nat.le_of_ble_eq_true rfl) (Nat.le_of_ble_eq_true rfl) ⟨rfl, rfl, ((hO1.trans (hO2.trans hO3)).mono (fun i k q => Or.inl q)).trans hO4, by simpa using hI4⟩

theorem iZ_max {a b : Int} (ha : r5 a) (hb : r5 b) : (if iZ a < iZ b then iZ b else iZ a) = iZ (max a b) := by
  by_cases h : a < b
  · rw [if_pos ((iZ_lt ha hb).mpr h), show max a b = b by omega]
  · rw [if_neg (fun q => h ((iZ_lt ha hb).mp q)), show max a b = a by omega]
theorem iZ_min {a b : Int} (ha : r5 a) (hb : r5 b) : (if iZ b < iZ a then iZ b else iZ a) = iZ (min a b) := by
  by_cases h : b < a
  · rw [if_pos ((iZ_lt hb ha).mpr h), show min a b = b by omega]
  · rw [if_neg (fun q => h ((iZ_lt hb ha).mp q)), show min a b = a by omega]
theorem cm_app (A B Y : List Sp) : cmL (A ++ B) Y = cmL A Y ++ cmL B Y := by
  unfold cmL
  rw [List.flatMap_append, List.filter_append]
theorem cm_take {x : Sp} {Y : List Sp} {j : Nat} (h : j < Y.length) : cmL [x] (Y.take (j + 1)) = layP (cmL [x] (Y.take j)) (cmp2 x (Y.getD j (0, 0))) := by
  unfold cmL
  rw [List.flatMap_singleton, List.flatMap_singleton, take_one h, List.map_append, List.filter_append, ← filter_one]
  rfl
theorem cm_wl {X Y : List Sp} (hX : okX X) (hY : okX Y) (i j : Nat) : wl (cmL (X.take i) Y ++ cmL [(X.getD i (0, 0))] (Y.take j)) := by
  refine wl_app (cmL_wl (okX_take hX i).wl hY.wl) ?_
  by_cases h : i < X.length
  · refine cmL_wl ⟨fun p hp => ?_, fun p hp => ?_⟩ (okX_take hY j).wl
    · simp at hp; rw [hp]; exact hX.wl.1 _ (getD_mem h)
    · simp at hp; rw [hp]; exact hX.2.2 _ (getD_mem h)
  · have e : (X.getD i (0, 0)) = (0, 0) := by
      rw [List.getD_eq_getElem?_getD, List.getElem?_eq_none (by omega)]; rfl
    rw [e]
    refine cmL_wl ⟨fun p hp => ?_, fun p hp => ?_⟩ (okX_take hY j).wl
    · simp at hp; rw [hp]; decide
    · simp at hp; rw [hp]; exact ⟨⟨by decide, by decide⟩, ⟨by decide, by decide⟩⟩
theorem cm_len {X Y : List Sp} (hX : okX X) (hY : okX Y) (i j : Nat) : (cmL (X.take i) Y ++ cmL [(X.getD i (0, 0))] (Y.take j)).length ≤ 8 := by
  have h1 := cmL_len (okX_take hX i).2.1 hY.2.1
  have h2 := cmL_len (X := [(X.getD i (0, 0))]) (by simp) (okX_take hY j).2.1
  rw [List.length_append]
  omega
set_option maxHeartbeats 4000000 in
set_option maxRecDepth 100000 in
theorem k_cm2 {M : gM} {n g x y a i : Nat} {X Y : List Sp} {Q : gθ} (hg0 : gG M g) (hX : cS M x X) (hY : cS M y Y) (hi : i < X.length) (hk : ∀ M1, Off M M1 (fY g) → gt M1 g (cmL (X.take (i + 1)) Y) → GW μX0_makeCommon (gRm 2 48 0 0) Q 0 0 83 [some (.ref g), some (.ref x), some (.ref y), some (.ref a), some (.int (nI i)), none, none, none] [] M1 n) : ∀ (d : Nat) (j : Nat) (M1 : gM), Y.length - j < d → j ≤ Y.length → Off M M1 (fY g) → gt M1 g (cmL (X.take i) Y ++ cmL [(X.getD i (0, 0))] (Y.take j)) → GW μX0_makeCommon (gRm 2 48 0 0) Q 0 0 19 [some (.ref g), some (.ref x), some (.ref y), some (.ref a), some (.int (nI i)), some (.int (nI j)), none, none] [] M1 n := by
  intro d
  induction d with
  | zero =>
    intro j M1 hd hj hO hI
    omega
  | succ d ih =>
    intro j M1 hd hj hO hI
    have hx1 := hX.offY hg0 hO
    have hy1 := hY.offY hg0 hO
    have l2 := hX.2.1.2.1
    have l3 := hY.2.1.2.1
    refine g_iload dX0_makeCommon_19 rfl ?_
    refine g_aload_n dX0_makeCommon_21 rfl ?_
    refine g_getI (f := 0) dX0_makeCommon_22 cl4 hy1.1 (by decide) (Or.inr (List.mem_of_getElem? (i := 14) rfl)) (Or.inl rfl) (Or.inl rfl) ?_
    rw [hy1.2.2.1]
    refine g_icmp_ge (tgt := 83) dX0_makeCommon_25 (by decide) (fun c_25 => ?_) (fun c_25 => ?_)
    · skip
      rw [nI_leI (by omega) (by omega)] at c_25
      refine g_msk [true, true, true, true, true, false, false, false] ?_
      exact hk M1 hO (by rw [take_one hi, cm_app]; rw [List.take_of_length_le (l := Y) (by omega)] at hI; exact hI)
    · skip
      rw [nI_leI (by omega) (by omega)] at c_25
      have hjl : j < Y.length := by omega
      have hr := hX.r hi
      have hs := hY.r hjl
      have clen := cm_len hX.2.1 hY.2.1 i j
      have cwl := cm_wl hX.2.1 hY.2.1 i j
      refine g_aload_n dX0_makeCommon_28 rfl ?_
      refine g_iload dX0_makeCommon_29 rfl ?_
      refine g_callV dX0_makeCommon_31 sX3_low (c_low M1 n x i X hx1 hi) cl4 hx1.1 iX3_low vX3_low (iw_18 15 rfl) rfl rfl (Nat.le_of_ble_eq_true rfl) (Nat.le_of_ble_eq_true rfl) (Nat.le_of_ble_eq_true rfl) (Nat.le_of_ble_eq_true rfl) (Nat.le_of_ble_eq_true rfl) ?_
      intro r9 M9 n9 h9
      obtain ⟨h91, h92, h93⟩ := h9
      rw [h91, h92, h93]
      clear h91 h92 h93 r9 M9 n9
      refine g_aload_n dX0_makeCommon_34 rfl ?_
      refine g_iload dX0_makeCommon_35 rfl ?_
      refine g_callV dX0_makeCommon_37 sX3_low (c_low M1 n y j Y hy1 hjl) cl4 hy1.1 iX3_low vX3_low (iw_18 15 rfl) rfl rfl (Nat.le_of_ble_eq_true rfl) (Nat.le_of_ble_eq_true rfl) (Nat.le_of_ble_eq_true rfl) (Nat.le_of_ble_eq_true rfl) (Nat.le_of_ble_eq_true rfl) ?_
      intro r9 M9 n9 h9
      obtain ⟨h91, h92, h93⟩ := h9
      rw [h91, h92, h93]
      clear h91 h92 h93 r9 M9 n9
      refine g_mmax dX0_makeCommon_40 (iw_18 8 rfl) (iw_9 18 rfl) (iw_9 19 rfl) (iw_9 20 rfl) (Nat.le_of_ble_eq_true rfl) (Nat.le_of_ble_eq_true rfl) (Nat.le_of_ble_eq_true rfl) (Nat.le_of_ble_eq_true rfl) ?_
      rw [iZ_max hr.1 hs.1]
      refine g_istore dX0_makeCommon_43 (Nat.le_of_ble_eq_true rfl) ?_
      refine g_aload_n dX0_makeCommon_45 rfl ?_
      refine g_iload dX0_makeCommon_46 rfl ?_
      refine g_callV dX0_makeCommon_48 sX3_high (c_high M1 n x i X hx1 hi) cl4 hx1.1 iX3_high vX3_high (iw_18 16 rfl) rfl rfl (Nat.le_of_ble_eq_true rfl) (Nat.le_of_ble_eq_true rfl) (Nat.le_of_ble_eq_true rfl) (Nat.le_of_ble_eq_true rfl) (Nat.le_of_ble_eq_true rfl) ?_
      intro r9 M9 n9 h9
      obtain ⟨h91, h92, h93⟩ := h9
      rw [h91, h92, h93]
      clear h91 h92 h93 r9 M9 n9
      refine g_aload_n dX0_makeCommon_51 rfl ?_
      refine g_iload dX0_makeCommon_52 rfl ?_
      refine g_callV dX0_makeCommon_54 sX3_high (c_high M1 n y j Y hy1 hjl) cl4 hy1.1 iX3_high vX3_high (iw_18 16 rfl) rfl rfl (Nat.le_of_ble_eq_true rfl) (Nat.le_of_ble_eq_true rfl) (Nat.le_of_ble_eq_true rfl) (Nat.le_of_ble_eq_true rfl) (Nat.le_of_ble_eq_true rfl) ?_
      intro r9 M9 n9 h9
      obtain ⟨h91, h92, h93⟩ := h9
      rw [h91, h92, h93]
      clear h91 h92 h93 r9 M9 n9
      refine g_mmin dX0_makeCommon_57 (iw_18 9 rfl) (iw_10 21 rfl) (iw_9 19 rfl) (iw_10 22 rfl) (Nat.le_of_ble_eq_true rfl) (Nat.le_of_ble_eq_true rfl) (Nat.le_of_ble_eq_true rfl) (Nat.le_of_ble_eq_true rfl) ?_
      rw [iZ_min hr.2 hs.2]
      refine g_istore dX0_makeCommon_60 (Nat.le_of_ble_eq_true rfl) ?_
      refine g_iload dX0_makeCommon_62 rfl ?_
      refine g_iload dX0_makeCommon_64 rfl ?_
      have rm : r5 (max (X.getD i (0, 0)).1 (Y.getD j (0, 0)).1) := by constructor <;> omega
      have rn : r5 (min (X.getD i (0, 0)).2 (Y.getD j (0, 0)).2) := by constructor <;> omega
      refine g_icmp_gt (tgt := 77) dX0_makeCommon_66 (by decide) (fun c_66 => ?_) (fun c_66 => ?_)
      · skip
        refine g_msk [true, true, true, true, true, true, false, false] ?_
        refine g_iinc dX0_makeCommon_77 rfl (nI_1 j) (Nat.le_of_ble_eq_true rfl) ?_
        refine g_goto (tgt := 19) dX0_makeCommon_80 (by decide) ?_
        have hx1 := hX.offY hg0 hO
        have hy1 := hY.offY hg0 hO
        have l2 := hX.2.1.2.1
        have l3 := hY.2.1.2.1
        first
          | exact ih (j + 1) M2 (by omega) (by omega) (hO.trans hO2) (by rw [e9, ← List.append_assoc]; exact hI2)
          | exact ih (j + 1) M1 (by omega) (by omega) hO (by
              rw [cm_take hjl]
              unfold layP cmp2
              rw [if_neg (by rw [iZ_lt rn rm] at c_66; simp only; omega)]
              exact hI)
      · skip
        rw [iZ_lt rn rm] at c_66
        have e9 : cmL [(X.getD i (0, 0))] (Y.take (j + 1)) = cmL [(X.getD i (0, 0))] (Y.take j) ++ [(max (X.getD i (0, 0)).1 (Y.getD j (0, 0)).1, min (X.getD i (0, 0)).2 (Y.getD j (0, 0)).2)] := by
          rw [cm_take hjl]
          unfold layP cmp2
          rw [if_pos (by simp only; omega)]
        refine g_aload_n dX0_makeCommon_69 rfl ?_
        refine g_iload dX0_makeCommon_70 rfl ?_
        refine g_iload dX0_makeCommon_72 rfl ?_
        refine g_callV dX0_makeCommon_74 sX0_add (c_add M1 n g (cmL (X.take i) Y ++ cmL [(X.getD i (0, 0))] (Y.take j)) (max (X.getD i (0, 0)).1 (Y.getD j (0, 0)).1, min (X.getD i (0, 0)).2 (Y.getD j (0, 0)).2) hI (by omega) cwl.2 rm) cl1 hI.g.1 iX0_add vX0_add (iw_18 17 rfl) rfl rfl (Nat.le_of_ble_eq_true rfl) (Nat.le_of_ble_eq_true rfl) (Nat.le_of_ble_eq_true rfl) (Nat.le_of_ble_eq_true rfl) (Nat.le_of_ble_eq_true rfl) ?_
        intro r9 M2 n9 h9
        obtain ⟨h91, h93, hO2, hI2⟩ := h9
        rw [h91, h93]
        clear h91 h93 r9 n9
        refine g_msk [true, true, true, true, true, true, false, false] ?_
        refine g_iinc dX0_makeCommon_77 rfl (nI_1 j) (Nat.le_of_ble_eq_true rfl) ?_
        refine g_goto (tgt := 19) dX0_makeCommon_80 (by decide) ?_
        have hx1 := hX.offY hg0 hO
        have hy1 := hY.offY hg0 hO
        have l2 := hX.2.1.2.1
        have l3 := hY.2.1.2.1
        first
          | exact ih (j + 1) M2 (by omega) (by omega) (hO.trans hO2) (by rw [e9, ← List.append_assoc]; exact hI2)
          | exact ih (j + 1) M1 (by omega) (by omega) hO (by
              rw [cm_take hjl]
              unfold layP cmp2
              rw [if_neg (by rw [iZ_lt rn rm] at c_66; simp only; omega)]
              exact hI)

set_option maxHeartbeats 4000000 in
set_option maxRecDepth 100000 in
theorem k_cm1 {M : gM} {n g x y a : Nat} {X Y : List Sp} {Q : gθ} (hg0 : gG M g) (hX : cS M x X) (hY : cS M y Y) (hk : ∀ M1, Off M M1 (fY g) → gt M1 g (cmL X Y) → GW μX0_makeCommon (gRm 2 48 0 0) Q 0 0 89 [some (.ref g), some (.ref x), some (.ref y), some (.ref a), none, none, none, none] [] M1 n) : ∀ (d : Nat) (i : Nat) (M1 : gM), X.length - i < d → i ≤ X.length → Off M M1 (fY g) → gt M1 g (cmL (X.take i) Y) → GW μX0_makeCommon (gRm 2 48 0 0) Q 0 0 7 [some (.ref g), some (.ref x), some (.ref y), some (.ref a), some (.int (nI i)), none, none, none] [] M1 n := by
  intro d
  induction d with
  | zero =>
    intro i M1 hd hi hO hI
    omega
  | succ d ih =>
    intro i M1 hd hi hO hI
    have hx1 := hX.offY hg0 hO
    have hy1 := hY.offY hg0 hO
    have l2 := hX.2.1.2.1
    refine g_iload dX0_makeCommon_7 rfl ?_
    refine g_aload_n dX0_makeCommon_9 rfl ?_
    refine g_getI (f := 0) dX0_makeCommon_10 cl4 hx1.1 (by decide) (Or.inr (List.mem_of_getElem? (i := 14) rfl)) (Or.inl rfl) (Or.inl rfl) ?_
    rw [hx1.2.2.1]
    refine g_icmp_ge (tgt := 89) dX0_makeCommon_13 (by decide) (fun c_13 => ?_) (fun c_13 => ?_)
    · skip
      rw [nI_leI (by omega) (by omega)] at c_13
      refine g_drop 4 ?_
      exact hk M1 hO (by rw [List.take_of_length_le (by omega)] at hI; exact hI)
    · skip
      rw [nI_leI (by omega) (by omega)] at c_13
      have hil : i < X.length := by omega
      refine g_iconst (v := nI 0) dX0_makeCommon_16 rfl ?_
      refine g_istore dX0_makeCommon_17 (Nat.le_of_ble_eq_true rfl) ?_
      refine k_cm2 (hg0.off hO) hx1 hy1 hil (fun M2 hO2 hI2 => ?_) (Y.length + 1) 0 M1 (by omega) (by omega) Off.rf (by
        have e : cmL [(X.getD i (0, 0))] (Y.take 0) = [] := by unfold cmL; simp
        rw [e, List.append_nil]; exact hI)
      refine g_iinc dX0_makeCommon_83 rfl (nI_1 i) (Nat.le_of_ble_eq_true rfl) ?_
      refine g_goto (tgt := 7) dX0_makeCommon_86 (by decide) ?_
      exact ih (i + 1) M2 (by omega) (by omega) (hO.trans hO2) hI2

set_option maxHeartbeats 4000000 in
set_option maxRecDepth 100000 in
theorem c_common (M : gM) (n g x y a : Nat) (X Y : List Sp) (hg : gG M g) (hX : cS M x X) (hY : cS M y Y) (ha : mK M a = 4) : GM μX0_makeCommon 2 48 0 0 [.ref g, .ref x, .ref y, .ref a] M n (fun r M1 n1 => r = none ∧ n1 = n ∧ Off M M1 (fun i k => fY g i k ∨ i = a) ∧ cS M1 a (mkS (cmL X Y))) := by
  refine GM.ofW (by decide) rfl (Nat.le_of_ble_eq_true rfl) rfl ?_
  refine g_aload_n dX0_makeCommon_0 rfl ?_
  refine g_callV dX0_makeCommon_1 sX0_startAnew (c_anew M n g hg) cl1 hg.1 iX0_startAnew vX0_startAnew (iw_18 10 rfl) rfl rfl (Nat.le_of_ble_eq_true rfl) (Nat.le_of_ble_eq_true rfl) (Nat.le_of_ble_eq_true rfl) (Nat.le_of_ble_eq_true rfl) (Nat.le_of_ble_eq_true rfl) ?_
  intro r9 M1 n9 h9
  obtain ⟨h91, h93, hO1, hI1⟩ := h9
  rw [h91, h93]
  clear h91 h93 r9 n9
  refine g_iconst (v := nI 0) dX0_makeCommon_4 rfl ?_
  refine g_istore dX0_makeCommon_5 (Nat.le_of_ble_eq_true rfl) ?_
  refine k_cm1 (hg.off hO1) (hX.offY hg hO1) (hY.offY hg hO1) (fun M2 hO2 hI2 => ?_) (X.length + 1) 0 M1 (by omega) (by omega) Off.rf (by
    have e : cmL (X.take 0) Y = [] := by unfold cmL; simp
    rw [e]; exact hI1)
  refine g_aload_n dX0_makeCommon_89 rfl ?_
  refine g_aload_n dX0_makeCommon_90 rfl ?_
  refine g_callV dX0_makeCommon_91 sX0_makeInto (c_into M2 n g a (cmL X Y) hI2 (cmL_wl hX.2.1.wl hY.2.1.wl) (by rw [hO2.1, hO1.1]; exact ha)) cl1 hI2.g.1 iX0_makeInto vX0_makeInto (iw_18 21 rfl) rfl rfl (Nat.le_of_ble_eq_true rfl) (Nat.le_of_ble_eq_true rfl) (Nat.le_of_ble_eq_true rfl) (Nat.le_of_ble_eq_true rfl) (Nat.le_of_ble_eq_true rfl) ?_
  intro r9 M3 n9 h9
  obtain ⟨h91, h93, hO3, hI3⟩ := h9
  rw [h91, h93]
  clear h91 h93 r9 n9
  exact g_vret dX0_makeCommon_94 rfl (Nat.le_of_ble_eq_true rfl) (Nat.le_of_ble_eq_true rfl) ⟨rfl, rfl, ((hO1.trans hO2).mono (fun i k q => Or.inl q)).trans hO3, hI3⟩

