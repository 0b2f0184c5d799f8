/-! the reference: a set is MADE of the spans that were laid -/
def mdI (M M1 : gM) (m : Nat) (L0 L : List Sp) : Prop := Off M M1 (fL m) ∧ iL M1 m L ∧ okL L ∧ r5L L ∧ (∀ z, inL L z ↔ inL L0 z) ∧ L.length ≤ 64
def mdW (Lp L : List Sp) (w : Bool) (a b : Nat) : Prop := L.length ≤ Lp.length ∧ (w = true → L.length < Lp.length) ∧ (w = false → ∀ i j, i < j → j < L.length → (i < a ∨ (i = a ∧ j < b)) → ¬ tch (L.getD i (0, 0)) (L.getD j (0, 0)))
theorem r6_1 {z : Int} (h : r5 z) : r6 (z + 1) := by constructor <;> omega
theorem mdI.un {M M1 M2 : gM} {m a b : Nat} {L0 L : List Sp} (h : mdI M M1 m L0 L) (hab : a < b) (hb : b < L.length) (ht : tch (L.getD a (0, 0)) (L.getD b (0, 0))) (hO : Off M1 M2 (fL m)) (hI : iL M2 m (unL L a b)) : mdI M M2 m L0 (unL L a b) :=
  ⟨h.1.trans hO, hI, unL_ok hab hb h.2.2.1, unL_r5 hab hb h.2.2.2.1, fun z => (unL_in hab hb ht h.2.2.1 z).trans (h.2.2.2.2.1 z), by rw [unL_len hb]; have := h.2.2.2.2.2; omega⟩
set_option maxHeartbeats 4000000 in
set_option maxRecDepth 100000 in
theorem l_md1b {M : gM} {n m s : Nat} {L0 : List Sp} {Q : gθ} (hm : gMod M m) {a : Nat} {Lp : List Sp} (hk : ∀ (b : Nat) (L : List Sp) (w : Bool) (M1 : gM), mdI M M1 m L0 L → mdW Lp L w a b → L.length ≤ b → a < L.length → GW μX9_made (gRm 2 46 0 0) Q 0 0 85 [some (.ref m), some (.int (nI s)), some (.int (bI w)), some (.int (nI a)), some (.int (nI b)), none, none, none, none] [] M1 n) : ∀ (d : Nat) (b : Nat) (L : List Sp) (w : Bool) (M1 : gM), L.length - b < d → b ≤ 65 → a < b → a < L.length → mdI M M1 m L0 L → mdW Lp L w a b → GW μX9_made (gRm 2 46 0 0) Q 0 0 23 [some (.ref m), some (.int (nI s)), some (.int (bI w)), some (.int (nI a)), some (.int (nI b)), none, none, none, none] [] M1 n := by
  intro d
  induction d with
  | zero =>
    intro b L w M1 hd hb64 hab haL hI hW
    omega
  | succ d ih =>
    intro b L w M1 hd hb64 hab haL hI hW
    have hm1 : gMod M1 m := hm.off hI.1
    have hl64 := hI.2.2.2.2.2
    refine g_iload dX9_made_23 rfl ?_
    refine g_aload_n dX9_made_25 rfl ?_
    refine g_getI (f := 3) dX9_made_26 cl10 hm1.1 (by decide) (Or.inl (iw_25 19 rfl)) (Or.inl rfl) (Or.inl rfl) ?_
    rw [hI.2.1.1]
    refine g_icmp_ge (tgt := 85) dX9_made_29 (by decide) (fun c_29 => ?_) (fun c_29 => ?_)
    · skip
      rw [nI_leI (by omega) (by omega)] at c_29
      exact hk b L w M1 hI hW (by omega) haL
    · skip
      rw [nI_leI (by omega) (by omega)] at c_29
      have hbL : b < L.length := by omega
      obtain ⟨ra1, ra2⟩ := r5_getD hI.2.2.2.1 haL
      obtain ⟨rb1, rb2⟩ := r5_getD hI.2.2.2.1 hbL
      obtain ⟨ea1, ea2⟩ := hI.2.1.2 a haL
      obtain ⟨eb1, eb2⟩ := hI.2.1.2 b hbL
      refine g_aload_n dX9_made_32 rfl ?_
      refine g_getR (f := 4) dX9_made_33 cl10 hm1.1 (by decide) (Or.inl (iw_5 22 rfl)) (Or.inl rfl) rfl hm1.r_from ?_
      refine g_iload_n dX9_made_36 rfl ?_
      refine g_laload dX9_made_37 (j := a) hm1.k_from hm1.n_from rfl (by omega) (by decide) ?_
      refine g_aload_n dX9_made_38 rfl ?_
      refine g_getR (f := 5) dX9_made_39 cl10 hm1.1 (by decide) (Or.inl (iw_5 23 rfl)) (Or.inl rfl) rfl hm1.r_to ?_
      refine g_iload dX9_made_42 rfl ?_
      refine g_laload dX9_made_44 (j := b) hm1.k_to hm1.n_to rfl (by omega) (by decide) ?_
      rw [ea1, eb2]
      refine g_lconst (v := 1) dX9_made_45 rfl ?_
      refine g_ladd dX9_made_46 ?_
      rw [show jI (L.getD b (0, 0)).2 + 1 = jI ((L.getD b (0, 0)).2 + 1) from jI_add _ 1]
      refine g_lcmp dX9_made_47 ?_
      refine g_if_gt (tgt := 79) dX9_made_48 (by decide) (fun c_48 => ?_) (fun c_48 => ?_)
      · skip
        refine g_iinc dX9_made_79 rfl (nI_1 b) (Nat.le_of_ble_eq_true rfl) ?_
        refine g_goto (tgt := 23) dX9_made_82 (by decide) ?_
        first
          | (refine ih (b + 1) (unL L a b) true _ (by rw [unL_len hbL]; omega) (by omega) (by omega) (by rw [unL_len hbL]; omega) (hI.un hab hbL ht hO2 hI2) ⟨?_, ?_, fun h => by cases h⟩
             · rw [unL_len hbL]; have := hW.1; omega
             · intro _; rw [unL_len hbL]; have := hW.1; omega)
          | (refine ih (b + 1) L w _ (by omega) (by omega) (by omega) haL hI ⟨hW.1, hW.2.1, fun hw i j h1 h2 h3 => ?_⟩
             by_cases e : i = a ∧ j = b
             · rw [e.1, e.2]
               intro t
               first
                 | (rw [jc_gt (r6_of ra1) (r6_1 rb2)] at c_48; have := t.1; omega)
                 | (rw [jc_gt (r6_of rb1) (r6_1 ra2)] at c_67; have := t.2; omega)
             · exact hW.2.2 hw i j h1 h2 (by omega))
      · skip
        rw [jc_gt (r6_of ra1) (r6_1 rb2)] at c_48
        refine g_aload_n dX9_made_51 rfl ?_
        refine g_getR (f := 4) dX9_made_52 cl10 hm1.1 (by decide) (Or.inl (iw_5 22 rfl)) (Or.inl rfl) rfl hm1.r_from ?_
        refine g_iload dX9_made_55 rfl ?_
        refine g_laload dX9_made_57 (j := b) hm1.k_from hm1.n_from rfl (by omega) (by decide) ?_
        refine g_aload_n dX9_made_58 rfl ?_
        refine g_getR (f := 5) dX9_made_59 cl10 hm1.1 (by decide) (Or.inl (iw_5 23 rfl)) (Or.inl rfl) rfl hm1.r_to ?_
        refine g_iload_n dX9_made_62 rfl ?_
        refine g_laload dX9_made_63 (j := a) hm1.k_to hm1.n_to rfl (by omega) (by decide) ?_
        rw [eb1, ea2]
        refine g_lconst (v := 1) dX9_made_64 rfl ?_
        refine g_ladd dX9_made_65 ?_
        rw [show jI (L.getD a (0, 0)).2 + 1 = jI ((L.getD a (0, 0)).2 + 1) from jI_add _ 1]
        refine g_lcmp dX9_made_66 ?_
        refine g_if_gt (tgt := 79) dX9_made_67 (by decide) (fun c_67 => ?_) (fun c_67 => ?_)
        · skip
          refine g_iinc dX9_made_79 rfl (nI_1 b) (Nat.le_of_ble_eq_true rfl) ?_
          refine g_goto (tgt := 23) dX9_made_82 (by decide) ?_
          first
            | (refine ih (b + 1) (unL L a b) true _ (by rw [unL_len hbL]; omega) (by omega) (by omega) (by rw [unL_len hbL]; omega) (hI.un hab hbL ht hO2 hI2) ⟨?_, ?_, fun h => by cases h⟩
               · rw [unL_len hbL]; have := hW.1; omega
               · intro _; rw [unL_len hbL]; have := hW.1; omega)
            | (refine ih (b + 1) L w _ (by omega) (by omega) (by omega) haL hI ⟨hW.1, hW.2.1, fun hw i j h1 h2 h3 => ?_⟩
               by_cases e : i = a ∧ j = b
               · rw [e.1, e.2]
                 intro t
                 first
                   | (rw [jc_gt (r6_of ra1) (r6_1 rb2)] at c_48; have := t.1; omega)
                   | (rw [jc_gt (r6_of rb1) (r6_1 ra2)] at c_67; have := t.2; omega)
               · exact hW.2.2 hw i j h1 h2 (by omega))
        · skip
          rw [jc_gt (r6_of rb1) (r6_1 ra2)] at c_67
          have ht : tch (L.getD a (0, 0)) (L.getD b (0, 0)) := ⟨by omega, by omega⟩
          refine g_aload_n dX9_made_70 rfl ?_
          refine g_iload_n dX9_made_71 rfl ?_
          refine g_iload dX9_made_72 rfl ?_
          refine g_callV (As := [.int (nI a), .int (nI b)]) dX9_made_74 sX9_unite (m_unite M1 n m a b L hm1 hab hbL hl64 hI.2.1 hI.2.2.2.1) cl10 hm1.1 iX9_unite vX9_unite (iw_28 6 rfl) rfl rfl (Nat.le_of_ble_eq_true rfl) (Nat.le_of_ble_eq_true rfl) (Nat.le_of_ble_eq_true rfl) (Nat.le_of_ble_eq_true rfl) (Nat.le_of_ble_eq_true rfl) ?_
          intro r9 M2 n9 h9
          obtain ⟨h91, h93, hO2, hI2⟩ := h9
          rw [h91, h93]
          clear h91 h93 r9 n9
          refine g_iconst (v := nI 1) dX9_made_77 rfl ?_
          refine g_istore_n dX9_made_78 (Nat.le_of_ble_eq_true rfl) ?_
          refine g_iinc dX9_made_79 rfl (nI_1 b) (Nat.le_of_ble_eq_true rfl) ?_
          refine g_goto (tgt := 23) dX9_made_82 (by decide) ?_
          first
            | (refine ih (b + 1) (unL L a b) true _ (by rw [unL_len hbL]; omega) (by omega) (by omega) (by rw [unL_len hbL]; omega) (hI.un hab hbL ht hO2 hI2) ⟨?_, ?_, fun h => by cases h⟩
               · rw [unL_len hbL]; have := hW.1; omega
               · intro _; rw [unL_len hbL]; have := hW.1; omega)
            | (refine ih (b + 1) L w _ (by omega) (by omega) (by omega) haL hI ⟨hW.1, hW.2.1, fun hw i j h1 h2 h3 => ?_⟩
               by_cases e : i = a ∧ j = b
               · rw [e.1, e.2]
                 intro t
                 first
                   | (rw [jc_gt (r6_of ra1) (r6_1 rb2)] at c_48; have := t.1; omega)
                   | (rw [jc_gt (r6_of rb1) (r6_1 ra2)] at c_67; have := t.2; omega)
               · exact hW.2.2 hw i j h1 h2 (by omega))

set_option maxHeartbeats 4000000 in
set_option maxRecDepth 100000 in
theorem l_md1a {M : gM} {n m s : Nat} {L0 : List Sp} {Q : gθ} (hm : gMod M m) {Lp : List Sp} (hk : ∀ (L : List Sp) (w : Bool) (M1 : gM), mdI M M1 m L0 L → (w = true → L.length < Lp.length) → (w = false → apt L) → GW μX9_made (gRm 2 46 0 0) Q 0 0 2 [some (.ref m), some (.int (nI s)), some (.int (bI w)), none, none, none, none, none, none] [] M1 n) : ∀ (d : Nat) (a : Nat) (L : List Sp) (w : Bool) (M1 : gM), 65 - a < d → a ≤ 65 → mdI M M1 m L0 L → mdW Lp L w a 0 → GW μX9_made (gRm 2 46 0 0) Q 0 0 10 [some (.ref m), some (.int (nI s)), some (.int (bI w)), some (.int (nI a)), none, none, none, none, none] [] M1 n := by
  intro d
  induction d with
  | zero =>
    intro a L w M1 hd ha64 hI hW
    omega
  | succ d ih =>
    intro a L w M1 hd ha64 hI hW
    have hm1 : gMod M1 m := hm.off hI.1
    have hl64 := hI.2.2.2.2.2
    refine g_iload_n dX9_made_10 rfl ?_
    refine g_aload_n dX9_made_11 rfl ?_
    refine g_getI (f := 3) dX9_made_12 cl10 hm1.1 (by decide) (Or.inl (iw_25 19 rfl)) (Or.inl rfl) (Or.inl rfl) ?_
    rw [hI.2.1.1]
    refine g_icmp_ge (tgt := 91) dX9_made_15 (by decide) (fun c_15 => ?_) (fun c_15 => ?_)
    · skip
      rw [nI_leI (by omega) (by omega)] at c_15
      refine g_goto (tgt := 2) dX9_made_91 (by decide) ?_
      refine g_drop 3 ?_
      exact hk L w M1 hI hW.2.1 (fun hw i j h1 h2 => hW.2.2 hw i j h1 h2 (Or.inl (by omega)))
    · skip
      rw [nI_leI (by omega) (by omega)] at c_15
      refine g_iload_n dX9_made_18 rfl ?_
      refine g_iconst (v := nI 1) dX9_made_19 rfl ?_
      refine g_iadd dX9_made_20 ?_
      refine g_istore dX9_made_21 (Nat.le_of_ble_eq_true rfl) ?_
      rw [show nI a + nI 1 = nI (a + 1) from nI_add a 1]
      refine l_md1b hm (a := a) (Lp := Lp) (fun b L w M1 hI hW hb ha => ?_) (L.length + 1) (a + 1) L w M1 (by omega) (by omega) (by omega) (by omega) hI ⟨hW.1, hW.2.1, fun hw i j h1 h2 h3 => hW.2.2 hw i j h1 h2 (by omega)⟩
      have := hI.2.2.2.2.2
      refine g_iinc dX9_made_85 rfl (nI_1 a) (Nat.le_of_ble_eq_true rfl) ?_
      refine g_goto (tgt := 10) dX9_made_88 (by decide) ?_
      refine g_drop 4 ?_
      exact ih (a + 1) L w M1 (by omega) (by omega) hI ⟨hW.1, hW.2.1, fun hw i j h1 h2 h3 => hW.2.2 hw i j h1 h2 (by omega)⟩

set_option maxHeartbeats 4000000 in
set_option maxRecDepth 100000 in
theorem l_md1 {M : gM} {n m s : Nat} {L0 : List Sp} {Q : gθ} (hm : gMod M m) (hk : ∀ (L : List Sp) (M1 : gM), mdI M M1 m L0 L → apt L → GW μX9_made (gRm 2 46 0 0) Q 0 0 94 [some (.ref m), some (.int (nI s)), none, none, none, none, none, none, none] [] M1 n) : ∀ (d : Nat) (L : List Sp) (w : Bool) (M1 : gM), (if w then L.length + 1 else 0) < d → mdI M M1 m L0 L → (w = false → apt L) → GW μX9_made (gRm 2 46 0 0) Q 0 0 2 [some (.ref m), some (.int (nI s)), some (.int (bI w)), none, none, none, none, none, none] [] M1 n := by
  intro d
  induction d with
  | zero =>
    intro L w M1 hd hI hw
    omega
  | succ d ih =>
    intro L w M1 hd hI hw
    have hm1 : gMod M1 m := hm.off hI.1
    have hl64 := hI.2.2.2.2.2
    refine g_iload_n dX9_made_2 rfl ?_
    refine g_if_eq (tgt := 94) dX9_made_3 (by decide) (fun c_3 => ?_) (fun c_3 => ?_)
    · skip
      rw [bI_eq0] at c_3
      refine g_drop 2 ?_
      exact hk L M1 hI (hw c_3)
    · skip
      refine g_iconst (v := nI 0) dX9_made_6 rfl ?_
      refine g_istore_n dX9_made_7 (Nat.le_of_ble_eq_true rfl) ?_
      refine g_iconst (v := nI 0) dX9_made_8 rfl ?_
      refine g_istore_n dX9_made_9 (Nat.le_of_ble_eq_true rfl) ?_
      rw [bI_eq0, Bool.not_eq_false] at c_3
      rw [c_3] at hd
      refine l_md1a hm (Lp := L) (fun L2 w2 M2 hI2 h1 h2 => ?_) 66 0 L false M1 (by omega) (by omega) hI ⟨Nat.le_refl _, (fun h => absurd h (by decide)), fun _ i j h1 h2 h3 => absurd h3 (by omega)⟩
      refine ih L2 w2 M2 ?_ hI2 h2
      cases w2
      · simp at hd ⊢; omega
      · have := h1 rfl
        simp at hd ⊢; omega

theorem swp_srt {L : List Sp} {a b : Nat} (hab : a < b) (hb : b < L.length) (h : srt L a) : srt (swp L a b) a := by
  intro i j hi hij hj
  rw [swp_len] at hj
  rw [swp_getD (show i < L.length by omega), swp_getD hj, if_neg (by omega), if_neg (by omega)]
  by_cases e1 : j = b
  · rw [if_pos e1]; exact h i a hi (by omega) (by omega)
  · rw [if_neg e1]
    by_cases e2 : j = a
    · rw [if_pos e2]; exact h i b hi (by omega) (by omega)
    · rw [if_neg e2]; exact h i j hi hij hj
theorem apt_lo {L : List Sp} (h : apt L) (hok : okL L) {i j : Nat} (hi : i < L.length) (hj : j < L.length) (e : i ≠ j) : (L.getD i (0, 0)).1 ≠ (L.getD j (0, 0)).1 := by
  intro q
  have o1 := hok _ (getD_mem hi)
  have o2 := hok _ (getD_mem hj)
  exact apt_ne h hi hj e ⟨by omega, by omega⟩
theorem iL_swp {M : gM} {m a b : Nat} {L : List Sp} (h : iL M m L) (ha : a < L.length) (hb : b < L.length) (hab : a < b) : iL (stJ (stJ (stJ (stJ M (m + 3) a (jI (L.getD b (0, 0)).1)) (m + 4) a (jI (L.getD b (0, 0)).2)) (m + 3) b (jI (L.getD a (0, 0)).1)) (m + 4) b (jI (L.getD a (0, 0)).2)) m (swp L a b) := by
  refine ⟨by rw [swp_len]; exact h.1, fun k hk => ?_⟩
  rw [swp_len] at hk
  rw [swp_getD hk]
  have g := h.2 k hk
  by_cases e1 : k = b
  · subst e1; simp [mJ_st]
  · rw [if_neg e1]
    by_cases e2 : k = a
    · subst e2; simp [mJ_st, e1]
    · rw [if_neg e2]
      simp only [mJ_st]
      rw [if_neg (by omega), if_neg (by omega), if_neg (by omega), if_neg (by omega), if_neg (by omega), if_neg (by omega), if_neg (by omega), if_neg (by omega)]
      exact g
set_option maxHeartbeats 4000000 in
set_option maxRecDepth 100000 in
theorem l_md2b {M : gM} {n m s : Nat} {L0 : List Sp} {Q : gθ} (hm : gMod M m) {a : Nat} (hk : ∀ (b : Nat) (L : List Sp) (M1 : gM), mdI M M1 m L0 L → apt L → srt L (a + 1) → GW μX9_made (gRm 2 46 0 0) Q 0 0 201 [some (.ref m), some (.int (nI s)), none, some (.int (nI a)), some (.int (nI b)), none, none, none, none] [] M1 n) : ∀ (d : Nat) (b : Nat) (L : List Sp) (M1 : gM), L.length - b < d → b ≤ 65 → a < b → a < L.length → mdI M M1 m L0 L → apt L → srt L a → (∀ j, a < j → j < b → j < L.length → (L.getD a (0, 0)).1 < (L.getD j (0, 0)).1) → GW μX9_made (gRm 2 46 0 0) Q 0 0 109 [some (.ref m), some (.int (nI s)), none, some (.int (nI a)), some (.int (nI b)), none, none, none, none] [] M1 n := by
  intro d
  induction d with
  | zero =>
    intro b L M1 hd hb64 hab haL hI hap hs hlt
    omega
  | succ d ih =>
    intro b L M1 hd hb64 hab haL hI hap hs hlt
    have hm1 : gMod M1 m := hm.off hI.1
    have hl64 := hI.2.2.2.2.2
    refine g_iload dX9_made_109 rfl ?_
    refine g_aload_n dX9_made_111 rfl ?_
    refine g_getI (f := 3) dX9_made_112 cl10 hm1.1 (by decide) (Or.inl (iw_25 19 rfl)) (Or.inl rfl) (Or.inl rfl) ?_
    rw [hI.2.1.1]
    refine g_icmp_ge (tgt := 201) dX9_made_115 (by decide) (fun c_115 => ?_) (fun c_115 => ?_)
    · skip
      rw [nI_leI (by omega) (by omega)] at c_115
      refine hk b L M1 hI hap (fun i j h1 h2 h3 => ?_)
      by_cases e : i = a
      · rw [e]; exact hlt j (by omega) (by omega) h3
      · exact hs i j (by omega) h2 h3
    · skip
      rw [nI_leI (by omega) (by omega)] at c_115
      have hbL : b < L.length := by omega
      obtain ⟨ra1, ra2⟩ := r5_getD hI.2.2.2.1 haL
      obtain ⟨rb1, rb2⟩ := r5_getD hI.2.2.2.1 hbL
      obtain ⟨ea1, ea2⟩ := hI.2.1.2 a haL
      obtain ⟨eb1, eb2⟩ := hI.2.1.2 b hbL
      have hne := apt_lo hap hI.2.2.1 haL hbL (by omega)
      refine g_aload_n dX9_made_118 rfl ?_
      refine g_getR (f := 4) dX9_made_119 cl10 hm1.1 (by decide) (Or.inl (iw_5 22 rfl)) (Or.inl rfl) rfl hm1.r_from ?_
      refine g_iload dX9_made_122 rfl ?_
      refine g_laload dX9_made_124 (j := b) hm1.k_from hm1.n_from rfl (by omega) (by decide) ?_
      refine g_aload_n dX9_made_125 rfl ?_
      refine g_getR (f := 4) dX9_made_126 cl10 hm1.1 (by decide) (Or.inl (iw_5 22 rfl)) (Or.inl rfl) rfl hm1.r_from ?_
      refine g_iload_n dX9_made_129 rfl ?_
      refine g_laload dX9_made_130 (j := a) hm1.k_from hm1.n_from rfl (by omega) (by decide) ?_
      rw [ea1, eb1]
      refine g_lcmp dX9_made_131 ?_
      refine g_if_ge (tgt := 195) dX9_made_132 (by decide) (fun c_132 => ?_) (fun c_132 => ?_)
      · skip
        refine g_iinc dX9_made_195 rfl (nI_1 b) (Nat.le_of_ble_eq_true rfl) ?_
        refine g_goto (tgt := 109) dX9_made_198 (by decide) ?_
        first
          | (refine g_drop 5 ?_
             refine g_drop 7 ?_
             refine ih (b + 1) (swp L a b) _ (by rw [swp_len]; omega) (by omega) (by omega) (by rw [swp_len]; omega) ⟨(((hI.1.stJ (Or.inr (Or.inl rfl))).stJ (Or.inr (Or.inr rfl))).stJ (Or.inr (Or.inl rfl))).stJ (Or.inr (Or.inr rfl)), iL_swp hI.2.1 haL hbL hab, swp_all haL hbL (Pp := fun p => p.1 ≤ p.2) hI.2.2.1, swp_all haL hbL (Pp := fun p => r5 p.1 ∧ r5 p.2) hI.2.2.2.1, fun z => (swp_in haL hbL z).trans (hI.2.2.2.2.1 z), by rw [swp_len]; exact hl64⟩ (swp_apt haL hbL hap) (swp_srt hab hbL hs) (fun j h1 h2 h3 => ?_)
             rw [swp_len] at h3
             rw [swp_getD haL, swp_getD h3, if_neg (by omega), if_pos rfl]
             by_cases e : j = b
             · rw [if_pos e]; omega
             · rw [if_neg e, if_neg (by omega)]
               have := hlt j h1 (by omega) h3
               omega)
          | (rw [jc_ge (r6_of rb1) (r6_of ra1)] at c_132
             refine ih (b + 1) L _ (by omega) (by omega) (by omega) haL hI hap hs (fun j h1 h2 h3 => ?_)
             by_cases e : j = b
             · rw [e]; omega
             · exact hlt j h1 (by omega) h3)
      · skip
        rw [jc_ge (r6_of rb1) (r6_of ra1)] at c_132
        refine g_aload_n dX9_made_135 rfl ?_
        refine g_getR (f := 4) dX9_made_136 cl10 hm1.1 (by decide) (Or.inl (iw_5 22 rfl)) (Or.inl rfl) rfl hm1.r_from ?_
        refine g_iload_n dX9_made_139 rfl ?_
        refine g_laload dX9_made_140 (j := a) hm1.k_from hm1.n_from rfl (by omega) (by decide) ?_
        rw [ea1]
        refine g_lstore dX9_made_141 (Nat.le_of_ble_eq_true rfl) ?_
        refine g_aload_n dX9_made_143 rfl ?_
        refine g_getR (f := 5) dX9_made_144 cl10 hm1.1 (by decide) (Or.inl (iw_5 23 rfl)) (Or.inl rfl) rfl hm1.r_to ?_
        refine g_iload_n dX9_made_147 rfl ?_
        refine g_laload dX9_made_148 (j := a) hm1.k_to hm1.n_to rfl (by omega) (by decide) ?_
        rw [ea2]
        refine g_lstore dX9_made_149 (Nat.le_of_ble_eq_true rfl) ?_
        refine g_aload_n dX9_made_151 rfl ?_
        refine g_getR (f := 4) dX9_made_152 cl10 hm1.1 (by decide) (Or.inl (iw_5 22 rfl)) (Or.inl rfl) rfl hm1.r_from ?_
        refine g_iload_n dX9_made_155 rfl ?_
        refine g_aload_n dX9_made_156 rfl ?_
        refine g_getR (f := 4) dX9_made_157 cl10 hm1.1 (by decide) (Or.inl (iw_5 22 rfl)) (Or.inl rfl) rfl hm1.r_from ?_
        refine g_iload dX9_made_160 rfl ?_
        refine g_laload dX9_made_162 (j := b) hm1.k_from hm1.n_from rfl (by omega) (by decide) ?_
        rw [eb1]
        refine g_lastore dX9_made_163 (j := a) hm1.k_from hm1.n_from rfl (by omega) (by decide) ?_
        refine g_aload_n dX9_made_164 rfl ?_
        refine g_getR (f := 5) dX9_made_165 cl10 hm1.1 (by decide) (Or.inl (iw_5 23 rfl)) (Or.inl rfl) rfl hm1.r_to ?_
        refine g_iload_n dX9_made_168 rfl ?_
        refine g_aload_n dX9_made_169 rfl ?_
        refine g_getR (f := 5) dX9_made_170 cl10 hm1.1 (by decide) (Or.inl (iw_5 23 rfl)) (Or.inl rfl) rfl hm1.r_to ?_
        refine g_iload dX9_made_173 rfl ?_
        refine g_laload dX9_made_175 (j := b) hm1.k_to hm1.n_to rfl (by omega) (by decide) ?_
        rw [show mJ (stJ M1 (m + 3) a (jI (L.getD b (0, 0)).1)) (m + 4) b = jI (L.getD b (0, 0)).2 by rw [mJ_st, if_neg (by omega)]; exact eb2]
        refine g_lastore dX9_made_176 (j := a) hm1.k_to hm1.n_to rfl (by omega) (by decide) ?_
        refine g_aload_n dX9_made_177 rfl ?_
        refine g_getR (f := 4) dX9_made_178 cl10 hm1.1 (by decide) (Or.inl (iw_5 22 rfl)) (Or.inl rfl) rfl hm1.r_from ?_
        refine g_iload dX9_made_181 rfl ?_
        refine g_lload dX9_made_183 rfl ?_
        refine g_lastore dX9_made_185 (j := b) hm1.k_from hm1.n_from rfl (by omega) (by decide) ?_
        refine g_aload_n dX9_made_186 rfl ?_
        refine g_getR (f := 5) dX9_made_187 cl10 hm1.1 (by decide) (Or.inl (iw_5 23 rfl)) (Or.inl rfl) rfl hm1.r_to ?_
        refine g_iload dX9_made_190 rfl ?_
        refine g_lload dX9_made_192 rfl ?_
        refine g_lastore dX9_made_194 (j := b) hm1.k_to hm1.n_to rfl (by omega) (by decide) ?_
        refine g_iinc dX9_made_195 rfl (nI_1 b) (Nat.le_of_ble_eq_true rfl) ?_
        refine g_goto (tgt := 109) dX9_made_198 (by decide) ?_
        first
          | (refine g_drop 5 ?_
             refine g_drop 7 ?_
             refine ih (b + 1) (swp L a b) _ (by rw [swp_len]; omega) (by omega) (by omega) (by rw [swp_len]; omega) ⟨(((hI.1.stJ (Or.inr (Or.inl rfl))).stJ (Or.inr (Or.inr rfl))).stJ (Or.inr (Or.inl rfl))).stJ (Or.inr (Or.inr rfl)), iL_swp hI.2.1 haL hbL hab, swp_all haL hbL (Pp := fun p => p.1 ≤ p.2) hI.2.2.1, swp_all haL hbL (Pp := fun p => r5 p.1 ∧ r5 p.2) hI.2.2.2.1, fun z => (swp_in haL hbL z).trans (hI.2.2.2.2.1 z), by rw [swp_len]; exact hl64⟩ (swp_apt haL hbL hap) (swp_srt hab hbL hs) (fun j h1 h2 h3 => ?_)
             rw [swp_len] at h3
             rw [swp_getD haL, swp_getD h3, if_neg (by omega), if_pos rfl]
             by_cases e : j = b
             · rw [if_pos e]; omega
             · rw [if_neg e, if_neg (by omega)]
               have := hlt j h1 (by omega) h3
               omega)
          | (rw [jc_ge (r6_of rb1) (r6_of ra1)] at c_132
             refine ih (b + 1) L _ (by omega) (by omega) (by omega) haL hI hap hs (fun j h1 h2 h3 => ?_)
             by_cases e : j = b
             · rw [e]; omega
             · exact hlt j h1 (by omega) h3)

set_option maxHeartbeats 4000000 in
set_option maxRecDepth 100000 in
theorem l_md2 {M : gM} {n m s : Nat} {L0 : List Sp} {Q : gθ} (hm : gMod M m) (hk : ∀ (L : List Sp) (M1 : gM), mdI M M1 m L0 L → cn L → GW μX9_made (gRm 2 46 0 0) Q 0 0 207 [some (.ref m), some (.int (nI s)), none, none, none, none, none, none, none] [] M1 n) : ∀ (d : Nat) (a : Nat) (L : List Sp) (M1 : gM), 65 - a < d → a ≤ 65 → mdI M M1 m L0 L → apt L → srt L a → GW μX9_made (gRm 2 46 0 0) Q 0 0 96 [some (.ref m), some (.int (nI s)), none, some (.int (nI a)), none, none, none, none, none] [] M1 n := by
  intro d
  induction d with
  | zero =>
    intro a L M1 hd ha64 hI hap hs
    omega
  | succ d ih =>
    intro a L M1 hd ha64 hI hap hs
    have hm1 : gMod M1 m := hm.off hI.1
    have hl64 := hI.2.2.2.2.2
    refine g_iload_n dX9_made_96 rfl ?_
    refine g_aload_n dX9_made_97 rfl ?_
    refine g_getI (f := 3) dX9_made_98 cl10 hm1.1 (by decide) (Or.inl (iw_25 19 rfl)) (Or.inl rfl) (Or.inl rfl) ?_
    rw [hI.2.1.1]
    refine g_icmp_ge (tgt := 207) dX9_made_101 (by decide) (fun c_101 => ?_) (fun c_101 => ?_)
    · skip
      rw [nI_leI (by omega) (by omega)] at c_101
      refine g_drop 3 ?_
      exact hk L M1 hI (cn_of hI.2.2.1 hap (fun i j h1 h2 h3 => hs i j (by omega) h2 h3))
    · skip
      rw [nI_leI (by omega) (by omega)] at c_101
      refine g_iload_n dX9_made_104 rfl ?_
      refine g_iconst (v := nI 1) dX9_made_105 rfl ?_
      refine g_iadd dX9_made_106 ?_
      refine g_istore dX9_made_107 (Nat.le_of_ble_eq_true rfl) ?_
      rw [show nI a + nI 1 = nI (a + 1) from nI_add a 1]
      refine l_md2b hm (a := a) (fun b L M1 hI hap hs => ?_) (L.length + 1) (a + 1) L M1 (by omega) (by omega) (by omega) (by omega) hI hap hs (fun j h1 h2 _ => absurd h2 (by omega))
      refine g_iinc dX9_made_201 rfl (nI_1 a) (Nat.le_of_ble_eq_true rfl) ?_
      refine g_goto (tgt := 96) dX9_made_204 (by decide) ?_
      refine g_drop 4 ?_
      exact ih (a + 1) L M1 (by omega) (by omega) hI hap hs

set_option maxHeartbeats 4000000 in
set_option maxRecDepth 100000 in
theorem l_md3b {M : gM} {n m s : Nat} {Q : gθ} (hm : gMod M m) {L : List Sp} {M1 : gM} (hO : Off M M1 (fL m)) (hI : iL M1 m L) (hr : r5L L) (h64 : L.length ≤ 64) (h2 : 2 < L.length) (hk : GW μX9_made (gRm 2 46 0 0) Q 0 0 280 [some (.ref m), some (.int (nI s)), none, some (.int (nI (bst L (L.length - 1)))), none, none, none, none, none] [] M1 n) : ∀ (d : Nat) (k : Nat), L.length - k < d → 1 ≤ k → k ≤ L.length - 1 → GW μX9_made (gRm 2 46 0 0) Q 0 0 220 [some (.ref m), some (.int (nI s)), none, some (.int (nI (bst L k))), some (.int (nI k)), none, none, none, none] [] M1 n := by
  intro d
  induction d with
  | zero =>
    intro k hd hk1 hk2
    omega
  | succ d ih =>
    intro k hd hk1 hk2
    have hm1 : gMod M1 m := hm.off hO
    refine g_iload dX9_made_220 rfl ?_
    refine g_iconst (v := nI 1) dX9_made_222 rfl ?_
    refine g_iadd dX9_made_223 ?_
    refine g_aload_n dX9_made_224 rfl ?_
    refine g_getI (f := 3) dX9_made_225 cl10 hm1.1 (by decide) (Or.inl (iw_25 19 rfl)) (Or.inl rfl) (Or.inl rfl) ?_
    rw [hI.1, show nI k + nI 1 = nI (k + 1) from nI_add k 1]
    have hb := bst_lt L k (by omega)
    refine g_icmp_ge (tgt := 280) dX9_made_228 (by decide) (fun c_228 => ?_) (fun c_228 => ?_)
    · skip
      rw [nI_leI (by omega) (by omega)] at c_228
      have e : k = L.length - 1 := by omega
      subst e
      refine g_drop 4 ?_
      exact hk
    · skip
      rw [nI_leI (by omega) (by omega)] at c_228
      obtain ⟨e1, -⟩ := hI.2 (k + 1) (by omega)
      obtain ⟨-, e2⟩ := hI.2 k (by omega)
      obtain ⟨e3, -⟩ := hI.2 (bst L k + 1) (by omega)
      obtain ⟨-, e4⟩ := hI.2 (bst L k) (by omega)
      obtain ⟨r1, -⟩ := r5_getD hr (show k + 1 < L.length by omega)
      obtain ⟨-, r2⟩ := r5_getD hr (show k < L.length by omega)
      obtain ⟨r3, -⟩ := r5_getD hr (show bst L k + 1 < L.length by omega)
      obtain ⟨-, r4⟩ := r5_getD hr (show bst L k < L.length by omega)
      refine g_aload_n dX9_made_231 rfl ?_
      refine g_getR (f := 4) dX9_made_232 cl10 hm1.1 (by decide) (Or.inl (iw_5 22 rfl)) (Or.inl rfl) rfl hm1.r_from ?_
      refine g_iload dX9_made_235 rfl ?_
      refine g_iconst (v := nI 1) dX9_made_237 rfl ?_
      refine g_iadd dX9_made_238 ?_
      refine g_laload dX9_made_239 (j := k + 1) hm1.k_from hm1.n_from (nI_add k 1) (by omega) (by decide) ?_
      refine g_aload_n dX9_made_240 rfl ?_
      refine g_getR (f := 5) dX9_made_241 cl10 hm1.1 (by decide) (Or.inl (iw_5 23 rfl)) (Or.inl rfl) rfl hm1.r_to ?_
      refine g_iload dX9_made_244 rfl ?_
      refine g_laload dX9_made_246 (j := k) hm1.k_to hm1.n_to rfl (by omega) (by decide) ?_
      rw [e1, e2]
      refine g_lsub dX9_made_247 ?_
      rw [jI_sub]
      refine g_aload_n dX9_made_248 rfl ?_
      refine g_getR (f := 4) dX9_made_249 cl10 hm1.1 (by decide) (Or.inl (iw_5 22 rfl)) (Or.inl rfl) rfl hm1.r_from ?_
      refine g_iload_n dX9_made_252 rfl ?_
      refine g_iconst (v := nI 1) dX9_made_253 rfl ?_
      refine g_iadd dX9_made_254 ?_
      refine g_laload dX9_made_255 (j := bst L k + 1) hm1.k_from hm1.n_from (nI_add _ 1) (by omega) (by decide) ?_
      refine g_aload_n dX9_made_256 rfl ?_
      refine g_getR (f := 5) dX9_made_257 cl10 hm1.1 (by decide) (Or.inl (iw_5 23 rfl)) (Or.inl rfl) rfl hm1.r_to ?_
      refine g_iload_n dX9_made_260 rfl ?_
      refine g_laload dX9_made_261 (j := bst L k) hm1.k_to hm1.n_to rfl (by omega) (by decide) ?_
      rw [e3, e4]
      refine g_lsub dX9_made_262 ?_
      rw [jI_sub]
      refine g_lcmp dX9_made_263 ?_
      refine g_if_ge (tgt := 272) dX9_made_264 (by decide) (fun c_264 => ?_) (fun c_264 => ?_)
      · skip
        rw [jc_ge (by constructor <;> omega) (by constructor <;> omega)] at c_264
        refine g_iload_n dX9_made_272 rfl ?_
        refine g_istore_n dX9_made_273 (Nat.le_of_ble_eq_true rfl) ?_
        refine g_iinc dX9_made_274 rfl (nI_1 k) (Nat.le_of_ble_eq_true rfl) ?_
        refine g_goto (tgt := 220) dX9_made_277 (by decide) ?_
        have hg := ih (k + 1) (by omega) (by omega) (by omega)
        rw [show bst L (k + 1) = bst L k from if_neg (by unfold gp; omega)] at hg
        exact hg
      · skip
        rw [jc_ge (by constructor <;> omega) (by constructor <;> omega)] at c_264
        refine g_iload dX9_made_267 rfl ?_
        refine g_goto (tgt := 273) dX9_made_269 (by decide) ?_
        refine g_istore_n dX9_made_273 (Nat.le_of_ble_eq_true rfl) ?_
        refine g_iinc dX9_made_274 rfl (nI_1 k) (Nat.le_of_ble_eq_true rfl) ?_
        refine g_goto (tgt := 220) dX9_made_277 (by decide) ?_
        have hg := ih (k + 1) (by omega) (by omega) (by omega)
        rw [show bst L (k + 1) = k from if_pos (by unfold gp; omega)] at hg
        exact hg

def fM (m s : Nat) : Nat → Nat → Prop := fun i k => fL m i k ∨ fS m s i k
theorem bst_1 (L : List Sp) : bst L 1 = 0 := by
  unfold bst bst
  split <;> rfl
theorem rdF_two {f : Nat} {L : List Sp} (h : L.length ≤ 2) : rdF f L = L := by
  cases f with
  | zero => rfl
  | succ f => unfold rdF; rw [if_pos h]
set_option maxHeartbeats 4000000 in
set_option maxRecDepth 100000 in
theorem l_md3 {M : gM} {n m s : Nat} {Q : gθ} (hm : gMod M m) {X : List Sp} (hk : ∀ (M1 : gM), Off M M1 (fL m) → iL M1 m X → X.length ≤ 2 → r5L X → GW μX9_made (gRm 2 46 0 0) Q 0 0 291 [some (.ref m), some (.int (nI s)), none, none, none, none, none, none, none] [] M1 n) : ∀ (d : Nat) (L : List Sp) (f : Nat) (M1 : gM), L.length < d → Off M M1 (fL m) → iL M1 m L → cn L → r5L L → L.length ≤ 64 → rdF f L = X → L.length ≤ f + 2 → GW μX9_made (gRm 2 46 0 0) Q 0 0 207 [some (.ref m), some (.int (nI s)), none, none, none, none, none, none, none] [] M1 n := by
  intro d
  induction d with
  | zero =>
    intro L f M1 hd hO hI hc hr h64 hX hf
    omega
  | succ d ih =>
    intro L f M1 hd hO hI hc hr h64 hX hf
    have hm1 : gMod M1 m := hm.off hO
    refine g_aload_n dX9_made_207 rfl ?_
    refine g_getI (f := 3) dX9_made_208 cl10 hm1.1 (by decide) (Or.inl (iw_25 19 rfl)) (Or.inl rfl) (Or.inl rfl) ?_
    refine g_iconst (v := nI 2) dX9_made_211 rfl ?_
    rw [hI.1]
    refine g_icmp_le (tgt := 291) dX9_made_212 (by decide) (fun c_212 => ?_) (fun c_212 => ?_)
    · skip
      rw [nI_leI (by omega) (by omega)] at c_212
      rw [rdF_two c_212] at hX
      subst hX
      exact hk M1 hO hI c_212 hr
    · skip
      refine g_iconst (v := nI 0) dX9_made_215 rfl ?_
      refine g_istore_n dX9_made_216 (Nat.le_of_ble_eq_true rfl) ?_
      refine g_iconst (v := nI 1) dX9_made_217 rfl ?_
      refine g_istore dX9_made_218 (Nat.le_of_ble_eq_true rfl) ?_
      rw [nI_leI (by omega) (by omega)] at c_212
      have h2 : 2 < L.length := by omega
      have hb := bst_lt L (L.length - 1) (by omega)
      have hk3 : GW μX9_made (gRm 2 46 0 0) Q 0 0 280 [some (.ref m), some (.int (nI s)), none, some (.int (nI (bst L (L.length - 1)))), none, none, none, none, none] [] M1 n := by
        refine g_aload_n dX9_made_280 rfl ?_
        refine g_iload_n dX9_made_281 rfl ?_
        refine g_iload_n dX9_made_282 rfl ?_
        refine g_iconst (v := nI 1) dX9_made_283 rfl ?_
        refine g_iadd dX9_made_284 ?_
        rw [show nI (bst L (L.length - 1)) + nI 1 = nI (bst L (L.length - 1) + 1) from nI_add _ 1]
        refine g_callV (As := [.int (nI (bst L (L.length - 1))), .int (nI (bst L (L.length - 1) + 1))]) dX9_made_285 sX9_unite (m_unite M1 n m (bst L (L.length - 1)) (bst L (L.length - 1) + 1) L hm1 (by omega) (by omega) h64 hI hr) cl10 hm1.1 iX9_unite vX9_unite (iw_28 6 rfl) rfl rfl (Nat.le_of_ble_eq_true rfl) (Nat.le_of_ble_eq_true rfl) (Nat.le_of_ble_eq_true rfl) (Nat.le_of_ble_eq_true rfl) (Nat.le_of_ble_eq_true rfl) ?_
        intro r9 M2 n9 h9
        obtain ⟨h91, h93, hO2, hI2⟩ := h9
        rw [h91, h93]
        refine g_goto (tgt := 207) dX9_made_288 (by decide) ?_
        refine g_drop 3 ?_
        rw [unL_uni L _ hc (by omega)] at hI2
        cases f with
        | zero => omega
        | succ f =>
          unfold rdF at hX
          rw [if_neg (by omega)] at hX
          have hlen := uni_len L (bst L (L.length - 1)) (by omega)
          refine ih (uni L (bst L (L.length - 1))) f M2 (by omega) (hO.trans hO2) hI2 (uni_cn hc (by omega)) ?_ (by omega) hX (by omega)
          rw [← unL_uni L _ hc (by omega)]
          exact unL_r5 (by omega) (by omega) hr
      have hg := l_md3b hm (s := s) (n := n) (Q := Q) hO hI hr h64 h2 hk3 (L.length + 1) 1 (by omega) (by omega) (by omega)
      rw [bst_1] at hg
      exact hg

set_option maxHeartbeats 4000000 in
set_option maxRecDepth 100000 in
theorem l_md4 {M : gM} {n m s : Nat} {X : List Sp} {post : gPo} (hm : gMod M m) (hs : s < 360) (hX : X.length ≤ 2) (hq : ∀ M1, Off M M1 (fM m s) → iL M1 m [] → iS M1 m s X → post none M1 n) : ∀ (d : Nat) (k : Nat) (M1 : gM), X.length - k < d → k ≤ X.length → Off M M1 (fM m s) → iL M1 m X → mI M1 (m + 1) s = nI X.length → (∀ j, j < k → mJ M1 (m + 2) (4 * s + 2 * j) = jI (X.getD j (0, 0)).1 ∧ mJ M1 (m + 2) (4 * s + 2 * j + 1) = jI (X.getD j (0, 0)).2) → GW μX9_made (gRm 2 46 0 0) (gTh post 0 0) 0 0 303 [some (.ref m), some (.int (nI s)), none, some (.int (nI k)), none, none, none, none, none] [] M1 n := by
  intro d
  induction d with
  | zero =>
    intro k M1 hd hk hO hI hc h1
    omega
  | succ d ih =>
    intro k M1 hd hk hO hI hc h1
    have hm1 : gMod M1 m := hm.off hO
    refine g_iload_n dX9_made_303 rfl ?_
    refine g_aload_n dX9_made_304 rfl ?_
    refine g_getI (f := 3) dX9_made_305 cl10 hm1.1 (by decide) (Or.inl (iw_25 19 rfl)) (Or.inl rfl) (Or.inl rfl) ?_
    rw [hI.1]
    refine g_icmp_ge (tgt := 355) dX9_made_308 (by decide) (fun c_308 => ?_) (fun c_308 => ?_)
    · skip
      rw [nI_leI (by omega) (by omega)] at c_308
      refine g_aload_n dX9_made_355 rfl ?_
      refine g_iconst (v := nI 0) dX9_made_356 rfl ?_
      refine g_putI (f := 3) dX9_made_357 cl10 hm1.1 (by decide) (Or.inl (iw_25 19 rfl)) (Or.inl rfl) (Or.inl rfl) (Or.inl rfl) ?_
      exact g_vret dX9_made_360 rfl (Nat.le_of_ble_eq_true rfl) (Nat.le_of_ble_eq_true rfl) (hq _ (hO.stI (Or.inl (Or.inl ⟨rfl, rfl⟩))) ⟨by rw [mI_st, if_pos ⟨rfl, rfl⟩]; rfl, fun k hk => absurd hk (by simp)⟩ ⟨hX, by rw [mI_st, if_neg (by omega)]; exact hc, fun j hj => by rw [mJ_sI, mJ_sI]; exact h1 j (by omega)⟩)
    · skip
      rw [nI_leI (by omega) (by omega)] at c_308
      obtain ⟨e1, e2⟩ := hI.2 k (by omega)
      refine g_aload_n dX9_made_311 rfl ?_
      refine g_getR (f := 2) dX9_made_312 cl10 hm1.1 (by decide) (Or.inl (iw_5 21 rfl)) (Or.inl rfl) rfl hm1.r_ends ?_
      refine g_iconst (v := nI 4) dX9_made_315 rfl ?_
      refine g_iload_n dX9_made_316 rfl ?_
      refine g_imul dX9_made_317 ?_
      refine g_iconst (v := nI 2) dX9_made_318 rfl ?_
      refine g_iload_n dX9_made_319 rfl ?_
      refine g_imul dX9_made_320 ?_
      refine g_iadd dX9_made_321 ?_
      refine g_aload_n dX9_made_322 rfl ?_
      refine g_getR (f := 4) dX9_made_323 cl10 hm1.1 (by decide) (Or.inl (iw_5 22 rfl)) (Or.inl rfl) rfl hm1.r_from ?_
      refine g_iload_n dX9_made_326 rfl ?_
      refine g_laload dX9_made_327 (j := k) hm1.k_from hm1.n_from rfl (by omega) (by decide) ?_
      rw [e1]
      refine g_lastore dX9_made_328 (j := 4 * s + 2 * k) hm1.k_ends hm1.n_ends (by simp only [pk_mul, nI_add]) (by omega) (by decide) ?_
      refine g_aload_n dX9_made_329 rfl ?_
      refine g_getR (f := 2) dX9_made_330 cl10 hm1.1 (by decide) (Or.inl (iw_5 21 rfl)) (Or.inl rfl) rfl hm1.r_ends ?_
      refine g_iconst (v := nI 4) dX9_made_333 rfl ?_
      refine g_iload_n dX9_made_334 rfl ?_
      refine g_imul dX9_made_335 ?_
      refine g_iconst (v := nI 2) dX9_made_336 rfl ?_
      refine g_iload_n dX9_made_337 rfl ?_
      refine g_imul dX9_made_338 ?_
      refine g_iadd dX9_made_339 ?_
      refine g_iconst (v := nI 1) dX9_made_340 rfl ?_
      refine g_iadd dX9_made_341 ?_
      refine g_aload_n dX9_made_342 rfl ?_
      refine g_getR (f := 5) dX9_made_343 cl10 hm1.1 (by decide) (Or.inl (iw_5 23 rfl)) (Or.inl rfl) rfl hm1.r_to ?_
      refine g_iload_n dX9_made_346 rfl ?_
      refine g_laload dX9_made_347 (j := k) hm1.k_to hm1.n_to rfl (by omega) (by decide) ?_
      rw [mJ_st, if_neg (by omega), e2]
      refine g_lastore dX9_made_348 (j := 4 * s + 2 * k + 1) hm1.k_ends hm1.n_ends (by simp only [pk_mul, nI_add]) (by omega) (by decide) ?_
      refine g_iinc dX9_made_349 rfl (nI_1 k) (Nat.le_of_ble_eq_true rfl) ?_
      refine g_goto (tgt := 303) dX9_made_352 (by decide) ?_
      refine ih (k + 1) _ (by omega) (by omega) ((hO.stJ (Or.inr (Or.inr ⟨rfl, by omega, by omega⟩))).stJ (Or.inr (Or.inr ⟨rfl, by omega, by omega⟩))) ⟨hI.1, fun j hj => ?_⟩ hc (fun j hj => ?_)
      · simp only [mJ_st]
        rw [if_neg (by omega), if_neg (by omega), if_neg (by omega), if_neg (by omega)]
        exact hI.2 j hj
      · simp only [mJ_st]
        by_cases e : j = k
        · subst e
          rw [if_neg (by omega), if_pos (by simp), if_pos (by simp)]
          exact ⟨rfl, rfl⟩
        · rw [if_neg (by omega), if_neg (by omega), if_neg (by omega), if_neg (by omega)]
          exact h1 j (by omega)

set_option maxHeartbeats 4000000 in
set_option maxRecDepth 100000 in
theorem m_made (M : gM) (n m s : Nat) (L : List Sp) (hm : gMod M m) (hs : s < 360) (hI : iL M m L) (hok : okL L) (hr : r5L L) (hl : L.length ≤ 64) : GM μX9_made 2 46 0 0 [.ref m, .int (nI s)] M n (fun r M1 n1 => r = none ∧ n1 = n ∧ Off M M1 (fM m s) ∧ iL M1 m [] ∧ iS M1 m s (mkS L) ∧ okX (mkS L)) := by
  refine GM.ofW (by decide) rfl (Nat.le_of_ble_eq_true rfl) rfl ?_
  refine g_iconst (v := nI 1) dX9_made_0 rfl ?_
  refine g_istore_n dX9_made_1 (Nat.le_of_ble_eq_true rfl) ?_
  refine l_md1 hm (s := s) (L0 := L) (fun L1 M1 hI1 hap => ?_) (L.length + 2) L true M (by simp) ⟨Off.rf, hI, hok, hr, fun z => Iff.rfl, hl⟩ (fun h => by cases h)
  refine g_iconst (v := nI 0) dX9_made_94 rfl ?_
  refine g_istore_n dX9_made_95 (Nat.le_of_ble_eq_true rfl) ?_
  refine l_md2 hm (s := s) (L0 := L) (fun L2 M2 hI2 hc => ?_) 66 0 L1 M1 (by omega) (by omega) hI1 hap (fun i j h1 _ _ => absurd h1 (by omega))
  have hn : L2 = nrm L := nrm_of hc hok hI2.2.2.2.2.1
  have hle := rdF_le L2.length L2 (by omega) hc
  refine l_md3 hm (s := s) (X := mkS L) (fun M3 hO3 hI3 h2 hr3 => ?_) (L2.length + 1) L2 L2.length M2 (by omega) hI2.1 hI2.2.1 hc hI2.2.2.2.1 hI2.2.2.2.2.2 (by rw [hn]; rfl) (by omega)
  have hm3 : gMod M3 m := hm.off hO3
  refine g_aload_n dX9_made_291 rfl ?_
  refine g_getR (f := 1) dX9_made_292 cl10 hm3.1 (by decide) (Or.inl (iw_5 20 rfl)) (Or.inl rfl) rfl hm3.r_many ?_
  refine g_iload_n dX9_made_295 rfl ?_
  refine g_aload_n dX9_made_296 rfl ?_
  refine g_getI (f := 3) dX9_made_297 cl10 hm3.1 (by decide) (Or.inl (iw_25 19 rfl)) (Or.inl rfl) (Or.inl rfl) ?_
  refine g_iastore dX9_made_300 (j := s) hm3.k_many hm3.n_many rfl hs (by decide) ?_
  refine g_iconst (v := nI 0) dX9_made_301 rfl ?_
  refine g_istore_n dX9_made_302 (Nat.le_of_ble_eq_true rfl) ?_
  refine l_md4 hm hs h2 (fun M4 h1 h3 h4 => ⟨rfl, rfl, h1, h3, h4, ?_⟩) 3 0 _ (by omega) (by omega) ((hO3.mono (fun i k h => Or.inl h)).stI (Or.inr (Or.inl ⟨rfl, rfl⟩))) ⟨?_, fun j hj => hI3.2 j hj⟩ ?_ (fun j hj => absurd hj (by omega))
  · rw [mI_st, if_neg (by omega)]; exact hI3.1
  · rw [mI_st, if_pos ⟨rfl, rfl⟩]; exact hI3.1
  · unfold mkS
    rw [← hn]
    exact ⟨hle.1, hle.2, rdF_r5 _ _ hc hI2.2.2.2.1⟩

