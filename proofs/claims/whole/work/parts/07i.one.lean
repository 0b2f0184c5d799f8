/-! the class: what one span brings; rests -/
set_option maxHeartbeats 4000000 in
set_option maxRecDepth 100000 in
theorem c_bits (M : gM) (n v : Nat) (U : List Sp) (p : Sp) (c : Int) (hU : gt M (v + 1) U) (hl : U.length + 1 ≤ 16) (h5 : r5L U) (h1 : r5 p.1) (h2 : r5 p.2) (hc : 0 ≤ c ∧ c ≤ 2147483647) (hv : mK M v = 6) (hv0 : mR M v 0 = some (v + 1)) : GM μX5_addBits 1 23 0 0 [.ref v, .int (iZ p.1), .int (iZ p.2), .int (iZ c)] M n (fun r M1 n1 => r = none ∧ n1 = n ∧ Off M M1 (fY (v + 1)) ∧ gt M1 (v + 1) (U ++ andP c p)) := by
  refine GM.ofW (by decide) rfl (Nat.le_of_ble_eq_true rfl) rfl ?_
  have r0 : r5 0 := by constructor <;> omega
  have rc : r5 c := by constructor <;> omega
  refine g_iload_n dX5_addBits_0 rfl ?_
  refine g_iload_n dX5_addBits_1 rfl ?_
  refine g_iconst (v := nI 1) dX5_addBits_2 rfl ?_
  refine g_iadd dX5_addBits_3 ?_
  rw [nI_iZ 1, show ((1 : Nat) : Int) = 1 from rfl, iZ_add]
  refine g_iand dX5_addBits_4 ?_
  refine g_if_ne (tgt := 12) dX5_addBits_5 (by decide) (fun c_5 => ?_) (fun c_5 => ?_)
  · skip
    rw [pw_i hc.1 hc.2] at c_5
    have hb : (0 : Int32) = bI (pwB c) := by rw [show pwB c = false by simpa using c_5]; rfl
    refine g_iconst (v := nI 0) dX5_addBits_12 rfl ?_
    first | rw [show nI 1 = bI (pwB c) from hb] | rw [show nI 0 = bI (pwB c) from hb]
    clear hb c_5
    refine g_istore dX5_addBits_13 (Nat.le_of_ble_eq_true rfl) ?_
    refine g_iload_n dX5_addBits_15 rfl ?_
    refine g_if_ge (tgt := 31) dX5_addBits_16 (by decide) (fun c_16 => ?_) (fun c_16 => ?_)
    · skip
      rw [show (0 : Int32) = iZ 0 from rfl, iZ_le r0 h1] at c_16
      refine g_iload_n dX5_addBits_31 rfl ?_
      refine g_iload_n dX5_addBits_32 rfl ?_
      refine g_icmp_gt (tgt := 53) dX5_addBits_33 (by decide) (fun c_33 => ?_) (fun c_33 => ?_)
      · skip
        have e9 : andP c p = [(0, min c p.2)] := by
          unfold andP
          first
            | rw [if_neg (fun q => by rw [iZ_lt rc h2] at c_33; omega), if_pos (by omega)]
            | rw [if_neg (fun q => by rw [bI_eq0, q.2.2] at c_38; cases c_38), if_pos (by omega)]
        refine g_aload_n dX5_addBits_53 rfl ?_
        refine g_getR (f := 0) dX5_addBits_54 cl6 hv (by decide) (Or.inl (iw_4 23 rfl)) (Or.inl rfl) rfl hv0 ?_
        refine g_iconst (v := nI 0) dX5_addBits_57 rfl ?_
        rw [show nI 0 = iZ 0 from rfl]
        refine g_iload_n dX5_addBits_58 rfl ?_
        refine g_iload_n dX5_addBits_59 rfl ?_
        refine g_mmin dX5_addBits_60 (iw_23 16 rfl) (iw_10 21 rfl) (iw_9 19 rfl) (iw_10 22 rfl) (Nat.le_of_ble_eq_true rfl) (Nat.le_of_ble_eq_true rfl) (Nat.le_of_ble_eq_true rfl) (Nat.le_of_ble_eq_true rfl) ?_
        rw [iZ_min rc h2]
        refine g_callV dX5_addBits_63 sX0_add (c_add M n (v + 1) U (0, min c p.2) hU (by omega) h5 (by constructor <;> (simp only; omega))) cl1 hU.g.1 iX0_add vX0_add (iw_21 22 rfl) rfl rfl (Nat.le_of_ble_eq_true rfl) (Nat.le_of_ble_eq_true rfl) (Nat.le_of_ble_eq_true rfl) (Nat.le_of_ble_eq_true rfl) (Nat.le_of_ble_eq_true rfl) ?_
        intro r9 M2 n9 h9
        obtain ⟨h91, h93, hO2, hI2⟩ := h9
        rw [h91, h93]
        clear h91 h93 r9 n9
        exact g_vret dX5_addBits_66 rfl (Nat.le_of_ble_eq_true rfl) (Nat.le_of_ble_eq_true rfl) ⟨rfl, rfl, hO2, by rw [e9]; exact hI2⟩
      · skip
        rw [iZ_lt rc h2] at c_33
        refine g_iload dX5_addBits_36 rfl ?_
        refine g_if_eq (tgt := 53) dX5_addBits_38 (by decide) (fun c_38 => ?_) (fun c_38 => ?_)
        · skip
          have e9 : andP c p = [(0, min c p.2)] := by
            unfold andP
            first
              | rw [if_neg (fun q => by rw [iZ_lt rc h2] at c_33; omega), if_pos (by omega)]
              | rw [if_neg (fun q => by rw [bI_eq0, q.2.2] at c_38; cases c_38), if_pos (by omega)]
          refine g_aload_n dX5_addBits_53 rfl ?_
          refine g_getR (f := 0) dX5_addBits_54 cl6 hv (by decide) (Or.inl (iw_4 23 rfl)) (Or.inl rfl) rfl hv0 ?_
          refine g_iconst (v := nI 0) dX5_addBits_57 rfl ?_
          rw [show nI 0 = iZ 0 from rfl]
          refine g_iload_n dX5_addBits_58 rfl ?_
          refine g_iload_n dX5_addBits_59 rfl ?_
          refine g_mmin dX5_addBits_60 (iw_23 16 rfl) (iw_10 21 rfl) (iw_9 19 rfl) (iw_10 22 rfl) (Nat.le_of_ble_eq_true rfl) (Nat.le_of_ble_eq_true rfl) (Nat.le_of_ble_eq_true rfl) (Nat.le_of_ble_eq_true rfl) ?_
          rw [iZ_min rc h2]
          refine g_callV dX5_addBits_63 sX0_add (c_add M n (v + 1) U (0, min c p.2) hU (by omega) h5 (by constructor <;> (simp only; omega))) cl1 hU.g.1 iX0_add vX0_add (iw_21 22 rfl) rfl rfl (Nat.le_of_ble_eq_true rfl) (Nat.le_of_ble_eq_true rfl) (Nat.le_of_ble_eq_true rfl) (Nat.le_of_ble_eq_true rfl) (Nat.le_of_ble_eq_true rfl) ?_
          intro r9 M2 n9 h9
          obtain ⟨h91, h93, hO2, hI2⟩ := h9
          rw [h91, h93]
          clear h91 h93 r9 n9
          exact g_vret dX5_addBits_66 rfl (Nat.le_of_ble_eq_true rfl) (Nat.le_of_ble_eq_true rfl) ⟨rfl, rfl, hO2, by rw [e9]; exact hI2⟩
        · skip
          rw [bI_eq0, Bool.not_eq_false] at c_38
          have e9 : andP c p = [p] := by
            unfold andP
            rw [if_pos ⟨by omega, by omega, c_38⟩]
          refine g_aload_n dX5_addBits_41 rfl ?_
          refine g_getR (f := 0) dX5_addBits_42 cl6 hv (by decide) (Or.inl (iw_4 23 rfl)) (Or.inl rfl) rfl hv0 ?_
          refine g_iload_n dX5_addBits_45 rfl ?_
          refine g_iload_n dX5_addBits_46 rfl ?_
          refine g_callV dX5_addBits_47 sX0_add (c_add M n (v + 1) U p hU (by omega) h5 h1) cl1 hU.g.1 iX0_add vX0_add (iw_21 22 rfl) rfl rfl (Nat.le_of_ble_eq_true rfl) (Nat.le_of_ble_eq_true rfl) (Nat.le_of_ble_eq_true rfl) (Nat.le_of_ble_eq_true rfl) (Nat.le_of_ble_eq_true rfl) ?_
          intro r9 M2 n9 h9
          obtain ⟨h91, h93, hO2, hI2⟩ := h9
          rw [h91, h93]
          clear h91 h93 r9 n9
          refine g_goto (tgt := 66) dX5_addBits_50 (by decide) ?_
          exact g_vret dX5_addBits_66 rfl (Nat.le_of_ble_eq_true rfl) (Nat.le_of_ble_eq_true rfl) ⟨rfl, rfl, hO2, by rw [e9]; exact hI2⟩
    · skip
      rw [show (0 : Int32) = iZ 0 from rfl, iZ_le r0 h1] at c_16
      have e9 : andP c p = [(0, c)] := by
        unfold andP
        rw [if_neg (by omega), if_neg (by omega)]
      refine g_aload_n dX5_addBits_19 rfl ?_
      refine g_getR (f := 0) dX5_addBits_20 cl6 hv (by decide) (Or.inl (iw_4 23 rfl)) (Or.inl rfl) rfl hv0 ?_
      refine g_iconst (v := nI 0) dX5_addBits_23 rfl ?_
      refine g_iload_n dX5_addBits_24 rfl ?_
      rw [show nI 0 = iZ 0 from rfl]
      refine g_callV dX5_addBits_25 sX0_add (c_add M n (v + 1) U (0, c) hU (by omega) h5 (by constructor <;> (simp only; omega))) cl1 hU.g.1 iX0_add vX0_add (iw_21 22 rfl) rfl rfl (Nat.le_of_ble_eq_true rfl) (Nat.le_of_ble_eq_true rfl) (Nat.le_of_ble_eq_true rfl) (Nat.le_of_ble_eq_true rfl) (Nat.le_of_ble_eq_true rfl) ?_
      intro r9 M2 n9 h9
      obtain ⟨h91, h93, hO2, hI2⟩ := h9
      rw [h91, h93]
      clear h91 h93 r9 n9
      refine g_goto (tgt := 66) dX5_addBits_28 (by decide) ?_
      exact g_vret dX5_addBits_66 rfl (Nat.le_of_ble_eq_true rfl) (Nat.le_of_ble_eq_true rfl) ⟨rfl, rfl, hO2, by rw [e9]; exact hI2⟩
  · skip
    rw [pw_i hc.1 hc.2] at c_5
    have hb : (1 : Int32) = bI (pwB c) := by rw [c_5]; rfl
    refine g_iconst (v := nI 1) dX5_addBits_8 rfl ?_
    refine g_goto (tgt := 13) dX5_addBits_9 (by decide) ?_
    first | rw [show nI 1 = bI (pwB c) from hb] | rw [show nI 0 = bI (pwB c) from hb]
    clear hb c_5
    refine g_istore dX5_addBits_13 (Nat.le_of_ble_eq_true rfl) ?_
    refine g_iload_n dX5_addBits_15 rfl ?_
    refine g_if_ge (tgt := 31) dX5_addBits_16 (by decide) (fun c_16 => ?_) (fun c_16 => ?_)
    · skip
      rw [show (0 : Int32) = iZ 0 from rfl, iZ_le r0 h1] at c_16
      refine g_iload_n dX5_addBits_31 rfl ?_
      refine g_iload_n dX5_addBits_32 rfl ?_
      refine g_icmp_gt (tgt := 53) dX5_addBits_33 (by decide) (fun c_33 => ?_) (fun c_33 => ?_)
      · skip
        have e9 : andP c p = [(0, min c p.2)] := by
          unfold andP
          first
            | rw [if_neg (fun q => by rw [iZ_lt rc h2] at c_33; omega), if_pos (by omega)]
            | rw [if_neg (fun q => by rw [bI_eq0, q.2.2] at c_38; cases c_38), if_pos (by omega)]
        refine g_aload_n dX5_addBits_53 rfl ?_
        refine g_getR (f := 0) dX5_addBits_54 cl6 hv (by decide) (Or.inl (iw_4 23 rfl)) (Or.inl rfl) rfl hv0 ?_
        refine g_iconst (v := nI 0) dX5_addBits_57 rfl ?_
        rw [show nI 0 = iZ 0 from rfl]
        refine g_iload_n dX5_addBits_58 rfl ?_
        refine g_iload_n dX5_addBits_59 rfl ?_
        refine g_mmin dX5_addBits_60 (iw_23 16 rfl) (iw_10 21 rfl) (iw_9 19 rfl) (iw_10 22 rfl) (Nat.le_of_ble_eq_true rfl) (Nat.le_of_ble_eq_true rfl) (Nat.le_of_ble_eq_true rfl) (Nat.le_of_ble_eq_true rfl) ?_
        rw [iZ_min rc h2]
        refine g_callV dX5_addBits_63 sX0_add (c_add M n (v + 1) U (0, min c p.2) hU (by omega) h5 (by constructor <;> (simp only; omega))) cl1 hU.g.1 iX0_add vX0_add (iw_21 22 rfl) rfl rfl (Nat.le_of_ble_eq_true rfl) (Nat.le_of_ble_eq_true rfl) (Nat.le_of_ble_eq_true rfl) (Nat.le_of_ble_eq_true rfl) (Nat.le_of_ble_eq_true rfl) ?_
        intro r9 M2 n9 h9
        obtain ⟨h91, h93, hO2, hI2⟩ := h9
        rw [h91, h93]
        clear h91 h93 r9 n9
        exact g_vret dX5_addBits_66 rfl (Nat.le_of_ble_eq_true rfl) (Nat.le_of_ble_eq_true rfl) ⟨rfl, rfl, hO2, by rw [e9]; exact hI2⟩
      · skip
        rw [iZ_lt rc h2] at c_33
        refine g_iload dX5_addBits_36 rfl ?_
        refine g_if_eq (tgt := 53) dX5_addBits_38 (by decide) (fun c_38 => ?_) (fun c_38 => ?_)
        · skip
          have e9 : andP c p = [(0, min c p.2)] := by
            unfold andP
            first
              | rw [if_neg (fun q => by rw [iZ_lt rc h2] at c_33; omega), if_pos (by omega)]
              | rw [if_neg (fun q => by rw [bI_eq0, q.2.2] at c_38; cases c_38), if_pos (by omega)]
          refine g_aload_n dX5_addBits_53 rfl ?_
          refine g_getR (f := 0) dX5_addBits_54 cl6 hv (by decide) (Or.inl (iw_4 23 rfl)) (Or.inl rfl) rfl hv0 ?_
          refine g_iconst (v := nI 0) dX5_addBits_57 rfl ?_
          rw [show nI 0 = iZ 0 from rfl]
          refine g_iload_n dX5_addBits_58 rfl ?_
          refine g_iload_n dX5_addBits_59 rfl ?_
          refine g_mmin dX5_addBits_60 (iw_23 16 rfl) (iw_10 21 rfl) (iw_9 19 rfl) (iw_10 22 rfl) (Nat.le_of_ble_eq_true rfl) (Nat.le_of_ble_eq_true rfl) (Nat.le_of_ble_eq_true rfl) (Nat.le_of_ble_eq_true rfl) ?_
          rw [iZ_min rc h2]
          refine g_callV dX5_addBits_63 sX0_add (c_add M n (v + 1) U (0, min c p.2) hU (by omega) h5 (by constructor <;> (simp only; omega))) cl1 hU.g.1 iX0_add vX0_add (iw_21 22 rfl) rfl rfl (Nat.le_of_ble_eq_true rfl) (Nat.le_of_ble_eq_true rfl) (Nat.le_of_ble_eq_true rfl) (Nat.le_of_ble_eq_true rfl) (Nat.le_of_ble_eq_true rfl) ?_
          intro r9 M2 n9 h9
          obtain ⟨h91, h93, hO2, hI2⟩ := h9
          rw [h91, h93]
          clear h91 h93 r9 n9
          exact g_vret dX5_addBits_66 rfl (Nat.le_of_ble_eq_true rfl) (Nat.le_of_ble_eq_true rfl) ⟨rfl, rfl, hO2, by rw [e9]; exact hI2⟩
        · skip
          rw [bI_eq0, Bool.not_eq_false] at c_38
          have e9 : andP c p = [p] := by
            unfold andP
            rw [if_pos ⟨by omega, by omega, c_38⟩]
          refine g_aload_n dX5_addBits_41 rfl ?_
          refine g_getR (f := 0) dX5_addBits_42 cl6 hv (by decide) (Or.inl (iw_4 23 rfl)) (Or.inl rfl) rfl hv0 ?_
          refine g_iload_n dX5_addBits_45 rfl ?_
          refine g_iload_n dX5_addBits_46 rfl ?_
          refine g_callV dX5_addBits_47 sX0_add (c_add M n (v + 1) U p hU (by omega) h5 h1) cl1 hU.g.1 iX0_add vX0_add (iw_21 22 rfl) rfl rfl (Nat.le_of_ble_eq_true rfl) (Nat.le_of_ble_eq_true rfl) (Nat.le_of_ble_eq_true rfl) (Nat.le_of_ble_eq_true rfl) (Nat.le_of_ble_eq_true rfl) ?_
          intro r9 M2 n9 h9
          obtain ⟨h91, h93, hO2, hI2⟩ := h9
          rw [h91, h93]
          clear h91 h93 r9 n9
          refine g_goto (tgt := 66) dX5_addBits_50 (by decide) ?_
          exact g_vret dX5_addBits_66 rfl (Nat.le_of_ble_eq_true rfl) (Nat.le_of_ble_eq_true rfl) ⟨rfl, rfl, hO2, by rw [e9]; exact hI2⟩
    · skip
      rw [show (0 : Int32) = iZ 0 from rfl, iZ_le r0 h1] at c_16
      have e9 : andP c p = [(0, c)] := by
        unfold andP
        rw [if_neg (by omega), if_neg (by omega)]
      refine g_aload_n dX5_addBits_19 rfl ?_
      refine g_getR (f := 0) dX5_addBits_20 cl6 hv (by decide) (Or.inl (iw_4 23 rfl)) (Or.inl rfl) rfl hv0 ?_
      refine g_iconst (v := nI 0) dX5_addBits_23 rfl ?_
      refine g_iload_n dX5_addBits_24 rfl ?_
      rw [show nI 0 = iZ 0 from rfl]
      refine g_callV dX5_addBits_25 sX0_add (c_add M n (v + 1) U (0, c) hU (by omega) h5 (by constructor <;> (simp only; omega))) cl1 hU.g.1 iX0_add vX0_add (iw_21 22 rfl) rfl rfl (Nat.le_of_ble_eq_true rfl) (Nat.le_of_ble_eq_true rfl) (Nat.le_of_ble_eq_true rfl) (Nat.le_of_ble_eq_true rfl) (Nat.le_of_ble_eq_true rfl) ?_
      intro r9 M2 n9 h9
      obtain ⟨h91, h93, hO2, hI2⟩ := h9
      rw [h91, h93]
      clear h91 h93 r9 n9
      refine g_goto (tgt := 66) dX5_addBits_28 (by decide) ?_
      exact g_vret dX5_addBits_66 rfl (Nat.le_of_ble_eq_true rfl) (Nat.le_of_ble_eq_true rfl) ⟨rfl, rfl, hO2, by rw [e9]; exact hI2⟩

def o1P (k : Nat) (c : Int32) (x : Sp) : List Sp := if k = 1 then [x] else if k = 6 then [(shZ (pl c) x.1, shZ (pl c) x.2)] else if k = 5 then andP c.toInt x else rnd (cE c) (cW c) x.1 x.2
def o1H (k : Nat) (c : Int32) : Prop := (k = 1 ∨ k = 5 ∨ k = 6 ∨ k = 9) ∧ (k = 5 → 0 ≤ c.toInt) ∧ (k = 6 → 0 ≤ c.toInt ∧ c.toInt ≤ 31) ∧ (k = 9 → 0 ≤ c.toInt ∧ c.toInt ≤ 2)
theorem cEW (c : Int32) : (cW c = 256 ∨ cW c = 65536 ∨ cW c = 4294967296) ∧ -2147483648 ≤ cE c ∧ cE c + cW c - 1 ≤ 2147483647 := by
  unfold cE cW
  split
  · omega
  · split <;> omega
theorem o1_wl {k : Nat} {c : Int32} (h : o1H k c) {x : Sp} (hx : x.1 ≤ x.2) (h1 : r5 x.1) (h2 : r5 x.2) : wl (o1P k c x) := by
  unfold o1P
  split
  · exact wl_one hx h1 h2
  · split
    · exact wl_one (shZ_le hx _) (shZ_r h1 _) (shZ_r h2 _)
    · split
      · rename_i e; exact andP_wl ⟨h.2.1 e, (i_rng c).2⟩ hx h1 h2
      · have := cEW c
        exact wl_rnd _ _ (by omega) this.2.1 this.2.2
theorem o1_len (k : Nat) (c : Int32) (x : Sp) : (o1P k c x).length ≤ 2 := by
  unfold o1P
  split
  · simp
  · split
    · simp
    · split
      · rw [andP_len]; omega
      · exact rnd_len _ _ _ _
set_option maxHeartbeats 4000000 in
set_option maxRecDepth 100000 in
theorem k_one {M : gM} {n v x k : Nat} {c : Int32} {X U : List Sp} {Q : gθ} (hg0 : gG M (v + 1)) (hX : cS M x X) (hl : U.length + 4 ≤ 16) (h5 : r5L U) (hh : o1H k c) (hv : mK M v = 6) (hv0 : mR M v 0 = some (v + 1)) (hk : ∀ M1, Off M M1 (fY (v + 1)) → gt M1 (v + 1) (U ++ X.flatMap (o1P k c)) → GW μX5_gatherOfOne (gRm 2 57 0 0) Q 0 0 148 [some (.ref v), some (.int (nI k)), some (.ref x), some (.int c), none, none, none] [] M1 n) : ∀ (d : Nat) (j : Nat) (M1 : gM), X.length - j < d → j ≤ X.length → Off M M1 (fY (v + 1)) → gt M1 (v + 1) (U ++ (X.take j).flatMap (o1P k c)) → GW μX5_gatherOfOne (gRm 2 57 0 0) Q 0 0 3 [some (.ref v), some (.int (nI k)), some (.ref x), some (.int c), some (.int (nI j)), none, none] [] M1 n := by
  intro d
  induction d with
  | zero =>
    intro j M1 hd hj hO hI
    omega
  | succ d ih =>
    intro j M1 hd hj hO hI
    have hx1 := hX.offY hg0 hO
    have hv1 : mK M1 v = 6 := by rw [hO.1]; exact hv
    have hv2 : mR M1 v 0 = some (v + 1) := by rw [hO.2.2.1]; exact hv0
    have l2 := hX.2.1.2.1
    refine g_iload dX5_gatherOfOne_3 rfl ?_
    refine g_aload_n dX5_gatherOfOne_5 rfl ?_
    refine g_getI (f := 0) dX5_gatherOfOne_6 cl4 hx1.1 (by decide) (Or.inr (List.mem_of_getElem? (i := 27) rfl)) (Or.inl rfl) (Or.inl rfl) ?_
    rw [hx1.2.2.1]
    refine g_icmp_ge (tgt := 148) dX5_gatherOfOne_9 (by decide) (fun c_9 => ?_) (fun c_9 => ?_)
    · skip
      rw [nI_leI (by omega) (by omega)] at c_9
      refine g_msk [true, true, true, true, false, false, false] ?_
      exact hk M1 hO (by rw [List.take_of_length_le (by omega)] at hI; exact hI)
    · skip
      rw [nI_leI (by omega) (by omega)] at c_9
      have hjl : j < X.length := by omega
      have hr := hX.r hjl
      have hxx : (X.getD j (0, 0)).1 ≤ (X.getD j (0, 0)).2 := hX.2.1.wl.1 _ (getD_mem hjl)
      have len1 : ((X.take j).flatMap (o1P k c)).length ≤ 2 * j := by
        have h2 := flat_len (X := X.take j) (c := 2) (f := o1P k c) (fun y _ => o1_len k c y)
        rw [List.length_take] at h2
        have : min j X.length * 2 ≤ j * 2 := Nat.mul_le_mul_right _ (Nat.min_le_left _ _)
        omega
      have u5 : r5L (U ++ (X.take j).flatMap (o1P k c)) := r5L_app.mpr ⟨h5, (wl_flat (fun p hp => o1_wl hh ((okX_take hX.2.1 j).wl.1 p hp) ((okX_take hX.2.1 j).2.2 p hp).1 ((okX_take hX.2.1 j).2.2 p hp).2)).2⟩
      have h0 := hh.1
      refine g_aload_n dX5_gatherOfOne_12 rfl ?_
      refine g_iload dX5_gatherOfOne_13 rfl ?_
      refine g_callV dX5_gatherOfOne_15 sX3_low (c_low M1 n x j X hx1 hjl) cl4 hx1.1 iX3_low vX3_low (iw_22 6 rfl) rfl rfl (Nat.le_of_ble_eq_true rfl) (Nat.le_of_ble_eq_true rfl) (Nat.le_of_ble_eq_true rfl) (Nat.le_of_ble_eq_true rfl) (Nat.le_of_ble_eq_true rfl) ?_
      intro r9 M9 n9 h9
      obtain ⟨h91, h92, h93⟩ := h9
      rw [h91, h92, h93]
      clear h91 h92 h93 r9 M9 n9
      refine g_istore dX5_gatherOfOne_18 (Nat.le_of_ble_eq_true rfl) ?_
      refine g_aload_n dX5_gatherOfOne_20 rfl ?_
      refine g_iload dX5_gatherOfOne_21 rfl ?_
      refine g_callV dX5_gatherOfOne_23 sX3_high (c_high M1 n x j X hx1 hjl) cl4 hx1.1 iX3_high vX3_high (iw_22 10 rfl) rfl rfl (Nat.le_of_ble_eq_true rfl) (Nat.le_of_ble_eq_true rfl) (Nat.le_of_ble_eq_true rfl) (Nat.le_of_ble_eq_true rfl) (Nat.le_of_ble_eq_true rfl) ?_
      intro r9 M9 n9 h9
      obtain ⟨h91, h92, h93⟩ := h9
      rw [h91, h92, h93]
      clear h91 h92 h93 r9 M9 n9
      refine g_istore dX5_gatherOfOne_26 (Nat.le_of_ble_eq_true rfl) ?_
      refine g_iload_n dX5_gatherOfOne_28 rfl ?_
      refine g_iconst (v := nI 1) dX5_gatherOfOne_29 rfl ?_
      refine g_icmp_ne (tgt := 47) dX5_gatherOfOne_30 (by decide) (fun c_30 => ?_) (fun c_30 => ?_)
      · skip
        rw [nI_inj (by omega) (by omega)] at c_30
        refine g_iload_n dX5_gatherOfOne_47 rfl ?_
        refine g_bipush (v := nI 6) dX5_gatherOfOne_48 rfl ?_
        refine g_icmp_ne (tgt := 71) dX5_gatherOfOne_50 (by decide) (fun c_50 => ?_) (fun c_50 => ?_)
        · skip
          rw [nI_inj (by omega) (by omega)] at c_50
          refine g_iload_n dX5_gatherOfOne_71 rfl ?_
          refine g_iconst (v := nI 5) dX5_gatherOfOne_72 rfl ?_
          refine g_icmp_ne (tgt := 88) dX5_gatherOfOne_73 (by decide) (fun c_73 => ?_) (fun c_73 => ?_)
          · skip
            rw [nI_inj (by omega) (by omega)] at c_73
            have hc := hh.2.2.2 (by omega)
            have e8 : o1P k c (X.getD j (0, 0)) = rnd (cE c) (cW c) (X.getD j (0, 0)).1 (X.getD j (0, 0)).2 := by unfold o1P; rw [if_neg c_30, if_neg c_50, if_neg c_73]
            refine g_iload_n dX5_gatherOfOne_88 rfl ?_
            refine g_if_ne (tgt := 114) dX5_gatherOfOne_89 (by decide) (fun c_89 => ?_) (fun c_89 => ?_)
            · skip
              refine g_aload_n dX5_gatherOfOne_114 rfl ?_
              refine g_getR (f := 0) dX5_gatherOfOne_115 cl6 hv1 (by decide) (Or.inl (iw_4 23 rfl)) (Or.inl rfl) rfl hv2 ?_
              refine g_iload dX5_gatherOfOne_118 rfl ?_
              refine g_i2l dX5_gatherOfOne_120 ?_
              rw [iZ_j hr.1.1 hr.1.2]
              refine g_iload dX5_gatherOfOne_121 rfl ?_
              refine g_i2l dX5_gatherOfOne_123 ?_
              rw [iZ_j hr.2.1 hr.2.2]
              refine g_iload_n dX5_gatherOfOne_124 rfl ?_
              refine g_iconst (v := nI 1) dX5_gatherOfOne_125 rfl ?_
              refine g_icmp_ne (tgt := 135) dX5_gatherOfOne_126 (by decide) (fun c_126 => ?_) (fun c_126 => ?_)
              · skip
                rw [show nI 1 = (1 : Int32) from rfl] at c_126
                have hcE : cE c = 0 := by unfold cE; rw [if_neg c_89, if_neg c_126]
                refine g_lconst (v := jI 0) dX5_gatherOfOne_135 rfl ?_
                have hcW : cW c = 65536 := by unfold cW; rw [if_neg c_89]
                have e9 : o1P k c (X.getD j (0, 0)) = rnd (cE c) 65536 (X.getD j (0, 0)).1 (X.getD j (0, 0)).2 := by rw [e8, hcW]
                have hz : ∀ z, cE c = z → jI z = jI (cE c) := fun z h => by rw [h]
                rw [hz _ hcE]
                refine g_ldc2 (v := jI (65536)) dX5_gatherOfOne_136 (iw_23 11 rfl) ?_
                refine g_callV dX5_gatherOfOne_139 sX0_addRound (c_round M1 n (v + 1) (U ++ (X.take j).flatMap (o1P k c)) (X.getD j (0, 0)).1 (X.getD j (0, 0)).2 (cE c) 65536 hI (by rw [List.length_append]; omega) u5 (by omega) (by omega) (by omega) hxx (by omega) (by omega) (by omega)) cl1 hI.g.1 iX0_addRound vX0_addRound (iw_22 11 rfl) rfl rfl (Nat.le_of_ble_eq_true rfl) (Nat.le_of_ble_eq_true rfl) (Nat.le_of_ble_eq_true rfl) (Nat.le_of_ble_eq_true rfl) (Nat.le_of_ble_eq_true rfl) ?_
                intro r9 M2 n9 h9
                obtain ⟨h91, h93, hO2, hI2⟩ := h9
                rw [h91, h93]
                clear h91 h93 r9 n9
                refine g_msk [true, true, true, true, true, false, false] ?_
                refine g_iinc dX5_gatherOfOne_142 rfl (nI_1 j) (Nat.le_of_ble_eq_true rfl) ?_
                refine g_goto (tgt := 3) dX5_gatherOfOne_145 (by decide) ?_
                have hx1 := hX.offY hg0 hO
                have hv1 : mK M1 v = 6 := by rw [hO.1]; exact hv
                have hv2 : mR M1 v 0 = some (v + 1) := by rw [hO.2.2.1]; exact hv0
                have l2 := hX.2.1.2.1
                exact ih (j + 1) M2 (by omega) (by omega) (hO.trans hO2) (by
                  rw [fl_take hjl, e9, ← List.append_assoc]
                  exact hI2)
              · skip
                rw [show nI 1 = (1 : Int32) from rfl] at c_126
                have hcE : cE c = -32768 := by unfold cE; rw [if_neg c_89, if_pos c_126]
                refine g_ldc2 (v := jI (-32768)) dX5_gatherOfOne_129 (iw_23 10 rfl) ?_
                refine g_goto (tgt := 136) dX5_gatherOfOne_132 (by decide) ?_
                have hcW : cW c = 65536 := by unfold cW; rw [if_neg c_89]
                have e9 : o1P k c (X.getD j (0, 0)) = rnd (cE c) 65536 (X.getD j (0, 0)).1 (X.getD j (0, 0)).2 := by rw [e8, hcW]
                have hz : ∀ z, cE c = z → jI z = jI (cE c) := fun z h => by rw [h]
                rw [hz _ hcE]
                refine g_ldc2 (v := jI (65536)) dX5_gatherOfOne_136 (iw_23 11 rfl) ?_
                refine g_callV dX5_gatherOfOne_139 sX0_addRound (c_round M1 n (v + 1) (U ++ (X.take j).flatMap (o1P k c)) (X.getD j (0, 0)).1 (X.getD j (0, 0)).2 (cE c) 65536 hI (by rw [List.length_append]; omega) u5 (by omega) (by omega) (by omega) hxx (by omega) (by omega) (by omega)) cl1 hI.g.1 iX0_addRound vX0_addRound (iw_22 11 rfl) rfl rfl (Nat.le_of_ble_eq_true rfl) (Nat.le_of_ble_eq_true rfl) (Nat.le_of_ble_eq_true rfl) (Nat.le_of_ble_eq_true rfl) (Nat.le_of_ble_eq_true rfl) ?_
                intro r9 M2 n9 h9
                obtain ⟨h91, h93, hO2, hI2⟩ := h9
                rw [h91, h93]
                clear h91 h93 r9 n9
                refine g_msk [true, true, true, true, true, false, false] ?_
                refine g_iinc dX5_gatherOfOne_142 rfl (nI_1 j) (Nat.le_of_ble_eq_true rfl) ?_
                refine g_goto (tgt := 3) dX5_gatherOfOne_145 (by decide) ?_
                have hx1 := hX.offY hg0 hO
                have hv1 : mK M1 v = 6 := by rw [hO.1]; exact hv
                have hv2 : mR M1 v 0 = some (v + 1) := by rw [hO.2.2.1]; exact hv0
                have l2 := hX.2.1.2.1
                exact ih (j + 1) M2 (by omega) (by omega) (hO.trans hO2) (by
                  rw [fl_take hjl, e9, ← List.append_assoc]
                  exact hI2)
            · skip
              have e9 : o1P k c (X.getD j (0, 0)) = rnd (-128) 256 (X.getD j (0, 0)).1 (X.getD j (0, 0)).2 := by rw [e8]; unfold cE cW; rw [if_pos c_89, if_pos c_89]
              refine g_aload_n dX5_gatherOfOne_92 rfl ?_
              refine g_getR (f := 0) dX5_gatherOfOne_93 cl6 hv1 (by decide) (Or.inl (iw_4 23 rfl)) (Or.inl rfl) rfl hv2 ?_
              refine g_iload dX5_gatherOfOne_96 rfl ?_
              refine g_i2l dX5_gatherOfOne_98 ?_
              rw [iZ_j hr.1.1 hr.1.2]
              refine g_iload dX5_gatherOfOne_99 rfl ?_
              refine g_i2l dX5_gatherOfOne_101 ?_
              rw [iZ_j hr.2.1 hr.2.2]
              refine g_ldc2 (v := jI (-128)) dX5_gatherOfOne_102 (iw_23 8 rfl) ?_
              refine g_ldc2 (v := jI (256)) dX5_gatherOfOne_105 (iw_23 9 rfl) ?_
              refine g_callV dX5_gatherOfOne_108 sX0_addRound (c_round M1 n (v + 1) (U ++ (X.take j).flatMap (o1P k c)) (X.getD j (0, 0)).1 (X.getD j (0, 0)).2 (-128) 256 hI (by rw [List.length_append]; omega) u5 (by omega) (by omega) (by omega) hxx (by omega) (by omega) (by omega)) cl1 hI.g.1 iX0_addRound vX0_addRound (iw_22 11 rfl) rfl rfl (Nat.le_of_ble_eq_true rfl) (Nat.le_of_ble_eq_true rfl) (Nat.le_of_ble_eq_true rfl) (Nat.le_of_ble_eq_true rfl) (Nat.le_of_ble_eq_true rfl) ?_
              intro r9 M2 n9 h9
              obtain ⟨h91, h93, hO2, hI2⟩ := h9
              rw [h91, h93]
              clear h91 h93 r9 n9
              refine g_goto (tgt := 142) dX5_gatherOfOne_111 (by decide) ?_
              refine g_msk [true, true, true, true, true, false, false] ?_
              refine g_iinc dX5_gatherOfOne_142 rfl (nI_1 j) (Nat.le_of_ble_eq_true rfl) ?_
              refine g_goto (tgt := 3) dX5_gatherOfOne_145 (by decide) ?_
              have hx1 := hX.offY hg0 hO
              have hv1 : mK M1 v = 6 := by rw [hO.1]; exact hv
              have hv2 : mR M1 v 0 = some (v + 1) := by rw [hO.2.2.1]; exact hv0
              have l2 := hX.2.1.2.1
              exact ih (j + 1) M2 (by omega) (by omega) (hO.trans hO2) (by
                rw [fl_take hjl, e9, ← List.append_assoc]
                exact hI2)
          · skip
            rw [nI_inj (by omega) (by omega)] at c_73
            have hc := hh.2.1 c_73
            have e9 : o1P k c (X.getD j (0, 0)) = andP c.toInt (X.getD j (0, 0)) := by unfold o1P; rw [if_neg c_30, if_neg c_50, if_pos c_73]
            refine g_aload_n dX5_gatherOfOne_76 rfl ?_
            refine g_iload dX5_gatherOfOne_77 rfl ?_
            refine g_iload dX5_gatherOfOne_79 rfl ?_
            refine g_iload_n dX5_gatherOfOne_81 rfl ?_
            have hbits := c_bits M1 n v (U ++ (X.take j).flatMap (o1P k c)) (X.getD j (0, 0)) c.toInt hI (by rw [List.length_append]; omega) u5 hr.1 hr.2 ⟨hc, (i_rng c).2⟩ hv1 hv2
            rw [← iZ_of c] at hbits
            refine g_callV dX5_gatherOfOne_82 sX5_addBits hbits cl6 hv1 iX5_addBits vX5_addBits (iw_23 12 rfl) rfl rfl (Nat.le_of_ble_eq_true rfl) (Nat.le_of_ble_eq_true rfl) (Nat.le_of_ble_eq_true rfl) (Nat.le_of_ble_eq_true rfl) (Nat.le_of_ble_eq_true rfl) ?_
            intro r9 M2 n9 h9
            obtain ⟨h91, h93, hO2, hI2⟩ := h9
            rw [h91, h93]
            clear h91 h93 r9 n9
            refine g_goto (tgt := 142) dX5_gatherOfOne_85 (by decide) ?_
            refine g_msk [true, true, true, true, true, false, false] ?_
            refine g_iinc dX5_gatherOfOne_142 rfl (nI_1 j) (Nat.le_of_ble_eq_true rfl) ?_
            refine g_goto (tgt := 3) dX5_gatherOfOne_145 (by decide) ?_
            have hx1 := hX.offY hg0 hO
            have hv1 : mK M1 v = 6 := by rw [hO.1]; exact hv
            have hv2 : mR M1 v 0 = some (v + 1) := by rw [hO.2.2.1]; exact hv0
            have l2 := hX.2.1.2.1
            exact ih (j + 1) M2 (by omega) (by omega) (hO.trans hO2) (by
              rw [fl_take hjl, e9, ← List.append_assoc]
              exact hI2)
        · skip
          rw [nI_inj (by omega) (by omega)] at c_50
          have hc := hh.2.2.1 c_50
          have e9 : o1P k c (X.getD j (0, 0)) = [(shZ (pl c) (X.getD j (0, 0)).1, shZ (pl c) (X.getD j (0, 0)).2)] := by unfold o1P; rw [if_neg c_30, if_pos c_50]
          have hpc : pl c < 32 := by unfold pl; omega
          have es : ∀ z : Int, r5 z → iZ z >>> (c &&& 31) = iZ (shZ (pl c) z) := fun z hz => by
            have h := iZ_shr (iZ z) hpc
            rw [iZ_t hz.1 hz.2, ← pl_eq hc.1] at h
            exact h
          refine g_aload_n dX5_gatherOfOne_53 rfl ?_
          refine g_getR (f := 0) dX5_gatherOfOne_54 cl6 hv1 (by decide) (Or.inl (iw_4 23 rfl)) (Or.inl rfl) rfl hv2 ?_
          refine g_iload dX5_gatherOfOne_57 rfl ?_
          refine g_iload_n dX5_gatherOfOne_59 rfl ?_
          refine g_ishr dX5_gatherOfOne_60 ?_
          rw [es _ hr.1]
          refine g_iload dX5_gatherOfOne_61 rfl ?_
          refine g_iload_n dX5_gatherOfOne_63 rfl ?_
          refine g_ishr dX5_gatherOfOne_64 ?_
          rw [es _ hr.2]
          refine g_callV dX5_gatherOfOne_65 sX0_add (c_add M1 n (v + 1) (U ++ (X.take j).flatMap (o1P k c)) (shZ (pl c) (X.getD j (0, 0)).1, shZ (pl c) (X.getD j (0, 0)).2) hI (by rw [List.length_append]; omega) u5 (shZ_r hr.1 _)) cl1 hI.g.1 iX0_add vX0_add (iw_21 22 rfl) rfl rfl (Nat.le_of_ble_eq_true rfl) (Nat.le_of_ble_eq_true rfl) (Nat.le_of_ble_eq_true rfl) (Nat.le_of_ble_eq_true rfl) (Nat.le_of_ble_eq_true rfl) ?_
          intro r9 M2 n9 h9
          obtain ⟨h91, h93, hO2, hI2⟩ := h9
          rw [h91, h93]
          clear h91 h93 r9 n9
          refine g_goto (tgt := 142) dX5_gatherOfOne_68 (by decide) ?_
          refine g_msk [true, true, true, true, true, false, false] ?_
          refine g_iinc dX5_gatherOfOne_142 rfl (nI_1 j) (Nat.le_of_ble_eq_true rfl) ?_
          refine g_goto (tgt := 3) dX5_gatherOfOne_145 (by decide) ?_
          have hx1 := hX.offY hg0 hO
          have hv1 : mK M1 v = 6 := by rw [hO.1]; exact hv
          have hv2 : mR M1 v 0 = some (v + 1) := by rw [hO.2.2.1]; exact hv0
          have l2 := hX.2.1.2.1
          exact ih (j + 1) M2 (by omega) (by omega) (hO.trans hO2) (by
            rw [fl_take hjl, e9, ← List.append_assoc]
            exact hI2)
      · skip
        rw [nI_inj (by omega) (by omega)] at c_30
        have e9 : o1P k c (X.getD j (0, 0)) = [(X.getD j (0, 0))] := by unfold o1P; rw [if_pos c_30]
        refine g_aload_n dX5_gatherOfOne_33 rfl ?_
        refine g_getR (f := 0) dX5_gatherOfOne_34 cl6 hv1 (by decide) (Or.inl (iw_4 23 rfl)) (Or.inl rfl) rfl hv2 ?_
        refine g_iload dX5_gatherOfOne_37 rfl ?_
        refine g_iload dX5_gatherOfOne_39 rfl ?_
        refine g_callV dX5_gatherOfOne_41 sX0_add (c_add M1 n (v + 1) (U ++ (X.take j).flatMap (o1P k c)) (X.getD j (0, 0)) hI (by rw [List.length_append]; omega) u5 hr.1) cl1 hI.g.1 iX0_add vX0_add (iw_21 22 rfl) rfl rfl (Nat.le_of_ble_eq_true rfl) (Nat.le_of_ble_eq_true rfl) (Nat.le_of_ble_eq_true rfl) (Nat.le_of_ble_eq_true rfl) (Nat.le_of_ble_eq_true rfl) ?_
        intro r9 M2 n9 h9
        obtain ⟨h91, h93, hO2, hI2⟩ := h9
        rw [h91, h93]
        clear h91 h93 r9 n9
        refine g_goto (tgt := 142) dX5_gatherOfOne_44 (by decide) ?_
        refine g_msk [true, true, true, true, true, false, false] ?_
        refine g_iinc dX5_gatherOfOne_142 rfl (nI_1 j) (Nat.le_of_ble_eq_true rfl) ?_
        refine g_goto (tgt := 3) dX5_gatherOfOne_145 (by decide) ?_
        have hx1 := hX.offY hg0 hO
        have hv1 : mK M1 v = 6 := by rw [hO.1]; exact hv
        have hv2 : mR M1 v 0 = some (v + 1) := by rw [hO.2.2.1]; exact hv0
        have l2 := hX.2.1.2.1
        exact ih (j + 1) M2 (by omega) (by omega) (hO.trans hO2) (by
          rw [fl_take hjl, e9, ← List.append_assoc]
          exact hI2)

set_option maxHeartbeats 4000000 in
set_option maxRecDepth 100000 in
theorem c_one (M : gM) (n v k x : Nat) (c : Int32) (U X : List Sp) (hU : gt M (v + 1) U) (hX : cS M x X) (hl : U.length + 4 ≤ 16) (h5 : r5L U) (hh : o1H k c) (hv : mK M v = 6) (hv0 : mR M v 0 = some (v + 1)) : GM μX5_gatherOfOne 2 57 0 0 [.ref v, .int (nI k), .ref x, .int c] M n (fun r M1 n1 => r = none ∧ n1 = n ∧ Off M M1 (fY (v + 1)) ∧ gt M1 (v + 1) (U ++ X.flatMap (o1P k c))) := by
  refine GM.ofW (by decide) rfl (Nat.le_of_ble_eq_true rfl) rfl ?_
  refine g_iconst (v := nI 0) dX5_gatherOfOne_0 rfl ?_
  refine g_istore dX5_gatherOfOne_1 (Nat.le_of_ble_eq_true rfl) ?_
  refine k_one hU.g hX hl h5 hh hv hv0 (fun M2 hO2 hI2 => ?_) (X.length + 1) 0 M (by omega) (by omega) Off.rf (by simpa using hU)
  exact g_vret dX5_gatherOfOne_148 rfl (Nat.le_refl _) (Nat.le_refl _) ⟨rfl, rfl, hO2, hI2⟩

def rsP (l g : Int) (p : Sp) : List Sp := if -l < p.1 ∧ p.2 < l then [p] else [(if 0 ≤ p.1 then 0 else max p.1 (-g), if p.2 ≤ 0 then 0 else min p.2 g)]
theorem rs_r {g : Int} (hg : 0 ≤ g) {p : Sp} (h1 : r5 p.1) (h2 : r5 p.2) : r5 (if 0 ≤ p.1 then 0 else max p.1 (-g)) ∧ r5 (if p.2 ≤ 0 then 0 else min p.2 g) := by
  constructor
  · split <;> constructor <;> omega
  · split <;> constructor <;> omega
set_option maxHeartbeats 4000000 in
set_option maxRecDepth 100000 in
theorem c_addRest (M : gM) (n v : Nat) (U : List Sp) (p : Sp) (l g : Int) (hU : gt M (v + 1) U) (hl : U.length + 1 ≤ 16) (h5 : r5L U) (h1 : r5 p.1) (h2 : r5 p.2) (hL : 0 < l ∧ l ≤ 4294967296) (hg : 0 ≤ g ∧ g ≤ 4294967296) (hv : mK M v = 6) (hv0 : mR M v 0 = some (v + 1)) : GM μX5_addRest 1 23 0 0 [.ref v, .int (iZ p.1), .int (iZ p.2), .long (jI l), .long (jI g)] M n (fun r M1 n1 => r = none ∧ n1 = n ∧ Off M M1 (fY (v + 1)) ∧ gt M1 (v + 1) (U ++ rsP l g p)) := by
  refine GM.ofW (by decide) rfl (Nat.le_of_ble_eq_true rfl) rfl ?_
  have r0 : r5 0 := by constructor <;> omega
  refine g_lload_n dX5_addRest_0 rfl ?_
  refine g_lneg dX5_addRest_1 ?_
  rw [jI_neg]
  refine g_iload_n dX5_addRest_2 rfl ?_
  refine g_i2l dX5_addRest_3 ?_
  rw [iZ_j h1.1 h1.2]
  refine g_lcmp dX5_addRest_4 ?_
  refine g_if_ge (tgt := 25) dX5_addRest_5 (by decide) (fun c_5 => ?_) (fun c_5 => ?_)
  · skip
    have e8 : rsP l g p = [(if 0 ≤ p.1 then 0 else max p.1 (-g), if p.2 ≤ 0 then 0 else min p.2 g)] := by
      unfold rsP
      first
        | rw [if_neg (by rw [jc_ge (by constructor <;> omega) (by constructor <;> omega)] at c_12; omega)]
        | rw [if_neg (by rw [jc_ge (by constructor <;> omega) (by constructor <;> omega)] at c_5; omega)]
    have rr := rs_r hg.1 h1 h2
    refine g_iload_n dX5_addRest_25 rfl ?_
    refine g_if_lt (tgt := 33) dX5_addRest_26 (by decide) (fun c_26 => ?_) (fun c_26 => ?_)
    · skip
      rw [show (0 : Int32) = iZ 0 from rfl, iZ_lt h1 r0] at c_26
      refine g_iload_n dX5_addRest_33 rfl ?_
      refine g_i2l dX5_addRest_34 ?_
      rw [iZ_j h1.1 h1.2]
      refine g_lload dX5_addRest_35 rfl ?_
      refine g_lneg dX5_addRest_37 ?_
      rw [jI_neg]
      refine g_mmaxJ dX5_addRest_38 (iw_22 4 rfl) (iw_17 3 rfl) (iw_9 19 rfl) (iw_17 4 rfl) (Nat.le_of_ble_eq_true rfl) (Nat.le_of_ble_eq_true rfl) (Nat.le_of_ble_eq_true rfl) (Nat.le_of_ble_eq_true rfl) ?_
      first | rw [jI_max (by constructor <;> omega) (by constructor <;> omega), show max p.1 (-g) = (if 0 ≤ p.1 then 0 else max p.1 (-g)) by rw [if_neg (by omega)]] | rw [show jI 0 = jI (if 0 ≤ p.1 then 0 else max p.1 (-g)) by rw [if_pos (by omega)]]
      clear c_26
      refine g_lstore dX5_addRest_41 (Nat.le_of_ble_eq_true rfl) ?_
      refine g_iload_n dX5_addRest_43 rfl ?_
      refine g_if_gt (tgt := 51) dX5_addRest_44 (by decide) (fun c_44 => ?_) (fun c_44 => ?_)
      · skip
        rw [show (0 : Int32) = iZ 0 from rfl, iZ_lt r0 h2] at c_44
        refine g_iload_n dX5_addRest_51 rfl ?_
        refine g_i2l dX5_addRest_52 ?_
        rw [iZ_j h2.1 h2.2]
        refine g_lload dX5_addRest_53 rfl ?_
        refine g_mminJ dX5_addRest_55 (iw_22 3 rfl) (iw_17 6 rfl) (iw_9 19 rfl) (iw_17 7 rfl) (Nat.le_of_ble_eq_true rfl) (Nat.le_of_ble_eq_true rfl) (Nat.le_of_ble_eq_true rfl) (Nat.le_of_ble_eq_true rfl) ?_
        first | rw [jI_min' (by constructor <;> omega) (by constructor <;> omega), show min p.2 g = (if p.2 ≤ 0 then 0 else min p.2 g) by rw [if_neg (by omega)]] | rw [show jI 0 = jI (if p.2 ≤ 0 then 0 else min p.2 g) by rw [if_pos (by omega)]]
        clear c_44
        refine g_lstore dX5_addRest_58 (Nat.le_of_ble_eq_true rfl) ?_
        refine g_aload_n dX5_addRest_60 rfl ?_
        refine g_getR (f := 0) dX5_addRest_61 cl6 hv (by decide) (Or.inl (iw_4 23 rfl)) (Or.inl rfl) rfl hv0 ?_
        refine g_lload dX5_addRest_64 rfl ?_
        refine g_l2i dX5_addRest_66 ?_
        rw [jI_i]
        refine g_lload dX5_addRest_67 rfl ?_
        refine g_l2i dX5_addRest_69 ?_
        rw [jI_i]
        refine g_callV dX5_addRest_70 sX0_add (c_add M n (v + 1) U (if 0 ≤ p.1 then 0 else max p.1 (-g), if p.2 ≤ 0 then 0 else min p.2 g) hU (by omega) h5 rr.1) cl1 hU.g.1 iX0_add vX0_add (iw_21 22 rfl) rfl rfl (Nat.le_of_ble_eq_true rfl) (Nat.le_of_ble_eq_true rfl) (Nat.le_of_ble_eq_true rfl) (Nat.le_of_ble_eq_true rfl) (Nat.le_of_ble_eq_true rfl) ?_
        intro r9 M2 n9 h9
        obtain ⟨h91, h93, hO2, hI2⟩ := h9
        rw [h91, h93]
        clear h91 h93 r9 n9
        exact g_vret dX5_addRest_73 rfl (Nat.le_of_ble_eq_true rfl) (Nat.le_of_ble_eq_true rfl) ⟨rfl, rfl, hO2, by rw [e8]; exact hI2⟩
      · skip
        rw [show (0 : Int32) = iZ 0 from rfl, iZ_lt r0 h2] at c_44
        refine g_lconst (v := jI 0) dX5_addRest_47 rfl ?_
        refine g_goto (tgt := 58) dX5_addRest_48 (by decide) ?_
        first | rw [jI_min' (by constructor <;> omega) (by constructor <;> omega), show min p.2 g = (if p.2 ≤ 0 then 0 else min p.2 g) by rw [if_neg (by omega)]] | rw [show jI 0 = jI (if p.2 ≤ 0 then 0 else min p.2 g) by rw [if_pos (by omega)]]
        clear c_44
        refine g_lstore dX5_addRest_58 (Nat.le_of_ble_eq_true rfl) ?_
        refine g_aload_n dX5_addRest_60 rfl ?_
        refine g_getR (f := 0) dX5_addRest_61 cl6 hv (by decide) (Or.inl (iw_4 23 rfl)) (Or.inl rfl) rfl hv0 ?_
        refine g_lload dX5_addRest_64 rfl ?_
        refine g_l2i dX5_addRest_66 ?_
        rw [jI_i]
        refine g_lload dX5_addRest_67 rfl ?_
        refine g_l2i dX5_addRest_69 ?_
        rw [jI_i]
        refine g_callV dX5_addRest_70 sX0_add (c_add M n (v + 1) U (if 0 ≤ p.1 then 0 else max p.1 (-g), if p.2 ≤ 0 then 0 else min p.2 g) hU (by omega) h5 rr.1) cl1 hU.g.1 iX0_add vX0_add (iw_21 22 rfl) rfl rfl (Nat.le_of_ble_eq_true rfl) (Nat.le_of_ble_eq_true rfl) (Nat.le_of_ble_eq_true rfl) (Nat.le_of_ble_eq_true rfl) (Nat.le_of_ble_eq_true rfl) ?_
        intro r9 M2 n9 h9
        obtain ⟨h91, h93, hO2, hI2⟩ := h9
        rw [h91, h93]
        clear h91 h93 r9 n9
        exact g_vret dX5_addRest_73 rfl (Nat.le_of_ble_eq_true rfl) (Nat.le_of_ble_eq_true rfl) ⟨rfl, rfl, hO2, by rw [e8]; exact hI2⟩
    · skip
      rw [show (0 : Int32) = iZ 0 from rfl, iZ_lt h1 r0] at c_26
      refine g_lconst (v := jI 0) dX5_addRest_29 rfl ?_
      refine g_goto (tgt := 41) dX5_addRest_30 (by decide) ?_
      first | rw [jI_max (by constructor <;> omega) (by constructor <;> omega), show max p.1 (-g) = (if 0 ≤ p.1 then 0 else max p.1 (-g)) by rw [if_neg (by omega)]] | rw [show jI 0 = jI (if 0 ≤ p.1 then 0 else max p.1 (-g)) by rw [if_pos (by omega)]]
      clear c_26
      refine g_lstore dX5_addRest_41 (Nat.le_of_ble_eq_true rfl) ?_
      refine g_iload_n dX5_addRest_43 rfl ?_
      refine g_if_gt (tgt := 51) dX5_addRest_44 (by decide) (fun c_44 => ?_) (fun c_44 => ?_)
      · skip
        rw [show (0 : Int32) = iZ 0 from rfl, iZ_lt r0 h2] at c_44
        refine g_iload_n dX5_addRest_51 rfl ?_
        refine g_i2l dX5_addRest_52 ?_
        rw [iZ_j h2.1 h2.2]
        refine g_lload dX5_addRest_53 rfl ?_
        refine g_mminJ dX5_addRest_55 (iw_22 3 rfl) (iw_17 6 rfl) (iw_9 19 rfl) (iw_17 7 rfl) (Nat.le_of_ble_eq_true rfl) (Nat.le_of_ble_eq_true rfl) (Nat.le_of_ble_eq_true rfl) (Nat.le_of_ble_eq_true rfl) ?_
        first | rw [jI_min' (by constructor <;> omega) (by constructor <;> omega), show min p.2 g = (if p.2 ≤ 0 then 0 else min p.2 g) by rw [if_neg (by omega)]] | rw [show jI 0 = jI (if p.2 ≤ 0 then 0 else min p.2 g) by rw [if_pos (by omega)]]
        clear c_44
        refine g_lstore dX5_addRest_58 (Nat.le_of_ble_eq_true rfl) ?_
        refine g_aload_n dX5_addRest_60 rfl ?_
        refine g_getR (f := 0) dX5_addRest_61 cl6 hv (by decide) (Or.inl (iw_4 23 rfl)) (Or.inl rfl) rfl hv0 ?_
        refine g_lload dX5_addRest_64 rfl ?_
        refine g_l2i dX5_addRest_66 ?_
        rw [jI_i]
        refine g_lload dX5_addRest_67 rfl ?_
        refine g_l2i dX5_addRest_69 ?_
        rw [jI_i]
        refine g_callV dX5_addRest_70 sX0_add (c_add M n (v + 1) U (if 0 ≤ p.1 then 0 else max p.1 (-g), if p.2 ≤ 0 then 0 else min p.2 g) hU (by omega) h5 rr.1) cl1 hU.g.1 iX0_add vX0_add (iw_21 22 rfl) rfl rfl (Nat.le_of_ble_eq_true rfl) (Nat.le_of_ble_eq_true rfl) (Nat.le_of_ble_eq_true rfl) (Nat.le_of_ble_eq_true rfl) (Nat.le_of_ble_eq_true rfl) ?_
        intro r9 M2 n9 h9
        obtain ⟨h91, h93, hO2, hI2⟩ := h9
        rw [h91, h93]
        clear h91 h93 r9 n9
        exact g_vret dX5_addRest_73 rfl (Nat.le_of_ble_eq_true rfl) (Nat.le_of_ble_eq_true rfl) ⟨rfl, rfl, hO2, by rw [e8]; exact hI2⟩
      · skip
        rw [show (0 : Int32) = iZ 0 from rfl, iZ_lt r0 h2] at c_44
        refine g_lconst (v := jI 0) dX5_addRest_47 rfl ?_
        refine g_goto (tgt := 58) dX5_addRest_48 (by decide) ?_
        first | rw [jI_min' (by constructor <;> omega) (by constructor <;> omega), show min p.2 g = (if p.2 ≤ 0 then 0 else min p.2 g) by rw [if_neg (by omega)]] | rw [show jI 0 = jI (if p.2 ≤ 0 then 0 else min p.2 g) by rw [if_pos (by omega)]]
        clear c_44
        refine g_lstore dX5_addRest_58 (Nat.le_of_ble_eq_true rfl) ?_
        refine g_aload_n dX5_addRest_60 rfl ?_
        refine g_getR (f := 0) dX5_addRest_61 cl6 hv (by decide) (Or.inl (iw_4 23 rfl)) (Or.inl rfl) rfl hv0 ?_
        refine g_lload dX5_addRest_64 rfl ?_
        refine g_l2i dX5_addRest_66 ?_
        rw [jI_i]
        refine g_lload dX5_addRest_67 rfl ?_
        refine g_l2i dX5_addRest_69 ?_
        rw [jI_i]
        refine g_callV dX5_addRest_70 sX0_add (c_add M n (v + 1) U (if 0 ≤ p.1 then 0 else max p.1 (-g), if p.2 ≤ 0 then 0 else min p.2 g) hU (by omega) h5 rr.1) cl1 hU.g.1 iX0_add vX0_add (iw_21 22 rfl) rfl rfl (Nat.le_of_ble_eq_true rfl) (Nat.le_of_ble_eq_true rfl) (Nat.le_of_ble_eq_true rfl) (Nat.le_of_ble_eq_true rfl) (Nat.le_of_ble_eq_true rfl) ?_
        intro r9 M2 n9 h9
        obtain ⟨h91, h93, hO2, hI2⟩ := h9
        rw [h91, h93]
        clear h91 h93 r9 n9
        exact g_vret dX5_addRest_73 rfl (Nat.le_of_ble_eq_true rfl) (Nat.le_of_ble_eq_true rfl) ⟨rfl, rfl, hO2, by rw [e8]; exact hI2⟩
  · skip
    rw [jc_ge (by constructor <;> omega) (by constructor <;> omega)] at c_5
    refine g_iload_n dX5_addRest_8 rfl ?_
    refine g_i2l dX5_addRest_9 ?_
    rw [iZ_j h2.1 h2.2]
    refine g_lload_n dX5_addRest_10 rfl ?_
    refine g_lcmp dX5_addRest_11 ?_
    refine g_if_ge (tgt := 25) dX5_addRest_12 (by decide) (fun c_12 => ?_) (fun c_12 => ?_)
    · skip
      have e8 : rsP l g p = [(if 0 ≤ p.1 then 0 else max p.1 (-g), if p.2 ≤ 0 then 0 else min p.2 g)] := by
        unfold rsP
        first
          | rw [if_neg (by rw [jc_ge (by constructor <;> omega) (by constructor <;> omega)] at c_12; omega)]
          | rw [if_neg (by rw [jc_ge (by constructor <;> omega) (by constructor <;> omega)] at c_5; omega)]
      have rr := rs_r hg.1 h1 h2
      refine g_iload_n dX5_addRest_25 rfl ?_
      refine g_if_lt (tgt := 33) dX5_addRest_26 (by decide) (fun c_26 => ?_) (fun c_26 => ?_)
      · skip
        rw [show (0 : Int32) = iZ 0 from rfl, iZ_lt h1 r0] at c_26
        refine g_iload_n dX5_addRest_33 rfl ?_
        refine g_i2l dX5_addRest_34 ?_
        rw [iZ_j h1.1 h1.2]
        refine g_lload dX5_addRest_35 rfl ?_
        refine g_lneg dX5_addRest_37 ?_
        rw [jI_neg]
        refine g_mmaxJ dX5_addRest_38 (iw_22 4 rfl) (iw_17 3 rfl) (iw_9 19 rfl) (iw_17 4 rfl) (Nat.le_of_ble_eq_true rfl) (Nat.le_of_ble_eq_true rfl) (Nat.le_of_ble_eq_true rfl) (Nat.le_of_ble_eq_true rfl) ?_
        first | rw [jI_max (by constructor <;> omega) (by constructor <;> omega), show max p.1 (-g) = (if 0 ≤ p.1 then 0 else max p.1 (-g)) by rw [if_neg (by omega)]] | rw [show jI 0 = jI (if 0 ≤ p.1 then 0 else max p.1 (-g)) by rw [if_pos (by omega)]]
        clear c_26
        refine g_lstore dX5_addRest_41 (Nat.le_of_ble_eq_true rfl) ?_
        refine g_iload_n dX5_addRest_43 rfl ?_
        refine g_if_gt (tgt := 51) dX5_addRest_44 (by decide) (fun c_44 => ?_) (fun c_44 => ?_)
        · skip
          rw [show (0 : Int32) = iZ 0 from rfl, iZ_lt r0 h2] at c_44
          refine g_iload_n dX5_addRest_51 rfl ?_
          refine g_i2l dX5_addRest_52 ?_
          rw [iZ_j h2.1 h2.2]
          refine g_lload dX5_addRest_53 rfl ?_
          refine g_mminJ dX5_addRest_55 (iw_22 3 rfl) (iw_17 6 rfl) (iw_9 19 rfl) (iw_17 7 rfl) (Nat.le_of_ble_eq_true rfl) (Nat.le_of_ble_eq_true rfl) (Nat.le_of_ble_eq_true rfl) (Nat.le_of_ble_eq_true rfl) ?_
          first | rw [jI_min' (by constructor <;> omega) (by constructor <;> omega), show min p.2 g = (if p.2 ≤ 0 then 0 else min p.2 g) by rw [if_neg (by omega)]] | rw [show jI 0 = jI (if p.2 ≤ 0 then 0 else min p.2 g) by rw [if_pos (by omega)]]
          clear c_44
          refine g_lstore dX5_addRest_58 (Nat.le_of_ble_eq_true rfl) ?_
          refine g_aload_n dX5_addRest_60 rfl ?_
          refine g_getR (f := 0) dX5_addRest_61 cl6 hv (by decide) (Or.inl (iw_4 23 rfl)) (Or.inl rfl) rfl hv0 ?_
          refine g_lload dX5_addRest_64 rfl ?_
          refine g_l2i dX5_addRest_66 ?_
          rw [jI_i]
          refine g_lload dX5_addRest_67 rfl ?_
          refine g_l2i dX5_addRest_69 ?_
          rw [jI_i]
          refine g_callV dX5_addRest_70 sX0_add (c_add M n (v + 1) U (if 0 ≤ p.1 then 0 else max p.1 (-g), if p.2 ≤ 0 then 0 else min p.2 g) hU (by omega) h5 rr.1) cl1 hU.g.1 iX0_add vX0_add (iw_21 22 rfl) rfl rfl (Nat.le_of_ble_eq_true rfl) (Nat.le_of_ble_eq_true rfl) (Nat.le_of_ble_eq_true rfl) (Nat.le_of_ble_eq_true rfl) (Nat.le_of_ble_eq_true rfl) ?_
          intro r9 M2 n9 h9
          obtain ⟨h91, h93, hO2, hI2⟩ := h9
          rw [h91, h93]
          clear h91 h93 r9 n9
          exact g_vret dX5_addRest_73 rfl (Nat.le_of_ble_eq_true rfl) (Nat.le_of_ble_eq_true rfl) ⟨rfl, rfl, hO2, by rw [e8]; exact hI2⟩
        · skip
          rw [show (0 : Int32) = iZ 0 from rfl, iZ_lt r0 h2] at c_44
          refine g_lconst (v := jI 0) dX5_addRest_47 rfl ?_
          refine g_goto (tgt := 58) dX5_addRest_48 (by decide) ?_
          first | rw [jI_min' (by constructor <;> omega) (by constructor <;> omega), show min p.2 g = (if p.2 ≤ 0 then 0 else min p.2 g) by rw [if_neg (by omega)]] | rw [show jI 0 = jI (if p.2 ≤ 0 then 0 else min p.2 g) by rw [if_pos (by omega)]]
          clear c_44
          refine g_lstore dX5_addRest_58 (Nat.le_of_ble_eq_true rfl) ?_
          refine g_aload_n dX5_addRest_60 rfl ?_
          refine g_getR (f := 0) dX5_addRest_61 cl6 hv (by decide) (Or.inl (iw_4 23 rfl)) (Or.inl rfl) rfl hv0 ?_
          refine g_lload dX5_addRest_64 rfl ?_
          refine g_l2i dX5_addRest_66 ?_
          rw [jI_i]
          refine g_lload dX5_addRest_67 rfl ?_
          refine g_l2i dX5_addRest_69 ?_
          rw [jI_i]
          refine g_callV dX5_addRest_70 sX0_add (c_add M n (v + 1) U (if 0 ≤ p.1 then 0 else max p.1 (-g), if p.2 ≤ 0 then 0 else min p.2 g) hU (by omega) h5 rr.1) cl1 hU.g.1 iX0_add vX0_add (iw_21 22 rfl) rfl rfl (Nat.le_of_ble_eq_true rfl) (Nat.le_of_ble_eq_true rfl) (Nat.le_of_ble_eq_true rfl) (Nat.le_of_ble_eq_true rfl) (Nat.le_of_ble_eq_true rfl) ?_
          intro r9 M2 n9 h9
          obtain ⟨h91, h93, hO2, hI2⟩ := h9
          rw [h91, h93]
          clear h91 h93 r9 n9
          exact g_vret dX5_addRest_73 rfl (Nat.le_of_ble_eq_true rfl) (Nat.le_of_ble_eq_true rfl) ⟨rfl, rfl, hO2, by rw [e8]; exact hI2⟩
      · skip
        rw [show (0 : Int32) = iZ 0 from rfl, iZ_lt h1 r0] at c_26
        refine g_lconst (v := jI 0) dX5_addRest_29 rfl ?_
        refine g_goto (tgt := 41) dX5_addRest_30 (by decide) ?_
        first | rw [jI_max (by constructor <;> omega) (by constructor <;> omega), show max p.1 (-g) = (if 0 ≤ p.1 then 0 else max p.1 (-g)) by rw [if_neg (by omega)]] | rw [show jI 0 = jI (if 0 ≤ p.1 then 0 else max p.1 (-g)) by rw [if_pos (by omega)]]
        clear c_26
        refine g_lstore dX5_addRest_41 (Nat.le_of_ble_eq_true rfl) ?_
        refine g_iload_n dX5_addRest_43 rfl ?_
        refine g_if_gt (tgt := 51) dX5_addRest_44 (by decide) (fun c_44 => ?_) (fun c_44 => ?_)
        · skip
          rw [show (0 : Int32) = iZ 0 from rfl, iZ_lt r0 h2] at c_44
          refine g_iload_n dX5_addRest_51 rfl ?_
          refine g_i2l dX5_addRest_52 ?_
          rw [iZ_j h2.1 h2.2]
          refine g_lload dX5_addRest_53 rfl ?_
          refine g_mminJ dX5_addRest_55 (iw_22 3 rfl) (iw_17 6 rfl) (iw_9 19 rfl) (iw_17 7 rfl) (Nat.le_of_ble_eq_true rfl) (Nat.le_of_ble_eq_true rfl) (Nat.le_of_ble_eq_true rfl) (Nat.le_of_ble_eq_true rfl) ?_
          first | rw [jI_min' (by constructor <;> omega) (by constructor <;> omega), show min p.2 g = (if p.2 ≤ 0 then 0 else min p.2 g) by rw [if_neg (by omega)]] | rw [show jI 0 = jI (if p.2 ≤ 0 then 0 else min p.2 g) by rw [if_pos (by omega)]]
          clear c_44
          refine g_lstore dX5_addRest_58 (Nat.le_of_ble_eq_true rfl) ?_
          refine g_aload_n dX5_addRest_60 rfl ?_
          refine g_getR (f := 0) dX5_addRest_61 cl6 hv (by decide) (Or.inl (iw_4 23 rfl)) (Or.inl rfl) rfl hv0 ?_
          refine g_lload dX5_addRest_64 rfl ?_
          refine g_l2i dX5_addRest_66 ?_
          rw [jI_i]
          refine g_lload dX5_addRest_67 rfl ?_
          refine g_l2i dX5_addRest_69 ?_
          rw [jI_i]
          refine g_callV dX5_addRest_70 sX0_add (c_add M n (v + 1) U (if 0 ≤ p.1 then 0 else max p.1 (-g), if p.2 ≤ 0 then 0 else min p.2 g) hU (by omega) h5 rr.1) cl1 hU.g.1 iX0_add vX0_add (iw_21 22 rfl) rfl rfl (Nat.le_of_ble_eq_true rfl) (Nat.le_of_ble_eq_true rfl) (Nat.le_of_ble_eq_true rfl) (Nat.le_of_ble_eq_true rfl) (Nat.le_of_ble_eq_true rfl) ?_
          intro r9 M2 n9 h9
          obtain ⟨h91, h93, hO2, hI2⟩ := h9
          rw [h91, h93]
          clear h91 h93 r9 n9
          exact g_vret dX5_addRest_73 rfl (Nat.le_of_ble_eq_true rfl) (Nat.le_of_ble_eq_true rfl) ⟨rfl, rfl, hO2, by rw [e8]; exact hI2⟩
        · skip
          rw [show (0 : Int32) = iZ 0 from rfl, iZ_lt r0 h2] at c_44
          refine g_lconst (v := jI 0) dX5_addRest_47 rfl ?_
          refine g_goto (tgt := 58) dX5_addRest_48 (by decide) ?_
          first | rw [jI_min' (by constructor <;> omega) (by constructor <;> omega), show min p.2 g = (if p.2 ≤ 0 then 0 else min p.2 g) by rw [if_neg (by omega)]] | rw [show jI 0 = jI (if p.2 ≤ 0 then 0 else min p.2 g) by rw [if_pos (by omega)]]
          clear c_44
          refine g_lstore dX5_addRest_58 (Nat.le_of_ble_eq_true rfl) ?_
          refine g_aload_n dX5_addRest_60 rfl ?_
          refine g_getR (f := 0) dX5_addRest_61 cl6 hv (by decide) (Or.inl (iw_4 23 rfl)) (Or.inl rfl) rfl hv0 ?_
          refine g_lload dX5_addRest_64 rfl ?_
          refine g_l2i dX5_addRest_66 ?_
          rw [jI_i]
          refine g_lload dX5_addRest_67 rfl ?_
          refine g_l2i dX5_addRest_69 ?_
          rw [jI_i]
          refine g_callV dX5_addRest_70 sX0_add (c_add M n (v + 1) U (if 0 ≤ p.1 then 0 else max p.1 (-g), if p.2 ≤ 0 then 0 else min p.2 g) hU (by omega) h5 rr.1) cl1 hU.g.1 iX0_add vX0_add (iw_21 22 rfl) rfl rfl (Nat.le_of_ble_eq_true rfl) (Nat.le_of_ble_eq_true rfl) (Nat.le_of_ble_eq_true rfl) (Nat.le_of_ble_eq_true rfl) (Nat.le_of_ble_eq_true rfl) ?_
          intro r9 M2 n9 h9
          obtain ⟨h91, h93, hO2, hI2⟩ := h9
          rw [h91, h93]
          clear h91 h93 r9 n9
          exact g_vret dX5_addRest_73 rfl (Nat.le_of_ble_eq_true rfl) (Nat.le_of_ble_eq_true rfl) ⟨rfl, rfl, hO2, by rw [e8]; exact hI2⟩
    · skip
      rw [jc_ge (by constructor <;> omega) (by constructor <;> omega)] at c_12
      have e9 : rsP l g p = [p] := by unfold rsP; rw [if_pos (by omega)]
      refine g_aload_n dX5_addRest_15 rfl ?_
      refine g_getR (f := 0) dX5_addRest_16 cl6 hv (by decide) (Or.inl (iw_4 23 rfl)) (Or.inl rfl) rfl hv0 ?_
      refine g_iload_n dX5_addRest_19 rfl ?_
      refine g_iload_n dX5_addRest_20 rfl ?_
      refine g_callV dX5_addRest_21 sX0_add (c_add M n (v + 1) U p hU (by omega) h5 h1) cl1 hU.g.1 iX0_add vX0_add (iw_21 22 rfl) rfl rfl (Nat.le_of_ble_eq_true rfl) (Nat.le_of_ble_eq_true rfl) (Nat.le_of_ble_eq_true rfl) (Nat.le_of_ble_eq_true rfl) (Nat.le_of_ble_eq_true rfl) ?_
      intro r9 M2 n9 h9
      obtain ⟨h91, h93, hO2, hI2⟩ := h9
      rw [h91, h93]
      clear h91 h93 r9 n9
      exact g_vret dX5_addRest_24 rfl (Nat.le_of_ble_eq_true rfl) (Nat.le_of_ble_eq_true rfl) ⟨rfl, rfl, hO2, by rw [e9]; exact hI2⟩

