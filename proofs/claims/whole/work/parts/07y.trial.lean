/-! the class: a trial -/
def qR (M : gM) (q p : Nat) : Prop := mK M q = 8 ∧ mR M q 0 = some p ∧ mR M q 1 = some (q + 1) ∧ mK M (q + 1) = 11 ∧ mN M (q + 1) = 8
theorem qR.off {M M1 : gM} {q p : Nat} {S : Nat → Nat → Prop} (h : qR M q p) (ho : Off M M1 S) : qR M1 q p := by
  unfold qR
  rw [ho.1, ho.2.1, ho.2.2.1]
  exact h
def fQ (q : Nat) : Nat → Nat → Prop := fun i k => (i = q ∧ (k = 2 ∨ k = 3)) ∨ i = q + 1
/-- a trial goes on: the LINK, the numbers now -/
def vI (M M1 : gM) (q : Nat) (l : Int) (now : Nat → Int32) : Prop := Off M M1 (fQ q) ∧ mJ M1 q 2 = jI l ∧ okK l ∧ ∀ p, p < 8 → mI M1 (q + 1) p = now p
set_option maxHeartbeats 4000000 in
set_option maxRecDepth 100000 in
theorem c_anyOf (M : gM) (n q : Nat) (l lo hi : Int) (hk : mK M q = 8) (hl : mJ M q 2 = jI l) (h0 : okK l) (h1 : r5 lo) (h2 : r5 hi) (h3 : lo ≤ hi) : GM μX7_anyOf 0 0 0 0 [.ref q, .int (iZ lo), .int (iZ hi)] M n (fun r M1 n1 => r = some (.int (iZ (drw (lk1 l) lo hi))) ∧ M1 = stJ M q 2 (jI (lk1 l)) ∧ n1 = n) := by
  refine GM.ofW (by decide) rfl (Nat.le_of_ble_eq_true rfl) rfl ?_
  have h01 := h0.1
  have h02 := h0.2
  have hk1 := lk1_ok l
  refine g_aload_n dX7_anyOf_0 rfl ?_
  refine g_aload_n dX7_anyOf_1 rfl ?_
  refine g_getJ (f := 2) dX7_anyOf_2 cl8 hk (by decide) (Or.inl (iw_36 7 rfl)) (Or.inl rfl) rfl ?_
  rw [hl]
  refine g_ldc2 (v := jI (48271)) dX7_anyOf_5 (iw_36 15 rfl) ?_
  refine g_lmul dX7_anyOf_8 ?_
  rw [jI_mul]
  refine g_ldc2 (v := jI (2147483647)) dX7_anyOf_9 (iw_36 16 rfl) ?_
  refine g_lrem dX7_anyOf_12 (by decide) ?_
  rw [jI_rem (by omega) (by omega), show l * 48271 % 2147483647 = lk1 l from rfl]
  refine g_putJ (f := 2) dX7_anyOf_13 cl8 hk (by decide) (Or.inl (iw_36 7 rfl)) (Or.inl rfl) (Or.inl rfl) rfl ?_
  refine g_iload_n dX7_anyOf_16 rfl ?_
  refine g_i2l dX7_anyOf_17 ?_
  rw [iZ_j h2.1 h2.2]
  refine g_iload_n dX7_anyOf_18 rfl ?_
  refine g_i2l dX7_anyOf_19 ?_
  rw [iZ_j h1.1 h1.2]
  refine g_lsub dX7_anyOf_20 ?_
  rw [jI_sub]
  refine g_lconst (v := jI 1) dX7_anyOf_21 rfl ?_
  refine g_ladd dX7_anyOf_22 ?_
  rw [jI_add]
  refine g_lstore_n dX7_anyOf_23 (Nat.le_of_ble_eq_true rfl) ?_
  refine g_lload_n dX7_anyOf_24 rfl ?_
  refine g_lconst (v := jI 1) dX7_anyOf_25 rfl ?_
  refine g_lcmp dX7_anyOf_26 ?_
  refine g_if_le (tgt := 43) dX7_anyOf_27 (by decide) (fun c_27 => ?_) (fun c_27 => ?_)
  · skip
    rw [jc_le (by constructor <;> omega) (by constructor <;> omega)] at c_27
    refine g_iload_n dX7_anyOf_43 rfl ?_
    exact g_iret dX7_anyOf_44 (Or.inl rfl) (Nat.le_of_ble_eq_true rfl) (Nat.le_of_ble_eq_true rfl) (by
      refine ⟨?_, rfl, rfl⟩
      first
        | rfl
        | (unfold drw
           rw [show hi - lo + 1 = 1 by omega, Int.emod_one, Int.add_zero]))
  · skip
    rw [jc_le (by constructor <;> omega) (by constructor <;> omega)] at c_27
    refine g_iload_n dX7_anyOf_30 rfl ?_
    refine g_i2l dX7_anyOf_31 ?_
    rw [iZ_j h1.1 h1.2]
    refine g_aload_n dX7_anyOf_32 rfl ?_
    refine g_getJ (f := 2) dX7_anyOf_33 cl8 hk (by decide) (Or.inl (iw_36 7 rfl)) (Or.inl rfl) rfl ?_
    rw [mJ_st, if_pos ⟨rfl, rfl⟩]
    refine g_lload_n dX7_anyOf_36 rfl ?_
    refine g_lrem dX7_anyOf_37 (fun z => by rw [jI_0, jI_eq (by constructor <;> omega) (by constructor <;> omega)] at z; omega) ?_
    rw [jI_rem ⟨hk1.1, by have := hk1.2; omega⟩ (by omega)]
    refine g_ladd dX7_anyOf_38 ?_
    rw [jI_add]
    refine g_l2i dX7_anyOf_39 ?_
    rw [jI_i]
    refine g_goto (tgt := 44) dX7_anyOf_40 (by decide) ?_
    exact g_iret dX7_anyOf_44 (Or.inl rfl) (Nat.le_of_ble_eq_true rfl) (Nat.le_of_ble_eq_true rfl) (by
      refine ⟨?_, rfl, rfl⟩
      first
        | rfl
        | (unfold drw
           rw [show hi - lo + 1 = 1 by omega, Int.emod_one, Int.add_zero]))

set_option maxHeartbeats 4000000 in
set_option maxRecDepth 100000 in
theorem c_isSo (M : gM) (n q : Nat) (x y : Int32) (hq : q < 7) : GM μX7_isSo 0 0 0 0 [.int (nI q), .int x, .int y] M n (fun r M1 n1 => r = some (.int (bI (hlN q x.toInt y.toInt))) ∧ M1 = M ∧ n1 = n) := by
  refine GM.ofW (by decide) rfl (Nat.le_of_ble_eq_true rfl) rfl ?_
  refine g_iload_n dX7_isSo_0 rfl ?_
  by_cases t_1_0 : (q : Int) = 0
  · skip
    refine g_tableIn (off := 39) (tgt := 40) dX7_isSo_1 (by rw [nI_t (by omega)]; omega) (by rw [nI_t (by omega)]; omega) (by rw [nI_t (by omega)]; rw [t_1_0]; rfl) (by decide) ?_
    refine g_iload_n dX7_isSo_40 rfl ?_
    refine g_iload_n dX7_isSo_41 rfl ?_
    refine g_icmp_ge (tgt := 49) dX7_isSo_42 (by decide) (fun c_42 => ?_) (fun c_42 => ?_)
    · skip
      refine g_iconst (v := nI 0) dX7_isSo_49 rfl ?_
      exact g_iret dX7_isSo_50 (Or.inr ⟨rfl, by first | exact Or.inl rfl | exact Or.inr rfl⟩) (Nat.le_of_ble_eq_true rfl) (Nat.le_of_ble_eq_true rfl) (by
        refine ⟨?_, rfl, rfl⟩
        (try rw [i_le, i_min, i_min] at c_114)
        (try rw [i_le] at c_42)
        (try rw [i_lt] at c_53)
        (try rw [i_eq] at c_64)
        (try rw [i_eq] at c_75)
        (try rw [i_lt] at c_86)
        (try rw [i_le] at c_97)
        have hh : hlN q x.toInt y.toInt = (if q = 0 then decide (x.toInt < y.toInt) else if q = 1 then decide (x.toInt ≤ y.toInt) else if q = 2 then decide (x.toInt = y.toInt) else if q = 3 then decide (x.toInt ≠ y.toInt) else if q = 4 then decide (y.toInt ≤ x.toInt) else if q = 5 then decide (y.toInt < x.toInt) else decide (x.toInt % 4294967296 < y.toInt % 4294967296)) := rfl
        rw [hh]
        clear hh
        first
          | (rw [if_pos (show q = 0 by omega)]; first | (rw [decide_eq_true (by omega)]; rfl) | (rw [decide_eq_false (by omega)]; rfl))
          | (rw [if_neg (show ¬ q = 0 by omega), if_pos (show q = 1 by omega)]; first | (rw [decide_eq_true (by omega)]; rfl) | (rw [decide_eq_false (by omega)]; rfl))
          | (rw [if_neg (show ¬ q = 0 by omega), if_neg (show ¬ q = 1 by omega), if_pos (show q = 2 by omega)]; first | (rw [decide_eq_true (by omega)]; rfl) | (rw [decide_eq_false (by omega)]; rfl))
          | (rw [if_neg (show ¬ q = 0 by omega), if_neg (show ¬ q = 1 by omega), if_neg (show ¬ q = 2 by omega), if_pos (show q = 3 by omega)]; first | (rw [decide_eq_true (by omega)]; rfl) | (rw [decide_eq_false (by omega)]; rfl))
          | (rw [if_neg (show ¬ q = 0 by omega), if_neg (show ¬ q = 1 by omega), if_neg (show ¬ q = 2 by omega), if_neg (show ¬ q = 3 by omega), if_pos (show q = 4 by omega)]; first | (rw [decide_eq_true (by omega)]; rfl) | (rw [decide_eq_false (by omega)]; rfl))
          | (rw [if_neg (show ¬ q = 0 by omega), if_neg (show ¬ q = 1 by omega), if_neg (show ¬ q = 2 by omega), if_neg (show ¬ q = 3 by omega), if_neg (show ¬ q = 4 by omega), if_pos (show q = 5 by omega)]; first | (rw [decide_eq_true (by omega)]; rfl) | (rw [decide_eq_false (by omega)]; rfl))
          | (rw [if_neg (show ¬ q = 0 by omega), if_neg (show ¬ q = 1 by omega), if_neg (show ¬ q = 2 by omega), if_neg (show ¬ q = 3 by omega), if_neg (show ¬ q = 4 by omega), if_neg (show ¬ q = 5 by omega)]; first | (rw [decide_eq_true (by omega)]; rfl) | (rw [decide_eq_false (by omega)]; rfl)))
    · skip
      refine g_iconst (v := nI 1) dX7_isSo_45 rfl ?_
      refine g_goto (tgt := 50) dX7_isSo_46 (by decide) ?_
      exact g_iret dX7_isSo_50 (Or.inr ⟨rfl, by first | exact Or.inl rfl | exact Or.inr rfl⟩) (Nat.le_of_ble_eq_true rfl) (Nat.le_of_ble_eq_true rfl) (by
        refine ⟨?_, rfl, rfl⟩
        (try rw [i_le, i_min, i_min] at c_114)
        (try rw [i_le] at c_42)
        (try rw [i_lt] at c_53)
        (try rw [i_eq] at c_64)
        (try rw [i_eq] at c_75)
        (try rw [i_lt] at c_86)
        (try rw [i_le] at c_97)
        have hh : hlN q x.toInt y.toInt = (if q = 0 then decide (x.toInt < y.toInt) else if q = 1 then decide (x.toInt ≤ y.toInt) else if q = 2 then decide (x.toInt = y.toInt) else if q = 3 then decide (x.toInt ≠ y.toInt) else if q = 4 then decide (y.toInt ≤ x.toInt) else if q = 5 then decide (y.toInt < x.toInt) else decide (x.toInt % 4294967296 < y.toInt % 4294967296)) := rfl
        rw [hh]
        clear hh
        first
          | (rw [if_pos (show q = 0 by omega)]; first | (rw [decide_eq_true (by omega)]; rfl) | (rw [decide_eq_false (by omega)]; rfl))
          | (rw [if_neg (show ¬ q = 0 by omega), if_pos (show q = 1 by omega)]; first | (rw [decide_eq_true (by omega)]; rfl) | (rw [decide_eq_false (by omega)]; rfl))
          | (rw [if_neg (show ¬ q = 0 by omega), if_neg (show ¬ q = 1 by omega), if_pos (show q = 2 by omega)]; first | (rw [decide_eq_true (by omega)]; rfl) | (rw [decide_eq_false (by omega)]; rfl))
          | (rw [if_neg (show ¬ q = 0 by omega), if_neg (show ¬ q = 1 by omega), if_neg (show ¬ q = 2 by omega), if_pos (show q = 3 by omega)]; first | (rw [decide_eq_true (by omega)]; rfl) | (rw [decide_eq_false (by omega)]; rfl))
          | (rw [if_neg (show ¬ q = 0 by omega), if_neg (show ¬ q = 1 by omega), if_neg (show ¬ q = 2 by omega), if_neg (show ¬ q = 3 by omega), if_pos (show q = 4 by omega)]; first | (rw [decide_eq_true (by omega)]; rfl) | (rw [decide_eq_false (by omega)]; rfl))
          | (rw [if_neg (show ¬ q = 0 by omega), if_neg (show ¬ q = 1 by omega), if_neg (show ¬ q = 2 by omega), if_neg (show ¬ q = 3 by omega), if_neg (show ¬ q = 4 by omega), if_pos (show q = 5 by omega)]; first | (rw [decide_eq_true (by omega)]; rfl) | (rw [decide_eq_false (by omega)]; rfl))
          | (rw [if_neg (show ¬ q = 0 by omega), if_neg (show ¬ q = 1 by omega), if_neg (show ¬ q = 2 by omega), if_neg (show ¬ q = 3 by omega), if_neg (show ¬ q = 4 by omega), if_neg (show ¬ q = 5 by omega)]; first | (rw [decide_eq_true (by omega)]; rfl) | (rw [decide_eq_false (by omega)]; rfl)))
  · skip
    by_cases t_1_1 : (q : Int) = 1
    · skip
      refine g_tableIn (off := 50) (tgt := 51) dX7_isSo_1 (by rw [nI_t (by omega)]; omega) (by rw [nI_t (by omega)]; omega) (by rw [nI_t (by omega)]; rw [t_1_1]; rfl) (by decide) ?_
      refine g_iload_n dX7_isSo_51 rfl ?_
      refine g_iload_n dX7_isSo_52 rfl ?_
      refine g_icmp_gt (tgt := 60) dX7_isSo_53 (by decide) (fun c_53 => ?_) (fun c_53 => ?_)
      · skip
        refine g_iconst (v := nI 0) dX7_isSo_60 rfl ?_
        exact g_iret dX7_isSo_61 (Or.inr ⟨rfl, by first | exact Or.inl rfl | exact Or.inr rfl⟩) (Nat.le_of_ble_eq_true rfl) (Nat.le_of_ble_eq_true rfl) (by
          refine ⟨?_, rfl, rfl⟩
          (try rw [i_le, i_min, i_min] at c_114)
          (try rw [i_le] at c_42)
          (try rw [i_lt] at c_53)
          (try rw [i_eq] at c_64)
          (try rw [i_eq] at c_75)
          (try rw [i_lt] at c_86)
          (try rw [i_le] at c_97)
          have hh : hlN q x.toInt y.toInt = (if q = 0 then decide (x.toInt < y.toInt) else if q = 1 then decide (x.toInt ≤ y.toInt) else if q = 2 then decide (x.toInt = y.toInt) else if q = 3 then decide (x.toInt ≠ y.toInt) else if q = 4 then decide (y.toInt ≤ x.toInt) else if q = 5 then decide (y.toInt < x.toInt) else decide (x.toInt % 4294967296 < y.toInt % 4294967296)) := rfl
          rw [hh]
          clear hh
          first
            | (rw [if_pos (show q = 0 by omega)]; first | (rw [decide_eq_true (by omega)]; rfl) | (rw [decide_eq_false (by omega)]; rfl))
            | (rw [if_neg (show ¬ q = 0 by omega), if_pos (show q = 1 by omega)]; first | (rw [decide_eq_true (by omega)]; rfl) | (rw [decide_eq_false (by omega)]; rfl))
            | (rw [if_neg (show ¬ q = 0 by omega), if_neg (show ¬ q = 1 by omega), if_pos (show q = 2 by omega)]; first | (rw [decide_eq_true (by omega)]; rfl) | (rw [decide_eq_false (by omega)]; rfl))
            | (rw [if_neg (show ¬ q = 0 by omega), if_neg (show ¬ q = 1 by omega), if_neg (show ¬ q = 2 by omega), if_pos (show q = 3 by omega)]; first | (rw [decide_eq_true (by omega)]; rfl) | (rw [decide_eq_false (by omega)]; rfl))
            | (rw [if_neg (show ¬ q = 0 by omega), if_neg (show ¬ q = 1 by omega), if_neg (show ¬ q = 2 by omega), if_neg (show ¬ q = 3 by omega), if_pos (show q = 4 by omega)]; first | (rw [decide_eq_true (by omega)]; rfl) | (rw [decide_eq_false (by omega)]; rfl))
            | (rw [if_neg (show ¬ q = 0 by omega), if_neg (show ¬ q = 1 by omega), if_neg (show ¬ q = 2 by omega), if_neg (show ¬ q = 3 by omega), if_neg (show ¬ q = 4 by omega), if_pos (show q = 5 by omega)]; first | (rw [decide_eq_true (by omega)]; rfl) | (rw [decide_eq_false (by omega)]; rfl))
            | (rw [if_neg (show ¬ q = 0 by omega), if_neg (show ¬ q = 1 by omega), if_neg (show ¬ q = 2 by omega), if_neg (show ¬ q = 3 by omega), if_neg (show ¬ q = 4 by omega), if_neg (show ¬ q = 5 by omega)]; first | (rw [decide_eq_true (by omega)]; rfl) | (rw [decide_eq_false (by omega)]; rfl)))
      · skip
        refine g_iconst (v := nI 1) dX7_isSo_56 rfl ?_
        refine g_goto (tgt := 61) dX7_isSo_57 (by decide) ?_
        exact g_iret dX7_isSo_61 (Or.inr ⟨rfl, by first | exact Or.inl rfl | exact Or.inr rfl⟩) (Nat.le_of_ble_eq_true rfl) (Nat.le_of_ble_eq_true rfl) (by
          refine ⟨?_, rfl, rfl⟩
          (try rw [i_le, i_min, i_min] at c_114)
          (try rw [i_le] at c_42)
          (try rw [i_lt] at c_53)
          (try rw [i_eq] at c_64)
          (try rw [i_eq] at c_75)
          (try rw [i_lt] at c_86)
          (try rw [i_le] at c_97)
          have hh : hlN q x.toInt y.toInt = (if q = 0 then decide (x.toInt < y.toInt) else if q = 1 then decide (x.toInt ≤ y.toInt) else if q = 2 then decide (x.toInt = y.toInt) else if q = 3 then decide (x.toInt ≠ y.toInt) else if q = 4 then decide (y.toInt ≤ x.toInt) else if q = 5 then decide (y.toInt < x.toInt) else decide (x.toInt % 4294967296 < y.toInt % 4294967296)) := rfl
          rw [hh]
          clear hh
          first
            | (rw [if_pos (show q = 0 by omega)]; first | (rw [decide_eq_true (by omega)]; rfl) | (rw [decide_eq_false (by omega)]; rfl))
            | (rw [if_neg (show ¬ q = 0 by omega), if_pos (show q = 1 by omega)]; first | (rw [decide_eq_true (by omega)]; rfl) | (rw [decide_eq_false (by omega)]; rfl))
            | (rw [if_neg (show ¬ q = 0 by omega), if_neg (show ¬ q = 1 by omega), if_pos (show q = 2 by omega)]; first | (rw [decide_eq_true (by omega)]; rfl) | (rw [decide_eq_false (by omega)]; rfl))
            | (rw [if_neg (show ¬ q = 0 by omega), if_neg (show ¬ q = 1 by omega), if_neg (show ¬ q = 2 by omega), if_pos (show q = 3 by omega)]; first | (rw [decide_eq_true (by omega)]; rfl) | (rw [decide_eq_false (by omega)]; rfl))
            | (rw [if_neg (show ¬ q = 0 by omega), if_neg (show ¬ q = 1 by omega), if_neg (show ¬ q = 2 by omega), if_neg (show ¬ q = 3 by omega), if_pos (show q = 4 by omega)]; first | (rw [decide_eq_true (by omega)]; rfl) | (rw [decide_eq_false (by omega)]; rfl))
            | (rw [if_neg (show ¬ q = 0 by omega), if_neg (show ¬ q = 1 by omega), if_neg (show ¬ q = 2 by omega), if_neg (show ¬ q = 3 by omega), if_neg (show ¬ q = 4 by omega), if_pos (show q = 5 by omega)]; first | (rw [decide_eq_true (by omega)]; rfl) | (rw [decide_eq_false (by omega)]; rfl))
            | (rw [if_neg (show ¬ q = 0 by omega), if_neg (show ¬ q = 1 by omega), if_neg (show ¬ q = 2 by omega), if_neg (show ¬ q = 3 by omega), if_neg (show ¬ q = 4 by omega), if_neg (show ¬ q = 5 by omega)]; first | (rw [decide_eq_true (by omega)]; rfl) | (rw [decide_eq_false (by omega)]; rfl)))
    · skip
      by_cases t_1_2 : (q : Int) = 2
      · skip
        refine g_tableIn (off := 61) (tgt := 62) dX7_isSo_1 (by rw [nI_t (by omega)]; omega) (by rw [nI_t (by omega)]; omega) (by rw [nI_t (by omega)]; rw [t_1_2]; rfl) (by decide) ?_
        refine g_iload_n dX7_isSo_62 rfl ?_
        refine g_iload_n dX7_isSo_63 rfl ?_
        refine g_icmp_ne (tgt := 71) dX7_isSo_64 (by decide) (fun c_64 => ?_) (fun c_64 => ?_)
        · skip
          refine g_iconst (v := nI 0) dX7_isSo_71 rfl ?_
          exact g_iret dX7_isSo_72 (Or.inr ⟨rfl, by first | exact Or.inl rfl | exact Or.inr rfl⟩) (Nat.le_of_ble_eq_true rfl) (Nat.le_of_ble_eq_true rfl) (by
            refine ⟨?_, rfl, rfl⟩
            (try rw [i_le, i_min, i_min] at c_114)
            (try rw [i_le] at c_42)
            (try rw [i_lt] at c_53)
            (try rw [i_eq] at c_64)
            (try rw [i_eq] at c_75)
            (try rw [i_lt] at c_86)
            (try rw [i_le] at c_97)
            have hh : hlN q x.toInt y.toInt = (if q = 0 then decide (x.toInt < y.toInt) else if q = 1 then decide (x.toInt ≤ y.toInt) else if q = 2 then decide (x.toInt = y.toInt) else if q = 3 then decide (x.toInt ≠ y.toInt) else if q = 4 then decide (y.toInt ≤ x.toInt) else if q = 5 then decide (y.toInt < x.toInt) else decide (x.toInt % 4294967296 < y.toInt % 4294967296)) := rfl
            rw [hh]
            clear hh
            first
              | (rw [if_pos (show q = 0 by omega)]; first | (rw [decide_eq_true (by omega)]; rfl) | (rw [decide_eq_false (by omega)]; rfl))
              | (rw [if_neg (show ¬ q = 0 by omega), if_pos (show q = 1 by omega)]; first | (rw [decide_eq_true (by omega)]; rfl) | (rw [decide_eq_false (by omega)]; rfl))
              | (rw [if_neg (show ¬ q = 0 by omega), if_neg (show ¬ q = 1 by omega), if_pos (show q = 2 by omega)]; first | (rw [decide_eq_true (by omega)]; rfl) | (rw [decide_eq_false (by omega)]; rfl))
              | (rw [if_neg (show ¬ q = 0 by omega), if_neg (show ¬ q = 1 by omega), if_neg (show ¬ q = 2 by omega), if_pos (show q = 3 by omega)]; first | (rw [decide_eq_true (by omega)]; rfl) | (rw [decide_eq_false (by omega)]; rfl))
              | (rw [if_neg (show ¬ q = 0 by omega), if_neg (show ¬ q = 1 by omega), if_neg (show ¬ q = 2 by omega), if_neg (show ¬ q = 3 by omega), if_pos (show q = 4 by omega)]; first | (rw [decide_eq_true (by omega)]; rfl) | (rw [decide_eq_false (by omega)]; rfl))
              | (rw [if_neg (show ¬ q = 0 by omega), if_neg (show ¬ q = 1 by omega), if_neg (show ¬ q = 2 by omega), if_neg (show ¬ q = 3 by omega), if_neg (show ¬ q = 4 by omega), if_pos (show q = 5 by omega)]; first | (rw [decide_eq_true (by omega)]; rfl) | (rw [decide_eq_false (by omega)]; rfl))
              | (rw [if_neg (show ¬ q = 0 by omega), if_neg (show ¬ q = 1 by omega), if_neg (show ¬ q = 2 by omega), if_neg (show ¬ q = 3 by omega), if_neg (show ¬ q = 4 by omega), if_neg (show ¬ q = 5 by omega)]; first | (rw [decide_eq_true (by omega)]; rfl) | (rw [decide_eq_false (by omega)]; rfl)))
        · skip
          refine g_iconst (v := nI 1) dX7_isSo_67 rfl ?_
          refine g_goto (tgt := 72) dX7_isSo_68 (by decide) ?_
          exact g_iret dX7_isSo_72 (Or.inr ⟨rfl, by first | exact Or.inl rfl | exact Or.inr rfl⟩) (Nat.le_of_ble_eq_true rfl) (Nat.le_of_ble_eq_true rfl) (by
            refine ⟨?_, rfl, rfl⟩
            (try rw [i_le, i_min, i_min] at c_114)
            (try rw [i_le] at c_42)
            (try rw [i_lt] at c_53)
            (try rw [i_eq] at c_64)
            (try rw [i_eq] at c_75)
            (try rw [i_lt] at c_86)
            (try rw [i_le] at c_97)
            have hh : hlN q x.toInt y.toInt = (if q = 0 then decide (x.toInt < y.toInt) else if q = 1 then decide (x.toInt ≤ y.toInt) else if q = 2 then decide (x.toInt = y.toInt) else if q = 3 then decide (x.toInt ≠ y.toInt) else if q = 4 then decide (y.toInt ≤ x.toInt) else if q = 5 then decide (y.toInt < x.toInt) else decide (x.toInt % 4294967296 < y.toInt % 4294967296)) := rfl
            rw [hh]
            clear hh
            first
              | (rw [if_pos (show q = 0 by omega)]; first | (rw [decide_eq_true (by omega)]; rfl) | (rw [decide_eq_false (by omega)]; rfl))
              | (rw [if_neg (show ¬ q = 0 by omega), if_pos (show q = 1 by omega)]; first | (rw [decide_eq_true (by omega)]; rfl) | (rw [decide_eq_false (by omega)]; rfl))
              | (rw [if_neg (show ¬ q = 0 by omega), if_neg (show ¬ q = 1 by omega), if_pos (show q = 2 by omega)]; first | (rw [decide_eq_true (by omega)]; rfl) | (rw [decide_eq_false (by omega)]; rfl))
              | (rw [if_neg (show ¬ q = 0 by omega), if_neg (show ¬ q = 1 by omega), if_neg (show ¬ q = 2 by omega), if_pos (show q = 3 by omega)]; first | (rw [decide_eq_true (by omega)]; rfl) | (rw [decide_eq_false (by omega)]; rfl))
              | (rw [if_neg (show ¬ q = 0 by omega), if_neg (show ¬ q = 1 by omega), if_neg (show ¬ q = 2 by omega), if_neg (show ¬ q = 3 by omega), if_pos (show q = 4 by omega)]; first | (rw [decide_eq_true (by omega)]; rfl) | (rw [decide_eq_false (by omega)]; rfl))
              | (rw [if_neg (show ¬ q = 0 by omega), if_neg (show ¬ q = 1 by omega), if_neg (show ¬ q = 2 by omega), if_neg (show ¬ q = 3 by omega), if_neg (show ¬ q = 4 by omega), if_pos (show q = 5 by omega)]; first | (rw [decide_eq_true (by omega)]; rfl) | (rw [decide_eq_false (by omega)]; rfl))
              | (rw [if_neg (show ¬ q = 0 by omega), if_neg (show ¬ q = 1 by omega), if_neg (show ¬ q = 2 by omega), if_neg (show ¬ q = 3 by omega), if_neg (show ¬ q = 4 by omega), if_neg (show ¬ q = 5 by omega)]; first | (rw [decide_eq_true (by omega)]; rfl) | (rw [decide_eq_false (by omega)]; rfl)))
      · skip
        by_cases t_1_3 : (q : Int) = 3
        · skip
          refine g_tableIn (off := 72) (tgt := 73) dX7_isSo_1 (by rw [nI_t (by omega)]; omega) (by rw [nI_t (by omega)]; omega) (by rw [nI_t (by omega)]; rw [t_1_3]; rfl) (by decide) ?_
          refine g_iload_n dX7_isSo_73 rfl ?_
          refine g_iload_n dX7_isSo_74 rfl ?_
          refine g_icmp_eq (tgt := 82) dX7_isSo_75 (by decide) (fun c_75 => ?_) (fun c_75 => ?_)
          · skip
            refine g_iconst (v := nI 0) dX7_isSo_82 rfl ?_
            exact g_iret dX7_isSo_83 (Or.inr ⟨rfl, by first | exact Or.inl rfl | exact Or.inr rfl⟩) (Nat.le_of_ble_eq_true rfl) (Nat.le_of_ble_eq_true rfl) (by
              refine ⟨?_, rfl, rfl⟩
              (try rw [i_le, i_min, i_min] at c_114)
              (try rw [i_le] at c_42)
              (try rw [i_lt] at c_53)
              (try rw [i_eq] at c_64)
              (try rw [i_eq] at c_75)
              (try rw [i_lt] at c_86)
              (try rw [i_le] at c_97)
              have hh : hlN q x.toInt y.toInt = (if q = 0 then decide (x.toInt < y.toInt) else if q = 1 then decide (x.toInt ≤ y.toInt) else if q = 2 then decide (x.toInt = y.toInt) else if q = 3 then decide (x.toInt ≠ y.toInt) else if q = 4 then decide (y.toInt ≤ x.toInt) else if q = 5 then decide (y.toInt < x.toInt) else decide (x.toInt % 4294967296 < y.toInt % 4294967296)) := rfl
              rw [hh]
              clear hh
              first
                | (rw [if_pos (show q = 0 by omega)]; first | (rw [decide_eq_true (by omega)]; rfl) | (rw [decide_eq_false (by omega)]; rfl))
                | (rw [if_neg (show ¬ q = 0 by omega), if_pos (show q = 1 by omega)]; first | (rw [decide_eq_true (by omega)]; rfl) | (rw [decide_eq_false (by omega)]; rfl))
                | (rw [if_neg (show ¬ q = 0 by omega), if_neg (show ¬ q = 1 by omega), if_pos (show q = 2 by omega)]; first | (rw [decide_eq_true (by omega)]; rfl) | (rw [decide_eq_false (by omega)]; rfl))
                | (rw [if_neg (show ¬ q = 0 by omega), if_neg (show ¬ q = 1 by omega), if_neg (show ¬ q = 2 by omega), if_pos (show q = 3 by omega)]; first | (rw [decide_eq_true (by omega)]; rfl) | (rw [decide_eq_false (by omega)]; rfl))
                | (rw [if_neg (show ¬ q = 0 by omega), if_neg (show ¬ q = 1 by omega), if_neg (show ¬ q = 2 by omega), if_neg (show ¬ q = 3 by omega), if_pos (show q = 4 by omega)]; first | (rw [decide_eq_true (by omega)]; rfl) | (rw [decide_eq_false (by omega)]; rfl))
                | (rw [if_neg (show ¬ q = 0 by omega), if_neg (show ¬ q = 1 by omega), if_neg (show ¬ q = 2 by omega), if_neg (show ¬ q = 3 by omega), if_neg (show ¬ q = 4 by omega), if_pos (show q = 5 by omega)]; first | (rw [decide_eq_true (by omega)]; rfl) | (rw [decide_eq_false (by omega)]; rfl))
                | (rw [if_neg (show ¬ q = 0 by omega), if_neg (show ¬ q = 1 by omega), if_neg (show ¬ q = 2 by omega), if_neg (show ¬ q = 3 by omega), if_neg (show ¬ q = 4 by omega), if_neg (show ¬ q = 5 by omega)]; first | (rw [decide_eq_true (by omega)]; rfl) | (rw [decide_eq_false (by omega)]; rfl)))
          · skip
            refine g_iconst (v := nI 1) dX7_isSo_78 rfl ?_
            refine g_goto (tgt := 83) dX7_isSo_79 (by decide) ?_
            exact g_iret dX7_isSo_83 (Or.inr ⟨rfl, by first | exact Or.inl rfl | exact Or.inr rfl⟩) (Nat.le_of_ble_eq_true rfl) (Nat.le_of_ble_eq_true rfl) (by
              refine ⟨?_, rfl, rfl⟩
              (try rw [i_le, i_min, i_min] at c_114)
              (try rw [i_le] at c_42)
              (try rw [i_lt] at c_53)
              (try rw [i_eq] at c_64)
              (try rw [i_eq] at c_75)
              (try rw [i_lt] at c_86)
              (try rw [i_le] at c_97)
              have hh : hlN q x.toInt y.toInt = (if q = 0 then decide (x.toInt < y.toInt) else if q = 1 then decide (x.toInt ≤ y.toInt) else if q = 2 then decide (x.toInt = y.toInt) else if q = 3 then decide (x.toInt ≠ y.toInt) else if q = 4 then decide (y.toInt ≤ x.toInt) else if q = 5 then decide (y.toInt < x.toInt) else decide (x.toInt % 4294967296 < y.toInt % 4294967296)) := rfl
              rw [hh]
              clear hh
              first
                | (rw [if_pos (show q = 0 by omega)]; first | (rw [decide_eq_true (by omega)]; rfl) | (rw [decide_eq_false (by omega)]; rfl))
                | (rw [if_neg (show ¬ q = 0 by omega), if_pos (show q = 1 by omega)]; first | (rw [decide_eq_true (by omega)]; rfl) | (rw [decide_eq_false (by omega)]; rfl))
                | (rw [if_neg (show ¬ q = 0 by omega), if_neg (show ¬ q = 1 by omega), if_pos (show q = 2 by omega)]; first | (rw [decide_eq_true (by omega)]; rfl) | (rw [decide_eq_false (by omega)]; rfl))
                | (rw [if_neg (show ¬ q = 0 by omega), if_neg (show ¬ q = 1 by omega), if_neg (show ¬ q = 2 by omega), if_pos (show q = 3 by omega)]; first | (rw [decide_eq_true (by omega)]; rfl) | (rw [decide_eq_false (by omega)]; rfl))
                | (rw [if_neg (show ¬ q = 0 by omega), if_neg (show ¬ q = 1 by omega), if_neg (show ¬ q = 2 by omega), if_neg (show ¬ q = 3 by omega), if_pos (show q = 4 by omega)]; first | (rw [decide_eq_true (by omega)]; rfl) | (rw [decide_eq_false (by omega)]; rfl))
                | (rw [if_neg (show ¬ q = 0 by omega), if_neg (show ¬ q = 1 by omega), if_neg (show ¬ q = 2 by omega), if_neg (show ¬ q = 3 by omega), if_neg (show ¬ q = 4 by omega), if_pos (show q = 5 by omega)]; first | (rw [decide_eq_true (by omega)]; rfl) | (rw [decide_eq_false (by omega)]; rfl))
                | (rw [if_neg (show ¬ q = 0 by omega), if_neg (show ¬ q = 1 by omega), if_neg (show ¬ q = 2 by omega), if_neg (show ¬ q = 3 by omega), if_neg (show ¬ q = 4 by omega), if_neg (show ¬ q = 5 by omega)]; first | (rw [decide_eq_true (by omega)]; rfl) | (rw [decide_eq_false (by omega)]; rfl)))
        · skip
          by_cases t_1_4 : (q : Int) = 4
          · skip
            refine g_tableIn (off := 83) (tgt := 84) dX7_isSo_1 (by rw [nI_t (by omega)]; omega) (by rw [nI_t (by omega)]; omega) (by rw [nI_t (by omega)]; rw [t_1_4]; rfl) (by decide) ?_
            refine g_iload_n dX7_isSo_84 rfl ?_
            refine g_iload_n dX7_isSo_85 rfl ?_
            refine g_icmp_lt (tgt := 93) dX7_isSo_86 (by decide) (fun c_86 => ?_) (fun c_86 => ?_)
            · skip
              refine g_iconst (v := nI 0) dX7_isSo_93 rfl ?_
              exact g_iret dX7_isSo_94 (Or.inr ⟨rfl, by first | exact Or.inl rfl | exact Or.inr rfl⟩) (Nat.le_of_ble_eq_true rfl) (Nat.le_of_ble_eq_true rfl) (by
                refine ⟨?_, rfl, rfl⟩
                (try rw [i_le, i_min, i_min] at c_114)
                (try rw [i_le] at c_42)
                (try rw [i_lt] at c_53)
                (try rw [i_eq] at c_64)
                (try rw [i_eq] at c_75)
                (try rw [i_lt] at c_86)
                (try rw [i_le] at c_97)
                have hh : hlN q x.toInt y.toInt = (if q = 0 then decide (x.toInt < y.toInt) else if q = 1 then decide (x.toInt ≤ y.toInt) else if q = 2 then decide (x.toInt = y.toInt) else if q = 3 then decide (x.toInt ≠ y.toInt) else if q = 4 then decide (y.toInt ≤ x.toInt) else if q = 5 then decide (y.toInt < x.toInt) else decide (x.toInt % 4294967296 < y.toInt % 4294967296)) := rfl
                rw [hh]
                clear hh
                first
                  | (rw [if_pos (show q = 0 by omega)]; first | (rw [decide_eq_true (by omega)]; rfl) | (rw [decide_eq_false (by omega)]; rfl))
                  | (rw [if_neg (show ¬ q = 0 by omega), if_pos (show q = 1 by omega)]; first | (rw [decide_eq_true (by omega)]; rfl) | (rw [decide_eq_false (by omega)]; rfl))
                  | (rw [if_neg (show ¬ q = 0 by omega), if_neg (show ¬ q = 1 by omega), if_pos (show q = 2 by omega)]; first | (rw [decide_eq_true (by omega)]; rfl) | (rw [decide_eq_false (by omega)]; rfl))
                  | (rw [if_neg (show ¬ q = 0 by omega), if_neg (show ¬ q = 1 by omega), if_neg (show ¬ q = 2 by omega), if_pos (show q = 3 by omega)]; first | (rw [decide_eq_true (by omega)]; rfl) | (rw [decide_eq_false (by omega)]; rfl))
                  | (rw [if_neg (show ¬ q = 0 by omega), if_neg (show ¬ q = 1 by omega), if_neg (show ¬ q = 2 by omega), if_neg (show ¬ q = 3 by omega), if_pos (show q = 4 by omega)]; first | (rw [decide_eq_true (by omega)]; rfl) | (rw [decide_eq_false (by omega)]; rfl))
                  | (rw [if_neg (show ¬ q = 0 by omega), if_neg (show ¬ q = 1 by omega), if_neg (show ¬ q = 2 by omega), if_neg (show ¬ q = 3 by omega), if_neg (show ¬ q = 4 by omega), if_pos (show q = 5 by omega)]; first | (rw [decide_eq_true (by omega)]; rfl) | (rw [decide_eq_false (by omega)]; rfl))
                  | (rw [if_neg (show ¬ q = 0 by omega), if_neg (show ¬ q = 1 by omega), if_neg (show ¬ q = 2 by omega), if_neg (show ¬ q = 3 by omega), if_neg (show ¬ q = 4 by omega), if_neg (show ¬ q = 5 by omega)]; first | (rw [decide_eq_true (by omega)]; rfl) | (rw [decide_eq_false (by omega)]; rfl)))
            · skip
              refine g_iconst (v := nI 1) dX7_isSo_89 rfl ?_
              refine g_goto (tgt := 94) dX7_isSo_90 (by decide) ?_
              exact g_iret dX7_isSo_94 (Or.inr ⟨rfl, by first | exact Or.inl rfl | exact Or.inr rfl⟩) (Nat.le_of_ble_eq_true rfl) (Nat.le_of_ble_eq_true rfl) (by
                refine ⟨?_, rfl, rfl⟩
                (try rw [i_le, i_min, i_min] at c_114)
                (try rw [i_le] at c_42)
                (try rw [i_lt] at c_53)
                (try rw [i_eq] at c_64)
                (try rw [i_eq] at c_75)
                (try rw [i_lt] at c_86)
                (try rw [i_le] at c_97)
                have hh : hlN q x.toInt y.toInt = (if q = 0 then decide (x.toInt < y.toInt) else if q = 1 then decide (x.toInt ≤ y.toInt) else if q = 2 then decide (x.toInt = y.toInt) else if q = 3 then decide (x.toInt ≠ y.toInt) else if q = 4 then decide (y.toInt ≤ x.toInt) else if q = 5 then decide (y.toInt < x.toInt) else decide (x.toInt % 4294967296 < y.toInt % 4294967296)) := rfl
                rw [hh]
                clear hh
                first
                  | (rw [if_pos (show q = 0 by omega)]; first | (rw [decide_eq_true (by omega)]; rfl) | (rw [decide_eq_false (by omega)]; rfl))
                  | (rw [if_neg (show ¬ q = 0 by omega), if_pos (show q = 1 by omega)]; first | (rw [decide_eq_true (by omega)]; rfl) | (rw [decide_eq_false (by omega)]; rfl))
                  | (rw [if_neg (show ¬ q = 0 by omega), if_neg (show ¬ q = 1 by omega), if_pos (show q = 2 by omega)]; first | (rw [decide_eq_true (by omega)]; rfl) | (rw [decide_eq_false (by omega)]; rfl))
                  | (rw [if_neg (show ¬ q = 0 by omega), if_neg (show ¬ q = 1 by omega), if_neg (show ¬ q = 2 by omega), if_pos (show q = 3 by omega)]; first | (rw [decide_eq_true (by omega)]; rfl) | (rw [decide_eq_false (by omega)]; rfl))
                  | (rw [if_neg (show ¬ q = 0 by omega), if_neg (show ¬ q = 1 by omega), if_neg (show ¬ q = 2 by omega), if_neg (show ¬ q = 3 by omega), if_pos (show q = 4 by omega)]; first | (rw [decide_eq_true (by omega)]; rfl) | (rw [decide_eq_false (by omega)]; rfl))
                  | (rw [if_neg (show ¬ q = 0 by omega), if_neg (show ¬ q = 1 by omega), if_neg (show ¬ q = 2 by omega), if_neg (show ¬ q = 3 by omega), if_neg (show ¬ q = 4 by omega), if_pos (show q = 5 by omega)]; first | (rw [decide_eq_true (by omega)]; rfl) | (rw [decide_eq_false (by omega)]; rfl))
                  | (rw [if_neg (show ¬ q = 0 by omega), if_neg (show ¬ q = 1 by omega), if_neg (show ¬ q = 2 by omega), if_neg (show ¬ q = 3 by omega), if_neg (show ¬ q = 4 by omega), if_neg (show ¬ q = 5 by omega)]; first | (rw [decide_eq_true (by omega)]; rfl) | (rw [decide_eq_false (by omega)]; rfl)))
          · skip
            by_cases t_1_5 : (q : Int) = 5
            · skip
              refine g_tableIn (off := 94) (tgt := 95) dX7_isSo_1 (by rw [nI_t (by omega)]; omega) (by rw [nI_t (by omega)]; omega) (by rw [nI_t (by omega)]; rw [t_1_5]; rfl) (by decide) ?_
              refine g_iload_n dX7_isSo_95 rfl ?_
              refine g_iload_n dX7_isSo_96 rfl ?_
              refine g_icmp_le (tgt := 104) dX7_isSo_97 (by decide) (fun c_97 => ?_) (fun c_97 => ?_)
              · skip
                refine g_iconst (v := nI 0) dX7_isSo_104 rfl ?_
                exact g_iret dX7_isSo_105 (Or.inr ⟨rfl, by first | exact Or.inl rfl | exact Or.inr rfl⟩) (Nat.le_of_ble_eq_true rfl) (Nat.le_of_ble_eq_true rfl) (by
                  refine ⟨?_, rfl, rfl⟩
                  (try rw [i_le, i_min, i_min] at c_114)
                  (try rw [i_le] at c_42)
                  (try rw [i_lt] at c_53)
                  (try rw [i_eq] at c_64)
                  (try rw [i_eq] at c_75)
                  (try rw [i_lt] at c_86)
                  (try rw [i_le] at c_97)
                  have hh : hlN q x.toInt y.toInt = (if q = 0 then decide (x.toInt < y.toInt) else if q = 1 then decide (x.toInt ≤ y.toInt) else if q = 2 then decide (x.toInt = y.toInt) else if q = 3 then decide (x.toInt ≠ y.toInt) else if q = 4 then decide (y.toInt ≤ x.toInt) else if q = 5 then decide (y.toInt < x.toInt) else decide (x.toInt % 4294967296 < y.toInt % 4294967296)) := rfl
                  rw [hh]
                  clear hh
                  first
                    | (rw [if_pos (show q = 0 by omega)]; first | (rw [decide_eq_true (by omega)]; rfl) | (rw [decide_eq_false (by omega)]; rfl))
                    | (rw [if_neg (show ¬ q = 0 by omega), if_pos (show q = 1 by omega)]; first | (rw [decide_eq_true (by omega)]; rfl) | (rw [decide_eq_false (by omega)]; rfl))
                    | (rw [if_neg (show ¬ q = 0 by omega), if_neg (show ¬ q = 1 by omega), if_pos (show q = 2 by omega)]; first | (rw [decide_eq_true (by omega)]; rfl) | (rw [decide_eq_false (by omega)]; rfl))
                    | (rw [if_neg (show ¬ q = 0 by omega), if_neg (show ¬ q = 1 by omega), if_neg (show ¬ q = 2 by omega), if_pos (show q = 3 by omega)]; first | (rw [decide_eq_true (by omega)]; rfl) | (rw [decide_eq_false (by omega)]; rfl))
                    | (rw [if_neg (show ¬ q = 0 by omega), if_neg (show ¬ q = 1 by omega), if_neg (show ¬ q = 2 by omega), if_neg (show ¬ q = 3 by omega), if_pos (show q = 4 by omega)]; first | (rw [decide_eq_true (by omega)]; rfl) | (rw [decide_eq_false (by omega)]; rfl))
                    | (rw [if_neg (show ¬ q = 0 by omega), if_neg (show ¬ q = 1 by omega), if_neg (show ¬ q = 2 by omega), if_neg (show ¬ q = 3 by omega), if_neg (show ¬ q = 4 by omega), if_pos (show q = 5 by omega)]; first | (rw [decide_eq_true (by omega)]; rfl) | (rw [decide_eq_false (by omega)]; rfl))
                    | (rw [if_neg (show ¬ q = 0 by omega), if_neg (show ¬ q = 1 by omega), if_neg (show ¬ q = 2 by omega), if_neg (show ¬ q = 3 by omega), if_neg (show ¬ q = 4 by omega), if_neg (show ¬ q = 5 by omega)]; first | (rw [decide_eq_true (by omega)]; rfl) | (rw [decide_eq_false (by omega)]; rfl)))
              · skip
                refine g_iconst (v := nI 1) dX7_isSo_100 rfl ?_
                refine g_goto (tgt := 105) dX7_isSo_101 (by decide) ?_
                exact g_iret dX7_isSo_105 (Or.inr ⟨rfl, by first | exact Or.inl rfl | exact Or.inr rfl⟩) (Nat.le_of_ble_eq_true rfl) (Nat.le_of_ble_eq_true rfl) (by
                  refine ⟨?_, rfl, rfl⟩
                  (try rw [i_le, i_min, i_min] at c_114)
                  (try rw [i_le] at c_42)
                  (try rw [i_lt] at c_53)
                  (try rw [i_eq] at c_64)
                  (try rw [i_eq] at c_75)
                  (try rw [i_lt] at c_86)
                  (try rw [i_le] at c_97)
                  have hh : hlN q x.toInt y.toInt = (if q = 0 then decide (x.toInt < y.toInt) else if q = 1 then decide (x.toInt ≤ y.toInt) else if q = 2 then decide (x.toInt = y.toInt) else if q = 3 then decide (x.toInt ≠ y.toInt) else if q = 4 then decide (y.toInt ≤ x.toInt) else if q = 5 then decide (y.toInt < x.toInt) else decide (x.toInt % 4294967296 < y.toInt % 4294967296)) := rfl
                  rw [hh]
                  clear hh
                  first
                    | (rw [if_pos (show q = 0 by omega)]; first | (rw [decide_eq_true (by omega)]; rfl) | (rw [decide_eq_false (by omega)]; rfl))
                    | (rw [if_neg (show ¬ q = 0 by omega), if_pos (show q = 1 by omega)]; first | (rw [decide_eq_true (by omega)]; rfl) | (rw [decide_eq_false (by omega)]; rfl))
                    | (rw [if_neg (show ¬ q = 0 by omega), if_neg (show ¬ q = 1 by omega), if_pos (show q = 2 by omega)]; first | (rw [decide_eq_true (by omega)]; rfl) | (rw [decide_eq_false (by omega)]; rfl))
                    | (rw [if_neg (show ¬ q = 0 by omega), if_neg (show ¬ q = 1 by omega), if_neg (show ¬ q = 2 by omega), if_pos (show q = 3 by omega)]; first | (rw [decide_eq_true (by omega)]; rfl) | (rw [decide_eq_false (by omega)]; rfl))
                    | (rw [if_neg (show ¬ q = 0 by omega), if_neg (show ¬ q = 1 by omega), if_neg (show ¬ q = 2 by omega), if_neg (show ¬ q = 3 by omega), if_pos (show q = 4 by omega)]; first | (rw [decide_eq_true (by omega)]; rfl) | (rw [decide_eq_false (by omega)]; rfl))
                    | (rw [if_neg (show ¬ q = 0 by omega), if_neg (show ¬ q = 1 by omega), if_neg (show ¬ q = 2 by omega), if_neg (show ¬ q = 3 by omega), if_neg (show ¬ q = 4 by omega), if_pos (show q = 5 by omega)]; first | (rw [decide_eq_true (by omega)]; rfl) | (rw [decide_eq_false (by omega)]; rfl))
                    | (rw [if_neg (show ¬ q = 0 by omega), if_neg (show ¬ q = 1 by omega), if_neg (show ¬ q = 2 by omega), if_neg (show ¬ q = 3 by omega), if_neg (show ¬ q = 4 by omega), if_neg (show ¬ q = 5 by omega)]; first | (rw [decide_eq_true (by omega)]; rfl) | (rw [decide_eq_false (by omega)]; rfl)))
            · skip
              refine g_tableOut (tgt := 106) dX7_isSo_1 (by rw [nI_t (by omega)]; omega) (by decide) ?_
              refine g_iload_n dX7_isSo_106 rfl ?_
              refine g_ldc (v := (-2147483648)) dX7_isSo_107 (iw_37 7 rfl) ?_
              refine g_iadd dX7_isSo_109 ?_
              refine g_iload_n dX7_isSo_110 rfl ?_
              refine g_ldc (v := (-2147483648)) dX7_isSo_111 (iw_37 7 rfl) ?_
              refine g_iadd dX7_isSo_113 ?_
              refine g_icmp_ge (tgt := 121) dX7_isSo_114 (by decide) (fun c_114 => ?_) (fun c_114 => ?_)
              · skip
                refine g_iconst (v := nI 0) dX7_isSo_121 rfl ?_
                exact g_iret dX7_isSo_122 (Or.inr ⟨rfl, by first | exact Or.inl rfl | exact Or.inr rfl⟩) (Nat.le_of_ble_eq_true rfl) (Nat.le_of_ble_eq_true rfl) (by
                  refine ⟨?_, rfl, rfl⟩
                  (try rw [i_le, i_min, i_min] at c_114)
                  (try rw [i_le] at c_42)
                  (try rw [i_lt] at c_53)
                  (try rw [i_eq] at c_64)
                  (try rw [i_eq] at c_75)
                  (try rw [i_lt] at c_86)
                  (try rw [i_le] at c_97)
                  have hh : hlN q x.toInt y.toInt = (if q = 0 then decide (x.toInt < y.toInt) else if q = 1 then decide (x.toInt ≤ y.toInt) else if q = 2 then decide (x.toInt = y.toInt) else if q = 3 then decide (x.toInt ≠ y.toInt) else if q = 4 then decide (y.toInt ≤ x.toInt) else if q = 5 then decide (y.toInt < x.toInt) else decide (x.toInt % 4294967296 < y.toInt % 4294967296)) := rfl
                  rw [hh]
                  clear hh
                  first
                    | (rw [if_pos (show q = 0 by omega)]; first | (rw [decide_eq_true (by omega)]; rfl) | (rw [decide_eq_false (by omega)]; rfl))
                    | (rw [if_neg (show ¬ q = 0 by omega), if_pos (show q = 1 by omega)]; first | (rw [decide_eq_true (by omega)]; rfl) | (rw [decide_eq_false (by omega)]; rfl))
                    | (rw [if_neg (show ¬ q = 0 by omega), if_neg (show ¬ q = 1 by omega), if_pos (show q = 2 by omega)]; first | (rw [decide_eq_true (by omega)]; rfl) | (rw [decide_eq_false (by omega)]; rfl))
                    | (rw [if_neg (show ¬ q = 0 by omega), if_neg (show ¬ q = 1 by omega), if_neg (show ¬ q = 2 by omega), if_pos (show q = 3 by omega)]; first | (rw [decide_eq_true (by omega)]; rfl) | (rw [decide_eq_false (by omega)]; rfl))
                    | (rw [if_neg (show ¬ q = 0 by omega), if_neg (show ¬ q = 1 by omega), if_neg (show ¬ q = 2 by omega), if_neg (show ¬ q = 3 by omega), if_pos (show q = 4 by omega)]; first | (rw [decide_eq_true (by omega)]; rfl) | (rw [decide_eq_false (by omega)]; rfl))
                    | (rw [if_neg (show ¬ q = 0 by omega), if_neg (show ¬ q = 1 by omega), if_neg (show ¬ q = 2 by omega), if_neg (show ¬ q = 3 by omega), if_neg (show ¬ q = 4 by omega), if_pos (show q = 5 by omega)]; first | (rw [decide_eq_true (by omega)]; rfl) | (rw [decide_eq_false (by omega)]; rfl))
                    | (rw [if_neg (show ¬ q = 0 by omega), if_neg (show ¬ q = 1 by omega), if_neg (show ¬ q = 2 by omega), if_neg (show ¬ q = 3 by omega), if_neg (show ¬ q = 4 by omega), if_neg (show ¬ q = 5 by omega)]; first | (rw [decide_eq_true (by omega)]; rfl) | (rw [decide_eq_false (by omega)]; rfl)))
              · skip
                refine g_iconst (v := nI 1) dX7_isSo_117 rfl ?_
                refine g_goto (tgt := 122) dX7_isSo_118 (by decide) ?_
                exact g_iret dX7_isSo_122 (Or.inr ⟨rfl, by first | exact Or.inl rfl | exact Or.inr rfl⟩) (Nat.le_of_ble_eq_true rfl) (Nat.le_of_ble_eq_true rfl) (by
                  refine ⟨?_, rfl, rfl⟩
                  (try rw [i_le, i_min, i_min] at c_114)
                  (try rw [i_le] at c_42)
                  (try rw [i_lt] at c_53)
                  (try rw [i_eq] at c_64)
                  (try rw [i_eq] at c_75)
                  (try rw [i_lt] at c_86)
                  (try rw [i_le] at c_97)
                  have hh : hlN q x.toInt y.toInt = (if q = 0 then decide (x.toInt < y.toInt) else if q = 1 then decide (x.toInt ≤ y.toInt) else if q = 2 then decide (x.toInt = y.toInt) else if q = 3 then decide (x.toInt ≠ y.toInt) else if q = 4 then decide (y.toInt ≤ x.toInt) else if q = 5 then decide (y.toInt < x.toInt) else decide (x.toInt % 4294967296 < y.toInt % 4294967296)) := rfl
                  rw [hh]
                  clear hh
                  first
                    | (rw [if_pos (show q = 0 by omega)]; first | (rw [decide_eq_true (by omega)]; rfl) | (rw [decide_eq_false (by omega)]; rfl))
                    | (rw [if_neg (show ¬ q = 0 by omega), if_pos (show q = 1 by omega)]; first | (rw [decide_eq_true (by omega)]; rfl) | (rw [decide_eq_false (by omega)]; rfl))
                    | (rw [if_neg (show ¬ q = 0 by omega), if_neg (show ¬ q = 1 by omega), if_pos (show q = 2 by omega)]; first | (rw [decide_eq_true (by omega)]; rfl) | (rw [decide_eq_false (by omega)]; rfl))
                    | (rw [if_neg (show ¬ q = 0 by omega), if_neg (show ¬ q = 1 by omega), if_neg (show ¬ q = 2 by omega), if_pos (show q = 3 by omega)]; first | (rw [decide_eq_true (by omega)]; rfl) | (rw [decide_eq_false (by omega)]; rfl))
                    | (rw [if_neg (show ¬ q = 0 by omega), if_neg (show ¬ q = 1 by omega), if_neg (show ¬ q = 2 by omega), if_neg (show ¬ q = 3 by omega), if_pos (show q = 4 by omega)]; first | (rw [decide_eq_true (by omega)]; rfl) | (rw [decide_eq_false (by omega)]; rfl))
                    | (rw [if_neg (show ¬ q = 0 by omega), if_neg (show ¬ q = 1 by omega), if_neg (show ¬ q = 2 by omega), if_neg (show ¬ q = 3 by omega), if_neg (show ¬ q = 4 by omega), if_pos (show q = 5 by omega)]; first | (rw [decide_eq_true (by omega)]; rfl) | (rw [decide_eq_false (by omega)]; rfl))
                    | (rw [if_neg (show ¬ q = 0 by omega), if_neg (show ¬ q = 1 by omega), if_neg (show ¬ q = 2 by omega), if_neg (show ¬ q = 3 by omega), if_neg (show ¬ q = 4 by omega), if_neg (show ¬ q = 5 by omega)]; first | (rw [decide_eq_true (by omega)]; rfl) | (rw [decide_eq_false (by omega)]; rfl)))

set_option maxHeartbeats 4000000 in
set_option maxRecDepth 100000 in
theorem c_cut (M : gM) (n : Nat) (x t : Int32) (ht : 0 ≤ t.toInt ∧ t.toInt ≤ 2) : GM μX7_cut 0 0 0 0 [.int x, .int t] M n (fun r M1 n1 => r = some (.int (iZ (cutZ t x.toInt))) ∧ M1 = M ∧ n1 = n) := by
  refine GM.ofW (by decide) rfl (Nat.le_of_ble_eq_true rfl) rfl ?_
  refine g_iload_n dX7_cut_0 rfl ?_
  have h3 : t = 0 ∨ t = 1 ∨ t = 2 := by
    have h9 : t.toInt = 0 ∨ t.toInt = 1 ∨ t.toInt = 2 := by omega
    rcases h9 with h | h | h
    · exact Or.inl (Int32.toInt_inj.mp (by rw [h]; rfl))
    · exact Or.inr (Or.inl (Int32.toInt_inj.mp (by rw [h]; rfl)))
    · exact Or.inr (Or.inr (Int32.toInt_inj.mp (by rw [h]; rfl)))
  rcases h3 with rfl | rfl | rfl
  · refine g_lookup (off := 27) (tgt := 28) dX7_cut_1 (by decide) rfl (by decide) ?_
    refine g_iload_n dX7_cut_28 rfl ?_
    refine g_i2b dX7_cut_29 ?_
    exact g_iret dX7_cut_30 (Or.inl rfl) (Nat.le_refl _) (Nat.le_refl _) ⟨by rw [i_cutb]; rfl, rfl, rfl⟩
  · refine g_lookup (off := 30) (tgt := 31) dX7_cut_1 (by decide) rfl (by decide) ?_
    refine g_iload_n dX7_cut_31 rfl ?_
    refine g_i2s dX7_cut_32 ?_
    exact g_iret dX7_cut_33 (Or.inl rfl) (Nat.le_refl _) (Nat.le_refl _) ⟨by rw [i_cuts]; rfl, rfl, rfl⟩
  · refine g_lookup (off := 33) (tgt := 34) dX7_cut_1 (by decide) rfl (by decide) ?_
    refine g_iload_n dX7_cut_34 rfl ?_
    refine g_i2c dX7_cut_35 ?_
    exact g_iret dX7_cut_36 (Or.inl rfl) (Nat.le_refl _) (Nat.le_refl _) ⟨by rw [i_cutc]; show _ = some (Value.int (iZ (0 + (x.toInt - 0) % 65536))); rw [Int.zero_add, Int.sub_zero], rfl, rfl⟩
set_option maxHeartbeats 4000000 in
set_option maxRecDepth 100000 in
theorem c_result (M1 : gM) (n q p e : Nat) (s : St) (l : Int) (now : Nat → Int32) (hq : qR M1 q p) (hs : sQ M1 e s) (hv : vS s) (hl : mJ M1 q 2 = jI l) (h0 : okK l) (hn : ∀ p, p < 8 → mI M1 (q + 1) p = now p) (hk : s.1 ≤ 6 ∨ s.1 = 9 ∨ s.1 = 10) : GM μX7_resultOf 1 24 0 0 [.ref q, .ref e] M1 n (fun r M2 n1 => r = some (.int (vV s (atP now s.2.2.1) (atP now s.2.2.2) l)) ∧ M2 = (if s.1 = 10 then stJ M1 q 2 (jI (lk1 l)) else M1) ∧ n1 = n) := by
  refine GM.ofW (by decide) rfl (Nat.le_of_ble_eq_true rfl) rfl ?_
  have h19 := hv.1
  refine g_aload_n dX7_resultOf_0 rfl ?_
  refine g_getI (f := 0) dX7_resultOf_1 cl5 hs.1 (by decide) (Or.inr (List.mem_of_getElem? (i := 37) rfl)) (Or.inl rfl) (Or.inl rfl) ?_
  rw [hs.2.1]
  by_cases t_4_0 : (s.1 : Int) = 0
  · skip
    refine g_tableIn (off := 56) (tgt := 60) dX7_resultOf_4 (by rw [nI_t (by omega)]; omega) (by rw [nI_t (by omega)]; omega) (by rw [nI_t (by omega)]; rw [t_4_0]; rfl) (by decide) ?_
    refine g_aload_n dX7_resultOf_60 rfl ?_
    refine g_getI (f := 2) dX7_resultOf_61 cl5 hs.1 (by decide) (Or.inr (List.mem_of_getElem? (i := 39) rfl)) (Or.inl rfl) (Or.inl rfl) ?_
    rw [hs.2.2.2.1]
    exact g_iret dX7_resultOf_64 (Or.inl rfl) (Nat.le_of_ble_eq_true rfl) (Nat.le_of_ble_eq_true rfl) ⟨by unfold vV; rw [if_pos (show s.1 = 0 by omega)]  , by rw [if_neg (by omega)], rfl⟩
  · skip
    by_cases t_4_1 : (s.1 : Int) = 1
    · skip
      refine g_tableIn (off := 61) (tgt := 65) dX7_resultOf_4 (by rw [nI_t (by omega)]; omega) (by rw [nI_t (by omega)]; omega) (by rw [nI_t (by omega)]; rw [t_4_1]; rfl) (by decide) ?_
      have hb := hv.2.2.1 (by omega)
      have ab : atP now s.2.2.1 = now (pl s.2.2.1) := by unfold atP; rw [if_pos hb]
      refine g_aload_n dX7_resultOf_65 rfl ?_
      refine g_getR (f := 1) dX7_resultOf_66 cl8 hq.1 (by decide) (Or.inl (iw_5 13 rfl)) (Or.inl rfl) rfl hq.2.2.1 ?_
      refine g_aload_n dX7_resultOf_69 rfl ?_
      refine g_getI (f := 2) dX7_resultOf_70 cl5 hs.1 (by decide) (Or.inr (List.mem_of_getElem? (i := 39) rfl)) (Or.inl rfl) (Or.inl rfl) ?_
      rw [hs.2.2.2.1]
      refine g_iaload dX7_resultOf_73 (j := pl s.2.2.1) hq.2.2.2.1 hq.2.2.2.2 hb.eq hb.lt (by decide) ?_
      rw [hn _ hb.lt]
      exact g_iret dX7_resultOf_74 (Or.inl rfl) (Nat.le_of_ble_eq_true rfl) (Nat.le_of_ble_eq_true rfl) ⟨by unfold vV; rw [if_neg (show ¬ s.1 = 0 by omega), if_pos (show s.1 = 1 by omega)]; rw [ab], by rw [if_neg (by omega)], rfl⟩
    · skip
      by_cases t_4_2 : (s.1 : Int) = 2
      · skip
        refine g_tableIn (off := 71) (tgt := 75) dX7_resultOf_4 (by rw [nI_t (by omega)]; omega) (by rw [nI_t (by omega)]; omega) (by rw [nI_t (by omega)]; rw [t_4_2]; rfl) (by decide) ?_
        have hb := hv.2.2.1 (by omega)
        have hc := hv.2.2.2.1 (by omega)
        have ab : atP now s.2.2.1 = now (pl s.2.2.1) := by unfold atP; rw [if_pos hb]
        have ac : atP now s.2.2.2 = now (pl s.2.2.2) := by unfold atP; rw [if_pos hc]
        refine g_aload_n dX7_resultOf_75 rfl ?_
        refine g_getR (f := 1) dX7_resultOf_76 cl8 hq.1 (by decide) (Or.inl (iw_5 13 rfl)) (Or.inl rfl) rfl hq.2.2.1 ?_
        refine g_aload_n dX7_resultOf_79 rfl ?_
        refine g_getI (f := 2) dX7_resultOf_80 cl5 hs.1 (by decide) (Or.inr (List.mem_of_getElem? (i := 39) rfl)) (Or.inl rfl) (Or.inl rfl) ?_
        rw [hs.2.2.2.1]
        refine g_iaload dX7_resultOf_83 (j := pl s.2.2.1) hq.2.2.2.1 hq.2.2.2.2 hb.eq hb.lt (by decide) ?_
        rw [hn _ hb.lt]
        refine g_aload_n dX7_resultOf_84 rfl ?_
        refine g_getR (f := 1) dX7_resultOf_85 cl8 hq.1 (by decide) (Or.inl (iw_5 13 rfl)) (Or.inl rfl) rfl hq.2.2.1 ?_
        refine g_aload_n dX7_resultOf_88 rfl ?_
        refine g_getI (f := 3) dX7_resultOf_89 cl5 hs.1 (by decide) (Or.inr (List.mem_of_getElem? (i := 32) rfl)) (Or.inl rfl) (Or.inl rfl) ?_
        rw [hs.2.2.2.2.1]
        refine g_iaload dX7_resultOf_92 (j := pl s.2.2.2) hq.2.2.2.1 hq.2.2.2.2 hc.eq hc.lt (by decide) ?_
        rw [hn _ hc.lt]
        refine g_iadd dX7_resultOf_93 ?_
        exact g_iret dX7_resultOf_94 (Or.inl rfl) (Nat.le_of_ble_eq_true rfl) (Nat.le_of_ble_eq_true rfl) ⟨by unfold vV; rw [if_neg (show ¬ s.1 = 0 by omega), if_neg (show ¬ s.1 = 1 by omega), if_pos (show s.1 = 2 by omega)]; rw [ab, ac], by rw [if_neg (by omega)], rfl⟩
      · skip
        by_cases t_4_3 : (s.1 : Int) = 3
        · skip
          refine g_tableIn (off := 91) (tgt := 95) dX7_resultOf_4 (by rw [nI_t (by omega)]; omega) (by rw [nI_t (by omega)]; omega) (by rw [nI_t (by omega)]; rw [t_4_3]; rfl) (by decide) ?_
          have hb := hv.2.2.1 (by omega)
          have hc := hv.2.2.2.1 (by omega)
          have ab : atP now s.2.2.1 = now (pl s.2.2.1) := by unfold atP; rw [if_pos hb]
          have ac : atP now s.2.2.2 = now (pl s.2.2.2) := by unfold atP; rw [if_pos hc]
          refine g_aload_n dX7_resultOf_95 rfl ?_
          refine g_getR (f := 1) dX7_resultOf_96 cl8 hq.1 (by decide) (Or.inl (iw_5 13 rfl)) (Or.inl rfl) rfl hq.2.2.1 ?_
          refine g_aload_n dX7_resultOf_99 rfl ?_
          refine g_getI (f := 2) dX7_resultOf_100 cl5 hs.1 (by decide) (Or.inr (List.mem_of_getElem? (i := 39) rfl)) (Or.inl rfl) (Or.inl rfl) ?_
          rw [hs.2.2.2.1]
          refine g_iaload dX7_resultOf_103 (j := pl s.2.2.1) hq.2.2.2.1 hq.2.2.2.2 hb.eq hb.lt (by decide) ?_
          rw [hn _ hb.lt]
          refine g_aload_n dX7_resultOf_104 rfl ?_
          refine g_getR (f := 1) dX7_resultOf_105 cl8 hq.1 (by decide) (Or.inl (iw_5 13 rfl)) (Or.inl rfl) rfl hq.2.2.1 ?_
          refine g_aload_n dX7_resultOf_108 rfl ?_
          refine g_getI (f := 3) dX7_resultOf_109 cl5 hs.1 (by decide) (Or.inr (List.mem_of_getElem? (i := 32) rfl)) (Or.inl rfl) (Or.inl rfl) ?_
          rw [hs.2.2.2.2.1]
          refine g_iaload dX7_resultOf_112 (j := pl s.2.2.2) hq.2.2.2.1 hq.2.2.2.2 hc.eq hc.lt (by decide) ?_
          rw [hn _ hc.lt]
          refine g_isub dX7_resultOf_113 ?_
          exact g_iret dX7_resultOf_114 (Or.inl rfl) (Nat.le_of_ble_eq_true rfl) (Nat.le_of_ble_eq_true rfl) ⟨by unfold vV; rw [if_neg (show ¬ s.1 = 0 by omega), if_neg (show ¬ s.1 = 1 by omega), if_neg (show ¬ s.1 = 2 by omega), if_pos (show s.1 = 3 by omega)]; rw [ab, ac], by rw [if_neg (by omega)], rfl⟩
        · skip
          by_cases t_4_4 : (s.1 : Int) = 4
          · skip
            refine g_tableIn (off := 111) (tgt := 115) dX7_resultOf_4 (by rw [nI_t (by omega)]; omega) (by rw [nI_t (by omega)]; omega) (by rw [nI_t (by omega)]; rw [t_4_4]; rfl) (by decide) ?_
            have hb := hv.2.2.1 (by omega)
            have hc := hv.2.2.2.1 (by omega)
            have ab : atP now s.2.2.1 = now (pl s.2.2.1) := by unfold atP; rw [if_pos hb]
            have ac : atP now s.2.2.2 = now (pl s.2.2.2) := by unfold atP; rw [if_pos hc]
            refine g_aload_n dX7_resultOf_115 rfl ?_
            refine g_getR (f := 1) dX7_resultOf_116 cl8 hq.1 (by decide) (Or.inl (iw_5 13 rfl)) (Or.inl rfl) rfl hq.2.2.1 ?_
            refine g_aload_n dX7_resultOf_119 rfl ?_
            refine g_getI (f := 2) dX7_resultOf_120 cl5 hs.1 (by decide) (Or.inr (List.mem_of_getElem? (i := 39) rfl)) (Or.inl rfl) (Or.inl rfl) ?_
            rw [hs.2.2.2.1]
            refine g_iaload dX7_resultOf_123 (j := pl s.2.2.1) hq.2.2.2.1 hq.2.2.2.2 hb.eq hb.lt (by decide) ?_
            rw [hn _ hb.lt]
            refine g_aload_n dX7_resultOf_124 rfl ?_
            refine g_getR (f := 1) dX7_resultOf_125 cl8 hq.1 (by decide) (Or.inl (iw_5 13 rfl)) (Or.inl rfl) rfl hq.2.2.1 ?_
            refine g_aload_n dX7_resultOf_128 rfl ?_
            refine g_getI (f := 3) dX7_resultOf_129 cl5 hs.1 (by decide) (Or.inr (List.mem_of_getElem? (i := 32) rfl)) (Or.inl rfl) (Or.inl rfl) ?_
            rw [hs.2.2.2.2.1]
            refine g_iaload dX7_resultOf_132 (j := pl s.2.2.2) hq.2.2.2.1 hq.2.2.2.2 hc.eq hc.lt (by decide) ?_
            rw [hn _ hc.lt]
            refine g_imul dX7_resultOf_133 ?_
            exact g_iret dX7_resultOf_134 (Or.inl rfl) (Nat.le_of_ble_eq_true rfl) (Nat.le_of_ble_eq_true rfl) ⟨by unfold vV; rw [if_neg (show ¬ s.1 = 0 by omega), if_neg (show ¬ s.1 = 1 by omega), if_neg (show ¬ s.1 = 2 by omega), if_neg (show ¬ s.1 = 3 by omega), if_pos (show s.1 = 4 by omega)]; rw [ab, ac], by rw [if_neg (by omega)], rfl⟩
          · skip
            by_cases t_4_5 : (s.1 : Int) = 5
            · skip
              refine g_tableIn (off := 131) (tgt := 135) dX7_resultOf_4 (by rw [nI_t (by omega)]; omega) (by rw [nI_t (by omega)]; omega) (by rw [nI_t (by omega)]; rw [t_4_5]; rfl) (by decide) ?_
              have hb := hv.2.2.1 (by omega)
              have ab : atP now s.2.2.1 = now (pl s.2.2.1) := by unfold atP; rw [if_pos hb]
              refine g_aload_n dX7_resultOf_135 rfl ?_
              refine g_getR (f := 1) dX7_resultOf_136 cl8 hq.1 (by decide) (Or.inl (iw_5 13 rfl)) (Or.inl rfl) rfl hq.2.2.1 ?_
              refine g_aload_n dX7_resultOf_139 rfl ?_
              refine g_getI (f := 2) dX7_resultOf_140 cl5 hs.1 (by decide) (Or.inr (List.mem_of_getElem? (i := 39) rfl)) (Or.inl rfl) (Or.inl rfl) ?_
              rw [hs.2.2.2.1]
              refine g_iaload dX7_resultOf_143 (j := pl s.2.2.1) hq.2.2.2.1 hq.2.2.2.2 hb.eq hb.lt (by decide) ?_
              rw [hn _ hb.lt]
              refine g_aload_n dX7_resultOf_144 rfl ?_
              refine g_getI (f := 3) dX7_resultOf_145 cl5 hs.1 (by decide) (Or.inr (List.mem_of_getElem? (i := 32) rfl)) (Or.inl rfl) (Or.inl rfl) ?_
              rw [hs.2.2.2.2.1]
              refine g_iand dX7_resultOf_148 ?_
              exact g_iret dX7_resultOf_149 (Or.inl rfl) (Nat.le_of_ble_eq_true rfl) (Nat.le_of_ble_eq_true rfl) ⟨by unfold vV; rw [if_neg (show ¬ s.1 = 0 by omega), if_neg (show ¬ s.1 = 1 by omega), if_neg (show ¬ s.1 = 2 by omega), if_neg (show ¬ s.1 = 3 by omega), if_neg (show ¬ s.1 = 4 by omega), if_pos (show s.1 = 5 by omega)]; rw [ab], by rw [if_neg (by omega)], rfl⟩
            · skip
              by_cases t_4_6 : (s.1 : Int) = 6
              · skip
                refine g_tableIn (off := 146) (tgt := 150) dX7_resultOf_4 (by rw [nI_t (by omega)]; omega) (by rw [nI_t (by omega)]; omega) (by rw [nI_t (by omega)]; rw [t_4_6]; rfl) (by decide) ?_
                have hb := hv.2.2.1 (by omega)
                have ab : atP now s.2.2.1 = now (pl s.2.2.1) := by unfold atP; rw [if_pos hb]
                have h31 := hv.2.2.2.2.2.1 (by omega)
                refine g_aload_n dX7_resultOf_150 rfl ?_
                refine g_getR (f := 1) dX7_resultOf_151 cl8 hq.1 (by decide) (Or.inl (iw_5 13 rfl)) (Or.inl rfl) rfl hq.2.2.1 ?_
                refine g_aload_n dX7_resultOf_154 rfl ?_
                refine g_getI (f := 2) dX7_resultOf_155 cl5 hs.1 (by decide) (Or.inr (List.mem_of_getElem? (i := 39) rfl)) (Or.inl rfl) (Or.inl rfl) ?_
                rw [hs.2.2.2.1]
                refine g_iaload dX7_resultOf_158 (j := pl s.2.2.1) hq.2.2.2.1 hq.2.2.2.2 hb.eq hb.lt (by decide) ?_
                rw [hn _ hb.lt]
                refine g_aload_n dX7_resultOf_159 rfl ?_
                refine g_getI (f := 3) dX7_resultOf_160 cl5 hs.1 (by decide) (Or.inr (List.mem_of_getElem? (i := 32) rfl)) (Or.inl rfl) (Or.inl rfl) ?_
                rw [hs.2.2.2.2.1]
                refine g_ishr dX7_resultOf_163 ?_
                exact g_iret dX7_resultOf_164 (Or.inl rfl) (Nat.le_of_ble_eq_true rfl) (Nat.le_of_ble_eq_true rfl) ⟨by unfold vV; rw [if_neg (show ¬ s.1 = 0 by omega), if_neg (show ¬ s.1 = 1 by omega), if_neg (show ¬ s.1 = 2 by omega), if_neg (show ¬ s.1 = 3 by omega), if_neg (show ¬ s.1 = 4 by omega), if_neg (show ¬ s.1 = 5 by omega), if_pos (show s.1 = 6 by omega)]; have hsh := iZ_shr (now (pl s.2.2.1)) (t := pl s.2.2.2) (by unfold pl; omega); rw [← pl_eq h31.1] at hsh; rw [ab, hsh], by rw [if_neg (by omega)], rfl⟩
              · skip
                by_cases t_4_7 : (s.1 : Int) = 7 ∨ (s.1 : Int) = 8
                · skip
                  refine g_tableIn (off := 178) (tgt := 182) dX7_resultOf_4 (by rw [nI_t (by omega)]; omega) (by rw [nI_t (by omega)]; omega) (by rw [nI_t (by omega)]; rcases t_4_7 with h9 | h9 <;> rw [h9] <;> rfl) (by decide) ?_
                  refine g_aload_n dX7_resultOf_182 rfl ?_
                  refine g_aload_n dX7_resultOf_183 rfl ?_
                  refine g_getI (f := 2) dX7_resultOf_184 cl5 hs.1 (by decide) (Or.inr (List.mem_of_getElem? (i := 39) rfl)) (Or.inl rfl) (Or.inl rfl) ?_
                  rw [hs.2.2.2.1]
                  refine g_aload_n dX7_resultOf_187 rfl ?_
                  refine g_getI (f := 3) dX7_resultOf_188 cl5 hs.1 (by decide) (Or.inr (List.mem_of_getElem? (i := 32) rfl)) (Or.inl rfl) (Or.inl rfl) ?_
                  rw [hs.2.2.2.2.1]
                  have h10 := hv.2.2.2.2.2.2.2.1 (by omega)
                  have hany := c_anyOf M1 n q l s.2.2.1.toInt s.2.2.2.toInt hq.1 hl h0 (i_rng _) (i_rng _) h10
                  simp only [← iZ_of] at hany
                  refine g_callV dX7_resultOf_191 sX7_anyOf hany cl8 hq.1 iX7_anyOf vX7_anyOf (iw_36 11 rfl) rfl rfl (Nat.le_of_ble_eq_true rfl) (Nat.le_of_ble_eq_true rfl) (Nat.le_of_ble_eq_true rfl) (Nat.le_of_ble_eq_true rfl) (Nat.le_of_ble_eq_true rfl) ?_
                  intro r9 M9 n9 h9
                  obtain ⟨h91, h92, h93⟩ := h9
                  rw [h91, h92, h93]
                  clear h91 h92 h93 r9 M9 n9
                  exact g_iret dX7_resultOf_194 (Or.inl rfl) (Nat.le_of_ble_eq_true rfl) (Nat.le_of_ble_eq_true rfl) ⟨by unfold vV; rw [if_neg (show ¬ s.1 = 0 by omega), if_neg (show ¬ s.1 = 1 by omega), if_neg (show ¬ s.1 = 2 by omega), if_neg (show ¬ s.1 = 3 by omega), if_neg (show ¬ s.1 = 4 by omega), if_neg (show ¬ s.1 = 5 by omega), if_neg (show ¬ s.1 = 6 by omega), if_neg (show ¬ s.1 = 7 by omega), if_neg (show ¬ s.1 = 8 by omega), if_neg (show ¬ s.1 = 9 by omega)], by rw [if_pos (by omega)], rfl⟩
                · skip
                  by_cases t_4_9 : (s.1 : Int) = 9
                  · skip
                    refine g_tableIn (off := 161) (tgt := 165) dX7_resultOf_4 (by rw [nI_t (by omega)]; omega) (by rw [nI_t (by omega)]; omega) (by rw [nI_t (by omega)]; rw [t_4_9]; rfl) (by decide) ?_
                    have hb := hv.2.2.1 (by omega)
                    have ab : atP now s.2.2.1 = now (pl s.2.2.1) := by unfold atP; rw [if_pos hb]
                    have h2 := hv.2.2.2.2.2.2.1 (by omega)
                    refine g_aload_n dX7_resultOf_165 rfl ?_
                    refine g_getR (f := 1) dX7_resultOf_166 cl8 hq.1 (by decide) (Or.inl (iw_5 13 rfl)) (Or.inl rfl) rfl hq.2.2.1 ?_
                    refine g_aload_n dX7_resultOf_169 rfl ?_
                    refine g_getI (f := 2) dX7_resultOf_170 cl5 hs.1 (by decide) (Or.inr (List.mem_of_getElem? (i := 39) rfl)) (Or.inl rfl) (Or.inl rfl) ?_
                    rw [hs.2.2.2.1]
                    refine g_iaload dX7_resultOf_173 (j := pl s.2.2.1) hq.2.2.2.1 hq.2.2.2.2 hb.eq hb.lt (by decide) ?_
                    rw [hn _ hb.lt]
                    refine g_aload_n dX7_resultOf_174 rfl ?_
                    refine g_getI (f := 3) dX7_resultOf_175 cl5 hs.1 (by decide) (Or.inr (List.mem_of_getElem? (i := 32) rfl)) (Or.inl rfl) (Or.inl rfl) ?_
                    rw [hs.2.2.2.2.1]
                    refine g_callS dX7_resultOf_178 sX7_cut (c_cut M1 n (now (pl s.2.2.1)) s.2.2.2 h2) tX7_cut (iw_37 12 rfl) rfl rfl (Nat.le_of_ble_eq_true rfl) (Nat.le_of_ble_eq_true rfl) (Nat.le_of_ble_eq_true rfl) (Nat.le_of_ble_eq_true rfl) (Nat.le_of_ble_eq_true rfl) ?_
                    intro r9 M9 n9 h9
                    obtain ⟨h91, h92, h93⟩ := h9
                    rw [h91, h92, h93]
                    clear h91 h92 h93 r9 M9 n9
                    exact g_iret dX7_resultOf_181 (Or.inl rfl) (Nat.le_of_ble_eq_true rfl) (Nat.le_of_ble_eq_true rfl) ⟨by unfold vV; rw [if_neg (show ¬ s.1 = 0 by omega), if_neg (show ¬ s.1 = 1 by omega), if_neg (show ¬ s.1 = 2 by omega), if_neg (show ¬ s.1 = 3 by omega), if_neg (show ¬ s.1 = 4 by omega), if_neg (show ¬ s.1 = 5 by omega), if_neg (show ¬ s.1 = 6 by omega), if_neg (show ¬ s.1 = 7 by omega), if_neg (show ¬ s.1 = 8 by omega), if_pos (show s.1 = 9 by omega)]; rw [ab], by rw [if_neg (by omega)], rfl⟩
                  · skip
                    refine g_tableOut (tgt := 182) dX7_resultOf_4 (by rw [nI_t (by omega)]; omega) (by decide) ?_
                    refine g_aload_n dX7_resultOf_182 rfl ?_
                    refine g_aload_n dX7_resultOf_183 rfl ?_
                    refine g_getI (f := 2) dX7_resultOf_184 cl5 hs.1 (by decide) (Or.inr (List.mem_of_getElem? (i := 39) rfl)) (Or.inl rfl) (Or.inl rfl) ?_
                    rw [hs.2.2.2.1]
                    refine g_aload_n dX7_resultOf_187 rfl ?_
                    refine g_getI (f := 3) dX7_resultOf_188 cl5 hs.1 (by decide) (Or.inr (List.mem_of_getElem? (i := 32) rfl)) (Or.inl rfl) (Or.inl rfl) ?_
                    rw [hs.2.2.2.2.1]
                    have h10 := hv.2.2.2.2.2.2.2.1 (by omega)
                    have hany := c_anyOf M1 n q l s.2.2.1.toInt s.2.2.2.toInt hq.1 hl h0 (i_rng _) (i_rng _) h10
                    simp only [← iZ_of] at hany
                    refine g_callV dX7_resultOf_191 sX7_anyOf hany cl8 hq.1 iX7_anyOf vX7_anyOf (iw_36 11 rfl) rfl rfl (Nat.le_of_ble_eq_true rfl) (Nat.le_of_ble_eq_true rfl) (Nat.le_of_ble_eq_true rfl) (Nat.le_of_ble_eq_true rfl) (Nat.le_of_ble_eq_true rfl) ?_
                    intro r9 M9 n9 h9
                    obtain ⟨h91, h92, h93⟩ := h9
                    rw [h91, h92, h93]
                    clear h91 h92 h93 r9 M9 n9
                    exact g_iret dX7_resultOf_194 (Or.inl rfl) (Nat.le_of_ble_eq_true rfl) (Nat.le_of_ble_eq_true rfl) ⟨by unfold vV; rw [if_neg (show ¬ s.1 = 0 by omega), if_neg (show ¬ s.1 = 1 by omega), if_neg (show ¬ s.1 = 2 by omega), if_neg (show ¬ s.1 = 3 by omega), if_neg (show ¬ s.1 = 4 by omega), if_neg (show ¬ s.1 = 5 by omega), if_neg (show ¬ s.1 = 6 by omega), if_neg (show ¬ s.1 = 7 by omega), if_neg (show ¬ s.1 = 8 by omega), if_neg (show ¬ s.1 = 9 by omega)], by rw [if_pos (by omega)], rfl⟩

