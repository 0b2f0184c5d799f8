/-! the reference: its cells, and its smallest methods -/
def bI (p : Bool) : Int32 := if p then 1 else 0
/-- an object of the reference at m, its rows behind it -/
def gMod (M : gM) (m : Nat) : Prop := mK M m = 10 ∧ (mR M m 1 = some (m + 1) ∧ mR M m 2 = some (m + 2) ∧ mR M m 4 = some (m + 3) ∧ mR M m 5 = some (m + 4) ∧ mR M m 7 = some (m + 5) ∧ mR M m 8 = some (m + 6) ∧ mR M m 9 = some (m + 7) ∧ mR M m 10 = some (m + 8) ∧ mR M m 12 = some (m + 9) ∧ mR M m 16 = some (m + 10) ∧ mR M m 18 = some (m + 11))
  ∧ (mK M (m + 1) = 11 ∧ mK M (m + 2) = 12 ∧ mK M (m + 3) = 12 ∧ mK M (m + 4) = 12 ∧ mK M (m + 5) = 11 ∧ mK M (m + 6) = 11 ∧ mK M (m + 7) = 11 ∧ mK M (m + 8) = 11 ∧ mK M (m + 9) = 13 ∧ mK M (m + 10) = 11 ∧ mK M (m + 11) = 11)
  ∧ (mN M (m + 1) = 360 ∧ mN M (m + 2) = 1440 ∧ mN M (m + 3) = 64 ∧ mN M (m + 4) = 64 ∧ mN M (m + 5) = 40 ∧ mN M (m + 6) = 40 ∧ mN M (m + 7) = 40 ∧ mN M (m + 8) = 40 ∧ mN M (m + 9) = 40 ∧ mN M (m + 10) = 40 ∧ mN M (m + 11) = 8)
section
variable {M : gM} {m : Nat} (h : gMod M m)
theorem gMod.r_many {M : gM} {m : Nat} (h : gMod M m) : mR M m 1 = some (m + 1) := h.2.1.1
theorem gMod.k_many {M : gM} {m : Nat} (h : gMod M m) : mK M (m + 1) = 11 := h.2.2.1.1
theorem gMod.n_many {M : gM} {m : Nat} (h : gMod M m) : mN M (m + 1) = 360 := h.2.2.2.1
theorem gMod.r_ends {M : gM} {m : Nat} (h : gMod M m) : mR M m 2 = some (m + 2) := h.2.1.2.1
theorem gMod.k_ends {M : gM} {m : Nat} (h : gMod M m) : mK M (m + 2) = 12 := h.2.2.1.2.1
theorem gMod.n_ends {M : gM} {m : Nat} (h : gMod M m) : mN M (m + 2) = 1440 := h.2.2.2.2.1
theorem gMod.r_from {M : gM} {m : Nat} (h : gMod M m) : mR M m 4 = some (m + 3) := h.2.1.2.2.1
theorem gMod.k_from {M : gM} {m : Nat} (h : gMod M m) : mK M (m + 3) = 12 := h.2.2.1.2.2.1
theorem gMod.n_from {M : gM} {m : Nat} (h : gMod M m) : mN M (m + 3) = 64 := h.2.2.2.2.2.1
theorem gMod.r_to {M : gM} {m : Nat} (h : gMod M m) : mR M m 5 = some (m + 4) := h.2.1.2.2.2.1
theorem gMod.k_to {M : gM} {m : Nat} (h : gMod M m) : mK M (m + 4) = 12 := h.2.2.1.2.2.2.1
theorem gMod.n_to {M : gM} {m : Nat} (h : gMod M m) : mN M (m + 4) = 64 := h.2.2.2.2.2.2.1
theorem gMod.r_kind {M : gM} {m : Nat} (h : gMod M m) : mR M m 7 = some (m + 5) := h.2.1.2.2.2.2.1
theorem gMod.k_kind {M : gM} {m : Nat} (h : gMod M m) : mK M (m + 5) = 11 := h.2.2.1.2.2.2.2.1
theorem gMod.n_kind {M : gM} {m : Nat} (h : gMod M m) : mN M (m + 5) = 40 := h.2.2.2.2.2.2.2.1
theorem gMod.r_argA {M : gM} {m : Nat} (h : gMod M m) : mR M m 8 = some (m + 6) := h.2.1.2.2.2.2.2.1
theorem gMod.k_argA {M : gM} {m : Nat} (h : gMod M m) : mK M (m + 6) = 11 := h.2.2.1.2.2.2.2.2.1
theorem gMod.n_argA {M : gM} {m : Nat} (h : gMod M m) : mN M (m + 6) = 40 := h.2.2.2.2.2.2.2.2.1
theorem gMod.r_argB {M : gM} {m : Nat} (h : gMod M m) : mR M m 9 = some (m + 7) := h.2.1.2.2.2.2.2.2.1
theorem gMod.k_argB {M : gM} {m : Nat} (h : gMod M m) : mK M (m + 7) = 11 := h.2.2.1.2.2.2.2.2.2.1
theorem gMod.n_argB {M : gM} {m : Nat} (h : gMod M m) : mN M (m + 7) = 40 := h.2.2.2.2.2.2.2.2.2.1
theorem gMod.r_argC {M : gM} {m : Nat} (h : gMod M m) : mR M m 10 = some (m + 8) := h.2.1.2.2.2.2.2.2.2.1
theorem gMod.k_argC {M : gM} {m : Nat} (h : gMod M m) : mK M (m + 8) = 11 := h.2.2.1.2.2.2.2.2.2.2.1
theorem gMod.n_argC {M : gM} {m : Nat} (h : gMod M m) : mN M (m + 8) = 40 := h.2.2.2.2.2.2.2.2.2.2.1
theorem gMod.r_reached {M : gM} {m : Nat} (h : gMod M m) : mR M m 12 = some (m + 9) := h.2.1.2.2.2.2.2.2.2.2.1
theorem gMod.k_reached {M : gM} {m : Nat} (h : gMod M m) : mK M (m + 9) = 13 := h.2.2.1.2.2.2.2.2.2.2.2.1
theorem gMod.n_reached {M : gM} {m : Nat} (h : gMod M m) : mN M (m + 9) = 40 := h.2.2.2.2.2.2.2.2.2.2.2.1
theorem gMod.r_changes {M : gM} {m : Nat} (h : gMod M m) : mR M m 16 = some (m + 10) := h.2.1.2.2.2.2.2.2.2.2.2.1
theorem gMod.k_changes {M : gM} {m : Nat} (h : gMod M m) : mK M (m + 10) = 11 := h.2.2.1.2.2.2.2.2.2.2.2.2.1
theorem gMod.n_changes {M : gM} {m : Nat} (h : gMod M m) : mN M (m + 10) = 40 := h.2.2.2.2.2.2.2.2.2.2.2.2.1
theorem gMod.r_now {M : gM} {m : Nat} (h : gMod M m) : mR M m 18 = some (m + 11) := h.2.1.2.2.2.2.2.2.2.2.2.2
theorem gMod.k_now {M : gM} {m : Nat} (h : gMod M m) : mK M (m + 11) = 11 := h.2.2.1.2.2.2.2.2.2.2.2.2.2
theorem gMod.n_now {M : gM} {m : Nat} (h : gMod M m) : mN M (m + 11) = 8 := h.2.2.2.2.2.2.2.2.2.2.2.2.2
end
theorem gMod.off {M M1 : gM} {m : Nat} {S : Nat → Nat → Prop} (h : gMod M m) (ho : Off M M1 S) : gMod M1 m := by
  unfold gMod
  rw [ho.1, ho.2.1, ho.2.2.1]
  exact h
set_option maxHeartbeats 4000000 in
set_option maxRecDepth 100000 in
theorem m_isIn (M : gM) (n : Nat) (v a b : Int64) : GM μX9_isIn 0 0 0 0 [.long v, .long a, .long b] M n (fun r M1 n1 => r = some (.int (bI (decide (a ≤ v ∧ v ≤ b)))) ∧ M1 = M ∧ n1 = n) := by
  refine GM.ofW (by decide) rfl (Nat.le_of_ble_eq_true rfl) rfl ?_
  refine g_lload_n dX9_isIn_0 rfl ?_
  refine g_lload_n dX9_isIn_1 rfl ?_
  refine g_lcmp dX9_isIn_2 ?_
  refine g_if_lt (tgt := 17) dX9_isIn_3 (by decide) (fun c_3 => ?_) (fun c_3 => ?_)
  · skip
    refine g_iconst (v := nI 0) dX9_isIn_17 rfl ?_
    exact g_iret dX9_isIn_18 (Or.inr ⟨rfl, by first | exact Or.inl rfl | exact Or.inr rfl⟩) (Nat.le_of_ble_eq_true rfl) (Nat.le_of_ble_eq_true rfl) ⟨by simp only [lg_cmp_lt, lg_cmp_gt, lg_cmp_le, lg_cmp_ge, Int64.lt_iff_toInt_lt, Int64.le_iff_toInt_le] at *; first | (rw [decide_eq_true (by omega)]; rfl) | (rw [decide_eq_false (by omega)]; rfl), rfl, rfl⟩
  · skip
    refine g_lload_n dX9_isIn_6 rfl ?_
    refine g_lload dX9_isIn_7 rfl ?_
    refine g_lcmp dX9_isIn_9 ?_
    refine g_if_gt (tgt := 17) dX9_isIn_10 (by decide) (fun c_10 => ?_) (fun c_10 => ?_)
    · skip
      refine g_iconst (v := nI 0) dX9_isIn_17 rfl ?_
      exact g_iret dX9_isIn_18 (Or.inr ⟨rfl, by first | exact Or.inl rfl | exact Or.inr rfl⟩) (Nat.le_of_ble_eq_true rfl) (Nat.le_of_ble_eq_true rfl) ⟨by simp only [lg_cmp_lt, lg_cmp_gt, lg_cmp_le, lg_cmp_ge, Int64.lt_iff_toInt_lt, Int64.le_iff_toInt_le] at *; first | (rw [decide_eq_true (by omega)]; rfl) | (rw [decide_eq_false (by omega)]; rfl), rfl, rfl⟩
    · skip
      refine g_iconst (v := nI 1) dX9_isIn_13 rfl ?_
      refine g_goto (tgt := 18) dX9_isIn_14 (by decide) ?_
      exact g_iret dX9_isIn_18 (Or.inr ⟨rfl, by first | exact Or.inl rfl | exact Or.inr rfl⟩) (Nat.le_of_ble_eq_true rfl) (Nat.le_of_ble_eq_true rfl) ⟨by simp only [lg_cmp_lt, lg_cmp_gt, lg_cmp_le, lg_cmp_ge, Int64.lt_iff_toInt_lt, Int64.le_iff_toInt_le] at *; first | (rw [decide_eq_true (by omega)]; rfl) | (rw [decide_eq_false (by omega)]; rfl), rfl, rfl⟩

set_option maxHeartbeats 4000000 in
set_option maxRecDepth 100000 in
theorem m_lesser (M : gM) (n : Nat) (a b : Int64) : GM μX9_lesser 0 0 0 0 [.long a, .long b] M n (fun r M1 n1 => r = some (.long (if a < b then a else b)) ∧ M1 = M ∧ n1 = n) := by
  refine GM.ofW (by decide) rfl (Nat.le_of_ble_eq_true rfl) rfl ?_
  refine g_lload_n dX9_lesser_0 rfl ?_
  refine g_lload_n dX9_lesser_1 rfl ?_
  refine g_lcmp dX9_lesser_2 ?_
  refine g_if_ge (tgt := 10) dX9_lesser_3 (by decide) (fun c_3 => ?_) (fun c_3 => ?_)
  · skip
    refine g_lload_n dX9_lesser_10 rfl ?_
    exact g_lret dX9_lesser_11 rfl (Nat.le_of_ble_eq_true rfl) (Nat.le_of_ble_eq_true rfl) ⟨by simp only [lg_cmp_lt, lg_cmp_gt, lg_cmp_le, lg_cmp_ge, Int64.lt_iff_toInt_lt, Int64.le_iff_toInt_le] at *; first | rw [if_pos (by omega)] | rw [if_neg (by omega)], rfl, rfl⟩
  · skip
    refine g_lload_n dX9_lesser_6 rfl ?_
    refine g_goto (tgt := 11) dX9_lesser_7 (by decide) ?_
    exact g_lret dX9_lesser_11 rfl (Nat.le_of_ble_eq_true rfl) (Nat.le_of_ble_eq_true rfl) ⟨by simp only [lg_cmp_lt, lg_cmp_gt, lg_cmp_le, lg_cmp_ge, Int64.lt_iff_toInt_lt, Int64.le_iff_toInt_le] at *; first | rw [if_pos (by omega)] | rw [if_neg (by omega)], rfl, rfl⟩

set_option maxHeartbeats 4000000 in
set_option maxRecDepth 100000 in
theorem m_greater (M : gM) (n : Nat) (a b : Int64) : GM μX9_greater 0 0 0 0 [.long a, .long b] M n (fun r M1 n1 => r = some (.long (if b < a then a else b)) ∧ M1 = M ∧ n1 = n) := by
  refine GM.ofW (by decide) rfl (Nat.le_of_ble_eq_true rfl) rfl ?_
  refine g_lload_n dX9_greater_0 rfl ?_
  refine g_lload_n dX9_greater_1 rfl ?_
  refine g_lcmp dX9_greater_2 ?_
  refine g_if_le (tgt := 10) dX9_greater_3 (by decide) (fun c_3 => ?_) (fun c_3 => ?_)
  · skip
    refine g_lload_n dX9_greater_10 rfl ?_
    exact g_lret dX9_greater_11 rfl (Nat.le_of_ble_eq_true rfl) (Nat.le_of_ble_eq_true rfl) ⟨by simp only [lg_cmp_lt, lg_cmp_gt, lg_cmp_le, lg_cmp_ge, Int64.lt_iff_toInt_lt, Int64.le_iff_toInt_le] at *; first | rw [if_pos (by omega)] | rw [if_neg (by omega)], rfl, rfl⟩
  · skip
    refine g_lload_n dX9_greater_6 rfl ?_
    refine g_goto (tgt := 11) dX9_greater_7 (by decide) ?_
    exact g_lret dX9_greater_11 rfl (Nat.le_of_ble_eq_true rfl) (Nat.le_of_ble_eq_true rfl) ⟨by simp only [lg_cmp_lt, lg_cmp_gt, lg_cmp_le, lg_cmp_ge, Int64.lt_iff_toInt_lt, Int64.le_iff_toInt_le] at *; first | rw [if_pos (by omega)] | rw [if_neg (by omega)], rfl, rfl⟩

set_option maxHeartbeats 4000000 in
set_option maxRecDepth 100000 in
theorem m_low (M : gM) (n m s k : Nat) (hm : gMod M m) (hs : s < 360) (hk : k < 2) : GM μX9_low 0 0 0 0 [.ref m, .int (nI s), .int (nI k)] M n (fun r M1 n1 => r = some (.long (mJ M (m + 2) (4 * s + 2 * k))) ∧ M1 = M ∧ n1 = n) := by
  refine GM.ofW (by decide) rfl (Nat.le_of_ble_eq_true rfl) rfl ?_
  refine g_aload_n dX9_low_0 rfl ?_
  refine g_getR (f := 2) dX9_low_1 cl10 hm.1 (by decide) (Or.inl (iw_5 21 rfl)) (Or.inl rfl) rfl hm.r_ends ?_
  refine g_iconst (v := nI 4) dX9_low_4 rfl ?_
  refine g_iload_n dX9_low_5 rfl ?_
  refine g_imul dX9_low_6 ?_
  refine g_iconst (v := nI 2) dX9_low_7 rfl ?_
  refine g_iload_n dX9_low_8 rfl ?_
  refine g_imul dX9_low_9 ?_
  refine g_iadd dX9_low_10 ?_
  refine g_laload dX9_low_11 (j := 4 * s + 2 * k) hm.k_ends hm.n_ends (by simp only [pk_mul, nI_add]) (by omega) (by decide) ?_
  exact g_lret dX9_low_12 rfl (Nat.le_of_ble_eq_true rfl) (Nat.le_of_ble_eq_true rfl) ⟨rfl, rfl, rfl⟩

set_option maxHeartbeats 4000000 in
set_option maxRecDepth 100000 in
theorem m_high (M : gM) (n m s k : Nat) (hm : gMod M m) (hs : s < 360) (hk : k < 2) : GM μX9_high 0 0 0 0 [.ref m, .int (nI s), .int (nI k)] M n (fun r M1 n1 => r = some (.long (mJ M (m + 2) (4 * s + 2 * k + 1))) ∧ M1 = M ∧ n1 = n) := by
  refine GM.ofW (by decide) rfl (Nat.le_of_ble_eq_true rfl) rfl ?_
  refine g_aload_n dX9_high_0 rfl ?_
  refine g_getR (f := 2) dX9_high_1 cl10 hm.1 (by decide) (Or.inl (iw_5 21 rfl)) (Or.inl rfl) rfl hm.r_ends ?_
  refine g_iconst (v := nI 4) dX9_high_4 rfl ?_
  refine g_iload_n dX9_high_5 rfl ?_
  refine g_imul dX9_high_6 ?_
  refine g_iconst (v := nI 2) dX9_high_7 rfl ?_
  refine g_iload_n dX9_high_8 rfl ?_
  refine g_imul dX9_high_9 ?_
  refine g_iadd dX9_high_10 ?_
  refine g_iconst (v := nI 1) dX9_high_11 rfl ?_
  refine g_iadd dX9_high_12 ?_
  refine g_laload dX9_high_13 (j := 4 * s + 2 * k + 1) hm.k_ends hm.n_ends (by simp only [pk_mul, nI_add]) (by omega) (by decide) ?_
  exact g_lret dX9_high_14 rfl (Nat.le_of_ble_eq_true rfl) (Nat.le_of_ble_eq_true rfl) ⟨rfl, rfl, rfl⟩

set_option maxHeartbeats 4000000 in
set_option maxRecDepth 100000 in
theorem m_thrown (M : gM) (n m : Nat) (hm : gMod M m) : GM μX9_thrown 0 0 0 0 [.ref m] M n (fun r M1 n1 => r = some (.int (mI M m 0)) ∧ M1 = M ∧ n1 = n) := by
  refine GM.ofW (by decide) rfl (Nat.le_of_ble_eq_true rfl) rfl ?_
  refine g_aload_n dX9_thrown_0 rfl ?_
  refine g_getI (f := 0) dX9_thrown_1 cl10 hm.1 (by decide) (Or.inl (iw_12 11 rfl)) (Or.inl rfl) (Or.inl rfl) ?_
  exact g_iret dX9_thrown_4 (Or.inl rfl) (Nat.le_of_ble_eq_true rfl) (Nat.le_of_ble_eq_true rfl) ⟨rfl, rfl, rfl⟩

set_option maxHeartbeats 4000000 in
set_option maxRecDepth 100000 in
theorem m_fail (M : gM) (n m : Nat) (w : Int32) (hm : gMod M m) : GM μX9_fail 0 0 0 0 [.ref m, .int w] M n (fun r M1 n1 => r = some (.int 0) ∧ M1 = stI M m 0 w ∧ n1 = n) := by
  refine GM.ofW (by decide) rfl (Nat.le_of_ble_eq_true rfl) rfl ?_
  refine g_aload_n dX9_fail_0 rfl ?_
  refine g_iload_n dX9_fail_1 rfl ?_
  refine g_putI (f := 0) dX9_fail_2 cl10 hm.1 (by decide) (Or.inl (iw_12 11 rfl)) (Or.inl rfl) (Or.inl rfl) (Or.inl rfl) ?_
  refine g_iconst (v := nI 0) dX9_fail_5 rfl ?_
  exact g_iret dX9_fail_6 (Or.inl rfl) (Nat.le_of_ble_eq_true rfl) (Nat.le_of_ble_eq_true rfl) ⟨rfl, rfl, rfl⟩

