/-! the class: sets -/
theorem t_0 : (0 : Int32).toInt = 0 := rfl
theorem t_1 : (nI 1).toInt = 1 := by decide
theorem t_2 : (nI 2).toInt = 2 := by decide
def fO (a : Nat) : Nat → Nat → Prop := fun i _ => i = a
theorem off1 {M M1 : gM} {a : Nat} (h : Off M M1 (fO a)) {k : Nat} {v : Int32} : Off M (stI M1 a k v) (fO a) := h.stI rfl
def cS (M : gM) (a : Nat) (X : List Sp) : Prop := mK M a = 4 ∧ okX X ∧ mI M a 0 = nI X.length ∧ (0 < X.length → mI M a 1 = iZ (X.getD 0 (0, 0)).1 ∧ mI M a 2 = iZ (X.getD 0 (0, 0)).2) ∧ (1 < X.length → mI M a 3 = iZ (X.getD 1 (0, 0)).1 ∧ mI M a 4 = iZ (X.getD 1 (0, 0)).2)
theorem cS.off {M M1 : gM} {a : Nat} {X : List Sp} {S : Nat → Nat → Prop} (h : cS M a X) (ho : Off M M1 S) (hs : ∀ k, ¬ S a k) : cS M1 a X := by
  obtain ⟨h1, h2, h3, h4, h5⟩ := h
  refine ⟨by rw [ho.1]; exact h1, h2, (ho.i (hs _)).trans h3, fun q => ?_, fun q => ?_⟩
  · rw [ho.i (hs _), ho.i (hs _)]; exact h4 q
  · rw [ho.i (hs _), ho.i (hs _)]; exact h5 q
theorem cS.r {M : gM} {a : Nat} {X : List Sp} (h : cS M a X) {k : Nat} (hk : k < X.length) : r5 (X.getD k (0, 0)).1 ∧ r5 (X.getD k (0, 0)).2 := r5_getD h.2.1.2.2 hk
theorem cS.e0 {M : gM} {a : Nat} {X : List Sp} (h : cS M a X) : (mI M a 0).toInt = (X.length : Int) := by
  have := h.2.1.2.1
  rw [h.2.2.1, nI_t (by omega)]
theorem cS.e1 {M : gM} {a : Nat} {X : List Sp} (h : cS M a X) (hk : 0 < X.length) : (mI M a 1).toInt = (X.getD 0 (0, 0)).1 ∧ (mI M a 2).toInt = (X.getD 0 (0, 0)).2 := by
  have hr := h.r hk
  rw [(h.2.2.2.1 hk).1, (h.2.2.2.1 hk).2, iZ_t hr.1.1 hr.1.2, iZ_t hr.2.1 hr.2.2]
  exact ⟨rfl, rfl⟩
theorem cS.e2 {M : gM} {a : Nat} {X : List Sp} (h : cS M a X) (hk : 1 < X.length) : (mI M a 3).toInt = (X.getD 1 (0, 0)).1 ∧ (mI M a 4).toInt = (X.getD 1 (0, 0)).2 := by
  have hr := h.r hk
  rw [(h.2.2.2.2 hk).1, (h.2.2.2.2 hk).2, iZ_t hr.1.1 hr.1.2, iZ_t hr.2.1 hr.2.2]
  exact ⟨rfl, rfl⟩
theorem cS.iff {M : gM} {a : Nat} {X : List Sp} (h : cS M a X) (z : Int) : hasB X z = true ↔ ((0 < (mI M a 0).toInt ∧ (mI M a 1).toInt ≤ z ∧ z ≤ (mI M a 2).toInt) ∨ ((mI M a 0).toInt = 2 ∧ (mI M a 3).toInt ≤ z ∧ z ≤ (mI M a 4).toInt)) := by
  rw [hasB_iff, h.e0, inL_ix]
  have h2 := h.2.1.2.1
  constructor
  · rintro ⟨i, hi, q⟩
    by_cases e : i = 0
    · subst e
      rw [(h.e1 (by omega)).1, (h.e1 (by omega)).2]
      exact Or.inl ⟨by omega, q⟩
    · have e1 : i = 1 := by omega
      subst e1
      rw [(h.e2 (by omega)).1, (h.e2 (by omega)).2]
      exact Or.inr ⟨by omega, q⟩
  · rintro (⟨h0, q⟩ | ⟨h0, q⟩)
    · rw [(h.e1 (by omega)).1, (h.e1 (by omega)).2] at q
      exact ⟨0, by omega, q⟩
    · rw [(h.e2 (by omega)).1, (h.e2 (by omega)).2] at q
      exact ⟨1, by omega, q⟩
theorem cS.same {M : gM} {a b : Nat} {X Y : List Sp} (h : cS M a X) (g : cS M b Y) (h0 : X ≠ []) (g0 : Y ≠ []) : X = Y ↔ ((mI M a 0).toInt = (mI M b 0).toInt ∧ (mI M a 1).toInt = (mI M b 1).toInt ∧ (mI M a 2).toInt = (mI M b 2).toInt ∧ ((mI M a 0).toInt < 2 ∨ ((mI M a 3).toInt = (mI M b 3).toInt ∧ (mI M a 4).toInt = (mI M b 4).toInt))) := by
  have l1 := List.length_pos_iff.mpr h0
  have l2 := List.length_pos_iff.mpr g0
  have h2 := h.2.1.2.1
  have g2 := g.2.1.2.1
  rw [h.e0, g.e0, (h.e1 l1).1, (h.e1 l1).2, (g.e1 l2).1, (g.e1 l2).2]
  constructor
  · intro e
    subst e
    refine ⟨rfl, rfl, rfl, ?_⟩
    by_cases c : X.length < 2
    · exact Or.inl (by omega)
    · right
      rw [(h.e2 (by omega)).1, (h.e2 (by omega)).2, (g.e2 (by omega)).1, (g.e2 (by omega)).2]
      exact ⟨rfl, rfl⟩
  · rintro ⟨q1, q2, q3, q4⟩
    have ex : ∀ (Z : List Sp), Z.length = 1 → Z = [(Z.getD 0 (0, 0))] := fun Z hz => by
      match Z, hz with
      | [p], _ => rfl
    have ex2 : ∀ (Z : List Sp), Z.length = 2 → Z = [(Z.getD 0 (0, 0)), (Z.getD 1 (0, 0))] := fun Z hz => by
      match Z, hz with
      | [p, r], _ => rfl
    by_cases c : X.length = 1
    · rw [ex X c, ex Y (by omega)]
      exact congrArg (fun p => [p]) (Prod.ext q2 q3)
    · rw [ex2 X (by omega), ex2 Y (by omega)]
      rcases q4 with q4 | q4
      · omega
      · rw [(h.e2 (by omega)).1, (h.e2 (by omega)).2, (g.e2 (by omega)).1, (g.e2 (by omega)).2] at q4
        rw [show (X.getD 0 (0, 0)) = (Y.getD 0 (0, 0)) from Prod.ext q2 q3, show (X.getD 1 (0, 0)) = (Y.getD 1 (0, 0)) from Prod.ext q4.1 q4.2]
theorem okX_nil : okX [] := ⟨trivial, by simp, fun p hp => by cases hp⟩
theorem okX_one {p : Sp} (h : p.1 ≤ p.2) (h1 : r5 p.1) (h2 : r5 p.2) : okX [p] := ⟨h, by simp, (wl_one h h1 h2).2⟩
theorem cn_take : ∀ (X : List Sp) (k : Nat), cn X → cn (X.take k)
  | [], k, _ => by simp [cn]
  | p :: l, 0, _ => trivial
  | p :: l, k + 1, h => by
    rw [List.take_succ_cons]
    exact cn_cons (cn_head h) (fun r hr => cn_far h r (List.mem_of_mem_take hr)) (cn_take l k (cn_tail h))
theorem okX_take {X : List Sp} (h : okX X) (k : Nat) : okX (X.take k) := ⟨cn_take X k h.1, Nat.le_trans (by rw [List.length_take]; omega) h.2.1, fun p hp => h.2.2 p (List.mem_of_mem_take hp)⟩
set_option maxHeartbeats 4000000 in
set_option maxRecDepth 100000 in
theorem c_low (M : gM) (n a k : Nat) (X : List Sp) (h : cS M a X) (hk : k < X.length) : GM μX3_low 0 0 0 0 [.ref a, .int (nI k)] M n (fun r M1 n1 => r = some (.int (iZ (X.getD k (0, 0)).1)) ∧ M1 = M ∧ n1 = n) := by
  refine GM.ofW (by decide) rfl (Nat.le_of_ble_eq_true rfl) rfl ?_
  refine g_iload_n dX3_low_0 rfl ?_
  refine g_if_ne (tgt := 11) dX3_low_1 (by decide) (fun c_1 => ?_) (fun c_1 => ?_)
  · skip
    have e9 : mI M a 3 = iZ (X.getD k (0, 0)).1 := by
      have := h.2.1.2.1
      rw [show (0 : Int32) = nI 0 from rfl, nI_inj (by omega) (by omega)] at c_1
      have e1 : k = 1 := by omega
      subst e1
      exact (h.2.2.2.2 hk).1
    refine g_aload_n dX3_low_11 rfl ?_
    refine g_getI (f := 3) dX3_low_12 cl4 h.1 (by decide) (Or.inl (iw_15 20 rfl)) (Or.inl rfl) (Or.inl rfl) ?_
    exact g_iret dX3_low_15 (Or.inl rfl) (Nat.le_of_ble_eq_true rfl) (Nat.le_of_ble_eq_true rfl) ⟨by rw [e9], rfl, rfl⟩
  · skip
    have e9 : mI M a 1 = iZ (X.getD k (0, 0)).1 := by
      have := h.2.1.2.1
      rw [show (0 : Int32) = nI 0 from rfl, nI_inj (by omega) (by omega)] at c_1
      subst c_1
      exact (h.2.2.2.1 hk).1
    refine g_aload_n dX3_low_4 rfl ?_
    refine g_getI (f := 1) dX3_low_5 cl4 h.1 (by decide) (Or.inl (iw_14 3 rfl)) (Or.inl rfl) (Or.inl rfl) ?_
    refine g_goto (tgt := 15) dX3_low_8 (by decide) ?_
    exact g_iret dX3_low_15 (Or.inl rfl) (Nat.le_of_ble_eq_true rfl) (Nat.le_of_ble_eq_true rfl) ⟨by rw [e9], rfl, rfl⟩

set_option maxHeartbeats 4000000 in
set_option maxRecDepth 100000 in
theorem c_high (M : gM) (n a k : Nat) (X : List Sp) (h : cS M a X) (hk : k < X.length) : GM μX3_high 0 0 0 0 [.ref a, .int (nI k)] M n (fun r M1 n1 => r = some (.int (iZ (X.getD k (0, 0)).2)) ∧ M1 = M ∧ n1 = n) := by
  refine GM.ofW (by decide) rfl (Nat.le_of_ble_eq_true rfl) rfl ?_
  refine g_iload_n dX3_high_0 rfl ?_
  refine g_if_ne (tgt := 11) dX3_high_1 (by decide) (fun c_1 => ?_) (fun c_1 => ?_)
  · skip
    have e9 : mI M a 4 = iZ (X.getD k (0, 0)).2 := by
      have := h.2.1.2.1
      rw [show (0 : Int32) = nI 0 from rfl, nI_inj (by omega) (by omega)] at c_1
      have e1 : k = 1 := by omega
      subst e1
      exact (h.2.2.2.2 hk).2
    refine g_aload_n dX3_high_11 rfl ?_
    refine g_getI (f := 4) dX3_high_12 cl4 h.1 (by decide) (Or.inl (iw_15 21 rfl)) (Or.inl rfl) (Or.inl rfl) ?_
    exact g_iret dX3_high_15 (Or.inl rfl) (Nat.le_of_ble_eq_true rfl) (Nat.le_of_ble_eq_true rfl) ⟨by rw [e9], rfl, rfl⟩
  · skip
    have e9 : mI M a 2 = iZ (X.getD k (0, 0)).2 := by
      have := h.2.1.2.1
      rw [show (0 : Int32) = nI 0 from rfl, nI_inj (by omega) (by omega)] at c_1
      subst c_1
      exact (h.2.2.2.1 hk).2
    refine g_aload_n dX3_high_4 rfl ?_
    refine g_getI (f := 2) dX3_high_5 cl4 h.1 (by decide) (Or.inl (iw_14 4 rfl)) (Or.inl rfl) (Or.inl rfl) ?_
    refine g_goto (tgt := 15) dX3_high_8 (by decide) ?_
    exact g_iret dX3_high_15 (Or.inl rfl) (Nat.le_of_ble_eq_true rfl) (Nat.le_of_ble_eq_true rfl) ⟨by rw [e9], rfl, rfl⟩

set_option maxHeartbeats 4000000 in
set_option maxRecDepth 100000 in
theorem c_least (M : gM) (n a : Nat) (X : List Sp) (h : cS M a X) (h0 : X ≠ []) : GM μX3_least 0 0 0 0 [.ref a] M n (fun r M1 n1 => r = some (.int (iZ (lo1 X))) ∧ M1 = M ∧ n1 = n) := by
  refine GM.ofW (by decide) rfl (Nat.le_of_ble_eq_true rfl) rfl ?_
  refine g_aload_n dX3_least_0 rfl ?_
  refine g_getI (f := 1) dX3_least_1 cl4 h.1 (by decide) (Or.inl (iw_14 3 rfl)) (Or.inl rfl) (Or.inl rfl) ?_
  exact g_iret dX3_least_4 (Or.inl rfl) (Nat.le_of_ble_eq_true rfl) (Nat.le_of_ble_eq_true rfl) ⟨by rw [(h.2.2.2.1 (List.length_pos_iff.mpr h0)).1]; rfl, rfl, rfl⟩

set_option maxHeartbeats 4000000 in
set_option maxRecDepth 100000 in
theorem c_greatest (M : gM) (n a : Nat) (X : List Sp) (h : cS M a X) (h0 : X ≠ []) : GM μX3_greatest 0 0 0 0 [.ref a] M n (fun r M1 n1 => r = some (.int (iZ (hi1 X))) ∧ M1 = M ∧ n1 = n) := by
  refine GM.ofW (by decide) rfl (Nat.le_of_ble_eq_true rfl) rfl ?_
  refine g_aload_n dX3_greatest_0 rfl ?_
  refine g_getI (f := 0) dX3_greatest_1 cl4 h.1 (by decide) (Or.inl (iw_3 13 rfl)) (Or.inl rfl) (Or.inl rfl) ?_
  refine g_iconst (v := nI 2) dX3_greatest_4 rfl ?_
  have l0 := List.length_pos_iff.mpr h0
  have l2 := h.2.1.2.1
  rw [h.2.2.1]
  refine g_icmp_ne (tgt := 15) dX3_greatest_5 (by decide) (fun c_5 => ?_) (fun c_5 => ?_)
  · skip
    rw [nI_inj (by omega) (by omega)] at c_5
    have e9 : mI M a 2 = iZ (hi1 X) := by
      rw [(h.2.2.2.1 (by omega)).2]; unfold hi1; rw [show X.length = 1 by omega]
    refine g_aload_n dX3_greatest_15 rfl ?_
    refine g_getI (f := 2) dX3_greatest_16 cl4 h.1 (by decide) (Or.inl (iw_14 4 rfl)) (Or.inl rfl) (Or.inl rfl) ?_
    exact g_iret dX3_greatest_19 (Or.inl rfl) (Nat.le_of_ble_eq_true rfl) (Nat.le_of_ble_eq_true rfl) ⟨by rw [e9], rfl, rfl⟩
  · skip
    rw [nI_inj (by omega) (by omega)] at c_5
    have e9 : mI M a 4 = iZ (hi1 X) := by
      rw [(h.2.2.2.2 (by omega)).2]; unfold hi1; rw [c_5]
    refine g_aload_n dX3_greatest_8 rfl ?_
    refine g_getI (f := 4) dX3_greatest_9 cl4 h.1 (by decide) (Or.inl (iw_15 21 rfl)) (Or.inl rfl) (Or.inl rfl) ?_
    refine g_goto (tgt := 19) dX3_greatest_12 (by decide) ?_
    exact g_iret dX3_greatest_19 (Or.inl rfl) (Nat.le_of_ble_eq_true rfl) (Nat.le_of_ble_eq_true rfl) ⟨by rw [e9], rfl, rfl⟩

set_option maxHeartbeats 4000000 in
set_option maxRecDepth 100000 in
theorem c_isNothing (M : gM) (n a : Nat) (X : List Sp) (h : cS M a X) : GM μX3_isNothing 0 0 0 0 [.ref a] M n (fun r M1 n1 => r = some (.int (bI (decide (X = [])))) ∧ M1 = M ∧ n1 = n) := by
  refine GM.ofW (by decide) rfl (Nat.le_of_ble_eq_true rfl) rfl ?_
  have hq : X = [] ↔ (mI M a 0).toInt = 0 := by rw [h.e0, ← List.length_eq_zero_iff]; omega
  refine g_aload_n dX3_isNothing_0 rfl ?_
  refine g_getI (f := 0) dX3_isNothing_1 cl4 h.1 (by decide) (Or.inl (iw_3 13 rfl)) (Or.inl rfl) (Or.inl rfl) ?_
  refine g_if_ne (tgt := 11) dX3_isNothing_4 (by decide) (fun c_4 => ?_) (fun c_4 => ?_)
  · skip
    refine g_iconst (v := nI 0) dX3_isNothing_11 rfl ?_
    exact g_iret dX3_isNothing_12 (Or.inr ⟨rfl, by first | exact Or.inl rfl | exact Or.inr rfl⟩) (Nat.le_of_ble_eq_true rfl) (Nat.le_of_ble_eq_true rfl) ⟨by simp only [i_lt, i_le, i_eq, t_0, t_1, t_2] at *; first | (rw [decide_eq_true (hq.mpr (by omega))]; rfl) | (rw [decide_eq_false (fun q => by have := hq.mp q; omega)]; rfl), rfl, rfl⟩
  · skip
    refine g_iconst (v := nI 1) dX3_isNothing_7 rfl ?_
    refine g_goto (tgt := 12) dX3_isNothing_8 (by decide) ?_
    exact g_iret dX3_isNothing_12 (Or.inr ⟨rfl, by first | exact Or.inl rfl | exact Or.inr rfl⟩) (Nat.le_of_ble_eq_true rfl) (Nat.le_of_ble_eq_true rfl) ⟨by simp only [i_lt, i_le, i_eq, t_0, t_1, t_2] at *; first | (rw [decide_eq_true (hq.mpr (by omega))]; rfl) | (rw [decide_eq_false (fun q => by have := hq.mp q; omega)]; rfl), rfl, rfl⟩

set_option maxHeartbeats 4000000 in
set_option maxRecDepth 100000 in
theorem c_isOne (M : gM) (n a : Nat) (X : List Sp) (h : cS M a X) : GM μX3_isOneNumber 0 0 0 0 [.ref a] M n (fun r M1 n1 => r = some (.int (bI (aloB X))) ∧ M1 = M ∧ n1 = n) := by
  refine GM.ofW (by decide) rfl (Nat.le_of_ble_eq_true rfl) rfl ?_
  have hq : (X.length = 1 ∧ (X.getD 0 (0, 0)).1 = (X.getD 0 (0, 0)).2) ↔ ((mI M a 0).toInt = 1 ∧ (mI M a 1).toInt = (mI M a 2).toInt) := by
    rw [h.e0]
    constructor
    · rintro ⟨q1, q2⟩; rw [(h.e1 (by omega)).1, (h.e1 (by omega)).2]; exact ⟨by omega, q2⟩
    · rintro ⟨q1, q2⟩; rw [(h.e1 (by omega)).1, (h.e1 (by omega)).2] at q2; exact ⟨by omega, q2⟩
  have ha : aloB X = decide (X.length = 1 ∧ (X.getD 0 (0, 0)).1 = (X.getD 0 (0, 0)).2) := by unfold aloB; rw [Bool.decide_and]
  rw [ha]
  clear ha
  refine g_aload_n dX3_isOneNumber_0 rfl ?_
  refine g_getI (f := 0) dX3_isOneNumber_1 cl4 h.1 (by decide) (Or.inl (iw_3 13 rfl)) (Or.inl rfl) (Or.inl rfl) ?_
  refine g_iconst (v := nI 1) dX3_isOneNumber_4 rfl ?_
  refine g_icmp_ne (tgt := 23) dX3_isOneNumber_5 (by decide) (fun c_5 => ?_) (fun c_5 => ?_)
  · skip
    refine g_iconst (v := nI 0) dX3_isOneNumber_23 rfl ?_
    exact g_iret dX3_isOneNumber_24 (Or.inr ⟨rfl, by first | exact Or.inl rfl | exact Or.inr rfl⟩) (Nat.le_of_ble_eq_true rfl) (Nat.le_of_ble_eq_true rfl) ⟨by simp only [i_lt, i_le, i_eq, t_0, t_1, t_2] at *; first | (rw [decide_eq_true (hq.mpr (by omega))]; rfl) | (rw [decide_eq_false (fun q => by have := hq.mp q; omega)]; rfl), rfl, rfl⟩
  · skip
    refine g_aload_n dX3_isOneNumber_8 rfl ?_
    refine g_getI (f := 1) dX3_isOneNumber_9 cl4 h.1 (by decide) (Or.inl (iw_14 3 rfl)) (Or.inl rfl) (Or.inl rfl) ?_
    refine g_aload_n dX3_isOneNumber_12 rfl ?_
    refine g_getI (f := 2) dX3_isOneNumber_13 cl4 h.1 (by decide) (Or.inl (iw_14 4 rfl)) (Or.inl rfl) (Or.inl rfl) ?_
    refine g_icmp_ne (tgt := 23) dX3_isOneNumber_16 (by decide) (fun c_16 => ?_) (fun c_16 => ?_)
    · skip
      refine g_iconst (v := nI 0) dX3_isOneNumber_23 rfl ?_
      exact g_iret dX3_isOneNumber_24 (Or.inr ⟨rfl, by first | exact Or.inl rfl | exact Or.inr rfl⟩) (Nat.le_of_ble_eq_true rfl) (Nat.le_of_ble_eq_true rfl) ⟨by simp only [i_lt, i_le, i_eq, t_0, t_1, t_2] at *; first | (rw [decide_eq_true (hq.mpr (by omega))]; rfl) | (rw [decide_eq_false (fun q => by have := hq.mp q; omega)]; rfl), rfl, rfl⟩
    · skip
      refine g_iconst (v := nI 1) dX3_isOneNumber_19 rfl ?_
      refine g_goto (tgt := 24) dX3_isOneNumber_20 (by decide) ?_
      exact g_iret dX3_isOneNumber_24 (Or.inr ⟨rfl, by first | exact Or.inl rfl | exact Or.inr rfl⟩) (Nat.le_of_ble_eq_true rfl) (Nat.le_of_ble_eq_true rfl) ⟨by simp only [i_lt, i_le, i_eq, t_0, t_1, t_2] at *; first | (rw [decide_eq_true (hq.mpr (by omega))]; rfl) | (rw [decide_eq_false (fun q => by have := hq.mp q; omega)]; rfl), rfl, rfl⟩

set_option maxHeartbeats 4000000 in
set_option maxRecDepth 100000 in
theorem c_has (M : gM) (n a : Nat) (X : List Sp) (z : Int32) (h : cS M a X) : GM μX3_has 0 0 0 0 [.ref a, .int z] M n (fun r M1 n1 => r = some (.int (bI (hasB X z.toInt))) ∧ M1 = M ∧ n1 = n) := by
  refine GM.ofW (by decide) rfl (Nat.le_of_ble_eq_true rfl) rfl ?_
  have hq := h.iff z.toInt
  refine g_aload_n dX3_has_0 rfl ?_
  refine g_getI (f := 0) dX3_has_1 cl4 h.1 (by decide) (Or.inl (iw_3 13 rfl)) (Or.inl rfl) (Or.inl rfl) ?_
  refine g_if_le (tgt := 23) dX3_has_4 (by decide) (fun c_4 => ?_) (fun c_4 => ?_)
  · skip
    refine g_aload_n dX3_has_23 rfl ?_
    refine g_getI (f := 0) dX3_has_24 cl4 h.1 (by decide) (Or.inl (iw_3 13 rfl)) (Or.inl rfl) (Or.inl rfl) ?_
    refine g_iconst (v := nI 2) dX3_has_27 rfl ?_
    refine g_icmp_ne (tgt := 51) dX3_has_28 (by decide) (fun c_28 => ?_) (fun c_28 => ?_)
    · skip
      refine g_iconst (v := nI 0) dX3_has_51 rfl ?_
      exact g_iret dX3_has_52 (Or.inr ⟨rfl, by first | exact Or.inl rfl | exact Or.inr rfl⟩) (Nat.le_of_ble_eq_true rfl) (Nat.le_of_ble_eq_true rfl) ⟨by simp only [i_lt, i_le, i_eq, t_0, t_1, t_2] at *; first | (rw [hq.mpr (by omega)]; rfl) | (rw [show hasB X z.toInt = false from Bool.eq_false_iff.mpr (fun q => by have := hq.mp q; omega)]; rfl), rfl, rfl⟩
    · skip
      refine g_aload_n dX3_has_31 rfl ?_
      refine g_getI (f := 3) dX3_has_32 cl4 h.1 (by decide) (Or.inl (iw_15 20 rfl)) (Or.inl rfl) (Or.inl rfl) ?_
      refine g_iload_n dX3_has_35 rfl ?_
      refine g_icmp_gt (tgt := 51) dX3_has_36 (by decide) (fun c_36 => ?_) (fun c_36 => ?_)
      · skip
        refine g_iconst (v := nI 0) dX3_has_51 rfl ?_
        exact g_iret dX3_has_52 (Or.inr ⟨rfl, by first | exact Or.inl rfl | exact Or.inr rfl⟩) (Nat.le_of_ble_eq_true rfl) (Nat.le_of_ble_eq_true rfl) ⟨by simp only [i_lt, i_le, i_eq, t_0, t_1, t_2] at *; first | (rw [hq.mpr (by omega)]; rfl) | (rw [show hasB X z.toInt = false from Bool.eq_false_iff.mpr (fun q => by have := hq.mp q; omega)]; rfl), rfl, rfl⟩
      · skip
        refine g_iload_n dX3_has_39 rfl ?_
        refine g_aload_n dX3_has_40 rfl ?_
        refine g_getI (f := 4) dX3_has_41 cl4 h.1 (by decide) (Or.inl (iw_15 21 rfl)) (Or.inl rfl) (Or.inl rfl) ?_
        refine g_icmp_gt (tgt := 51) dX3_has_44 (by decide) (fun c_44 => ?_) (fun c_44 => ?_)
        · skip
          refine g_iconst (v := nI 0) dX3_has_51 rfl ?_
          exact g_iret dX3_has_52 (Or.inr ⟨rfl, by first | exact Or.inl rfl | exact Or.inr rfl⟩) (Nat.le_of_ble_eq_true rfl) (Nat.le_of_ble_eq_true rfl) ⟨by simp only [i_lt, i_le, i_eq, t_0, t_1, t_2] at *; first | (rw [hq.mpr (by omega)]; rfl) | (rw [show hasB X z.toInt = false from Bool.eq_false_iff.mpr (fun q => by have := hq.mp q; omega)]; rfl), rfl, rfl⟩
        · skip
          refine g_iconst (v := nI 1) dX3_has_47 rfl ?_
          refine g_goto (tgt := 52) dX3_has_48 (by decide) ?_
          exact g_iret dX3_has_52 (Or.inr ⟨rfl, by first | exact Or.inl rfl | exact Or.inr rfl⟩) (Nat.le_of_ble_eq_true rfl) (Nat.le_of_ble_eq_true rfl) ⟨by simp only [i_lt, i_le, i_eq, t_0, t_1, t_2] at *; first | (rw [hq.mpr (by omega)]; rfl) | (rw [show hasB X z.toInt = false from Bool.eq_false_iff.mpr (fun q => by have := hq.mp q; omega)]; rfl), rfl, rfl⟩
  · skip
    refine g_aload_n dX3_has_7 rfl ?_
    refine g_getI (f := 1) dX3_has_8 cl4 h.1 (by decide) (Or.inl (iw_14 3 rfl)) (Or.inl rfl) (Or.inl rfl) ?_
    refine g_iload_n dX3_has_11 rfl ?_
    refine g_icmp_gt (tgt := 23) dX3_has_12 (by decide) (fun c_12 => ?_) (fun c_12 => ?_)
    · skip
      refine g_aload_n dX3_has_23 rfl ?_
      refine g_getI (f := 0) dX3_has_24 cl4 h.1 (by decide) (Or.inl (iw_3 13 rfl)) (Or.inl rfl) (Or.inl rfl) ?_
      refine g_iconst (v := nI 2) dX3_has_27 rfl ?_
      refine g_icmp_ne (tgt := 51) dX3_has_28 (by decide) (fun c_28 => ?_) (fun c_28 => ?_)
      · skip
        refine g_iconst (v := nI 0) dX3_has_51 rfl ?_
        exact g_iret dX3_has_52 (Or.inr ⟨rfl, by first | exact Or.inl rfl | exact Or.inr rfl⟩) (Nat.le_of_ble_eq_true rfl) (Nat.le_of_ble_eq_true rfl) ⟨by simp only [i_lt, i_le, i_eq, t_0, t_1, t_2] at *; first | (rw [hq.mpr (by omega)]; rfl) | (rw [show hasB X z.toInt = false from Bool.eq_false_iff.mpr (fun q => by have := hq.mp q; omega)]; rfl), rfl, rfl⟩
      · skip
        refine g_aload_n dX3_has_31 rfl ?_
        refine g_getI (f := 3) dX3_has_32 cl4 h.1 (by decide) (Or.inl (iw_15 20 rfl)) (Or.inl rfl) (Or.inl rfl) ?_
        refine g_iload_n dX3_has_35 rfl ?_
        refine g_icmp_gt (tgt := 51) dX3_has_36 (by decide) (fun c_36 => ?_) (fun c_36 => ?_)
        · skip
          refine g_iconst (v := nI 0) dX3_has_51 rfl ?_
          exact g_iret dX3_has_52 (Or.inr ⟨rfl, by first | exact Or.inl rfl | exact Or.inr rfl⟩) (Nat.le_of_ble_eq_true rfl) (Nat.le_of_ble_eq_true rfl) ⟨by simp only [i_lt, i_le, i_eq, t_0, t_1, t_2] at *; first | (rw [hq.mpr (by omega)]; rfl) | (rw [show hasB X z.toInt = false from Bool.eq_false_iff.mpr (fun q => by have := hq.mp q; omega)]; rfl), rfl, rfl⟩
        · skip
          refine g_iload_n dX3_has_39 rfl ?_
          refine g_aload_n dX3_has_40 rfl ?_
          refine g_getI (f := 4) dX3_has_41 cl4 h.1 (by decide) (Or.inl (iw_15 21 rfl)) (Or.inl rfl) (Or.inl rfl) ?_
          refine g_icmp_gt (tgt := 51) dX3_has_44 (by decide) (fun c_44 => ?_) (fun c_44 => ?_)
          · skip
            refine g_iconst (v := nI 0) dX3_has_51 rfl ?_
            exact g_iret dX3_has_52 (Or.inr ⟨rfl, by first | exact Or.inl rfl | exact Or.inr rfl⟩) (Nat.le_of_ble_eq_true rfl) (Nat.le_of_ble_eq_true rfl) ⟨by simp only [i_lt, i_le, i_eq, t_0, t_1, t_2] at *; first | (rw [hq.mpr (by omega)]; rfl) | (rw [show hasB X z.toInt = false from Bool.eq_false_iff.mpr (fun q => by have := hq.mp q; omega)]; rfl), rfl, rfl⟩
          · skip
            refine g_iconst (v := nI 1) dX3_has_47 rfl ?_
            refine g_goto (tgt := 52) dX3_has_48 (by decide) ?_
            exact g_iret dX3_has_52 (Or.inr ⟨rfl, by first | exact Or.inl rfl | exact Or.inr rfl⟩) (Nat.le_of_ble_eq_true rfl) (Nat.le_of_ble_eq_true rfl) ⟨by simp only [i_lt, i_le, i_eq, t_0, t_1, t_2] at *; first | (rw [hq.mpr (by omega)]; rfl) | (rw [show hasB X z.toInt = false from Bool.eq_false_iff.mpr (fun q => by have := hq.mp q; omega)]; rfl), rfl, rfl⟩
    · skip
      refine g_iload_n dX3_has_15 rfl ?_
      refine g_aload_n dX3_has_16 rfl ?_
      refine g_getI (f := 2) dX3_has_17 cl4 h.1 (by decide) (Or.inl (iw_14 4 rfl)) (Or.inl rfl) (Or.inl rfl) ?_
      refine g_icmp_le (tgt := 47) dX3_has_20 (by decide) (fun c_20 => ?_) (fun c_20 => ?_)
      · skip
        refine g_iconst (v := nI 1) dX3_has_47 rfl ?_
        refine g_goto (tgt := 52) dX3_has_48 (by decide) ?_
        exact g_iret dX3_has_52 (Or.inr ⟨rfl, by first | exact Or.inl rfl | exact Or.inr rfl⟩) (Nat.le_of_ble_eq_true rfl) (Nat.le_of_ble_eq_true rfl) ⟨by simp only [i_lt, i_le, i_eq, t_0, t_1, t_2] at *; first | (rw [hq.mpr (by omega)]; rfl) | (rw [show hasB X z.toInt = false from Bool.eq_false_iff.mpr (fun q => by have := hq.mp q; omega)]; rfl), rfl, rfl⟩
      · skip
        refine g_aload_n dX3_has_23 rfl ?_
        refine g_getI (f := 0) dX3_has_24 cl4 h.1 (by decide) (Or.inl (iw_3 13 rfl)) (Or.inl rfl) (Or.inl rfl) ?_
        refine g_iconst (v := nI 2) dX3_has_27 rfl ?_
        refine g_icmp_ne (tgt := 51) dX3_has_28 (by decide) (fun c_28 => ?_) (fun c_28 => ?_)
        · skip
          refine g_iconst (v := nI 0) dX3_has_51 rfl ?_
          exact g_iret dX3_has_52 (Or.inr ⟨rfl, by first | exact Or.inl rfl | exact Or.inr rfl⟩) (Nat.le_of_ble_eq_true rfl) (Nat.le_of_ble_eq_true rfl) ⟨by simp only [i_lt, i_le, i_eq, t_0, t_1, t_2] at *; first | (rw [hq.mpr (by omega)]; rfl) | (rw [show hasB X z.toInt = false from Bool.eq_false_iff.mpr (fun q => by have := hq.mp q; omega)]; rfl), rfl, rfl⟩
        · skip
          refine g_aload_n dX3_has_31 rfl ?_
          refine g_getI (f := 3) dX3_has_32 cl4 h.1 (by decide) (Or.inl (iw_15 20 rfl)) (Or.inl rfl) (Or.inl rfl) ?_
          refine g_iload_n dX3_has_35 rfl ?_
          refine g_icmp_gt (tgt := 51) dX3_has_36 (by decide) (fun c_36 => ?_) (fun c_36 => ?_)
          · skip
            refine g_iconst (v := nI 0) dX3_has_51 rfl ?_
            exact g_iret dX3_has_52 (Or.inr ⟨rfl, by first | exact Or.inl rfl | exact Or.inr rfl⟩) (Nat.le_of_ble_eq_true rfl) (Nat.le_of_ble_eq_true rfl) ⟨by simp only [i_lt, i_le, i_eq, t_0, t_1, t_2] at *; first | (rw [hq.mpr (by omega)]; rfl) | (rw [show hasB X z.toInt = false from Bool.eq_false_iff.mpr (fun q => by have := hq.mp q; omega)]; rfl), rfl, rfl⟩
          · skip
            refine g_iload_n dX3_has_39 rfl ?_
            refine g_aload_n dX3_has_40 rfl ?_
            refine g_getI (f := 4) dX3_has_41 cl4 h.1 (by decide) (Or.inl (iw_15 21 rfl)) (Or.inl rfl) (Or.inl rfl) ?_
            refine g_icmp_gt (tgt := 51) dX3_has_44 (by decide) (fun c_44 => ?_) (fun c_44 => ?_)
            · skip
              refine g_iconst (v := nI 0) dX3_has_51 rfl ?_
              exact g_iret dX3_has_52 (Or.inr ⟨rfl, by first | exact Or.inl rfl | exact Or.inr rfl⟩) (Nat.le_of_ble_eq_true rfl) (Nat.le_of_ble_eq_true rfl) ⟨by simp only [i_lt, i_le, i_eq, t_0, t_1, t_2] at *; first | (rw [hq.mpr (by omega)]; rfl) | (rw [show hasB X z.toInt = false from Bool.eq_false_iff.mpr (fun q => by have := hq.mp q; omega)]; rfl), rfl, rfl⟩
            · skip
              refine g_iconst (v := nI 1) dX3_has_47 rfl ?_
              refine g_goto (tgt := 52) dX3_has_48 (by decide) ?_
              exact g_iret dX3_has_52 (Or.inr ⟨rfl, by first | exact Or.inl rfl | exact Or.inr rfl⟩) (Nat.le_of_ble_eq_true rfl) (Nat.le_of_ble_eq_true rfl) ⟨by simp only [i_lt, i_le, i_eq, t_0, t_1, t_2] at *; first | (rw [hq.mpr (by omega)]; rfl) | (rw [show hasB X z.toInt = false from Bool.eq_false_iff.mpr (fun q => by have := hq.mp q; omega)]; rfl), rfl, rfl⟩

set_option maxHeartbeats 4000000 in
set_option maxRecDepth 100000 in
theorem c_isSame (M : gM) (n a b : Nat) (X Y : List Sp) (h : cS M a X) (g : cS M b Y) (h0 : X ≠ []) (g0 : Y ≠ []) : GM μX3_isSame 0 0 0 0 [.ref a, .ref b] M n (fun r M1 n1 => r = some (.int (bI (decide (X = Y)))) ∧ M1 = M ∧ n1 = n) := by
  refine GM.ofW (by decide) rfl (Nat.le_of_ble_eq_true rfl) rfl ?_
  have hq := h.same g h0 g0
  refine g_aload_n dX3_isSame_0 rfl ?_
  refine g_getI (f := 0) dX3_isSame_1 cl4 h.1 (by decide) (Or.inl (iw_3 13 rfl)) (Or.inl rfl) (Or.inl rfl) ?_
  refine g_aload_n dX3_isSame_4 rfl ?_
  refine g_getI (f := 0) dX3_isSame_5 cl4 g.1 (by decide) (Or.inl (iw_3 13 rfl)) (Or.inl rfl) (Or.inl rfl) ?_
  refine g_icmp_ne (tgt := 67) dX3_isSame_8 (by decide) (fun c_8 => ?_) (fun c_8 => ?_)
  · skip
    refine g_iconst (v := nI 0) dX3_isSame_67 rfl ?_
    exact g_iret dX3_isSame_68 (Or.inr ⟨rfl, by first | exact Or.inl rfl | exact Or.inr rfl⟩) (Nat.le_of_ble_eq_true rfl) (Nat.le_of_ble_eq_true rfl) ⟨by simp only [i_lt, i_le, i_eq, t_0, t_1, t_2] at *; first | (rw [decide_eq_true (hq.mpr (by omega))]; rfl) | (rw [decide_eq_false (fun q => by have := hq.mp q; omega)]; rfl), rfl, rfl⟩
  · skip
    refine g_aload_n dX3_isSame_11 rfl ?_
    refine g_getI (f := 1) dX3_isSame_12 cl4 h.1 (by decide) (Or.inl (iw_14 3 rfl)) (Or.inl rfl) (Or.inl rfl) ?_
    refine g_aload_n dX3_isSame_15 rfl ?_
    refine g_getI (f := 1) dX3_isSame_16 cl4 g.1 (by decide) (Or.inl (iw_14 3 rfl)) (Or.inl rfl) (Or.inl rfl) ?_
    refine g_icmp_ne (tgt := 67) dX3_isSame_19 (by decide) (fun c_19 => ?_) (fun c_19 => ?_)
    · skip
      refine g_iconst (v := nI 0) dX3_isSame_67 rfl ?_
      exact g_iret dX3_isSame_68 (Or.inr ⟨rfl, by first | exact Or.inl rfl | exact Or.inr rfl⟩) (Nat.le_of_ble_eq_true rfl) (Nat.le_of_ble_eq_true rfl) ⟨by simp only [i_lt, i_le, i_eq, t_0, t_1, t_2] at *; first | (rw [decide_eq_true (hq.mpr (by omega))]; rfl) | (rw [decide_eq_false (fun q => by have := hq.mp q; omega)]; rfl), rfl, rfl⟩
    · skip
      refine g_aload_n dX3_isSame_22 rfl ?_
      refine g_getI (f := 2) dX3_isSame_23 cl4 h.1 (by decide) (Or.inl (iw_14 4 rfl)) (Or.inl rfl) (Or.inl rfl) ?_
      refine g_aload_n dX3_isSame_26 rfl ?_
      refine g_getI (f := 2) dX3_isSame_27 cl4 g.1 (by decide) (Or.inl (iw_14 4 rfl)) (Or.inl rfl) (Or.inl rfl) ?_
      refine g_icmp_ne (tgt := 67) dX3_isSame_30 (by decide) (fun c_30 => ?_) (fun c_30 => ?_)
      · skip
        refine g_iconst (v := nI 0) dX3_isSame_67 rfl ?_
        exact g_iret dX3_isSame_68 (Or.inr ⟨rfl, by first | exact Or.inl rfl | exact Or.inr rfl⟩) (Nat.le_of_ble_eq_true rfl) (Nat.le_of_ble_eq_true rfl) ⟨by simp only [i_lt, i_le, i_eq, t_0, t_1, t_2] at *; first | (rw [decide_eq_true (hq.mpr (by omega))]; rfl) | (rw [decide_eq_false (fun q => by have := hq.mp q; omega)]; rfl), rfl, rfl⟩
      · skip
        refine g_aload_n dX3_isSame_33 rfl ?_
        refine g_getI (f := 0) dX3_isSame_34 cl4 h.1 (by decide) (Or.inl (iw_3 13 rfl)) (Or.inl rfl) (Or.inl rfl) ?_
        refine g_iconst (v := nI 2) dX3_isSame_37 rfl ?_
        refine g_icmp_lt (tgt := 63) dX3_isSame_38 (by decide) (fun c_38 => ?_) (fun c_38 => ?_)
        · skip
          refine g_iconst (v := nI 1) dX3_isSame_63 rfl ?_
          refine g_goto (tgt := 68) dX3_isSame_64 (by decide) ?_
          exact g_iret dX3_isSame_68 (Or.inr ⟨rfl, by first | exact Or.inl rfl | exact Or.inr rfl⟩) (Nat.le_of_ble_eq_true rfl) (Nat.le_of_ble_eq_true rfl) ⟨by simp only [i_lt, i_le, i_eq, t_0, t_1, t_2] at *; first | (rw [decide_eq_true (hq.mpr (by omega))]; rfl) | (rw [decide_eq_false (fun q => by have := hq.mp q; omega)]; rfl), rfl, rfl⟩
        · skip
          refine g_aload_n dX3_isSame_41 rfl ?_
          refine g_getI (f := 3) dX3_isSame_42 cl4 h.1 (by decide) (Or.inl (iw_15 20 rfl)) (Or.inl rfl) (Or.inl rfl) ?_
          refine g_aload_n dX3_isSame_45 rfl ?_
          refine g_getI (f := 3) dX3_isSame_46 cl4 g.1 (by decide) (Or.inl (iw_15 20 rfl)) (Or.inl rfl) (Or.inl rfl) ?_
          refine g_icmp_ne (tgt := 67) dX3_isSame_49 (by decide) (fun c_49 => ?_) (fun c_49 => ?_)
          · skip
            refine g_iconst (v := nI 0) dX3_isSame_67 rfl ?_
            exact g_iret dX3_isSame_68 (Or.inr ⟨rfl, by first | exact Or.inl rfl | exact Or.inr rfl⟩) (Nat.le_of_ble_eq_true rfl) (Nat.le_of_ble_eq_true rfl) ⟨by simp only [i_lt, i_le, i_eq, t_0, t_1, t_2] at *; first | (rw [decide_eq_true (hq.mpr (by omega))]; rfl) | (rw [decide_eq_false (fun q => by have := hq.mp q; omega)]; rfl), rfl, rfl⟩
          · skip
            refine g_aload_n dX3_isSame_52 rfl ?_
            refine g_getI (f := 4) dX3_isSame_53 cl4 h.1 (by decide) (Or.inl (iw_15 21 rfl)) (Or.inl rfl) (Or.inl rfl) ?_
            refine g_aload_n dX3_isSame_56 rfl ?_
            refine g_getI (f := 4) dX3_isSame_57 cl4 g.1 (by decide) (Or.inl (iw_15 21 rfl)) (Or.inl rfl) (Or.inl rfl) ?_
            refine g_icmp_ne (tgt := 67) dX3_isSame_60 (by decide) (fun c_60 => ?_) (fun c_60 => ?_)
            · skip
              refine g_iconst (v := nI 0) dX3_isSame_67 rfl ?_
              exact g_iret dX3_isSame_68 (Or.inr ⟨rfl, by first | exact Or.inl rfl | exact Or.inr rfl⟩) (Nat.le_of_ble_eq_true rfl) (Nat.le_of_ble_eq_true rfl) ⟨by simp only [i_lt, i_le, i_eq, t_0, t_1, t_2] at *; first | (rw [decide_eq_true (hq.mpr (by omega))]; rfl) | (rw [decide_eq_false (fun q => by have := hq.mp q; omega)]; rfl), rfl, rfl⟩
            · skip
              refine g_iconst (v := nI 1) dX3_isSame_63 rfl ?_
              refine g_goto (tgt := 68) dX3_isSame_64 (by decide) ?_
              exact g_iret dX3_isSame_68 (Or.inr ⟨rfl, by first | exact Or.inl rfl | exact Or.inr rfl⟩) (Nat.le_of_ble_eq_true rfl) (Nat.le_of_ble_eq_true rfl) ⟨by simp only [i_lt, i_le, i_eq, t_0, t_1, t_2] at *; first | (rw [decide_eq_true (hq.mpr (by omega))]; rfl) | (rw [decide_eq_false (fun q => by have := hq.mp q; omega)]; rfl), rfl, rfl⟩

set_option maxHeartbeats 4000000 in
set_option maxRecDepth 100000 in
theorem c_nothing (M : gM) (n a : Nat) (hk : mK M a = 4) : GM μX3_becomeNothing 0 0 0 0 [.ref a] M n (fun r M1 n1 => r = none ∧ n1 = n ∧ Off M M1 (fO a) ∧ cS M1 a []) := by
  refine GM.ofW (by decide) rfl (Nat.le_of_ble_eq_true rfl) rfl ?_
  refine g_aload_n dX3_becomeNothing_0 rfl ?_
  refine g_iconst (v := nI 0) dX3_becomeNothing_1 rfl ?_
  refine g_putI (f := 0) dX3_becomeNothing_2 cl4 hk (by decide) (Or.inl (iw_3 13 rfl)) (Or.inl rfl) (Or.inl rfl) (Or.inl rfl) ?_
  exact g_vret dX3_becomeNothing_5 rfl (Nat.le_of_ble_eq_true rfl) (Nat.le_of_ble_eq_true rfl) ⟨rfl, rfl, off1 Off.rf, ⟨hk, okX_nil, by rw [mI_st, if_pos ⟨rfl, rfl⟩]; rfl, fun q => absurd q (by simp), fun q => absurd q (by simp)⟩⟩

set_option maxHeartbeats 4000000 in
set_option maxRecDepth 100000 in
theorem c_span (M : gM) (n a : Nat) (p : Sp) (hk : mK M a = 4) (hp : okX [p]) : GM μX3_becomeSpan 0 0 0 0 [.ref a, .int (iZ p.1), .int (iZ p.2)] M n (fun r M1 n1 => r = none ∧ n1 = n ∧ Off M M1 (fO a) ∧ cS M1 a [p]) := by
  refine GM.ofW (by decide) rfl (Nat.le_of_ble_eq_true rfl) rfl ?_
  refine g_aload_n dX3_becomeSpan_0 rfl ?_
  refine g_iconst (v := nI 1) dX3_becomeSpan_1 rfl ?_
  refine g_putI (f := 0) dX3_becomeSpan_2 cl4 hk (by decide) (Or.inl (iw_3 13 rfl)) (Or.inl rfl) (Or.inl rfl) (Or.inl rfl) ?_
  refine g_aload_n dX3_becomeSpan_5 rfl ?_
  refine g_iload_n dX3_becomeSpan_6 rfl ?_
  refine g_putI (f := 1) dX3_becomeSpan_7 cl4 hk (by decide) (Or.inl (iw_14 3 rfl)) (Or.inl rfl) (Or.inl rfl) (Or.inl rfl) ?_
  refine g_aload_n dX3_becomeSpan_10 rfl ?_
  refine g_iload_n dX3_becomeSpan_11 rfl ?_
  refine g_putI (f := 2) dX3_becomeSpan_12 cl4 hk (by decide) (Or.inl (iw_14 4 rfl)) (Or.inl rfl) (Or.inl rfl) (Or.inl rfl) ?_
  exact g_vret dX3_becomeSpan_15 rfl (Nat.le_of_ble_eq_true rfl) (Nat.le_of_ble_eq_true rfl) ⟨rfl, rfl, off1 (off1 (off1 Off.rf)), ⟨hk, hp, (by simp only [mI_st]; simp), fun q => (by simp only [mI_st]; simp), fun q => (by simp at q)⟩⟩

set_option maxHeartbeats 4000000 in
set_option maxRecDepth 100000 in
theorem c_copy (M : gM) (n a b : Nat) (X : List Sp) (hk : mK M a = 4) (g : cS M b X) : GM μX3_becomeCopy 0 0 0 0 [.ref a, .ref b] M n (fun r M1 n1 => r = none ∧ n1 = n ∧ Off M M1 (fO a) ∧ cS M1 a X) := by
  refine GM.ofW (by decide) rfl (Nat.le_of_ble_eq_true rfl) rfl ?_
  refine g_aload_n dX3_becomeCopy_0 rfl ?_
  refine g_aload_n dX3_becomeCopy_1 rfl ?_
  refine g_getI (f := 0) dX3_becomeCopy_2 cl4 g.1 (by decide) (Or.inl (iw_3 13 rfl)) (Or.inl rfl) (Or.inl rfl) ?_
  refine g_putI (f := 0) dX3_becomeCopy_5 cl4 hk (by decide) (Or.inl (iw_3 13 rfl)) (Or.inl rfl) (Or.inl rfl) (Or.inl rfl) ?_
  refine g_aload_n dX3_becomeCopy_8 rfl ?_
  refine g_aload_n dX3_becomeCopy_9 rfl ?_
  refine g_getI (f := 1) dX3_becomeCopy_10 cl4 g.1 (by decide) (Or.inl (iw_14 3 rfl)) (Or.inl rfl) (Or.inl rfl) ?_
  refine g_putI (f := 1) dX3_becomeCopy_13 cl4 hk (by decide) (Or.inl (iw_14 3 rfl)) (Or.inl rfl) (Or.inl rfl) (Or.inl rfl) ?_
  refine g_aload_n dX3_becomeCopy_16 rfl ?_
  refine g_aload_n dX3_becomeCopy_17 rfl ?_
  refine g_getI (f := 2) dX3_becomeCopy_18 cl4 g.1 (by decide) (Or.inl (iw_14 4 rfl)) (Or.inl rfl) (Or.inl rfl) ?_
  refine g_putI (f := 2) dX3_becomeCopy_21 cl4 hk (by decide) (Or.inl (iw_14 4 rfl)) (Or.inl rfl) (Or.inl rfl) (Or.inl rfl) ?_
  refine g_aload_n dX3_becomeCopy_24 rfl ?_
  refine g_aload_n dX3_becomeCopy_25 rfl ?_
  refine g_getI (f := 3) dX3_becomeCopy_26 cl4 g.1 (by decide) (Or.inl (iw_15 20 rfl)) (Or.inl rfl) (Or.inl rfl) ?_
  refine g_putI (f := 3) dX3_becomeCopy_29 cl4 hk (by decide) (Or.inl (iw_15 20 rfl)) (Or.inl rfl) (Or.inl rfl) (Or.inl rfl) ?_
  refine g_aload_n dX3_becomeCopy_32 rfl ?_
  refine g_aload_n dX3_becomeCopy_33 rfl ?_
  refine g_getI (f := 4) dX3_becomeCopy_34 cl4 g.1 (by decide) (Or.inl (iw_15 21 rfl)) (Or.inl rfl) (Or.inl rfl) ?_
  refine g_putI (f := 4) dX3_becomeCopy_37 cl4 hk (by decide) (Or.inl (iw_15 21 rfl)) (Or.inl rfl) (Or.inl rfl) (Or.inl rfl) ?_
  exact g_vret dX3_becomeCopy_40 rfl (Nat.le_of_ble_eq_true rfl) (Nat.le_of_ble_eq_true rfl) (by
    refine ⟨rfl, rfl, off1 (off1 (off1 (off1 (off1 Off.rf)))), hk, g.2.1, ?_, fun q => ?_, fun q => ?_⟩
    · simp only [mI_st]; simpa using g.2.2.1
    · simp only [mI_st]; simpa using g.2.2.2.1 q
    · simp only [mI_st]; simpa using g.2.2.2.2 q)

set_option maxHeartbeats 4000000 in
set_option maxRecDepth 100000 in
theorem c_append (M : gM) (n a : Nat) (X : List Sp) (p : Sp) (h : cS M a X) (hp : okX (X ++ [p])) : GM μX3_append 0 0 0 0 [.ref a, .int (iZ p.1), .int (iZ p.2)] M n (fun r M1 n1 => r = none ∧ n1 = n ∧ Off M M1 (fO a) ∧ cS M1 a (X ++ [p])) := by
  refine GM.ofW (by decide) rfl (Nat.le_of_ble_eq_true rfl) rfl ?_
  refine g_aload_n dX3_append_0 rfl ?_
  refine g_getI (f := 0) dX3_append_1 cl4 h.1 (by decide) (Or.inl (iw_3 13 rfl)) (Or.inl rfl) (Or.inl rfl) ?_
  have l2 := hp.2.1
  rw [List.length_append, List.length_singleton] at l2
  rw [h.2.2.1]
  refine g_if_ne (tgt := 25) dX3_append_4 (by decide) (fun c_4 => ?_) (fun c_4 => ?_)
  · skip
    rw [show (0 : Int32) = nI 0 from rfl, nI_inj (by omega) (by omega)] at c_4
    obtain ⟨p0, rfl⟩ := List.length_eq_one_iff.mp (show X.length = 1 by omega)
    have h4 := h.2.2.2.1 (by simp)
    refine g_aload_n dX3_append_25 rfl ?_
    refine g_iload_n dX3_append_26 rfl ?_
    refine g_putI (f := 3) dX3_append_27 cl4 h.1 (by decide) (Or.inl (iw_15 20 rfl)) (Or.inl rfl) (Or.inl rfl) (Or.inl rfl) ?_
    refine g_aload_n dX3_append_30 rfl ?_
    refine g_iload_n dX3_append_31 rfl ?_
    refine g_putI (f := 4) dX3_append_32 cl4 h.1 (by decide) (Or.inl (iw_15 21 rfl)) (Or.inl rfl) (Or.inl rfl) (Or.inl rfl) ?_
    refine g_aload_n dX3_append_35 rfl ?_
    refine g_iconst (v := nI 2) dX3_append_36 rfl ?_
    refine g_putI (f := 0) dX3_append_37 cl4 h.1 (by decide) (Or.inl (iw_3 13 rfl)) (Or.inl rfl) (Or.inl rfl) (Or.inl rfl) ?_
    exact g_vret dX3_append_40 rfl (Nat.le_of_ble_eq_true rfl) (Nat.le_of_ble_eq_true rfl) (by
      refine ⟨rfl, rfl, off1 (off1 (off1 Off.rf)), h.1, hp, ?_, fun q => ?_, fun q => ?_⟩
      · simp only [mI_st]; simp
      · simp only [mI_st]; first | simpa using h4 | simp
      · simp only [mI_st]; first | (simp at q; done) | simp)
  · skip
    rw [show (0 : Int32) = nI 0 from rfl, nI_inj (by omega) (by omega), List.length_eq_zero_iff] at c_4
    subst c_4
    refine g_aload_n dX3_append_7 rfl ?_
    refine g_iload_n dX3_append_8 rfl ?_
    refine g_putI (f := 1) dX3_append_9 cl4 h.1 (by decide) (Or.inl (iw_14 3 rfl)) (Or.inl rfl) (Or.inl rfl) (Or.inl rfl) ?_
    refine g_aload_n dX3_append_12 rfl ?_
    refine g_iload_n dX3_append_13 rfl ?_
    refine g_putI (f := 2) dX3_append_14 cl4 h.1 (by decide) (Or.inl (iw_14 4 rfl)) (Or.inl rfl) (Or.inl rfl) (Or.inl rfl) ?_
    refine g_aload_n dX3_append_17 rfl ?_
    refine g_iconst (v := nI 1) dX3_append_18 rfl ?_
    refine g_putI (f := 0) dX3_append_19 cl4 h.1 (by decide) (Or.inl (iw_3 13 rfl)) (Or.inl rfl) (Or.inl rfl) (Or.inl rfl) ?_
    refine g_goto (tgt := 40) dX3_append_22 (by decide) ?_
    exact g_vret dX3_append_40 rfl (Nat.le_of_ble_eq_true rfl) (Nat.le_of_ble_eq_true rfl) (by
      refine ⟨rfl, rfl, off1 (off1 (off1 Off.rf)), h.1, hp, ?_, fun q => ?_, fun q => ?_⟩
      · simp only [mI_st]; simp
      · simp only [mI_st]; first | simpa using h4 | simp
      · simp only [mI_st]; first | (simp at q; done) | simp)

set_option maxHeartbeats 4000000 in
set_option maxRecDepth 100000 in
theorem l_part {M : gM} {n a b : Nat} {X : List Sp} {f t : Int} {Q : gθ} (hab : b ≠ a) (g : cS M b X) (hf : r6 f) (ht : r6 t) (hk : ∀ M1, Off M M1 (fO a) → cS M1 a (clip X f t) → GW μX3_becomePart (gRm 1 23 0 0) Q 0 0 67 [some (.ref a), some (.ref b), some (.long (jI f)), none, some (.long (jI t)), none, none, none, none, none, none] [] M1 n) : ∀ (d : Nat) (k : Nat) (M1 : gM), X.length - k < d → k ≤ X.length → Off M M1 (fO a) → cS M1 a (clip (X.take k) f t) → GW μX3_becomePart (gRm 1 23 0 0) Q 0 0 7 [some (.ref a), some (.ref b), some (.long (jI f)), none, some (.long (jI t)), none, some (.int (nI k)), none, none, none, none] [] M1 n := by
  intro d
  induction d with
  | zero =>
    intro k M1 hd hk1 hO hI
    omega
  | succ d ih =>
    intro k M1 hd hk1 hO hI
    have g1 := g.off hO (fun k => hab)
    have l2 := g.2.1.2.1
    refine g_iload dX3_becomePart_7 rfl ?_
    refine g_aload_n dX3_becomePart_9 rfl ?_
    refine g_getI (f := 0) dX3_becomePart_10 cl4 g1.1 (by decide) (Or.inl (iw_3 13 rfl)) (Or.inl rfl) (Or.inl rfl) ?_
    rw [g1.2.2.1]
    refine g_icmp_ge (tgt := 67) dX3_becomePart_13 (by decide) (fun c_13 => ?_) (fun c_13 => ?_)
    · skip
      rw [nI_leI (by omega) (by omega)] at c_13
      refine g_msk [true, true, true, false, true, false, false, false, false, false, false] ?_
      exact hk M1 hO (by rw [List.take_of_length_le (by omega)] at hI; exact hI)
    · skip
      rw [nI_leI (by omega) (by omega)] at c_13
      have hkl : k < X.length := by omega
      have hr := g.r hkl
      refine g_aload_n dX3_becomePart_16 rfl ?_
      refine g_iload dX3_becomePart_17 rfl ?_
      refine g_callV dX3_becomePart_19 sX3_low (c_low M1 n b k X g1 hkl) cl4 g1.1 iX3_low vX3_low (iw_17 12 rfl) rfl rfl (Nat.le_of_ble_eq_true rfl) (Nat.le_of_ble_eq_true rfl) (Nat.le_of_ble_eq_true rfl) (Nat.le_of_ble_eq_true rfl) (Nat.le_of_ble_eq_true rfl) ?_
      intro r9 M9 n9 h9
      obtain ⟨h91, h92, h93⟩ := h9
      rw [h91, h92, h93]
      clear h91 h92 h93 r9 M9 n9
      refine g_i2l dX3_becomePart_22 ?_
      rw [iZ_j hr.1.1 hr.1.2]
      refine g_lload_n dX3_becomePart_23 rfl ?_
      refine g_mmaxJ dX3_becomePart_24 (iw_17 2 rfl) (iw_17 3 rfl) (iw_9 19 rfl) (iw_17 4 rfl) (Nat.le_of_ble_eq_true rfl) (Nat.le_of_ble_eq_true rfl) (Nat.le_of_ble_eq_true rfl) (Nat.le_of_ble_eq_true rfl) ?_
      rw [jI_max (by constructor <;> omega) hf]
      refine g_lstore dX3_becomePart_27 (Nat.le_of_ble_eq_true rfl) ?_
      refine g_aload_n dX3_becomePart_29 rfl ?_
      refine g_iload dX3_becomePart_30 rfl ?_
      refine g_callV dX3_becomePart_32 sX3_high (c_high M1 n b k X g1 hkl) cl4 g1.1 iX3_high vX3_high (iw_17 16 rfl) rfl rfl (Nat.le_of_ble_eq_true rfl) (Nat.le_of_ble_eq_true rfl) (Nat.le_of_ble_eq_true rfl) (Nat.le_of_ble_eq_true rfl) (Nat.le_of_ble_eq_true rfl) ?_
      intro r9 M9 n9 h9
      obtain ⟨h91, h92, h93⟩ := h9
      rw [h91, h92, h93]
      clear h91 h92 h93 r9 M9 n9
      refine g_i2l dX3_becomePart_35 ?_
      rw [iZ_j hr.2.1 hr.2.2]
      refine g_lload dX3_becomePart_36 rfl ?_
      refine g_mminJ dX3_becomePart_38 (iw_17 5 rfl) (iw_17 6 rfl) (iw_9 19 rfl) (iw_17 7 rfl) (Nat.le_of_ble_eq_true rfl) (Nat.le_of_ble_eq_true rfl) (Nat.le_of_ble_eq_true rfl) (Nat.le_of_ble_eq_true rfl) ?_
      rw [jI_min ht (by constructor <;> omega), Int.min_comm t (X.getD k (0, 0)).2]
      refine g_lstore dX3_becomePart_41 (Nat.le_of_ble_eq_true rfl) ?_
      refine g_lload dX3_becomePart_43 rfl ?_
      refine g_lload dX3_becomePart_45 rfl ?_
      refine g_lcmp dX3_becomePart_47 ?_
      have hm1 : r6 (max (X.getD k (0, 0)).1 f) := by constructor <;> omega
      have hm2 : r6 (min (X.getD k (0, 0)).2 t) := by constructor <;> omega
      refine g_if_gt (tgt := 61) dX3_becomePart_48 (by decide) (fun c_48 => ?_) (fun c_48 => ?_)
      · skip
        refine g_msk [true, true, true, false, true, false, true, false, false, false, false] ?_
        refine g_iinc dX3_becomePart_61 rfl (nI_1 k) (Nat.le_of_ble_eq_true rfl) ?_
        refine g_goto (tgt := 7) dX3_becomePart_64 (by decide) ?_
        have g1 := g.off hO (fun k => hab)
        have l2 := g.2.1.2.1
        first
          | exact ih (k + 1) M2 (by omega) (by omega) (hO.trans hO2) (by rw [hp9]; exact hI2)
          | exact ih (k + 1) M1 (by omega) (by omega) hO (by
              rw [clip_take hkl]
              unfold layP
              rw [if_neg (by rw [jc_gt hm1 hm2] at c_48; simp only; omega)]
              exact hI)
      · skip
        rw [jc_gt hm1 hm2] at c_48
        have hp9 : clip (X.take (k + 1)) f t = clip (X.take k) f t ++ [(max (X.getD k (0, 0)).1 f, min (X.getD k (0, 0)).2 t)] := by
          rw [clip_take hkl]
          unfold layP
          rw [if_pos (by simp only; omega)]
        have hok := clip_ok (okX_take g.2.1 (k + 1)) f t
        rw [hp9] at hok
        refine g_aload_n dX3_becomePart_51 rfl ?_
        refine g_lload dX3_becomePart_52 rfl ?_
        refine g_l2i dX3_becomePart_54 ?_
        rw [jI_i]
        refine g_lload dX3_becomePart_55 rfl ?_
        refine g_l2i dX3_becomePart_57 ?_
        rw [jI_i]
        refine g_callV dX3_becomePart_58 sX3_append (c_append M1 n a (clip (X.take k) f t) (max (X.getD k (0, 0)).1 f, min (X.getD k (0, 0)).2 t) hI hok) cl4 hI.1 iX3_append vX3_append (iw_17 20 rfl) rfl rfl (Nat.le_of_ble_eq_true rfl) (Nat.le_of_ble_eq_true rfl) (Nat.le_of_ble_eq_true rfl) (Nat.le_of_ble_eq_true rfl) (Nat.le_of_ble_eq_true rfl) ?_
        intro r9 M2 n9 h9
        obtain ⟨h91, h93, hO2, hI2⟩ := h9
        rw [h91, h93]
        clear h91 h93 r9 n9
        refine g_msk [true, true, true, false, true, false, true, false, false, false, false] ?_
        refine g_iinc dX3_becomePart_61 rfl (nI_1 k) (Nat.le_of_ble_eq_true rfl) ?_
        refine g_goto (tgt := 7) dX3_becomePart_64 (by decide) ?_
        have g1 := g.off hO (fun k => hab)
        have l2 := g.2.1.2.1
        first
          | exact ih (k + 1) M2 (by omega) (by omega) (hO.trans hO2) (by rw [hp9]; exact hI2)
          | exact ih (k + 1) M1 (by omega) (by omega) hO (by
              rw [clip_take hkl]
              unfold layP
              rw [if_neg (by rw [jc_gt hm1 hm2] at c_48; simp only; omega)]
              exact hI)

set_option maxHeartbeats 4000000 in
set_option maxRecDepth 100000 in
theorem c_part (M : gM) (n a b : Nat) (X : List Sp) (f t : Int) (hab : b ≠ a) (hk : mK M a = 4) (g : cS M b X) (hf : r6 f) (ht : r6 t) : GM μX3_becomePart 1 23 0 0 [.ref a, .ref b, .long (jI f), .long (jI t)] M n (fun r M1 n1 => r = none ∧ n1 = n ∧ Off M M1 (fO a) ∧ cS M1 a (clip X f t)) := by
  refine GM.ofW (by decide) rfl (Nat.le_of_ble_eq_true rfl) rfl ?_
  refine g_aload_n dX3_becomePart_0 rfl ?_
  refine g_callV dX3_becomePart_1 sX3_becomeNothing (c_nothing M n a hk) cl4 hk iX3_becomeNothing vX3_becomeNothing (iw_17 8 rfl) rfl rfl (Nat.le_of_ble_eq_true rfl) (Nat.le_of_ble_eq_true rfl) (Nat.le_of_ble_eq_true rfl) (Nat.le_of_ble_eq_true rfl) (Nat.le_of_ble_eq_true rfl) ?_
  intro r9 M1 n9 h9
  obtain ⟨h91, h93, hO1, hI1⟩ := h9
  rw [h91, h93]
  clear h91 h93 r9 n9
  refine g_iconst (v := nI 0) dX3_becomePart_4 rfl ?_
  refine g_istore dX3_becomePart_5 (Nat.le_of_ble_eq_true rfl) ?_
  refine l_part hab g hf ht (fun M2 hO2 hI2 => ?_) (X.length + 1) 0 M1 (by omega) (by omega) hO1 hI1
  exact g_vret dX3_becomePart_67 rfl (Nat.le_refl _) (Nat.le_refl _) ⟨rfl, rfl, hO2, hI2⟩

set_option maxHeartbeats 4000000 in
set_option maxRecDepth 100000 in
theorem l_without {M : gM} {n a b : Nat} {X : List Sp} {v : Int} {Q : gθ} (hab : b ≠ a) (g : cS M b X) (hv : r5 v) (hk : ∀ M1, Off M M1 (fO a) → cS M1 a (losL X v) → GW μX3_becomeWithoutEnd (gRm 1 22 0 0) Q 0 0 86 [some (.ref a), some (.ref b), some (.int (iZ v)), none, none, none, none, none] [] M1 n) : ∀ (d : Nat) (k : Nat) (M1 : gM), X.length - k < d → k ≤ X.length → Off M M1 (fO a) → cS M1 a (losL (X.take k) v) → GW μX3_becomeWithoutEnd (gRm 1 22 0 0) Q 0 0 6 [some (.ref a), some (.ref b), some (.int (iZ v)), some (.int (nI k)), none, none, none, none] [] M1 n := by
  intro d
  induction d with
  | zero =>
    intro k M1 hd hk1 hO hI
    omega
  | succ d ih =>
    intro k M1 hd hk1 hO hI
    have g1 := g.off hO (fun k => hab)
    have l2 := g.2.1.2.1
    refine g_iload_n dX3_becomeWithoutEnd_6 rfl ?_
    refine g_aload_n dX3_becomeWithoutEnd_7 rfl ?_
    refine g_getI (f := 0) dX3_becomeWithoutEnd_8 cl4 g1.1 (by decide) (Or.inl (iw_3 13 rfl)) (Or.inl rfl) (Or.inl rfl) ?_
    rw [g1.2.2.1]
    refine g_icmp_ge (tgt := 86) dX3_becomeWithoutEnd_11 (by decide) (fun c_11 => ?_) (fun c_11 => ?_)
    · skip
      rw [nI_leI (by omega) (by omega)] at c_11
      refine g_msk [true, true, true, false, false, false, false, false] ?_
      exact hk M1 hO (by rw [List.take_of_length_le (by omega)] at hI; exact hI)
    · skip
      rw [nI_leI (by omega) (by omega)] at c_11
      have hkl : k < X.length := by omega
      have hr := g.r hkl
      have rl : r6 (los1 v (X.getD k (0, 0))).1 := by unfold los1; simp only; split <;> constructor <;> omega
      have rh : r6 (los1 v (X.getD k (0, 0))).2 := by unfold los1; simp only; split <;> constructor <;> omega
      refine g_aload_n dX3_becomeWithoutEnd_14 rfl ?_
      refine g_iload_n dX3_becomeWithoutEnd_15 rfl ?_
      refine g_callV dX3_becomeWithoutEnd_16 sX3_low (c_low M1 n b k X g1 hkl) cl4 g1.1 iX3_low vX3_low (iw_17 12 rfl) rfl rfl (Nat.le_of_ble_eq_true rfl) (Nat.le_of_ble_eq_true rfl) (Nat.le_of_ble_eq_true rfl) (Nat.le_of_ble_eq_true rfl) (Nat.le_of_ble_eq_true rfl) ?_
      intro r9 M9 n9 h9
      obtain ⟨h91, h92, h93⟩ := h9
      rw [h91, h92, h93]
      clear h91 h92 h93 r9 M9 n9
      refine g_iload_n dX3_becomeWithoutEnd_19 rfl ?_
      refine g_icmp_ne (tgt := 30) dX3_becomeWithoutEnd_20 (by decide) (fun c_20 => ?_) (fun c_20 => ?_)
      · skip
        rw [iZ_eq hr.1 hv] at c_20
        refine g_aload_n dX3_becomeWithoutEnd_30 rfl ?_
        refine g_iload_n dX3_becomeWithoutEnd_31 rfl ?_
        refine g_callV dX3_becomeWithoutEnd_32 sX3_low (c_low M1 n b k X g1 hkl) cl4 g1.1 iX3_low vX3_low (iw_17 12 rfl) rfl rfl (Nat.le_of_ble_eq_true rfl) (Nat.le_of_ble_eq_true rfl) (Nat.le_of_ble_eq_true rfl) (Nat.le_of_ble_eq_true rfl) (Nat.le_of_ble_eq_true rfl) ?_
        intro r9 M9 n9 h9
        obtain ⟨h91, h92, h93⟩ := h9
        rw [h91, h92, h93]
        clear h91 h92 h93 r9 M9 n9
        refine g_i2l dX3_becomeWithoutEnd_35 ?_
        first
          | rw [jI_add, show v + 1 = (los1 v (X.getD k (0, 0))).1 by unfold los1; simp only; rw [if_pos c_20, c_20]]
          | rw [iZ_j hr.1.1 hr.1.2, show (X.getD k (0, 0)).1 = (los1 v (X.getD k (0, 0))).1 by unfold los1; simp only; rw [if_neg c_20]]
        clear c_20
        refine g_lstore dX3_becomeWithoutEnd_36 (Nat.le_of_ble_eq_true rfl) ?_
        refine g_aload_n dX3_becomeWithoutEnd_38 rfl ?_
        refine g_iload_n dX3_becomeWithoutEnd_39 rfl ?_
        refine g_callV dX3_becomeWithoutEnd_40 sX3_high (c_high M1 n b k X g1 hkl) cl4 g1.1 iX3_high vX3_high (iw_17 16 rfl) rfl rfl (Nat.le_of_ble_eq_true rfl) (Nat.le_of_ble_eq_true rfl) (Nat.le_of_ble_eq_true rfl) (Nat.le_of_ble_eq_true rfl) (Nat.le_of_ble_eq_true rfl) ?_
        intro r9 M9 n9 h9
        obtain ⟨h91, h92, h93⟩ := h9
        rw [h91, h92, h93]
        clear h91 h92 h93 r9 M9 n9
        refine g_iload_n dX3_becomeWithoutEnd_43 rfl ?_
        refine g_icmp_ne (tgt := 54) dX3_becomeWithoutEnd_44 (by decide) (fun c_44 => ?_) (fun c_44 => ?_)
        · skip
          rw [iZ_eq hr.2 hv] at c_44
          refine g_aload_n dX3_becomeWithoutEnd_54 rfl ?_
          refine g_iload_n dX3_becomeWithoutEnd_55 rfl ?_
          refine g_callV dX3_becomeWithoutEnd_56 sX3_high (c_high M1 n b k X g1 hkl) cl4 g1.1 iX3_high vX3_high (iw_17 16 rfl) rfl rfl (Nat.le_of_ble_eq_true rfl) (Nat.le_of_ble_eq_true rfl) (Nat.le_of_ble_eq_true rfl) (Nat.le_of_ble_eq_true rfl) (Nat.le_of_ble_eq_true rfl) ?_
          intro r9 M9 n9 h9
          obtain ⟨h91, h92, h93⟩ := h9
          rw [h91, h92, h93]
          clear h91 h92 h93 r9 M9 n9
          refine g_i2l dX3_becomeWithoutEnd_59 ?_
          first
            | rw [jI_sub, show v - 1 = (los1 v (X.getD k (0, 0))).2 by unfold los1; simp only; rw [if_pos c_44, c_44]]
            | rw [iZ_j hr.2.1 hr.2.2, show (X.getD k (0, 0)).2 = (los1 v (X.getD k (0, 0))).2 by unfold los1; simp only; rw [if_neg c_44]]
          clear c_44
          refine g_lstore dX3_becomeWithoutEnd_60 (Nat.le_of_ble_eq_true rfl) ?_
          refine g_lload dX3_becomeWithoutEnd_62 rfl ?_
          refine g_lload dX3_becomeWithoutEnd_64 rfl ?_
          refine g_lcmp dX3_becomeWithoutEnd_66 ?_
          refine g_if_gt (tgt := 80) dX3_becomeWithoutEnd_67 (by decide) (fun c_67 => ?_) (fun c_67 => ?_)
          · skip
            refine g_msk [true, true, true, true, false, false, false, false] ?_
            refine g_iinc dX3_becomeWithoutEnd_80 rfl (nI_1 k) (Nat.le_of_ble_eq_true rfl) ?_
            refine g_goto (tgt := 6) dX3_becomeWithoutEnd_83 (by decide) ?_
            have g1 := g.off hO (fun k => hab)
            have l2 := g.2.1.2.1
            first
              | exact ih (k + 1) M2 (by omega) (by omega) (hO.trans hO2) (by rw [hp9]; exact hI2)
              | exact ih (k + 1) M1 (by omega) (by omega) hO (by
                  rw [losL_take hkl]
                  unfold layP
                  rw [if_neg (by rw [jc_gt rl rh] at c_67; omega)]
                  exact hI)
          · skip
            rw [jc_gt rl rh] at c_67
            have hp9 : losL (X.take (k + 1)) v = losL (X.take k) v ++ [los1 v (X.getD k (0, 0))] := by
              rw [losL_take hkl]
              unfold layP
              rw [if_pos (by omega)]
            have hok := los_ok (okX_take g.2.1 (k + 1)) v
            rw [hp9] at hok
            refine g_aload_n dX3_becomeWithoutEnd_70 rfl ?_
            refine g_lload dX3_becomeWithoutEnd_71 rfl ?_
            refine g_l2i dX3_becomeWithoutEnd_73 ?_
            rw [jI_i]
            refine g_lload dX3_becomeWithoutEnd_74 rfl ?_
            refine g_l2i dX3_becomeWithoutEnd_76 ?_
            rw [jI_i]
            refine g_callV dX3_becomeWithoutEnd_77 sX3_append (c_append M1 n a (losL (X.take k) v) (los1 v (X.getD k (0, 0))) hI hok) cl4 hI.1 iX3_append vX3_append (iw_17 20 rfl) rfl rfl (Nat.le_of_ble_eq_true rfl) (Nat.le_of_ble_eq_true rfl) (Nat.le_of_ble_eq_true rfl) (Nat.le_of_ble_eq_true rfl) (Nat.le_of_ble_eq_true rfl) ?_
            intro r9 M2 n9 h9
            obtain ⟨h91, h93, hO2, hI2⟩ := h9
            rw [h91, h93]
            clear h91 h93 r9 n9
            refine g_msk [true, true, true, true, false, false, false, false] ?_
            refine g_iinc dX3_becomeWithoutEnd_80 rfl (nI_1 k) (Nat.le_of_ble_eq_true rfl) ?_
            refine g_goto (tgt := 6) dX3_becomeWithoutEnd_83 (by decide) ?_
            have g1 := g.off hO (fun k => hab)
            have l2 := g.2.1.2.1
            first
              | exact ih (k + 1) M2 (by omega) (by omega) (hO.trans hO2) (by rw [hp9]; exact hI2)
              | exact ih (k + 1) M1 (by omega) (by omega) hO (by
                  rw [losL_take hkl]
                  unfold layP
                  rw [if_neg (by rw [jc_gt rl rh] at c_67; omega)]
                  exact hI)
        · skip
          rw [iZ_eq hr.2 hv] at c_44
          refine g_iload_n dX3_becomeWithoutEnd_47 rfl ?_
          refine g_i2l dX3_becomeWithoutEnd_48 ?_
          rw [iZ_j hv.1 hv.2]
          refine g_lconst (v := jI 1) dX3_becomeWithoutEnd_49 rfl ?_
          refine g_lsub dX3_becomeWithoutEnd_50 ?_
          refine g_goto (tgt := 60) dX3_becomeWithoutEnd_51 (by decide) ?_
          first
            | rw [jI_sub, show v - 1 = (los1 v (X.getD k (0, 0))).2 by unfold los1; simp only; rw [if_pos c_44, c_44]]
            | rw [iZ_j hr.2.1 hr.2.2, show (X.getD k (0, 0)).2 = (los1 v (X.getD k (0, 0))).2 by unfold los1; simp only; rw [if_neg c_44]]
          clear c_44
          refine g_lstore dX3_becomeWithoutEnd_60 (Nat.le_of_ble_eq_true rfl) ?_
          refine g_lload dX3_becomeWithoutEnd_62 rfl ?_
          refine g_lload dX3_becomeWithoutEnd_64 rfl ?_
          refine g_lcmp dX3_becomeWithoutEnd_66 ?_
          refine g_if_gt (tgt := 80) dX3_becomeWithoutEnd_67 (by decide) (fun c_67 => ?_) (fun c_67 => ?_)
          · skip
            refine g_msk [true, true, true, true, false, false, false, false] ?_
            refine g_iinc dX3_becomeWithoutEnd_80 rfl (nI_1 k) (Nat.le_of_ble_eq_true rfl) ?_
            refine g_goto (tgt := 6) dX3_becomeWithoutEnd_83 (by decide) ?_
            have g1 := g.off hO (fun k => hab)
            have l2 := g.2.1.2.1
            first
              | exact ih (k + 1) M2 (by omega) (by omega) (hO.trans hO2) (by rw [hp9]; exact hI2)
              | exact ih (k + 1) M1 (by omega) (by omega) hO (by
                  rw [losL_take hkl]
                  unfold layP
                  rw [if_neg (by rw [jc_gt rl rh] at c_67; omega)]
                  exact hI)
          · skip
            rw [jc_gt rl rh] at c_67
            have hp9 : losL (X.take (k + 1)) v = losL (X.take k) v ++ [los1 v (X.getD k (0, 0))] := by
              rw [losL_take hkl]
              unfold layP
              rw [if_pos (by omega)]
            have hok := los_ok (okX_take g.2.1 (k + 1)) v
            rw [hp9] at hok
            refine g_aload_n dX3_becomeWithoutEnd_70 rfl ?_
            refine g_lload dX3_becomeWithoutEnd_71 rfl ?_
            refine g_l2i dX3_becomeWithoutEnd_73 ?_
            rw [jI_i]
            refine g_lload dX3_becomeWithoutEnd_74 rfl ?_
            refine g_l2i dX3_becomeWithoutEnd_76 ?_
            rw [jI_i]
            refine g_callV dX3_becomeWithoutEnd_77 sX3_append (c_append M1 n a (losL (X.take k) v) (los1 v (X.getD k (0, 0))) hI hok) cl4 hI.1 iX3_append vX3_append (iw_17 20 rfl) rfl rfl (Nat.le_of_ble_eq_true rfl) (Nat.le_of_ble_eq_true rfl) (Nat.le_of_ble_eq_true rfl) (Nat.le_of_ble_eq_true rfl) (Nat.le_of_ble_eq_true rfl) ?_
            intro r9 M2 n9 h9
            obtain ⟨h91, h93, hO2, hI2⟩ := h9
            rw [h91, h93]
            clear h91 h93 r9 n9
            refine g_msk [true, true, true, true, false, false, false, false] ?_
            refine g_iinc dX3_becomeWithoutEnd_80 rfl (nI_1 k) (Nat.le_of_ble_eq_true rfl) ?_
            refine g_goto (tgt := 6) dX3_becomeWithoutEnd_83 (by decide) ?_
            have g1 := g.off hO (fun k => hab)
            have l2 := g.2.1.2.1
            first
              | exact ih (k + 1) M2 (by omega) (by omega) (hO.trans hO2) (by rw [hp9]; exact hI2)
              | exact ih (k + 1) M1 (by omega) (by omega) hO (by
                  rw [losL_take hkl]
                  unfold layP
                  rw [if_neg (by rw [jc_gt rl rh] at c_67; omega)]
                  exact hI)
      · skip
        rw [iZ_eq hr.1 hv] at c_20
        refine g_iload_n dX3_becomeWithoutEnd_23 rfl ?_
        refine g_i2l dX3_becomeWithoutEnd_24 ?_
        rw [iZ_j hv.1 hv.2]
        refine g_lconst (v := jI 1) dX3_becomeWithoutEnd_25 rfl ?_
        refine g_ladd dX3_becomeWithoutEnd_26 ?_
        refine g_goto (tgt := 36) dX3_becomeWithoutEnd_27 (by decide) ?_
        first
          | rw [jI_add, show v + 1 = (los1 v (X.getD k (0, 0))).1 by unfold los1; simp only; rw [if_pos c_20, c_20]]
          | rw [iZ_j hr.1.1 hr.1.2, show (X.getD k (0, 0)).1 = (los1 v (X.getD k (0, 0))).1 by unfold los1; simp only; rw [if_neg c_20]]
        clear c_20
        refine g_lstore dX3_becomeWithoutEnd_36 (Nat.le_of_ble_eq_true rfl) ?_
        refine g_aload_n dX3_becomeWithoutEnd_38 rfl ?_
        refine g_iload_n dX3_becomeWithoutEnd_39 rfl ?_
        refine g_callV dX3_becomeWithoutEnd_40 sX3_high (c_high M1 n b k X g1 hkl) cl4 g1.1 iX3_high vX3_high (iw_17 16 rfl) rfl rfl (Nat.le_of_ble_eq_true rfl) (Nat.le_of_ble_eq_true rfl) (Nat.le_of_ble_eq_true rfl) (Nat.le_of_ble_eq_true rfl) (Nat.le_of_ble_eq_true rfl) ?_
        intro r9 M9 n9 h9
        obtain ⟨h91, h92, h93⟩ := h9
        rw [h91, h92, h93]
        clear h91 h92 h93 r9 M9 n9
        refine g_iload_n dX3_becomeWithoutEnd_43 rfl ?_
        refine g_icmp_ne (tgt := 54) dX3_becomeWithoutEnd_44 (by decide) (fun c_44 => ?_) (fun c_44 => ?_)
        · skip
          rw [iZ_eq hr.2 hv] at c_44
          refine g_aload_n dX3_becomeWithoutEnd_54 rfl ?_
          refine g_iload_n dX3_becomeWithoutEnd_55 rfl ?_
          refine g_callV dX3_becomeWithoutEnd_56 sX3_high (c_high M1 n b k X g1 hkl) cl4 g1.1 iX3_high vX3_high (iw_17 16 rfl) rfl rfl (Nat.le_of_ble_eq_true rfl) (Nat.le_of_ble_eq_true rfl) (Nat.le_of_ble_eq_true rfl) (Nat.le_of_ble_eq_true rfl) (Nat.le_of_ble_eq_true rfl) ?_
          intro r9 M9 n9 h9
          obtain ⟨h91, h92, h93⟩ := h9
          rw [h91, h92, h93]
          clear h91 h92 h93 r9 M9 n9
          refine g_i2l dX3_becomeWithoutEnd_59 ?_
          first
            | rw [jI_sub, show v - 1 = (los1 v (X.getD k (0, 0))).2 by unfold los1; simp only; rw [if_pos c_44, c_44]]
            | rw [iZ_j hr.2.1 hr.2.2, show (X.getD k (0, 0)).2 = (los1 v (X.getD k (0, 0))).2 by unfold los1; simp only; rw [if_neg c_44]]
          clear c_44
          refine g_lstore dX3_becomeWithoutEnd_60 (Nat.le_of_ble_eq_true rfl) ?_
          refine g_lload dX3_becomeWithoutEnd_62 rfl ?_
          refine g_lload dX3_becomeWithoutEnd_64 rfl ?_
          refine g_lcmp dX3_becomeWithoutEnd_66 ?_
          refine g_if_gt (tgt := 80) dX3_becomeWithoutEnd_67 (by decide) (fun c_67 => ?_) (fun c_67 => ?_)
          · skip
            refine g_msk [true, true, true, true, false, false, false, false] ?_
            refine g_iinc dX3_becomeWithoutEnd_80 rfl (nI_1 k) (Nat.le_of_ble_eq_true rfl) ?_
            refine g_goto (tgt := 6) dX3_becomeWithoutEnd_83 (by decide) ?_
            have g1 := g.off hO (fun k => hab)
            have l2 := g.2.1.2.1
            first
              | exact ih (k + 1) M2 (by omega) (by omega) (hO.trans hO2) (by rw [hp9]; exact hI2)
              | exact ih (k + 1) M1 (by omega) (by omega) hO (by
                  rw [losL_take hkl]
                  unfold layP
                  rw [if_neg (by rw [jc_gt rl rh] at c_67; omega)]
                  exact hI)
          · skip
            rw [jc_gt rl rh] at c_67
            have hp9 : losL (X.take (k + 1)) v = losL (X.take k) v ++ [los1 v (X.getD k (0, 0))] := by
              rw [losL_take hkl]
              unfold layP
              rw [if_pos (by omega)]
            have hok := los_ok (okX_take g.2.1 (k + 1)) v
            rw [hp9] at hok
            refine g_aload_n dX3_becomeWithoutEnd_70 rfl ?_
            refine g_lload dX3_becomeWithoutEnd_71 rfl ?_
            refine g_l2i dX3_becomeWithoutEnd_73 ?_
            rw [jI_i]
            refine g_lload dX3_becomeWithoutEnd_74 rfl ?_
            refine g_l2i dX3_becomeWithoutEnd_76 ?_
            rw [jI_i]
            refine g_callV dX3_becomeWithoutEnd_77 sX3_append (c_append M1 n a (losL (X.take k) v) (los1 v (X.getD k (0, 0))) hI hok) cl4 hI.1 iX3_append vX3_append (iw_17 20 rfl) rfl rfl (Nat.le_of_ble_eq_true rfl) (Nat.le_of_ble_eq_true rfl) (Nat.le_of_ble_eq_true rfl) (Nat.le_of_ble_eq_true rfl) (Nat.le_of_ble_eq_true rfl) ?_
            intro r9 M2 n9 h9
            obtain ⟨h91, h93, hO2, hI2⟩ := h9
            rw [h91, h93]
            clear h91 h93 r9 n9
            refine g_msk [true, true, true, true, false, false, false, false] ?_
            refine g_iinc dX3_becomeWithoutEnd_80 rfl (nI_1 k) (Nat.le_of_ble_eq_true rfl) ?_
            refine g_goto (tgt := 6) dX3_becomeWithoutEnd_83 (by decide) ?_
            have g1 := g.off hO (fun k => hab)
            have l2 := g.2.1.2.1
            first
              | exact ih (k + 1) M2 (by omega) (by omega) (hO.trans hO2) (by rw [hp9]; exact hI2)
              | exact ih (k + 1) M1 (by omega) (by omega) hO (by
                  rw [losL_take hkl]
                  unfold layP
                  rw [if_neg (by rw [jc_gt rl rh] at c_67; omega)]
                  exact hI)
        · skip
          rw [iZ_eq hr.2 hv] at c_44
          refine g_iload_n dX3_becomeWithoutEnd_47 rfl ?_
          refine g_i2l dX3_becomeWithoutEnd_48 ?_
          rw [iZ_j hv.1 hv.2]
          refine g_lconst (v := jI 1) dX3_becomeWithoutEnd_49 rfl ?_
          refine g_lsub dX3_becomeWithoutEnd_50 ?_
          refine g_goto (tgt := 60) dX3_becomeWithoutEnd_51 (by decide) ?_
          first
            | rw [jI_sub, show v - 1 = (los1 v (X.getD k (0, 0))).2 by unfold los1; simp only; rw [if_pos c_44, c_44]]
            | rw [iZ_j hr.2.1 hr.2.2, show (X.getD k (0, 0)).2 = (los1 v (X.getD k (0, 0))).2 by unfold los1; simp only; rw [if_neg c_44]]
          clear c_44
          refine g_lstore dX3_becomeWithoutEnd_60 (Nat.le_of_ble_eq_true rfl) ?_
          refine g_lload dX3_becomeWithoutEnd_62 rfl ?_
          refine g_lload dX3_becomeWithoutEnd_64 rfl ?_
          refine g_lcmp dX3_becomeWithoutEnd_66 ?_
          refine g_if_gt (tgt := 80) dX3_becomeWithoutEnd_67 (by decide) (fun c_67 => ?_) (fun c_67 => ?_)
          · skip
            refine g_msk [true, true, true, true, false, false, false, false] ?_
            refine g_iinc dX3_becomeWithoutEnd_80 rfl (nI_1 k) (Nat.le_of_ble_eq_true rfl) ?_
            refine g_goto (tgt := 6) dX3_becomeWithoutEnd_83 (by decide) ?_
            have g1 := g.off hO (fun k => hab)
            have l2 := g.2.1.2.1
            first
              | exact ih (k + 1) M2 (by omega) (by omega) (hO.trans hO2) (by rw [hp9]; exact hI2)
              | exact ih (k + 1) M1 (by omega) (by omega) hO (by
                  rw [losL_take hkl]
                  unfold layP
                  rw [if_neg (by rw [jc_gt rl rh] at c_67; omega)]
                  exact hI)
          · skip
            rw [jc_gt rl rh] at c_67
            have hp9 : losL (X.take (k + 1)) v = losL (X.take k) v ++ [los1 v (X.getD k (0, 0))] := by
              rw [losL_take hkl]
              unfold layP
              rw [if_pos (by omega)]
            have hok := los_ok (okX_take g.2.1 (k + 1)) v
            rw [hp9] at hok
            refine g_aload_n dX3_becomeWithoutEnd_70 rfl ?_
            refine g_lload dX3_becomeWithoutEnd_71 rfl ?_
            refine g_l2i dX3_becomeWithoutEnd_73 ?_
            rw [jI_i]
            refine g_lload dX3_becomeWithoutEnd_74 rfl ?_
            refine g_l2i dX3_becomeWithoutEnd_76 ?_
            rw [jI_i]
            refine g_callV dX3_becomeWithoutEnd_77 sX3_append (c_append M1 n a (losL (X.take k) v) (los1 v (X.getD k (0, 0))) hI hok) cl4 hI.1 iX3_append vX3_append (iw_17 20 rfl) rfl rfl (Nat.le_of_ble_eq_true rfl) (Nat.le_of_ble_eq_true rfl) (Nat.le_of_ble_eq_true rfl) (Nat.le_of_ble_eq_true rfl) (Nat.le_of_ble_eq_true rfl) ?_
            intro r9 M2 n9 h9
            obtain ⟨h91, h93, hO2, hI2⟩ := h9
            rw [h91, h93]
            clear h91 h93 r9 n9
            refine g_msk [true, true, true, true, false, false, false, false] ?_
            refine g_iinc dX3_becomeWithoutEnd_80 rfl (nI_1 k) (Nat.le_of_ble_eq_true rfl) ?_
            refine g_goto (tgt := 6) dX3_becomeWithoutEnd_83 (by decide) ?_
            have g1 := g.off hO (fun k => hab)
            have l2 := g.2.1.2.1
            first
              | exact ih (k + 1) M2 (by omega) (by omega) (hO.trans hO2) (by rw [hp9]; exact hI2)
              | exact ih (k + 1) M1 (by omega) (by omega) hO (by
                  rw [losL_take hkl]
                  unfold layP
                  rw [if_neg (by rw [jc_gt rl rh] at c_67; omega)]
                  exact hI)

set_option maxHeartbeats 4000000 in
set_option maxRecDepth 100000 in
theorem c_without (M : gM) (n a b : Nat) (X : List Sp) (v : Int) (hab : b ≠ a) (hk : mK M a = 4) (g : cS M b X) (hv : r5 v) : GM μX3_becomeWithoutEnd 1 22 0 0 [.ref a, .ref b, .int (iZ v)] M n (fun r M1 n1 => r = none ∧ n1 = n ∧ Off M M1 (fO a) ∧ cS M1 a (losL X v)) := by
  refine GM.ofW (by decide) rfl (Nat.le_of_ble_eq_true rfl) rfl ?_
  refine g_aload_n dX3_becomeWithoutEnd_0 rfl ?_
  refine g_callV dX3_becomeWithoutEnd_1 sX3_becomeNothing (c_nothing M n a hk) cl4 hk iX3_becomeNothing vX3_becomeNothing (iw_17 8 rfl) rfl rfl (Nat.le_of_ble_eq_true rfl) (Nat.le_of_ble_eq_true rfl) (Nat.le_of_ble_eq_true rfl) (Nat.le_of_ble_eq_true rfl) (Nat.le_of_ble_eq_true rfl) ?_
  intro r9 M1 n9 h9
  obtain ⟨h91, h93, hO1, hI1⟩ := h9
  rw [h91, h93]
  clear h91 h93 r9 n9
  refine g_iconst (v := nI 0) dX3_becomeWithoutEnd_4 rfl ?_
  refine g_istore_n dX3_becomeWithoutEnd_5 (Nat.le_of_ble_eq_true rfl) ?_
  refine l_without hab g hv (fun M2 hO2 hI2 => ?_) (X.length + 1) 0 M1 (by omega) (by omega) hO1 hI1
  exact g_vret dX3_becomeWithoutEnd_86 rfl (Nat.le_refl _) (Nat.le_refl _) ⟨rfl, rfl, hO2, hI2⟩

