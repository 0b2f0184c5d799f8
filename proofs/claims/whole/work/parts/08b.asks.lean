/-! the class: what it asks first; throws -/
set_option maxHeartbeats 4000000 in
set_option maxRecDepth 100000 in
theorem c_isPlace (M : gM) (n : Nat) (x : Int32) : GM μX8_isPlace 0 0 0 0 [.int x] M n (fun r M1 n1 => r = some (.int (bI (decide (isP x)))) ∧ M1 = M ∧ n1 = n) := by
  refine GM.ofW (by decide) rfl (Nat.le_of_ble_eq_true rfl) rfl ?_
  refine g_iload_n dX8_isPlace_0 rfl ?_
  refine g_if_lt (tgt := 14) dX8_isPlace_1 (by decide) (fun c_1 => ?_) (fun c_1 => ?_)
  · skip
    refine g_iconst (v := nI 0) dX8_isPlace_14 rfl ?_
    exact g_iret dX8_isPlace_15 (Or.inr ⟨rfl, by first | exact Or.inl rfl | exact Or.inr rfl⟩) (Nat.le_of_ble_eq_true rfl) (Nat.le_of_ble_eq_true rfl) (by
      refine ⟨?_, rfl, rfl⟩
      (try rw [i_lt, t_0] at c_1)
      (try rw [i_le, show (nI 8).toInt = 8 from rfl] at c_7)
      first | (rw [decide_eq_true (by omega)]; rfl) | (rw [decide_eq_false (by omega)]; rfl))
  · skip
    refine g_iload_n dX8_isPlace_4 rfl ?_
    refine g_bipush (v := nI 8) dX8_isPlace_5 rfl ?_
    refine g_icmp_ge (tgt := 14) dX8_isPlace_7 (by decide) (fun c_7 => ?_) (fun c_7 => ?_)
    · skip
      refine g_iconst (v := nI 0) dX8_isPlace_14 rfl ?_
      exact g_iret dX8_isPlace_15 (Or.inr ⟨rfl, by first | exact Or.inl rfl | exact Or.inr rfl⟩) (Nat.le_of_ble_eq_true rfl) (Nat.le_of_ble_eq_true rfl) (by
        refine ⟨?_, rfl, rfl⟩
        (try rw [i_lt, t_0] at c_1)
        (try rw [i_le, show (nI 8).toInt = 8 from rfl] at c_7)
        first | (rw [decide_eq_true (by omega)]; rfl) | (rw [decide_eq_false (by omega)]; rfl))
    · skip
      refine g_iconst (v := nI 1) dX8_isPlace_10 rfl ?_
      refine g_goto (tgt := 15) dX8_isPlace_11 (by decide) ?_
      exact g_iret dX8_isPlace_15 (Or.inr ⟨rfl, by first | exact Or.inl rfl | exact Or.inr rfl⟩) (Nat.le_of_ble_eq_true rfl) (Nat.le_of_ble_eq_true rfl) (by
        refine ⟨?_, rfl, rfl⟩
        (try rw [i_lt, t_0] at c_1)
        (try rw [i_le, show (nI 8).toInt = 8 from rfl] at c_7)
        first | (rw [decide_eq_true (by omega)]; rfl) | (rw [decide_eq_false (by omega)]; rfl))

set_option maxHeartbeats 4000000 in
set_option maxRecDepth 100000 in
theorem c_mayBe (M : gM) (n : Nat) (x : Int32) : GM μX8_mayBeNext 0 0 0 0 [.int x] M n (fun r M1 n1 => r = some (.int (bI (decide (0 ≤ x.toInt ∧ x.toInt ≤ 40)))) ∧ M1 = M ∧ n1 = n) := by
  refine GM.ofW (by decide) rfl (Nat.le_of_ble_eq_true rfl) rfl ?_
  refine g_iload_n dX8_mayBeNext_0 rfl ?_
  refine g_if_lt (tgt := 14) dX8_mayBeNext_1 (by decide) (fun c_1 => ?_) (fun c_1 => ?_)
  · skip
    refine g_iconst (v := nI 0) dX8_mayBeNext_14 rfl ?_
    exact g_iret dX8_mayBeNext_15 (Or.inr ⟨rfl, by first | exact Or.inl rfl | exact Or.inr rfl⟩) (Nat.le_of_ble_eq_true rfl) (Nat.le_of_ble_eq_true rfl) (by
      refine ⟨?_, rfl, rfl⟩
      (try rw [i_lt, t_0] at c_1)
      (try rw [i_lt, show (nI 40).toInt = 40 from rfl] at c_7)
      first | (rw [decide_eq_true (by omega)]; rfl) | (rw [decide_eq_false (by omega)]; rfl))
  · skip
    refine g_iload_n dX8_mayBeNext_4 rfl ?_
    refine g_bipush (v := nI 40) dX8_mayBeNext_5 rfl ?_
    refine g_icmp_gt (tgt := 14) dX8_mayBeNext_7 (by decide) (fun c_7 => ?_) (fun c_7 => ?_)
    · skip
      refine g_iconst (v := nI 0) dX8_mayBeNext_14 rfl ?_
      exact g_iret dX8_mayBeNext_15 (Or.inr ⟨rfl, by first | exact Or.inl rfl | exact Or.inr rfl⟩) (Nat.le_of_ble_eq_true rfl) (Nat.le_of_ble_eq_true rfl) (by
        refine ⟨?_, rfl, rfl⟩
        (try rw [i_lt, t_0] at c_1)
        (try rw [i_lt, show (nI 40).toInt = 40 from rfl] at c_7)
        first | (rw [decide_eq_true (by omega)]; rfl) | (rw [decide_eq_false (by omega)]; rfl))
    · skip
      refine g_iconst (v := nI 1) dX8_mayBeNext_10 rfl ?_
      refine g_goto (tgt := 15) dX8_mayBeNext_11 (by decide) ?_
      exact g_iret dX8_mayBeNext_15 (Or.inr ⟨rfl, by first | exact Or.inl rfl | exact Or.inr rfl⟩) (Nat.le_of_ble_eq_true rfl) (Nat.le_of_ble_eq_true rfl) (by
        refine ⟨?_, rfl, rfl⟩
        (try rw [i_lt, t_0] at c_1)
        (try rw [i_lt, show (nI 40).toInt = 40 from rfl] at c_7)
        first | (rw [decide_eq_true (by omega)]; rfl) | (rw [decide_eq_false (by omega)]; rfl))

set_option maxHeartbeats 4000000 in
set_option maxRecDepth 100000 in
theorem c_isCondX (M : gM) (n : Nat) (x : Int32) : GM μX8_isCondition 0 0 0 0 [.int x] M n (fun r M1 n1 => r = some (.int (bI (decide (opT x.toInt)))) ∧ M1 = M ∧ n1 = n) := by
  refine GM.ofW (by decide) rfl (Nat.le_of_ble_eq_true rfl) rfl ?_
  refine g_iload_n dX8_isCondition_0 rfl ?_
  refine g_bipush (v := nI 11) dX8_isCondition_1 rfl ?_
  refine g_icmp_lt (tgt := 16) dX8_isCondition_3 (by decide) (fun c_3 => ?_) (fun c_3 => ?_)
  · skip
    refine g_iconst (v := nI 0) dX8_isCondition_16 rfl ?_
    exact g_iret dX8_isCondition_17 (Or.inr ⟨rfl, by first | exact Or.inl rfl | exact Or.inr rfl⟩) (Nat.le_of_ble_eq_true rfl) (Nat.le_of_ble_eq_true rfl) (by
      refine ⟨?_, rfl, rfl⟩
      (try rw [i_lt, show (nI 11).toInt = 11 from rfl] at c_3)
      (try rw [i_le, show (nI 18).toInt = 18 from rfl] at c_9)
      first | (rw [decide_eq_true (by omega)]; rfl) | (rw [decide_eq_false (by omega)]; rfl))
  · skip
    refine g_iload_n dX8_isCondition_6 rfl ?_
    refine g_bipush (v := nI 18) dX8_isCondition_7 rfl ?_
    refine g_icmp_ge (tgt := 16) dX8_isCondition_9 (by decide) (fun c_9 => ?_) (fun c_9 => ?_)
    · skip
      refine g_iconst (v := nI 0) dX8_isCondition_16 rfl ?_
      exact g_iret dX8_isCondition_17 (Or.inr ⟨rfl, by first | exact Or.inl rfl | exact Or.inr rfl⟩) (Nat.le_of_ble_eq_true rfl) (Nat.le_of_ble_eq_true rfl) (by
        refine ⟨?_, rfl, rfl⟩
        (try rw [i_lt, show (nI 11).toInt = 11 from rfl] at c_3)
        (try rw [i_le, show (nI 18).toInt = 18 from rfl] at c_9)
        first | (rw [decide_eq_true (by omega)]; rfl) | (rw [decide_eq_false (by omega)]; rfl))
    · skip
      refine g_iconst (v := nI 1) dX8_isCondition_12 rfl ?_
      refine g_goto (tgt := 17) dX8_isCondition_13 (by decide) ?_
      exact g_iret dX8_isCondition_17 (Or.inr ⟨rfl, by first | exact Or.inl rfl | exact Or.inr rfl⟩) (Nat.le_of_ble_eq_true rfl) (Nat.le_of_ble_eq_true rfl) (by
        refine ⟨?_, rfl, rfl⟩
        (try rw [i_lt, show (nI 11).toInt = 11 from rfl] at c_3)
        (try rw [i_le, show (nI 18).toInt = 18 from rfl] at c_9)
        first | (rw [decide_eq_true (by omega)]; rfl) | (rw [decide_eq_false (by omega)]; rfl))

set_option maxHeartbeats 4000000 in
set_option maxRecDepth 100000 in
theorem c_two (M : gM) (n : Nat) (x : Int32) : GM μX8_namesTwoOperands 0 0 0 0 [.int x] M n (fun r M1 n1 => r = some (.int (bI (decide (op3 x.toInt)))) ∧ M1 = M ∧ n1 = n) := by
  refine GM.ofW (by decide) rfl (Nat.le_of_ble_eq_true rfl) rfl ?_
  refine g_iload_n dX8_namesTwoOperands_0 rfl ?_
  refine g_iconst (v := nI 2) dX8_namesTwoOperands_1 rfl ?_
  refine g_icmp_lt (tgt := 10) dX8_namesTwoOperands_2 (by decide) (fun c_2 => ?_) (fun c_2 => ?_)
  · skip
    refine g_iload_n dX8_namesTwoOperands_10 rfl ?_
    refine g_bipush (v := nI 7) dX8_namesTwoOperands_11 rfl ?_
    refine g_icmp_eq (tgt := 22) dX8_namesTwoOperands_13 (by decide) (fun c_13 => ?_) (fun c_13 => ?_)
    · skip
      refine g_iconst (v := nI 1) dX8_namesTwoOperands_22 rfl ?_
      refine g_goto (tgt := 27) dX8_namesTwoOperands_23 (by decide) ?_
      exact g_iret dX8_namesTwoOperands_27 (Or.inr ⟨rfl, by first | exact Or.inl rfl | exact Or.inr rfl⟩) (Nat.le_of_ble_eq_true rfl) (Nat.le_of_ble_eq_true rfl) (by
        refine ⟨?_, rfl, rfl⟩
        (try rw [i_lt, show (nI 2).toInt = 2 from rfl] at c_2)
        (try rw [i_le, show (nI 4).toInt = 4 from rfl] at c_7)
        (try rw [i_eq, show (nI 7).toInt = 7 from rfl] at c_13)
        (try rw [i_eq, show (nI 8).toInt = 8 from rfl] at c_19)
        first | (rw [decide_eq_true (by omega)]; rfl) | (rw [decide_eq_false (by omega)]; rfl))
    · skip
      refine g_iload_n dX8_namesTwoOperands_16 rfl ?_
      refine g_bipush (v := nI 8) dX8_namesTwoOperands_17 rfl ?_
      refine g_icmp_ne (tgt := 26) dX8_namesTwoOperands_19 (by decide) (fun c_19 => ?_) (fun c_19 => ?_)
      · skip
        refine g_iconst (v := nI 0) dX8_namesTwoOperands_26 rfl ?_
        exact g_iret dX8_namesTwoOperands_27 (Or.inr ⟨rfl, by first | exact Or.inl rfl | exact Or.inr rfl⟩) (Nat.le_of_ble_eq_true rfl) (Nat.le_of_ble_eq_true rfl) (by
          refine ⟨?_, rfl, rfl⟩
          (try rw [i_lt, show (nI 2).toInt = 2 from rfl] at c_2)
          (try rw [i_le, show (nI 4).toInt = 4 from rfl] at c_7)
          (try rw [i_eq, show (nI 7).toInt = 7 from rfl] at c_13)
          (try rw [i_eq, show (nI 8).toInt = 8 from rfl] at c_19)
          first | (rw [decide_eq_true (by omega)]; rfl) | (rw [decide_eq_false (by omega)]; rfl))
      · skip
        refine g_iconst (v := nI 1) dX8_namesTwoOperands_22 rfl ?_
        refine g_goto (tgt := 27) dX8_namesTwoOperands_23 (by decide) ?_
        exact g_iret dX8_namesTwoOperands_27 (Or.inr ⟨rfl, by first | exact Or.inl rfl | exact Or.inr rfl⟩) (Nat.le_of_ble_eq_true rfl) (Nat.le_of_ble_eq_true rfl) (by
          refine ⟨?_, rfl, rfl⟩
          (try rw [i_lt, show (nI 2).toInt = 2 from rfl] at c_2)
          (try rw [i_le, show (nI 4).toInt = 4 from rfl] at c_7)
          (try rw [i_eq, show (nI 7).toInt = 7 from rfl] at c_13)
          (try rw [i_eq, show (nI 8).toInt = 8 from rfl] at c_19)
          first | (rw [decide_eq_true (by omega)]; rfl) | (rw [decide_eq_false (by omega)]; rfl))
  · skip
    refine g_iload_n dX8_namesTwoOperands_5 rfl ?_
    refine g_iconst (v := nI 4) dX8_namesTwoOperands_6 rfl ?_
    refine g_icmp_le (tgt := 22) dX8_namesTwoOperands_7 (by decide) (fun c_7 => ?_) (fun c_7 => ?_)
    · skip
      refine g_iconst (v := nI 1) dX8_namesTwoOperands_22 rfl ?_
      refine g_goto (tgt := 27) dX8_namesTwoOperands_23 (by decide) ?_
      exact g_iret dX8_namesTwoOperands_27 (Or.inr ⟨rfl, by first | exact Or.inl rfl | exact Or.inr rfl⟩) (Nat.le_of_ble_eq_true rfl) (Nat.le_of_ble_eq_true rfl) (by
        refine ⟨?_, rfl, rfl⟩
        (try rw [i_lt, show (nI 2).toInt = 2 from rfl] at c_2)
        (try rw [i_le, show (nI 4).toInt = 4 from rfl] at c_7)
        (try rw [i_eq, show (nI 7).toInt = 7 from rfl] at c_13)
        (try rw [i_eq, show (nI 8).toInt = 8 from rfl] at c_19)
        first | (rw [decide_eq_true (by omega)]; rfl) | (rw [decide_eq_false (by omega)]; rfl))
    · skip
      refine g_iload_n dX8_namesTwoOperands_10 rfl ?_
      refine g_bipush (v := nI 7) dX8_namesTwoOperands_11 rfl ?_
      refine g_icmp_eq (tgt := 22) dX8_namesTwoOperands_13 (by decide) (fun c_13 => ?_) (fun c_13 => ?_)
      · skip
        refine g_iconst (v := nI 1) dX8_namesTwoOperands_22 rfl ?_
        refine g_goto (tgt := 27) dX8_namesTwoOperands_23 (by decide) ?_
        exact g_iret dX8_namesTwoOperands_27 (Or.inr ⟨rfl, by first | exact Or.inl rfl | exact Or.inr rfl⟩) (Nat.le_of_ble_eq_true rfl) (Nat.le_of_ble_eq_true rfl) (by
          refine ⟨?_, rfl, rfl⟩
          (try rw [i_lt, show (nI 2).toInt = 2 from rfl] at c_2)
          (try rw [i_le, show (nI 4).toInt = 4 from rfl] at c_7)
          (try rw [i_eq, show (nI 7).toInt = 7 from rfl] at c_13)
          (try rw [i_eq, show (nI 8).toInt = 8 from rfl] at c_19)
          first | (rw [decide_eq_true (by omega)]; rfl) | (rw [decide_eq_false (by omega)]; rfl))
      · skip
        refine g_iload_n dX8_namesTwoOperands_16 rfl ?_
        refine g_bipush (v := nI 8) dX8_namesTwoOperands_17 rfl ?_
        refine g_icmp_ne (tgt := 26) dX8_namesTwoOperands_19 (by decide) (fun c_19 => ?_) (fun c_19 => ?_)
        · skip
          refine g_iconst (v := nI 0) dX8_namesTwoOperands_26 rfl ?_
          exact g_iret dX8_namesTwoOperands_27 (Or.inr ⟨rfl, by first | exact Or.inl rfl | exact Or.inr rfl⟩) (Nat.le_of_ble_eq_true rfl) (Nat.le_of_ble_eq_true rfl) (by
            refine ⟨?_, rfl, rfl⟩
            (try rw [i_lt, show (nI 2).toInt = 2 from rfl] at c_2)
            (try rw [i_le, show (nI 4).toInt = 4 from rfl] at c_7)
            (try rw [i_eq, show (nI 7).toInt = 7 from rfl] at c_13)
            (try rw [i_eq, show (nI 8).toInt = 8 from rfl] at c_19)
            first | (rw [decide_eq_true (by omega)]; rfl) | (rw [decide_eq_false (by omega)]; rfl))
        · skip
          refine g_iconst (v := nI 1) dX8_namesTwoOperands_22 rfl ?_
          refine g_goto (tgt := 27) dX8_namesTwoOperands_23 (by decide) ?_
          exact g_iret dX8_namesTwoOperands_27 (Or.inr ⟨rfl, by first | exact Or.inl rfl | exact Or.inr rfl⟩) (Nat.le_of_ble_eq_true rfl) (Nat.le_of_ble_eq_true rfl) (by
            refine ⟨?_, rfl, rfl⟩
            (try rw [i_lt, show (nI 2).toInt = 2 from rfl] at c_2)
            (try rw [i_le, show (nI 4).toInt = 4 from rfl] at c_7)
            (try rw [i_eq, show (nI 7).toInt = 7 from rfl] at c_13)
            (try rw [i_eq, show (nI 8).toInt = 8 from rfl] at c_19)
            first | (rw [decide_eq_true (by omega)]; rfl) | (rw [decide_eq_false (by omega)]; rfl))

theorem xg_44 : ∀ w ∈ (vx_atS RX8 44 "java/lang/IndexOutOfBoundsException" gNm).filter goodWord, w ∈ gT := by decide +kernel
theorem xb_44 : ∀ w ∈ (vx_atS RX8 44 "java/lang/IndexOutOfBoundsException" gNm).filter (fun w => !goodWord w), w ∈ [Cond.castable "java/lang/IndexOutOfBoundsException" "java/lang/IndexOutOfBoundsException", Cond.declares ⟨"java/lang/RuntimeException", "<init>", "(Ljava/lang/String;)V"⟩, Cond.declares ⟨"java/lang/Exception", "<init>", "(Ljava/lang/String;)V"⟩, Cond.declares ⟨"java/lang/Throwable", "<init>", "(Ljava/lang/String;)V"⟩] := by decide +kernel
theorem xo_44_40 : ∀ w ∈ Cond.classLink RX8 40 "java/lang/IndexOutOfBoundsException" :: Cond.initialized "java/lang/IndexOutOfBoundsException" :: vx_atS RX8 44 "java/lang/IndexOutOfBoundsException" gNm, vx_ot w = true := by decide +kernel
theorem xg_54 : ∀ w ∈ (vx_atS RX8 54 "java/lang/IllegalArgumentException" gNm).filter goodWord, w ∈ gT := by decide +kernel
theorem xb_54 : ∀ w ∈ (vx_atS RX8 54 "java/lang/IllegalArgumentException" gNm).filter (fun w => !goodWord w), w ∈ [Cond.castable "java/lang/IllegalArgumentException" "java/lang/IllegalArgumentException", Cond.declares ⟨"java/lang/RuntimeException", "<init>", "(Ljava/lang/String;)V"⟩, Cond.declares ⟨"java/lang/Exception", "<init>", "(Ljava/lang/String;)V"⟩, Cond.declares ⟨"java/lang/Throwable", "<init>", "(Ljava/lang/String;)V"⟩] := by decide +kernel
theorem xo_54_50 : ∀ w ∈ Cond.classLink RX8 50 "java/lang/IllegalArgumentException" :: Cond.initialized "java/lang/IllegalArgumentException" :: vx_atS RX8 54 "java/lang/IllegalArgumentException" gNm, vx_ot w = true := by decide +kernel
theorem xg_69 : ∀ w ∈ (vx_atS RX8 69 "java/lang/UnsupportedOperationException" gNm).filter goodWord, w ∈ gT := by decide +kernel
theorem xb_69 : ∀ w ∈ (vx_atS RX8 69 "java/lang/UnsupportedOperationException" gNm).filter (fun w => !goodWord w), w ∈ [Cond.castable "java/lang/UnsupportedOperationException" "java/lang/UnsupportedOperationException", Cond.declares ⟨"java/lang/RuntimeException", "<init>", "(Ljava/lang/String;)V"⟩, Cond.declares ⟨"java/lang/Exception", "<init>", "(Ljava/lang/String;)V"⟩, Cond.declares ⟨"java/lang/Throwable", "<init>", "(Ljava/lang/String;)V"⟩] := by decide +kernel
theorem xo_69_65 : ∀ w ∈ Cond.classLink RX8 65 "java/lang/UnsupportedOperationException" :: Cond.initialized "java/lang/UnsupportedOperationException" :: vx_atS RX8 69 "java/lang/UnsupportedOperationException" gNm, vx_ot w = true := by decide +kernel
theorem xg_210 : ∀ w ∈ (vx_atS RX8 210 "java/lang/IllegalStateException" gNm).filter goodWord, w ∈ gT := by decide +kernel
theorem xb_210 : ∀ w ∈ (vx_atS RX8 210 "java/lang/IllegalStateException" gNm).filter (fun w => !goodWord w), w ∈ [Cond.castable "java/lang/IllegalStateException" "java/lang/IllegalStateException", Cond.declares ⟨"java/lang/RuntimeException", "<init>", "(Ljava/lang/String;)V"⟩, Cond.declares ⟨"java/lang/Exception", "<init>", "(Ljava/lang/String;)V"⟩, Cond.declares ⟨"java/lang/Throwable", "<init>", "(Ljava/lang/String;)V"⟩] := by decide +kernel
theorem xo_210_206 : ∀ w ∈ Cond.classLink RX8 206 "java/lang/IllegalStateException" :: Cond.initialized "java/lang/IllegalStateException" :: vx_atS RX8 210 "java/lang/IllegalStateException" gNm, vx_ot w = true := by decide +kernel
set_option maxHeartbeats 4000000 in
set_option maxRecDepth 100000 in
theorem c_reqPlace (M : gM) (n : Nat) (x : Int32) : GX μX8_requirePlace 6 100 1 6 [.int x] M n (fun r M1 n1 => r = none ∧ M1 = M ∧ n1 = n ∧ isP x) (fun E M1 n1 => E = "java/lang/IndexOutOfBoundsException" ∧ M1 = M ∧ n ≤ n1 ∧ ¬ isP x) := by
  refine GX.ofW (by decide) rfl (Nat.le_of_ble_eq_true rfl) rfl ?_
  refine g_iload_n dX8_requirePlace_0 rfl ?_
  refine g_callS dX8_requirePlace_1 sX8_isPlace (c_isPlace M n x) tX8_isPlace (iw_7 9 rfl) rfl rfl (Nat.le_of_ble_eq_true rfl) (Nat.le_of_ble_eq_true rfl) (Nat.le_of_ble_eq_true rfl) (Nat.le_of_ble_eq_true rfl) (Nat.le_of_ble_eq_true rfl) ?_
  intro r9 M9 n9 h9
  obtain ⟨h91, h92, h93⟩ := h9
  rw [h91, h92, h93]
  clear h91 h92 h93 r9 M9 n9
  refine g_if_ne (tgt := 17) dX8_requirePlace_4 (by decide) (fun c_4 => ?_) (fun c_4 => ?_)
  · skip
    exact g_xr (g_vret dX8_requirePlace_17 rfl (Nat.le_of_ble_eq_true rfl) (Nat.le_of_ble_eq_true rfl) ⟨rfl, rfl, rfl, dT c_4⟩)
  · skip
    exact g_throw (E := "java/lang/IndexOutOfBoundsException") (ik := 40) (is := 42) (ic := 44) rfl rfl (by decide) (iw_7 0 rfl) (iw_7 1 rfl) (List.mem_of_getElem? (i := 0) rfl) xg_44 xb_44 (xo_44_40) (by decide +kernel) dX8_requirePlace_7 dX8_requirePlace_10 dX8_requirePlace_11 dX8_requirePlace_13 dX8_requirePlace_16 (Nat.le_of_ble_eq_true rfl) (Nat.le_of_ble_eq_true rfl) (Nat.le_of_ble_eq_true rfl) (Nat.le_of_ble_eq_true rfl) (Nat.le_of_ble_eq_true rfl) (Nat.le_of_ble_eq_true rfl) (fun n1 hn1 => ⟨rfl, rfl, hn1, dF c_4⟩)

set_option maxHeartbeats 4000000 in
set_option maxRecDepth 100000 in
theorem c_reqStat (M : gM) (n w d len : Nat) (E : Nat → Nat) (x : Int32) (hk : mK M w = 9) (h0 : mR M w 0 = some (w + 1)) (hp : pR M (w + 1)) (hL : aL M (w + 1 + 1) d len E) : GX μX8_requireStatement 6 100 1 6 [.ref w, .int x] M n (fun r M1 n1 => r = none ∧ M1 = M ∧ n1 = n ∧ isN len x) (fun E M1 n1 => E = "java/lang/IndexOutOfBoundsException" ∧ M1 = M ∧ n ≤ n1 ∧ ¬ isN len x) := by
  refine GX.ofW (by decide) rfl (Nat.le_of_ble_eq_true rfl) rfl ?_
  refine g_aload_n dX8_requireStatement_0 rfl ?_
  refine g_getR (f := 0) dX8_requireStatement_1 cl9 hk (by decide) (Or.inl (iw_1 16 rfl)) (Or.inl rfl) rfl h0 ?_
  refine g_iload_n dX8_requireStatement_4 rfl ?_
  refine g_callV dX8_requireStatement_5 sX1_isThere (c_isThere M n (w + 1) d len E x hp hL) cl2 hp.1 iX1_isThere vX1_isThere (iw_31 19 rfl) rfl rfl (Nat.le_of_ble_eq_true rfl) (Nat.le_of_ble_eq_true rfl) (Nat.le_of_ble_eq_true rfl) (Nat.le_of_ble_eq_true rfl) (Nat.le_of_ble_eq_true rfl) ?_
  intro r9 M9 n9 h9
  obtain ⟨h91, h92, h93⟩ := h9
  rw [h91, h92, h93]
  clear h91 h92 h93 r9 M9 n9
  refine g_if_ne (tgt := 21) dX8_requireStatement_8 (by decide) (fun c_8 => ?_) (fun c_8 => ?_)
  · skip
    exact g_xr (g_vret dX8_requireStatement_21 rfl (Nat.le_of_ble_eq_true rfl) (Nat.le_of_ble_eq_true rfl) ⟨rfl, rfl, rfl, dT c_8⟩)
  · skip
    exact g_throw (E := "java/lang/IndexOutOfBoundsException") (ik := 40) (is := 204) (ic := 44) rfl rfl (by decide) (iw_7 0 rfl) (iw_7 1 rfl) (List.mem_of_getElem? (i := 9) rfl) xg_44 xb_44 (xo_44_40) (by decide +kernel) dX8_requireStatement_11 dX8_requireStatement_14 dX8_requireStatement_15 dX8_requireStatement_17 dX8_requireStatement_20 (Nat.le_of_ble_eq_true rfl) (Nat.le_of_ble_eq_true rfl) (Nat.le_of_ble_eq_true rfl) (Nat.le_of_ble_eq_true rfl) (Nat.le_of_ble_eq_true rfl) (Nat.le_of_ble_eq_true rfl) (fun n1 hn1 => ⟨rfl, rfl, hn1, dF c_8⟩)

set_option maxHeartbeats 4000000 in
set_option maxRecDepth 100000 in
theorem c_reqSolved (M : gM) (n w : Nat) (b : Bool) (hk : mK M w = 9) (h3 : mI M w 3 = bI b) : GX μX8_requireSolved 6 100 1 6 [.ref w] M n (fun r M1 n1 => r = none ∧ M1 = M ∧ n1 = n ∧ b = true) (fun E M1 n1 => E = "java/lang/IllegalStateException" ∧ M1 = M ∧ n ≤ n1 ∧ b = false) := by
  refine GX.ofW (by decide) rfl (Nat.le_of_ble_eq_true rfl) rfl ?_
  refine g_aload_n dX8_requireSolved_0 rfl ?_
  refine g_getI (f := 3) dX8_requireSolved_1 cl9 hk (by decide) (Or.inl (iw_2 1 rfl)) (Or.inl rfl) (Or.inr rfl) ?_
  rw [h3]
  refine g_if_ne (tgt := 17) dX8_requireSolved_4 (by decide) (fun c_4 => ?_) (fun c_4 => ?_)
  · skip
    exact g_xr (g_vret dX8_requireSolved_17 rfl (Nat.le_of_ble_eq_true rfl) (Nat.le_of_ble_eq_true rfl) ⟨rfl, rfl, rfl, by rw [bI_eq0, Bool.not_eq_false] at c_4; exact c_4⟩)
  · skip
    exact g_throw (E := "java/lang/IllegalStateException") (ik := 206) (is := 208) (ic := 210) rfl rfl (by decide) (iw_32 0 rfl) (iw_32 1 rfl) (List.mem_of_getElem? (i := 10) rfl) xg_210 xb_210 (xo_210_206) (by decide +kernel) dX8_requireSolved_7 dX8_requireSolved_10 dX8_requireSolved_11 dX8_requireSolved_13 dX8_requireSolved_16 (Nat.le_of_ble_eq_true rfl) (Nat.le_of_ble_eq_true rfl) (Nat.le_of_ble_eq_true rfl) (Nat.le_of_ble_eq_true rfl) (Nat.le_of_ble_eq_true rfl) (Nat.le_of_ble_eq_true rfl) (fun n1 hn1 => ⟨rfl, rfl, hn1, by rw [bI_eq0] at c_4; exact c_4⟩)

