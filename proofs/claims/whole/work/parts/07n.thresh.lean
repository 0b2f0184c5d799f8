/-! the class: THRESHOLDS -/
def tT (M : gM) (h : Nat) : Prop := mK M h = 7 ∧ mR M h 0 = some (h + 1) ∧ mK M (h + 1) = 11 ∧ mN M (h + 1) = 82
theorem tT.off {M M1 : gM} {h : Nat} {S : Nat → Nat → Prop} (q : tT M h) (ho : Off M M1 S) : tT M1 h := by
  unfold tT
  rw [ho.1, ho.2.1, ho.2.2.1]
  exact q
/-- the Thresholds at h: these, rising; they are the numbers of K -/
def tH (M : gM) (h : Nat) (T K : List Int) : Prop := tT M h ∧ tok T K ∧ T.length ≤ 82 ∧ mI M h 1 = nI T.length ∧ (∀ k, k < T.length → mI M (h + 1) k = iZ (gi T k)) ∧ (∀ v ∈ K, r5 v) ∧ (2147483647 : Int) ∈ K ∧ (-2147483648 : Int) ∈ K
def fT2 (h : Nat) : Nat → Nat → Prop := fun i _ => i = h ∨ i = h + 1
theorem tH.off {M M1 : gM} {h : Nat} {T K : List Int} {S : Nat → Nat → Prop} (q : tH M h T K) (ho : Off M M1 S) (hs : ∀ i k, fT2 h i k → ¬ S i k) : tH M1 h T K := by
  obtain ⟨q1, q2, q3, q4, q5, q6⟩ := q
  exact ⟨q1.off ho, q2, q3, (ho.i (hs _ _ (Or.inl rfl))).trans q4, fun k hk => (ho.i (hs _ _ (Or.inr rfl))).trans (q5 k hk), q6⟩
theorem tH.r {M : gM} {h : Nat} {T K : List Int} (q : tH M h T K) {k : Nat} (hk : k < T.length) : r5 (gi T k) := q.2.2.2.2.2.1 _ ((q.2.1.2 _).mp (gi_mem.mpr ⟨k, hk, rfl⟩))
theorem tH.pos {M : gM} {h : Nat} {T K : List Int} (q : tH M h T K) : 0 < T.length := List.length_pos_of_mem ((q.2.1.2 _).mpr q.2.2.2.2.2.2.1)
theorem tH.last {M : gM} {h : Nat} {T K : List Int} (q : tH M h T K) : gi T (T.length - 1) = 2147483647 := by
  obtain ⟨j, hj, ej⟩ := gi_mem.mp ((q.2.1.2 _).mpr q.2.2.2.2.2.2.1)
  have h1 := q.r (show T.length - 1 < T.length by omega)
  have h2 := sI_le q.2.1.1 (show j ≤ T.length - 1 by omega) (by omega)
  omega
theorem tH.start {M : gM} {h : Nat} (q : tT M h) (q1 : mI M h 1 = nI 2) (q2 : mI M (h + 1) 0 = iZ (-2147483648)) (q3 : mI M (h + 1) 1 = iZ 2147483647) : tH M h [-2147483648, 2147483647] (thA []) := by
  refine ⟨q, ⟨fun i j hij hj => ?_, fun v => ?_⟩, by simp, q1, fun k hk => ?_, fun v hv => thA_r hv, thA_most _, thA_least _⟩
  · have hj' : j < 2 := by simpa using hj
    have e1 : i = 0 := by omega
    have e2 : j = 1 := by omega
    rw [e1, e2]
    decide
  · unfold thA thr
    simp
  · have hk' : k < 2 := by simpa using hk
    by_cases e : k = 0
    · rw [e]; exact q2
    · rw [show k = 1 by omega]; exact q3
set_option maxHeartbeats 4000000 in
set_option maxRecDepth 100000 in
theorem c_forgetAll (M : gM) (n h : Nat) (q : tT M h) : GM μX6_forgetAll 0 0 0 0 [.ref h] M n (fun r M1 n1 => r = none ∧ n1 = n ∧ Off M M1 (fT2 h) ∧ tH M1 h [-2147483648, 2147483647] (thA [])) := by
  refine GM.ofW (by decide) rfl (Nat.le_of_ble_eq_true rfl) rfl ?_
  refine g_aload_n dX6_forgetAll_0 rfl ?_
  refine g_getR (f := 0) dX6_forgetAll_1 cl7 q.1 (by decide) (Or.inl (iw_3 19 rfl)) (Or.inl rfl) rfl q.2.1 ?_
  refine g_iconst (v := nI 0) dX6_forgetAll_4 rfl ?_
  refine g_ldc (v := (-2147483648)) dX6_forgetAll_5 (iw_4 0 rfl) ?_
  refine g_iastore dX6_forgetAll_7 (j := 0) q.2.2.1 q.2.2.2 rfl (by omega) (by decide) ?_
  refine g_aload_n dX6_forgetAll_8 rfl ?_
  refine g_getR (f := 0) dX6_forgetAll_9 cl7 q.1 (by decide) (Or.inl (iw_3 19 rfl)) (Or.inl rfl) rfl q.2.1 ?_
  refine g_iconst (v := nI 1) dX6_forgetAll_12 rfl ?_
  refine g_ldc (v := 2147483647) dX6_forgetAll_13 (iw_4 1 rfl) ?_
  refine g_iastore dX6_forgetAll_15 (j := 1) q.2.2.1 q.2.2.2 rfl (by omega) (by decide) ?_
  refine g_aload_n dX6_forgetAll_16 rfl ?_
  refine g_iconst (v := nI 2) dX6_forgetAll_17 rfl ?_
  refine g_putI (f := 1) dX6_forgetAll_18 cl7 q.1 (by decide) (Or.inl (iw_4 2 rfl)) (Or.inl rfl) (Or.inl rfl) (Or.inl rfl) ?_
  exact g_vret dX6_forgetAll_21 rfl (Nat.le_of_ble_eq_true rfl) (Nat.le_of_ble_eq_true rfl) (by
    have ho : Off M (stI (stI (stI M (h + 1) 0 (-2147483648)) (h + 1) 1 2147483647) h 1 (nI 2)) (fT2 h) := ((Off.stI (S := fT2 h) Off.rf (Or.inr rfl)).stI (Or.inr rfl)).stI (Or.inl rfl)
    refine ⟨rfl, rfl, ho, tH.start (q.off ho) ?_ ?_ ?_⟩
    · rw [mI_st, if_pos ⟨rfl, rfl⟩]
    · rw [mI_st, if_neg (by omega), mI_st, if_neg (by omega), mI_st, if_pos ⟨rfl, rfl⟩]; rfl
    · rw [mI_st, if_neg (by omega), mI_st, if_pos ⟨rfl, rfl⟩]; rfl)

set_option maxHeartbeats 4000000 in
set_option maxRecDepth 100000 in
theorem k_fnb {M : gM} {n h : Nat} {T K : List Int} {v : Int} (hq : tH M h T K) (hv : r5 v) : ∀ (d : Nat) (a : Nat), T.length - a < d → a < T.length → (∀ k, k < a → gi T k < v) → GW μX6_firstNotBelow (gRm 0 0 0 0) (gTh (fun r M1 n1 => ∃ a, r = some (.int (nI a)) ∧ fnb T v a ∧ M1 = M ∧ n1 = n) 0 0) 0 0 2 [some (.ref h), some (.int (iZ v)), some (.int (nI a))] [] M n := by
  intro d
  induction d with
  | zero =>
    intro a hd ha hb
    omega
  | succ d ih =>
    intro a hd ha hb
    have l82 := hq.2.2.1
    refine g_iload_n dX6_firstNotBelow_2 rfl ?_
    refine g_aload_n dX6_firstNotBelow_3 rfl ?_
    refine g_getI (f := 1) dX6_firstNotBelow_4 cl7 hq.1.1 (by decide) (Or.inl (iw_4 2 rfl)) (Or.inl rfl) (Or.inl rfl) ?_
    rw [hq.2.2.2.1]
    refine g_iconst (v := nI 1) dX6_firstNotBelow_7 rfl ?_
    refine g_isub dX6_firstNotBelow_8 ?_
    rw [nI_p (by omega)]
    refine g_icmp_ge (tgt := 28) dX6_firstNotBelow_9 (by decide) (fun c_9 => ?_) (fun c_9 => ?_)
    · skip
      refine g_iload_n dX6_firstNotBelow_28 rfl ?_
      exact g_iret dX6_firstNotBelow_29 (Or.inl rfl) (Nat.le_of_ble_eq_true rfl) (Nat.le_of_ble_eq_true rfl) (by
        refine ⟨a, rfl, ⟨ha, hb, ?_⟩, rfl, rfl⟩
        first
          | (rw [iZ_le hv (hq.r ha)] at c_19; exact c_19)
          | (rw [nI_leI (by omega) (by omega)] at c_9
             have := hq.last
             rw [show a = T.length - 1 by omega]
             omega))
    · skip
      rw [nI_leI (by omega) (by omega)] at c_9
      refine g_aload_n dX6_firstNotBelow_12 rfl ?_
      refine g_getR (f := 0) dX6_firstNotBelow_13 cl7 hq.1.1 (by decide) (Or.inl (iw_3 19 rfl)) (Or.inl rfl) rfl hq.1.2.1 ?_
      refine g_iload_n dX6_firstNotBelow_16 rfl ?_
      refine g_iaload dX6_firstNotBelow_17 (j := a) hq.1.2.2.1 hq.1.2.2.2 rfl (by omega) (by decide) ?_
      rw [hq.2.2.2.2.1 a ha]
      refine g_iload_n dX6_firstNotBelow_18 rfl ?_
      refine g_icmp_ge (tgt := 28) dX6_firstNotBelow_19 (by decide) (fun c_19 => ?_) (fun c_19 => ?_)
      · skip
        refine g_iload_n dX6_firstNotBelow_28 rfl ?_
        exact g_iret dX6_firstNotBelow_29 (Or.inl rfl) (Nat.le_of_ble_eq_true rfl) (Nat.le_of_ble_eq_true rfl) (by
          refine ⟨a, rfl, ⟨ha, hb, ?_⟩, rfl, rfl⟩
          first
            | (rw [iZ_le hv (hq.r ha)] at c_19; exact c_19)
            | (rw [nI_leI (by omega) (by omega)] at c_9
               have := hq.last
               rw [show a = T.length - 1 by omega]
               omega))
      · skip
        rw [iZ_le hv (hq.r ha)] at c_19
        refine g_iinc dX6_firstNotBelow_22 rfl (nI_1 a) (Nat.le_of_ble_eq_true rfl) ?_
        refine g_goto (tgt := 2) dX6_firstNotBelow_25 (by decide) ?_
        have l82 := hq.2.2.1
        exact ih (a + 1) (by omega) (by omega) (fun k hk => by
            by_cases e : k = a
            · rw [e]; omega
            · exact hb k (by omega))

set_option maxHeartbeats 4000000 in
set_option maxRecDepth 100000 in
theorem c_fnb (M : gM) (n h : Nat) (T K : List Int) (v : Int) (hq : tH M h T K) (hv : r5 v) : GM μX6_firstNotBelow 0 0 0 0 [.ref h, .int (iZ v)] M n (fun r M1 n1 => ∃ a, r = some (.int (nI a)) ∧ fnb T v a ∧ M1 = M ∧ n1 = n) := by
  refine GM.ofW (by decide) rfl (Nat.le_of_ble_eq_true rfl) rfl ?_
  refine g_iconst (v := nI 0) dX6_firstNotBelow_0 rfl ?_
  refine g_istore_n dX6_firstNotBelow_1 (Nat.le_of_ble_eq_true rfl) ?_
  exact k_fnb hq hv (T.length + 1) 0 (by omega) hq.pos (fun k hk => by omega)

set_option maxHeartbeats 4000000 in
set_option maxRecDepth 100000 in
theorem c_lnb (M : gM) (n h : Nat) (T : List Int) (P : List St) (v : Int) (hq : tH M h T (thA P)) (hv : r5 v) (h1 : -2147483648 < v) : GM μX6_leastNotBelow 1 22 0 0 [.ref h, .int (iZ v)] M n (fun r M1 n1 => r = some (.int (iZ (nxt P v true))) ∧ M1 = M ∧ n1 = n) := by
  refine GM.ofW (by decide) rfl (Nat.le_of_ble_eq_true rfl) rfl ?_
  refine g_aload_n dX6_leastNotBelow_0 rfl ?_
  refine g_getR (f := 0) dX6_leastNotBelow_1 cl7 hq.1.1 (by decide) (Or.inl (iw_3 19 rfl)) (Or.inl rfl) rfl hq.1.2.1 ?_
  refine g_aload_n dX6_leastNotBelow_4 rfl ?_
  refine g_iload_n dX6_leastNotBelow_5 rfl ?_
  refine g_callV dX6_leastNotBelow_6 sX6_firstNotBelow (c_fnb M n h T (thA P) v hq hv) cl7 hq.1.1 iX6_firstNotBelow vX6_firstNotBelow (iw_11 7 rfl) rfl rfl (Nat.le_of_ble_eq_true rfl) (Nat.le_of_ble_eq_true rfl) (Nat.le_of_ble_eq_true rfl) (Nat.le_of_ble_eq_true rfl) (Nat.le_of_ble_eq_true rfl) ?_
  intro r9 M9 n9 h9
  obtain ⟨a, h91, ha, h92, h93⟩ := h9
  rw [h91, h92, h93]
  clear h91 h92 h93 r9 M9 n9
  have l82 := hq.2.2.1
  have ha1 := ha.1
  refine g_iaload dX6_leastNotBelow_9 (j := a) hq.1.2.2.1 hq.1.2.2.2 rfl (by omega) (by decide) ?_
  exact g_iret dX6_leastNotBelow_10 (Or.inl rfl) (Nat.le_of_ble_eq_true rfl) (Nat.le_of_ble_eq_true rfl) ⟨by rw [hq.2.2.2.2.1 a ha1, fnb_up hq.2.1 h1 hv.2 ha], rfl, rfl⟩

set_option maxHeartbeats 4000000 in
set_option maxRecDepth 100000 in
theorem c_gna (M : gM) (n h : Nat) (T : List Int) (P : List St) (v : Int) (hq : tH M h T (thA P)) (hv : r5 v) (h1 : v < 2147483647) : GM μX6_greatestNotAbove 1 22 0 0 [.ref h, .int (iZ v)] M n (fun r M1 n1 => r = some (.int (iZ (nxt P v false))) ∧ M1 = M ∧ n1 = n) := by
  refine GM.ofW (by decide) rfl (Nat.le_of_ble_eq_true rfl) rfl ?_
  refine g_aload_n dX6_greatestNotAbove_0 rfl ?_
  refine g_iload_n dX6_greatestNotAbove_1 rfl ?_
  refine g_callV dX6_greatestNotAbove_2 sX6_firstNotBelow (c_fnb M n h T (thA P) v hq hv) cl7 hq.1.1 iX6_firstNotBelow vX6_firstNotBelow (iw_11 7 rfl) rfl rfl (Nat.le_of_ble_eq_true rfl) (Nat.le_of_ble_eq_true rfl) (Nat.le_of_ble_eq_true rfl) (Nat.le_of_ble_eq_true rfl) (Nat.le_of_ble_eq_true rfl) ?_
  intro r9 M9 n9 h9
  obtain ⟨a, h91, ha, h92, h93⟩ := h9
  rw [h91, h92, h93]
  clear h91 h92 h93 r9 M9 n9
  have l82 := hq.2.2.1
  have ha1 := ha.1
  have e9 := fnb_dn hq.2.1 hv.1 h1 ha
  refine g_istore_n dX6_greatestNotAbove_5 (Nat.le_of_ble_eq_true rfl) ?_
  refine g_aload_n dX6_greatestNotAbove_6 rfl ?_
  refine g_getR (f := 0) dX6_greatestNotAbove_7 cl7 hq.1.1 (by decide) (Or.inl (iw_3 19 rfl)) (Or.inl rfl) rfl hq.1.2.1 ?_
  refine g_iload_n dX6_greatestNotAbove_10 rfl ?_
  refine g_iaload dX6_greatestNotAbove_11 (j := a) hq.1.2.2.1 hq.1.2.2.2 rfl (by omega) (by decide) ?_
  rw [hq.2.2.2.2.1 a ha1]
  refine g_iload_n dX6_greatestNotAbove_12 rfl ?_
  refine g_icmp_eq (tgt := 20) dX6_greatestNotAbove_13 (by decide) (fun c_13 => ?_) (fun c_13 => ?_)
  · skip
    have e8 : gi T a = nxt P v false := by
      rw [← e9]
      first
        | (rw [iZ_eq (hq.r ha1) hv] at c_13
           rw [if_pos (Or.inl c_13)])
        | (rw [show (0 : Int32) = nI 0 from rfl, nI_inj (by omega) (by omega)] at c_17
           rw [if_pos (Or.inr c_17)])
    refine g_aload_n dX6_greatestNotAbove_20 rfl ?_
    refine g_getR (f := 0) dX6_greatestNotAbove_21 cl7 hq.1.1 (by decide) (Or.inl (iw_3 19 rfl)) (Or.inl rfl) rfl hq.1.2.1 ?_
    refine g_iload_n dX6_greatestNotAbove_24 rfl ?_
    refine g_iaload dX6_greatestNotAbove_25 (j := a) hq.1.2.2.1 hq.1.2.2.2 rfl (by omega) (by decide) ?_
    refine g_goto (tgt := 37) dX6_greatestNotAbove_26 (by decide) ?_
    exact g_iret dX6_greatestNotAbove_37 (Or.inl rfl) (Nat.le_of_ble_eq_true rfl) (Nat.le_of_ble_eq_true rfl) (by
      refine ⟨?_, rfl, rfl⟩
      first
        | rw [hq.2.2.2.2.1 a ha1, e8]
        | rw [hq.2.2.2.2.1 (a - 1) (by omega), e8])
  · skip
    rw [iZ_eq (hq.r ha1) hv] at c_13
    refine g_iload_n dX6_greatestNotAbove_16 rfl ?_
    refine g_if_ne (tgt := 29) dX6_greatestNotAbove_17 (by decide) (fun c_17 => ?_) (fun c_17 => ?_)
    · skip
      rw [show (0 : Int32) = nI 0 from rfl, nI_inj (by omega) (by omega)] at c_17
      have e8 : gi T (a - 1) = nxt P v false := by rw [← e9, if_neg (by omega)]
      refine g_aload_n dX6_greatestNotAbove_29 rfl ?_
      refine g_getR (f := 0) dX6_greatestNotAbove_30 cl7 hq.1.1 (by decide) (Or.inl (iw_3 19 rfl)) (Or.inl rfl) rfl hq.1.2.1 ?_
      refine g_iload_n dX6_greatestNotAbove_33 rfl ?_
      refine g_iconst (v := nI 1) dX6_greatestNotAbove_34 rfl ?_
      refine g_isub dX6_greatestNotAbove_35 ?_
      refine g_iaload dX6_greatestNotAbove_36 (j := a - 1) hq.1.2.2.1 hq.1.2.2.2 (nI_p (by omega)) (by omega) (by decide) ?_
      exact g_iret dX6_greatestNotAbove_37 (Or.inl rfl) (Nat.le_of_ble_eq_true rfl) (Nat.le_of_ble_eq_true rfl) (by
        refine ⟨?_, rfl, rfl⟩
        first
          | rw [hq.2.2.2.2.1 a ha1, e8]
          | rw [hq.2.2.2.2.1 (a - 1) (by omega), e8])
    · skip
      have e8 : gi T a = nxt P v false := by
        rw [← e9]
        first
          | (rw [iZ_eq (hq.r ha1) hv] at c_13
             rw [if_pos (Or.inl c_13)])
          | (rw [show (0 : Int32) = nI 0 from rfl, nI_inj (by omega) (by omega)] at c_17
             rw [if_pos (Or.inr c_17)])
      refine g_aload_n dX6_greatestNotAbove_20 rfl ?_
      refine g_getR (f := 0) dX6_greatestNotAbove_21 cl7 hq.1.1 (by decide) (Or.inl (iw_3 19 rfl)) (Or.inl rfl) rfl hq.1.2.1 ?_
      refine g_iload_n dX6_greatestNotAbove_24 rfl ?_
      refine g_iaload dX6_greatestNotAbove_25 (j := a) hq.1.2.2.1 hq.1.2.2.2 rfl (by omega) (by decide) ?_
      refine g_goto (tgt := 37) dX6_greatestNotAbove_26 (by decide) ?_
      exact g_iret dX6_greatestNotAbove_37 (Or.inl rfl) (Nat.le_of_ble_eq_true rfl) (Nat.le_of_ble_eq_true rfl) (by
        refine ⟨?_, rfl, rfl⟩
        first
          | rw [hq.2.2.2.2.1 a ha1, e8]
          | rw [hq.2.2.2.2.1 (a - 1) (by omega), e8])

def tpI (M M1 : gM) (h : Nat) (T : List Int) (j : Nat) : Prop := Off M M1 (fT2 h) ∧ mI M1 h 1 = nI T.length ∧ (∀ k, k < j → mI M1 (h + 1) k = iZ (gi T k)) ∧ ∀ k, j < k → k ≤ T.length → mI M1 (h + 1) k = iZ (gi T (k - 1))
set_option maxHeartbeats 4000000 in
set_option maxRecDepth 100000 in
theorem k_tadd {M : gM} {n h a : Nat} {T K : List Int} {v : Int} (hq0 : tH M h T K) (hv : r5 v) (ha : fnb T v a) (hne : gi T a ≠ v) (hl : T.length < 82) : ∀ (d : Nat) (j : Nat) (M1 : gM), j < d → j ≤ T.length → a ≤ j → tpI M M1 h T j → GW μX6_add (gRm 1 22 0 0) (gTh (fun r M1 n1 => r = none ∧ n1 = n ∧ Off M M1 (fT2 h) ∧ ∃ T1, tH M1 h T1 (K ++ [v])) 0 0) 0 0 34 [some (.ref h), some (.int (iZ v)), some (.int (nI a)), some (.int (nI j))] [] M1 n := by
  intro d
  induction d with
  | zero =>
    intro j M1 hd hj hja hI
    omega
  | succ d ih =>
    intro j M1 hd hj hja hI
    have ht := hq0.1.off hI.1
    have ha1 := ha.1
    refine g_iload_n dX6_add_34 rfl ?_
    refine g_iload_n dX6_add_35 rfl ?_
    refine g_icmp_le (tgt := 59) dX6_add_36 (by decide) (fun c_36 => ?_) (fun c_36 => ?_)
    · skip
      rw [nI_leI (by omega) (by omega)] at c_36
      have eja : j = a := by omega
      refine g_aload_n dX6_add_59 rfl ?_
      refine g_getR (f := 0) dX6_add_60 cl7 ht.1 (by decide) (Or.inl (iw_3 19 rfl)) (Or.inl rfl) rfl ht.2.1 ?_
      refine g_iload_n dX6_add_63 rfl ?_
      refine g_iload_n dX6_add_64 rfl ?_
      refine g_iastore dX6_add_65 (j := a) ht.2.2.1 ht.2.2.2 rfl (by omega) (by decide) ?_
      refine g_aload_n dX6_add_66 rfl ?_
      refine g_dup dX6_add_67 rfl ?_
      refine g_getI (f := 1) dX6_add_68 cl7 ht.1 (by decide) (Or.inl (iw_4 2 rfl)) (Or.inl rfl) (Or.inl rfl) ?_
      refine g_iconst (v := nI 1) dX6_add_71 rfl ?_
      refine g_iadd dX6_add_72 ?_
      rw [mI_st, if_neg (by omega), hI.2.1, nI_add]
      refine g_putI (f := 1) dX6_add_73 cl7 ht.1 (by decide) (Or.inl (iw_4 2 rfl)) (Or.inl rfl) (Or.inl rfl) (Or.inl rfl) ?_
      exact g_vret dX6_add_76 rfl (Nat.le_of_ble_eq_true rfl) (Nat.le_of_ble_eq_true rfl) (by
        have ho : Off M (stI (stI M1 (h + 1) a (iZ v)) h 1 (nI (T.length + 1))) (fT2 h) := (hI.1.stI (Or.inr rfl)).stI (Or.inl rfl)
        refine ⟨rfl, rfl, ho, pui T a v, hq0.1.off ho, pui_tok hq0.2.1 (by omega) ha.2.1 (fun k h1 h2 => ?_), by rw [pui_len v (by omega)]; omega, ?_, fun k hk => ?_, ?_, ?_, ?_⟩
        · have h3 := sI_le hq0.2.1.1 h1 h2
          have h4 := ha.2.2
          omega
        · rw [mI_st, if_pos ⟨rfl, rfl⟩, pui_len v (by omega)]
        · rw [pui_len v (by omega)] at hk
          rw [pui_get v (by omega), mI_st, if_neg (by omega)]
          by_cases c : k < a
          · rw [if_pos c, mI_st, if_neg (by omega)]; exact hI.2.2.1 k (by omega)
          · rw [if_neg c]
            by_cases c2 : k = a
            · rw [if_pos c2, mI_st, if_pos ⟨rfl, c2⟩]
            · rw [if_neg c2, mI_st, if_neg (by omega)]; exact hI.2.2.2 k (by omega) (by omega)
        · intro w hw
          rcases List.mem_append.mp hw with hw | hw
          · exact hq0.2.2.2.2.2.1 w hw
          · rw [List.mem_singleton] at hw; rw [hw]; exact hv
        · exact List.mem_append_left _ hq0.2.2.2.2.2.2.1
        · exact List.mem_append_left _ hq0.2.2.2.2.2.2.2)
    · skip
      rw [nI_leI (by omega) (by omega)] at c_36
      refine g_aload_n dX6_add_39 rfl ?_
      refine g_getR (f := 0) dX6_add_40 cl7 ht.1 (by decide) (Or.inl (iw_3 19 rfl)) (Or.inl rfl) rfl ht.2.1 ?_
      refine g_iload_n dX6_add_43 rfl ?_
      refine g_aload_n dX6_add_44 rfl ?_
      refine g_getR (f := 0) dX6_add_45 cl7 ht.1 (by decide) (Or.inl (iw_3 19 rfl)) (Or.inl rfl) rfl ht.2.1 ?_
      refine g_iload_n dX6_add_48 rfl ?_
      refine g_iconst (v := nI 1) dX6_add_49 rfl ?_
      refine g_isub dX6_add_50 ?_
      refine g_iaload dX6_add_51 (j := j - 1) ht.2.2.1 ht.2.2.2 (nI_p (by omega)) (by omega) (by decide) ?_
      refine g_iastore dX6_add_52 (j := j) ht.2.2.1 ht.2.2.2 rfl (by omega) (by decide) ?_
      refine g_iinc dX6_add_53 rfl (nI_m (by omega)) (Nat.le_of_ble_eq_true rfl) ?_
      refine g_goto (tgt := 34) dX6_add_56 (by decide) ?_
      have ht := hq0.1.off hI.1
      have ha1 := ha.1
      refine ih (j - 1) _ (by omega) (by omega) (by omega) ⟨hI.1.stI (Or.inr rfl), by rw [mI_st, if_neg (by omega)]; exact hI.2.1, fun k hk => by rw [mI_st, if_neg (by omega)]; exact hI.2.2.1 k (by omega), fun k h1 h2 => ?_⟩
      by_cases e : k = j
      · rw [mI_st, if_pos ⟨rfl, e⟩, e]; exact hI.2.2.1 (j - 1) (by omega)
      · rw [mI_st, if_neg (by omega)]; exact hI.2.2.2 k (by omega) h2

set_option maxHeartbeats 4000000 in
set_option maxRecDepth 100000 in
theorem c_tadd (M : gM) (n h : Nat) (T K : List Int) (v : Int) (hq : tH M h T K) (hv : r5 v) (hl : K.length < 82) : GM μX6_add 1 22 0 0 [.ref h, .int (iZ v)] M n (fun r M1 n1 => r = none ∧ n1 = n ∧ Off M M1 (fT2 h) ∧ ∃ T1, tH M1 h T1 (K ++ [v])) := by
  refine GM.ofW (by decide) rfl (Nat.le_of_ble_eq_true rfl) rfl ?_
  refine g_aload_n dX6_add_0 rfl ?_
  refine g_iload_n dX6_add_1 rfl ?_
  refine g_callV dX6_add_2 sX6_firstNotBelow (c_fnb M n h T K v hq hv) cl7 hq.1.1 iX6_firstNotBelow vX6_firstNotBelow (iw_11 7 rfl) rfl rfl (Nat.le_of_ble_eq_true rfl) (Nat.le_of_ble_eq_true rfl) (Nat.le_of_ble_eq_true rfl) (Nat.le_of_ble_eq_true rfl) (Nat.le_of_ble_eq_true rfl) ?_
  intro r9 M9 n9 h9
  obtain ⟨a, h91, ha, h92, h93⟩ := h9
  rw [h91, h92, h93]
  clear h91 h92 h93 r9 M9 n9
  have l82 := hq.2.2.1
  have ha1 := ha.1
  refine g_istore_n dX6_add_5 (Nat.le_of_ble_eq_true rfl) ?_
  refine g_aload_n dX6_add_6 rfl ?_
  refine g_getR (f := 0) dX6_add_7 cl7 hq.1.1 (by decide) (Or.inl (iw_3 19 rfl)) (Or.inl rfl) rfl hq.1.2.1 ?_
  refine g_iload_n dX6_add_10 rfl ?_
  refine g_iaload dX6_add_11 (j := a) hq.1.2.2.1 hq.1.2.2.2 rfl (by omega) (by decide) ?_
  rw [hq.2.2.2.2.1 a ha1]
  have tl := hq.2.1.len
  refine g_iload_n dX6_add_12 rfl ?_
  refine g_icmp_eq (tgt := 28) dX6_add_13 (by decide) (fun c_13 => ?_) (fun c_13 => ?_)
  · skip
    exact g_vret dX6_add_28 rfl (Nat.le_of_ble_eq_true rfl) (Nat.le_of_ble_eq_true rfl) (by
      rw [iZ_eq (hq.r ha1) hv] at c_13
      exact ⟨rfl, rfl, Off.rf, T, hq.1, tok_same hq.2.1 (gi_mem.mpr ⟨a, ha1, c_13⟩), hq.2.2.1, hq.2.2.2.1, hq.2.2.2.2.1, fun w hw => by
        rcases List.mem_append.mp hw with hw | hw
        · exact hq.2.2.2.2.2.1 w hw
        · rw [List.mem_singleton] at hw; rw [hw]; exact hv, List.mem_append_left _ hq.2.2.2.2.2.2.1, List.mem_append_left _ hq.2.2.2.2.2.2.2⟩)
  · skip
    rw [iZ_eq (hq.r ha1) hv] at c_13
    refine g_aload_n dX6_add_16 rfl ?_
    refine g_getI (f := 1) dX6_add_17 cl7 hq.1.1 (by decide) (Or.inl (iw_4 2 rfl)) (Or.inl rfl) (Or.inl rfl) ?_
    rw [hq.2.2.2.1]
    refine g_aload_n dX6_add_20 rfl ?_
    refine g_getR (f := 0) dX6_add_21 cl7 hq.1.1 (by decide) (Or.inl (iw_3 19 rfl)) (Or.inl rfl) rfl hq.1.2.1 ?_
    refine g_alen dX6_add_24 (by rw [hq.1.2.2.1]; omega) hq.1.2.2.2 ?_
    refine g_icmp_lt (tgt := 29) dX6_add_25 (by decide) (fun c_25 => ?_) (fun c_25 => ?_)
    · skip
      refine g_aload_n dX6_add_29 rfl ?_
      refine g_getI (f := 1) dX6_add_30 cl7 hq.1.1 (by decide) (Or.inl (iw_4 2 rfl)) (Or.inl rfl) (Or.inl rfl) ?_
      refine g_istore_n dX6_add_33 (Nat.le_of_ble_eq_true rfl) ?_
      rw [hq.2.2.2.1]
      exact k_tadd hq hv ha c_13 (by omega) (T.length + 1) T.length M (by omega) (Nat.le_refl _) (by omega) ⟨Off.rf, hq.2.2.2.1, fun k hk => hq.2.2.2.2.1 k hk, fun k h1 h2 => by omega⟩
    · skip
      rw [nI_ltI' (by omega) (by omega)] at c_25
      omega

