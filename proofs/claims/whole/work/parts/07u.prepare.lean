/-! the class: rounds until nothing changes; the start -/
def fRd (u : Nat) (E : Nat → Nat) (len : Nat) : Nat → Nat → Prop := fun i k => (i = u ∧ (k = 5 ∨ k = 6)) ∨ (u + 1 ≤ i ∧ i ≤ u + 28) ∨ stm E len i k
theorem fRd_Z {u len i k : Nat} {E : Nat → Nat} (h : fRd u E len i k) : fZ u E len i k := by
  rcases h with h | h | h
  · left; omega
  · left; omega
  · exact Or.inr h
theorem fGf_R {u len i k : Nat} {E : Nat → Nat} (h : fGf u E len i k) : fRd u E len i k := by
  rcases h with h | h | h
  · left; omega
  · exact Or.inr (Or.inl h)
  · exact Or.inr (Or.inr h)
theorem bI_or (a b : Bool) : bI a ||| bI b = bI (a || b) := by cases a <;> cases b <;> rfl
/-- in a round: i Statements have given -/
def rdI (M M1 : gM) (u : Nat) (E : Nat → Nat) (P : List St) (A : RA) (r i : Nat) : Prop := Off M M1 (fRd u E P.length) ∧ mI M1 u 5 = nI r ∧ ∃ st, gS M1 u E P (swpA P A i).1 st ∧ qt P (swpA P A i).1 st
theorem swpA_s (P : List St) (A : RA) (s : Nat) : swpA P A (s + 1) = ((stpA P (swpA P A s).1 s).1, (swpA P A s).2 || (stpA P (swpA P A s).1 s).2) := rfl
set_option maxHeartbeats 4000000 in
set_option maxRecDepth 100000 in
theorem k_rd29 {M : gM} {n p u d bs r : Nat} {E : Nat → Nat} {P : List St} {A : RA} {Q : gθ} (hW : wS M p u d bs E P) (hgd : gdA P A) (hC : ∀ t, aC A t ≤ 80 * r) (hr : r ≤ 422722) (hk : ∀ M1, rdI M M1 u E P A (r + 1) P.length → GW μX2_doRounds (gRm 6 146 0 0) Q 0 0 2 [some (.ref u), some (.int (bI (rndA P A).2)), none] [] M1 n) : ∀ (d9 : Nat) (i : Nat) (M1 : gM), P.length - i < d9 → i ≤ P.length → rdI M M1 u E P A (r + 1) i → GW μX2_doRounds (gRm 6 146 0 0) Q 0 0 29 [some (.ref u), some (.int (bI (swpA P A i).2)), some (.int (nI i))] [] M1 n := by
  intro d9
  induction d9 with
  | zero =>
    intro i M1 hd hi hI
    omega
  | succ d9 ih =>
    intro i M1 hd hi hI
    have hvP := hW.2.2.2.2.2.1
    have hl40 := hvP.1
    have hW1 := hW.off (hI.1.mono (fun i k q => fRd_Z q))
    obtain ⟨s1, s2, s3, s4⟩ := swp_facts hvP hgd i hi
    refine g_iload_n dX2_doRounds_29 rfl ?_
    refine g_aload_n dX2_doRounds_30 rfl ?_
    refine g_getR (f := 0) dX2_doRounds_31 cl3 hW1.2.1.1 (by decide) (Or.inl (iw_4 18 rfl)) (Or.inl rfl) rfl hW1.2.1.2.1.1 ?_
    refine g_getR (f := 0) dX2_doRounds_34 cl2 hW1.1.1 (by decide) (Or.inr (List.mem_of_getElem? (i := 22) rfl)) (Or.inl rfl) rfl hW1.1.2.1 ?_
    refine g_callV dX2_doRounds_37 sJx4a65c_size_8abf5 (j_size M1 n (p + 1) d P.length E hW1.2.2.1) cl0 hW1.2.2.1.1 iJx4a65c_size_8abf5 vJx4a65c_size_8abf5 (iw_14 21 rfl) rfl rfl (Nat.le_of_ble_eq_true rfl) (Nat.le_of_ble_eq_true rfl) (Nat.le_of_ble_eq_true rfl) (Nat.le_of_ble_eq_true rfl) (Nat.le_of_ble_eq_true rfl) ?_
    intro r9 M9 n9 h9
    obtain ⟨h91, h92, h93⟩ := h9
    rw [h91, h92, h93]
    clear h91 h92 h93 r9 M9 n9
    refine g_icmp_ge (tgt := 73) dX2_doRounds_40 (by decide) (fun c_40 => ?_) (fun c_40 => ?_)
    · skip
      rw [nI_leI (by omega) (by omega)] at c_40
      have hil : i = P.length := by omega
      refine g_drop 2 ?_
      refine g_goto (tgt := 2) dX2_doRounds_73 (by decide) ?_
      subst hil
      exact hk M1 hI
    · skip
      rw [nI_leI (by omega) (by omega)] at c_40
      have hil : i < P.length := by omega
      obtain ⟨st, hS, hqt⟩ := hI.2.2
      refine g_iload_n dX2_doRounds_43 rfl ?_
      refine g_aload_n dX2_doRounds_44 rfl ?_
      refine g_aload_n dX2_doRounds_45 rfl ?_
      refine g_getR (f := 0) dX2_doRounds_46 cl3 hW1.2.1.1 (by decide) (Or.inl (iw_4 18 rfl)) (Or.inl rfl) rfl hW1.2.1.2.1.1 ?_
      refine g_getR (f := 0) dX2_doRounds_49 cl2 hW1.1.1 (by decide) (Or.inr (List.mem_of_getElem? (i := 22) rfl)) (Or.inl rfl) rfl hW1.1.2.1 ?_
      refine g_iload_n dX2_doRounds_52 rfl ?_
      refine g_callV dX2_doRounds_53 sJx4a65c_get_915e3 (j_get M1 n (p + 1) d P.length i E hW1.2.2.1 hil) cl0 hW1.2.2.1.1 iJx4a65c_get_915e3 vJx4a65c_get_915e3 (iw_14 22 rfl) rfl rfl (Nat.le_of_ble_eq_true rfl) (Nat.le_of_ble_eq_true rfl) (Nat.le_of_ble_eq_true rfl) (Nat.le_of_ble_eq_true rfl) (Nat.le_of_ble_eq_true rfl) ?_
      intro r9 M9 n9 h9
      obtain ⟨h91, h92, h93⟩ := h9
      rw [h91, h92, h93]
      clear h91 h92 h93 r9 M9 n9
      refine g_castSt dX2_doRounds_56 (iw_14 20 rfl) (hW1.2.2.2.2.2.2.1 i hil).1.1 ?_
      refine g_iload_n dX2_doRounds_59 rfl ?_
      refine g_iconst (v := nI 1) dX2_doRounds_60 rfl ?_
      refine g_iadd dX2_doRounds_61 ?_
      rw [nI_add]
      refine g_callV dX2_doRounds_62 sX2_giveFrom (c_giveFrom M1 n p u d bs i E P (swpA P A i).1 st hW1 hil s1 (fun t => by have := s4 t; have := hC t; omega) hS hqt) cl3 hW1.2.1.1 iX2_giveFrom vX2_giveFrom (iw_16 3 rfl) rfl rfl (Nat.le_of_ble_eq_true rfl) (Nat.le_of_ble_eq_true rfl) (Nat.le_of_ble_eq_true rfl) (Nat.le_of_ble_eq_true rfl) (Nat.le_of_ble_eq_true rfl) ?_
      intro r9 M2 n9 h9
      obtain ⟨h91, h93, hO2, st1, hS2, hqt2⟩ := h9
      rw [h91, h93]
      clear h91 h93 r9 n9
      refine g_ior dX2_doRounds_65 ?_
      rw [bI_or]
      refine g_istore_n dX2_doRounds_66 (Nat.le_of_ble_eq_true rfl) ?_
      refine g_iinc dX2_doRounds_67 rfl (nI_1 i) (Nat.le_of_ble_eq_true rfl) ?_
      refine g_goto (tgt := 29) dX2_doRounds_70 (by decide) ?_
      have hvP := hW.2.2.2.2.2.1
      have hl40 := hvP.1
      have hW1 := hW.off (hI.1.mono (fun i k q => fRd_Z q))
      obtain ⟨s1, s2, s3, s4⟩ := swp_facts hvP hgd i hi
      exact ih (i + 1) M2 (by omega) (by omega) ⟨hI.1.trans (hO2.mono (fun i k q => fGf_R q)), (hO2.i (fun q => by
        rcases q with q | q | ⟨t, ht, q1, q2, -⟩
        · omega
        · omega
        · have := hW.2.2.2.2.2.2.2.2.2.1 t ht
          have := hW.2.2.2.2.2.2.2.2.1
          omega)).trans hI.2.1, st1, hS2, hqt2⟩

def rsI (M M1 : gM) (u : Nat) (E : Nat → Nat) (P : List St) (A : RA) (r : Nat) : Prop := Off M M1 (fRd u E P.length) ∧ mI M1 u 5 = nI r ∧ ∃ st, gS M1 u E P A st ∧ qt P A st
theorem stm_u {M : gM} {p u d bs : Nat} {E : Nat → Nat} {P : List St} (hW : wS M p u d bs E P) {i k : Nat} (h : stm E P.length i k) : bs ≤ i ∧ u + 28 < bs := by
  obtain ⟨t, ht, q1, q2, -⟩ := h
  have := hW.2.2.2.2.2.2.2.2.2.1 t ht
  exact ⟨by omega, hW.2.2.2.2.2.2.2.2.1⟩
set_option maxHeartbeats 4000000 in
set_option maxRecDepth 100000 in
theorem k_rd2 {M : gM} {n p u d bs : Nat} {E : Nat → Nat} {P : List St} {Q : gθ} (hW : wS M p u d bs E P) : ∀ (d9 : Nat) (A : RA) (r : Nat) (M1 : gM), Ter P A d9 → gdA P A → (∀ t, aC A t ≤ 80 * r) → r + d9 ≤ 422722 → (∀ M2, rsI M M2 u E P (fin P A d9).1 (r + (fin P A d9).2) → GW μX2_doRounds (gRm 6 146 0 0) Q 0 0 76 [some (.ref u), none, none] [] M2 n) → rsI M M1 u E P A r → GW μX2_doRounds (gRm 6 146 0 0) Q 0 0 2 [some (.ref u), some (.int (nI 1)), none] [] M1 n := by
  intro d9
  induction d9 with
  | zero =>
    intro A r M1 hT hgd hC hr hk hI
    exact hT.elim
  | succ d9 ih =>
    intro A r M1 hT hgd hC hr hk hI
    have hvP := hW.2.2.2.2.2.1
    have hl40 := hvP.1
    have hW1 := hW.off (hI.1.mono (fun i k q => fRd_Z q))
    refine g_iload_n dX2_doRounds_2 rfl ?_
    refine g_if_eq (tgt := 76) dX2_doRounds_3 (by decide) (fun c_3 => ?_) (fun c_3 => ?_)
    · skip
      exact absurd c_3 (by decide)
    · skip
      refine g_aload_n dX2_doRounds_6 rfl ?_
      refine g_getI (f := 5) dX2_doRounds_7 cl3 hW1.2.1.1 (by decide) (Or.inl (iw_14 17 rfl)) (Or.inl rfl) (Or.inl rfl) ?_
      refine g_ldc (v := 1000000) dX2_doRounds_10 (iw_16 2 rfl) ?_
      rw [hI.2.1, show (1000000 : Int32) = nI 1000000 from rfl]
      refine g_icmp_ge (tgt := 76) dX2_doRounds_12 (by decide) (fun c_12 => ?_) (fun c_12 => ?_)
      · skip
        rw [nI_leI (by omega) (by omega)] at c_12
        omega
      · skip
        refine g_aload_n dX2_doRounds_15 rfl ?_
        refine g_dup dX2_doRounds_16 rfl ?_
        refine g_getI (f := 5) dX2_doRounds_17 cl3 hW1.2.1.1 (by decide) (Or.inl (iw_14 17 rfl)) (Or.inl rfl) (Or.inl rfl) ?_
        refine g_iconst (v := nI 1) dX2_doRounds_20 rfl ?_
        refine g_iadd dX2_doRounds_21 ?_
        refine g_putI (f := 5) dX2_doRounds_22 cl3 hW1.2.1.1 (by decide) (Or.inl (iw_14 17 rfl)) (Or.inl rfl) (Or.inl rfl) (Or.inl rfl) ?_
        refine g_iconst (v := nI 0) dX2_doRounds_25 rfl ?_
        refine g_istore_n dX2_doRounds_26 (Nat.le_of_ble_eq_true rfl) ?_
        have ho : Off M1 (stI M1 u 5 (mI M1 u 5 + nI 1)) (fun i k => i = u ∧ k = 5) := Off.rf.stI ⟨rfl, rfl⟩
        have e5 : mI (stI M1 u 5 (mI M1 u 5 + nI 1)) u 5 = nI (r + 1) := by rw [mI_st, if_pos ⟨rfl, rfl⟩, hI.2.1, nI_add]
        generalize stI M1 u 5 (mI M1 u 5 + nI 1) = M2 at ho e5 ⊢
        obtain ⟨st, hS, hqt⟩ := hI.2.2
        have hbs : ∀ t, t < P.length → bs ≤ E t := hW.2.2.2.2.2.2.2.2.2.1
        have hlay := hW.2.2.2.2.2.2.2.2.1
        have hS2 : gS M2 u E P A st := ⟨hS.1.off ho (fun j i k hj q h1 h2 => by have := hbs j hj; omega), (ho.i (fun q => by omega)).trans hS.2⟩
        have hO2 : Off M M2 (fRd u E P.length) := hI.1.trans (ho.mono (fun i k q => Or.inl ⟨q.1, Or.inl q.2⟩))
        refine g_iconst (v := nI 0) dX2_doRounds_27 rfl ?_
        refine g_istore_n dX2_doRounds_28 (Nat.le_of_ble_eq_true rfl) ?_
        refine k_rd29 hW hgd hC (by omega) (fun M3 hI3 => ?_) (P.length + 1) 0 M2 (by omega) (Nat.zero_le _) ⟨hO2, e5, st, hS2, hqt⟩
        obtain ⟨s1, s2, s3, s4⟩ := swp_facts hvP hgd P.length (Nat.le_refl _)
        obtain ⟨hO3, e53, st3, hS3, hqt3⟩ := hI3
        by_cases c : (rndA P A).2 = true
        · have ef : fin P A (d9 + 1) = ((fin P (rndA P A).1 d9).1, (fin P (rndA P A).1 d9).2 + 1) := by
            show (if (rndA P A).2 = true then _ else _) = _
            rw [if_pos c]
          have hT3 : Ter P (rndA P A).1 d9 := by
            rcases hT with q | q
            · rw [c] at q; cases q
            · exact q
          rw [c]
          refine ih (rndA P A).1 (r + 1) M3 hT3 s1 (fun t => by
            have h1 := s4 t
            have h2 := hC t
            show aC (swpA P A P.length).1 t ≤ _
            omega) (by omega) (fun M4 hI4 => hk M4 ?_) ⟨hO3, e53, st3, hS3, hqt3⟩
          rw [ef]
          show rsI M M4 u E P (fin P (rndA P A).1 d9).1 (r + ((fin P (rndA P A).1 d9).2 + 1))
          rw [show r + ((fin P (rndA P A).1 d9).2 + 1) = r + 1 + (fin P (rndA P A).1 d9).2 by omega]
          exact hI4
        · have ef : fin P A (d9 + 1) = ((rndA P A).1, 1) := by
            show (if (rndA P A).2 = true then _ else _) = _
            rw [if_neg c]
          have c' : (rndA P A).2 = false := by simpa using c
          rw [c']
          refine g_iload_n dX2_doRounds_2 rfl ?_
          refine g_if_eq (tgt := 76) dX2_doRounds_3 (by decide) (fun c_3 => ?_) (fun c_3 => absurd rfl c_3)
          refine g_drop 1 ?_
          exact hk M3 (by rw [ef]; exact ⟨hO3, e53, st3, hS3, hqt3⟩)

set_option maxHeartbeats 4000000 in
set_option maxRecDepth 100000 in
theorem c_doRounds (M : gM) (n p u d bs : Nat) (E : Nat → Nat) (P : List St) (first : Ev) (st : Nat → Bool) (hW : wS M p u d bs E P) (hf : gdF first) (hS : gS M u E P (iniA P first) st) (hqt : qt P (iniA P first) st) (h5 : mI M u 5 = nI 0) : GM μX2_doRounds 6 146 0 0 [.ref u] M n (fun r M1 n1 => r = none ∧ n1 = n ∧ rsI M M1 u E P (fin P (iniA P first) 1000000).1 (fin P (iniA P first) 1000000).2) := by
  refine GM.ofW (by decide) rfl (Nat.le_of_ble_eq_true rfl) rfl ?_
  refine g_iconst (v := nI 1) dX2_doRounds_0 rfl ?_
  refine g_istore_n dX2_doRounds_1 (Nat.le_of_ble_eq_true rfl) ?_
  have hvP := hW.2.2.2.2.2.1
  obtain ⟨t1, t2⟩ := ter_run hvP hf
  rw [t2]
  refine k_rd2 hW 422722 (iniA P first) 0 M t1 (iniA_gd hf) (fun t => Nat.le_refl _) (by omega) (fun M2 hI2 => ?_) ⟨Off.rf, h5, st, hS, hqt⟩
  rw [Nat.zero_add] at hI2
  exact g_vret dX2_doRounds_76 rfl (Nat.le_refl _) (Nat.le_refl _) ⟨rfl, rfl, hI2⟩

def fPr (E : Nat → Nat) (len : Nat) : Nat → Nat → Prop := fun i k => ∃ t, t < len ∧ i = E t ∧ 6 ≤ k
theorem fPr_m {len i k : Nat} {E : Nat → Nat} (h : fPr E len i k) : stm E len i k := by
  obtain ⟨t, ht, q1, q2⟩ := h
  exact ⟨t, ht, by omega, by omega, fun _ => q2⟩
set_option maxHeartbeats 4000000 in
set_option maxRecDepth 100000 in
theorem k_pr17 {M : gM} {n p u d bs : Nat} {E : Nat → Nat} {P : List St} {Q : gθ} (hW : wS M p u d bs E P) (hk : ∀ M1, Off M M1 (fPr E P.length) → (∀ t, t < P.length → mI M1 (E t) 6 = nI 0 ∧ mI M1 (E t) 7 = nI 0 ∧ mI M1 (E t) 8 = nI 0) → GW μX2_prepare (gRm 3 64 0 0) Q 0 0 54 [some (.ref u), none] [] M1 n) : ∀ (d9 : Nat) (i : Nat) (M1 : gM), P.length - i < d9 → i ≤ P.length → Off M M1 (fPr E P.length) → (∀ t, t < i → mI M1 (E t) 6 = nI 0 ∧ mI M1 (E t) 7 = nI 0 ∧ mI M1 (E t) 8 = nI 0) → GW μX2_prepare (gRm 3 64 0 0) Q 0 0 17 [some (.ref u), some (.int (nI i))] [] M1 n := by
  intro d9
  induction d9 with
  | zero =>
    intro i M1 hd hi hO hI
    omega
  | succ d9 ih =>
    intro i M1 hd hi hO hI
    have hl40 := hW.2.2.2.2.2.1.1
    have hW1 := hW.off (hO.mono (fun i k q => Or.inr (fPr_m q)))
    refine g_iload_n dX2_prepare_17 rfl ?_
    refine g_aload_n dX2_prepare_18 rfl ?_
    refine g_getR (f := 0) dX2_prepare_19 cl3 hW1.2.1.1 (by decide) (Or.inl (iw_4 18 rfl)) (Or.inl rfl) rfl hW1.2.1.2.1.1 ?_
    refine g_getR (f := 0) dX2_prepare_22 cl2 hW1.1.1 (by decide) (Or.inr (List.mem_of_getElem? (i := 22) rfl)) (Or.inl rfl) rfl hW1.1.2.1 ?_
    refine g_callV dX2_prepare_25 sJx4a65c_size_8abf5 (j_size M1 n (p + 1) d P.length E hW1.2.2.1) cl0 hW1.2.2.1.1 iJx4a65c_size_8abf5 vJx4a65c_size_8abf5 (iw_14 21 rfl) rfl rfl (Nat.le_of_ble_eq_true rfl) (Nat.le_of_ble_eq_true rfl) (Nat.le_of_ble_eq_true rfl) (Nat.le_of_ble_eq_true rfl) (Nat.le_of_ble_eq_true rfl) ?_
    intro r9 M9 n9 h9
    obtain ⟨h91, h92, h93⟩ := h9
    rw [h91, h92, h93]
    clear h91 h92 h93 r9 M9 n9
    refine g_icmp_ge (tgt := 54) dX2_prepare_28 (by decide) (fun c_28 => ?_) (fun c_28 => ?_)
    · skip
      rw [nI_leI (by omega) (by omega)] at c_28
      refine g_drop 1 ?_
      exact hk M1 hO (fun t ht => hI t (by omega))
    · skip
      rw [nI_leI (by omega) (by omega)] at c_28
      have hil : i < P.length := by omega
      refine g_aload_n dX2_prepare_31 rfl ?_
      refine g_getR (f := 0) dX2_prepare_32 cl3 hW1.2.1.1 (by decide) (Or.inl (iw_4 18 rfl)) (Or.inl rfl) rfl hW1.2.1.2.1.1 ?_
      refine g_getR (f := 0) dX2_prepare_35 cl2 hW1.1.1 (by decide) (Or.inr (List.mem_of_getElem? (i := 22) rfl)) (Or.inl rfl) rfl hW1.1.2.1 ?_
      refine g_iload_n dX2_prepare_38 rfl ?_
      refine g_callV dX2_prepare_39 sJx4a65c_get_915e3 (j_get M1 n (p + 1) d P.length i E hW1.2.2.1 hil) cl0 hW1.2.2.1.1 iJx4a65c_get_915e3 vJx4a65c_get_915e3 (iw_14 22 rfl) rfl rfl (Nat.le_of_ble_eq_true rfl) (Nat.le_of_ble_eq_true rfl) (Nat.le_of_ble_eq_true rfl) (Nat.le_of_ble_eq_true rfl) (Nat.le_of_ble_eq_true rfl) ?_
      intro r9 M9 n9 h9
      obtain ⟨h91, h92, h93⟩ := h9
      rw [h91, h92, h93]
      clear h91 h92 h93 r9 M9 n9
      refine g_castSt dX2_prepare_42 (iw_14 20 rfl) (hW1.2.2.2.2.2.2.1 i hil).1.1 ?_
      refine g_callV dX2_prepare_45 sX4_forgetFacts (c_forgetF M1 n (E i) (hW1.2.2.2.2.2.2.1 i hil).1.1) cl5 (hW1.2.2.2.2.2.2.1 i hil).1.1 iX4_forgetFacts vX4_forgetFacts (iw_14 23 rfl) rfl rfl (Nat.le_of_ble_eq_true rfl) (Nat.le_of_ble_eq_true rfl) (Nat.le_of_ble_eq_true rfl) (Nat.le_of_ble_eq_true rfl) (Nat.le_of_ble_eq_true rfl) ?_
      intro r9 M2 n9 h9
      obtain ⟨h91, h93, hO2, h62, h72, h82⟩ := h9
      rw [h91, h93]
      clear h91 h93 r9 n9
      refine g_iinc dX2_prepare_48 rfl (nI_1 i) (Nat.le_of_ble_eq_true rfl) ?_
      refine g_goto (tgt := 17) dX2_prepare_51 (by decide) ?_
      have hl40 := hW.2.2.2.2.2.1.1
      have hW1 := hW.off (hO.mono (fun i k q => Or.inr (fPr_m q)))
      exact ih (i + 1) M2 (by omega) (by omega) (hO.trans (hO2.mono (fun j k q => ⟨i, hil, q.1, q.2⟩))) (fun t ht => by
        by_cases e : t = i
        · subst e; exact ⟨h62, h72, h82⟩
        · have h9 := hI t (by omega)
          have ha := hW.apart (show t < P.length by omega) hil e
          rw [hO2.i (fun q => by omega), hO2.i (fun q => by omega), hO2.i (fun q => by omega)]
          exact h9)

set_option maxHeartbeats 4000000 in
set_option maxRecDepth 100000 in
theorem c_prepare (M : gM) (n p u d bs : Nat) (E : Nat → Nat) (P : List St) (first : Ev) (hW : wS M p u d bs E P) (hF : sE M (p + 2) first) : GM μX2_prepare 3 64 0 0 [.ref u] M n (fun r M1 n1 => r = none ∧ n1 = n ∧ Off M M1 (fZ u E P.length) ∧ ∃ st, gS M1 u E P (iniA P first) st ∧ qt P (iniA P first) st ∧ mI M1 u 5 = nI 0 ∧ mI M1 u 7 = nI 0) := by
  refine GM.ofW (by decide) rfl (Nat.le_of_ble_eq_true rfl) rfl ?_
  refine g_aload_n dX2_prepare_0 rfl ?_
  refine g_iconst (v := nI 0) dX2_prepare_1 rfl ?_
  refine g_putI (f := 5) dX2_prepare_2 cl3 hW.2.1.1 (by decide) (Or.inl (iw_14 17 rfl)) (Or.inl rfl) (Or.inl rfl) (Or.inl rfl) ?_
  refine g_aload_n dX2_prepare_5 rfl ?_
  refine g_iconst (v := nI 0) dX2_prepare_6 rfl ?_
  refine g_putI (f := 6) dX2_prepare_7 cl3 hW.2.1.1 (by decide) (Or.inl (iw_14 18 rfl)) (Or.inl rfl) (Or.inl rfl) (Or.inl rfl) ?_
  refine g_aload_n dX2_prepare_10 rfl ?_
  refine g_iconst (v := nI 0) dX2_prepare_11 rfl ?_
  refine g_putI (f := 7) dX2_prepare_12 cl3 hW.2.1.1 (by decide) (Or.inl (iw_14 19 rfl)) (Or.inl rfl) (Or.inl rfl) (Or.inl rfl) ?_
  refine g_iconst (v := nI 0) dX2_prepare_15 rfl ?_
  refine g_istore_n dX2_prepare_16 (Nat.le_of_ble_eq_true rfl) ?_
  have hlay := hW.2.2.2.2.2.2.2.2.1
  have hlay2 := hW.2.2.2.2.2.2.2.1
  have hl40 := hW.2.2.2.2.2.1.1
  have hbs : ∀ t, t < P.length → bs ≤ E t := hW.2.2.2.2.2.2.2.2.2.1
  have ho : Off M (stI (stI (stI M u 5 (nI 0)) u 6 (nI 0)) u 7 (nI 0)) (fun i k => i = u) := ((Off.stI (S := fun i k => i = u) Off.rf rfl).stI rfl).stI rfl
  have e5 : mI (stI (stI (stI M u 5 (nI 0)) u 6 (nI 0)) u 7 (nI 0)) u 5 = nI 0 := by rw [mI_st, if_neg (by omega), mI_st, if_neg (by omega), mI_st, if_pos ⟨rfl, rfl⟩]
  have e6 : mI (stI (stI (stI M u 5 (nI 0)) u 6 (nI 0)) u 7 (nI 0)) u 6 = nI 0 := by rw [mI_st, if_neg (by omega), mI_st, if_pos ⟨rfl, rfl⟩]
  have e7 : mI (stI (stI (stI M u 5 (nI 0)) u 6 (nI 0)) u 7 (nI 0)) u 7 = nI 0 := by rw [mI_st, if_pos ⟨rfl, rfl⟩]
  generalize stI (stI (stI M u 5 (nI 0)) u 6 (nI 0)) u 7 (nI 0) = M1 at ho e5 e6 e7 ⊢
  have hO1 : Off M M1 (fZ u E P.length) := ho.mono (fun i k q => Or.inl ⟨by omega, by omega⟩)
  have hW1 := hW.off hO1
  refine k_pr17 hW1 (fun M2 hO2 hI2 => ?_) (P.length + 1) 0 M1 (by omega) (Nat.zero_le _) Off.rf (fun t ht => by omega)
  have nu : ∀ k, ¬ fPr E P.length u k := fun k ⟨t, ht, q1, q2⟩ => by have := hbs t ht; omega
  have hZ2 : Off M1 M2 (fZ u E P.length) := hO2.mono (fun i k q => Or.inr (fPr_m q))
  have hW2 := hW1.off hZ2
  have hF2 : sE M2 (p + 2) first := (hF.off ho (fun i k h1 h2 q => by omega)).off hO2 (fun i k h1 h2 ⟨t, ht, q1, q2⟩ => by have := hbs t ht; omega)
  have g5 := (hO2.i (nu 5)).trans e5
  have g6 := (hO2.i (nu 6)).trans e6
  have g7 := (hO2.i (nu 7)).trans e7
  refine g_aload_n dX2_prepare_54 rfl ?_
  refine g_getR (f := 0) dX2_prepare_55 cl3 hW2.2.1.1 (by decide) (Or.inl (iw_4 18 rfl)) (Or.inl rfl) rfl hW2.2.1.2.1.1 ?_
  refine g_iconst (v := nI 0) dX2_prepare_58 rfl ?_
  refine g_callV dX2_prepare_59 sX1_isThere (c_isThere M2 n p d P.length E (nI 0) hW2.1 hW2.2.2.1) cl2 hW2.1.1 iX1_isThere vX1_isThere (iw_15 6 rfl) rfl rfl (Nat.le_of_ble_eq_true rfl) (Nat.le_of_ble_eq_true rfl) (Nat.le_of_ble_eq_true rfl) (Nat.le_of_ble_eq_true rfl) (Nat.le_of_ble_eq_true rfl) ?_
  intro r9 M9 n9 h9
  obtain ⟨h91, h92, h93⟩ := h9
  rw [h91, h92, h93]
  clear h91 h92 h93 r9 M9 n9
  refine g_if_eq (tgt := 89) dX2_prepare_62 (by decide) (fun c_62 => ?_) (fun c_62 => ?_)
  · skip
    exact g_vret dX2_prepare_89 rfl (Nat.le_of_ble_eq_true rfl) (Nat.le_of_ble_eq_true rfl) (by
      have qi : qt P (iniA P first) (fun t => decide (t = 0)) := fun k hk hR hst => by
        have h9 : decide (k = 0 ∧ 0 < P.length) = true := hR
        rw [decide_eq_true_eq] at h9
        rw [h9.1] at hst
        simp at hst
      first
        | (have q8 : bI (decide (isN P.length (nI 0))) = 0 := by assumption
           have h0 : ¬ 0 < P.length := fun z => dF c_62 ((isN_lt (by omega)).mpr z)
           exact ⟨rfl, rfl, hO1.trans hZ2, fun t => decide (t = 0), ⟨fun k hk => by omega, g6⟩, qi, g5, g7⟩)
        | (have q9 := hO3
           have nu3 : ∀ k, ¬ ((u = E 0 ∧ (k = 6 ∨ k = 7)) ∨ fB (E 0 + 1) u k) := fun k q => by unfold fB at q; omega
           refine ⟨rfl, rfl, hO1.trans (hZ2.trans (hO3.mono (fun i k q => Or.inr ⟨0, h0, by unfold fB at q; omega, by unfold fB at q; omega, fun z => by unfold fB at q; omega⟩))), fun t => decide (t = 0), ⟨fun k hk => ?_, (hO3.i (nu3 6)).trans g6⟩, qi, (hO3.i (nu3 5)).trans g5, (hO3.i (nu3 7)).trans g7⟩
           by_cases e : k = 0
           · subst e
             refine ⟨?_, ?_, ?_, fun _ => ?_⟩
             · rw [h63]; show nI 1 = bI (decide (0 = 0 ∧ 0 < P.length)); rw [decide_eq_true ⟨rfl, h0⟩]; rfl
             · rw [h73]; rfl
             · exact (hO3.i (fun q => by unfold fB at q; omega)).trans (hI2 0 h0).2.2
             · show sE M3 (E 0 + 1) (if 0 = 0 then cut8 first else fun _ => [])
               rw [if_pos rfl]
               exact hE3.to (fun p hp => cut8_lt hp)
           · have ha := hW.apart hk h0 e
             have hn : ∀ z, ¬ ((E k = E 0 ∧ (z = 6 ∨ z = 7)) ∨ fB (E 0 + 1) (E k) z) := fun z q => by unfold fB at q; omega
             rw [hO3.i (hn 6), hO3.i (hn 7), hO3.i (hn 8)]
             have h9 := hI2 k hk
             refine ⟨?_, ?_, h9.2.2, fun q => ?_⟩
             · rw [h9.1]; show nI 0 = bI (decide (k = 0 ∧ 0 < P.length)); rw [decide_eq_false (fun z => e z.1)]; rfl
             · rw [h9.2.1]; show nI 0 = bI (decide (k = 0)); rw [decide_eq_false e]; rfl
             · have q' : decide (k = 0 ∧ 0 < P.length) = true := q
               rw [decide_eq_true_eq] at q'
               exact absurd q'.1 e))
  · skip
    have h0 : 0 < P.length := (isN_lt (by omega)).mp (dT c_62)
    have hb0 := hbs 0 h0
    refine g_aload_n dX2_prepare_65 rfl ?_
    refine g_getR (f := 0) dX2_prepare_66 cl3 hW2.2.1.1 (by decide) (Or.inl (iw_4 18 rfl)) (Or.inl rfl) rfl hW2.2.1.2.1.1 ?_
    refine g_getR (f := 0) dX2_prepare_69 cl2 hW2.1.1 (by decide) (Or.inr (List.mem_of_getElem? (i := 22) rfl)) (Or.inl rfl) rfl hW2.1.2.1 ?_
    refine g_iconst (v := nI 0) dX2_prepare_72 rfl ?_
    refine g_callV dX2_prepare_73 sJx4a65c_get_915e3 (j_get M2 n (p + 1) d P.length 0 E hW2.2.2.1 h0) cl0 hW2.2.2.1.1 iJx4a65c_get_915e3 vJx4a65c_get_915e3 (iw_14 22 rfl) rfl rfl (Nat.le_of_ble_eq_true rfl) (Nat.le_of_ble_eq_true rfl) (Nat.le_of_ble_eq_true rfl) (Nat.le_of_ble_eq_true rfl) (Nat.le_of_ble_eq_true rfl) ?_
    intro r9 M9 n9 h9
    obtain ⟨h91, h92, h93⟩ := h9
    rw [h91, h92, h93]
    clear h91 h92 h93 r9 M9 n9
    refine g_castSt dX2_prepare_76 (iw_14 20 rfl) (hW2.2.2.2.2.2.2.1 0 h0).1.1 ?_
    refine g_aload_n dX2_prepare_79 rfl ?_
    refine g_getR (f := 0) dX2_prepare_80 cl3 hW2.2.1.1 (by decide) (Or.inl (iw_4 18 rfl)) (Or.inl rfl) rfl hW2.2.1.2.1.1 ?_
    refine g_getR (f := 1) dX2_prepare_83 cl2 hW2.1.1 (by decide) (Or.inr (List.mem_of_getElem? (i := 23) rfl)) (Or.inl rfl) rfl hW2.1.2.2.1 ?_
    refine g_callV dX2_prepare_86 sX4_becomeKnown (c_known M2 n (E 0) (p + 2) (P.getD 0 st0) first (hW2.2.2.2.2.2.2.1 0 h0).1 hF2 (by unfold apS; omega)) cl5 (hW2.2.2.2.2.2.2.1 0 h0).1.1 iX4_becomeKnown vX4_becomeKnown (iw_15 10 rfl) rfl rfl (Nat.le_of_ble_eq_true rfl) (Nat.le_of_ble_eq_true rfl) (Nat.le_of_ble_eq_true rfl) (Nat.le_of_ble_eq_true rfl) (Nat.le_of_ble_eq_true rfl) ?_
    intro r9 M3 n9 h9
    obtain ⟨h91, h93, hO3, hE3, h63, h73⟩ := h9
    rw [h91, h93]
    clear h91 h93 r9 n9
    exact g_vret dX2_prepare_89 rfl (Nat.le_of_ble_eq_true rfl) (Nat.le_of_ble_eq_true rfl) (by
      have qi : qt P (iniA P first) (fun t => decide (t = 0)) := fun k hk hR hst => by
        have h9 : decide (k = 0 ∧ 0 < P.length) = true := hR
        rw [decide_eq_true_eq] at h9
        rw [h9.1] at hst
        simp at hst
      first
        | (have q8 : bI (decide (isN P.length (nI 0))) = 0 := by assumption
           have h0 : ¬ 0 < P.length := fun z => dF c_62 ((isN_lt (by omega)).mpr z)
           exact ⟨rfl, rfl, hO1.trans hZ2, fun t => decide (t = 0), ⟨fun k hk => by omega, g6⟩, qi, g5, g7⟩)
        | (have q9 := hO3
           have nu3 : ∀ k, ¬ ((u = E 0 ∧ (k = 6 ∨ k = 7)) ∨ fB (E 0 + 1) u k) := fun k q => by unfold fB at q; omega
           refine ⟨rfl, rfl, hO1.trans (hZ2.trans (hO3.mono (fun i k q => Or.inr ⟨0, h0, by unfold fB at q; omega, by unfold fB at q; omega, fun z => by unfold fB at q; omega⟩))), fun t => decide (t = 0), ⟨fun k hk => ?_, (hO3.i (nu3 6)).trans g6⟩, qi, (hO3.i (nu3 5)).trans g5, (hO3.i (nu3 7)).trans g7⟩
           by_cases e : k = 0
           · subst e
             refine ⟨?_, ?_, ?_, fun _ => ?_⟩
             · rw [h63]; show nI 1 = bI (decide (0 = 0 ∧ 0 < P.length)); rw [decide_eq_true ⟨rfl, h0⟩]; rfl
             · rw [h73]; rfl
             · exact (hO3.i (fun q => by unfold fB at q; omega)).trans (hI2 0 h0).2.2
             · show sE M3 (E 0 + 1) (if 0 = 0 then cut8 first else fun _ => [])
               rw [if_pos rfl]
               exact hE3.to (fun p hp => cut8_lt hp)
           · have ha := hW.apart hk h0 e
             have hn : ∀ z, ¬ ((E k = E 0 ∧ (z = 6 ∨ z = 7)) ∨ fB (E 0 + 1) (E k) z) := fun z q => by unfold fB at q; omega
             rw [hO3.i (hn 6), hO3.i (hn 7), hO3.i (hn 8)]
             have h9 := hI2 k hk
             refine ⟨?_, ?_, h9.2.2, fun q => ?_⟩
             · rw [h9.1]; show nI 0 = bI (decide (k = 0 ∧ 0 < P.length)); rw [decide_eq_false (fun z => e z.1)]; rfl
             · rw [h9.2.1]; show nI 0 = bI (decide (k = 0)); rw [decide_eq_false e]; rfl
             · have q' : decide (k = 0 ∧ 0 < P.length) = true := q
               rw [decide_eq_true_eq] at q'
               exact absurd q'.1 e))

