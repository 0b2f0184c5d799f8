/-! the list of the JDK -/
/-- what is known of any memory -/
def gW0 (M : gM) (n : Nat) : Prop := 2 ≤ n ∧ (∀ i, n ≤ i → 15 < mK M i) ∧ 15 < mK M 1 ∧ mK M 0 = 15 ∧ mN M 0 = 0
theorem g_facts {μ : gμ} {R : Room} {Q : gθ} {k q pc : Nat} {lv : List (Option Value)} {st : List Value} {M : gM} {n : Nat} (kk : gW0 M n → GW μ R Q k q pc lv st M n) : GW μ R Q k q pc lv st M n := by
  intro p l e s m args below meth c D cy b H locs ls hC hP hS hl
  exact kk ⟨hP.2.2.1, hP.2.2.2.1, hP.2.2.2.2.1⟩ p l e s m args below meth c D cy b H locs ls hC hP hS hl
theorem gW0.lt {M : gM} {n : Nat} (h : gW0 M n) {i : Nat} (hi : mK M i ≤ 15) : i < n := by
  apply Classical.byContradiction
  intro q
  have := h.2.1 i (by omega)
  omega
/-- the list at l: its row d, its first len places -/
def aL (M : gM) (l d len : Nat) (E : Nat → Nat) : Prop := mK M l = 0 ∧ mR M l 1 = some d ∧ mI M l 2 = nI len ∧ mK M d = 15 ∧ len ≤ mN M d ∧ (d = 0 ∧ mN M d = 0 ∨ 2 ≤ d ∧ 10 ≤ mN M d ∧ mN M d ≤ 60) ∧ ∀ k, k < len → mR M d k = some (E k) ∧ mK M (E k) = 5
theorem aL.off {M M1 : gM} {l d len : Nat} {E : Nat → Nat} {S : Nat → Nat → Prop} (h : aL M l d len E) (ho : Off M M1 S) (hs : ¬ S l 2) : aL M1 l d len E := by
  obtain ⟨h1, h2, h3, h4⟩ := h
  unfold aL
  rw [ho.1, ho.2.1, ho.2.2.1, ho.i hs]
  exact ⟨h1, h2, h3, h4⟩
theorem nI_half {c : Nat} (h : c < 1000) : nI c >>> (nI 1 &&& 31) = nI (c / 2) := by
  rw [iZ_shr _ (by omega), nI_t (by omega), nI_iZ]
  congr 1
theorem nI_maxI {a b : Nat} (ha : a < 2147483648) (hb : b < 2147483648) : (if nI a < nI b then nI b else nI a) = nI (max a b) := by
  by_cases h : a < b
  · rw [if_pos ((nI_ltI' ha hb).mpr h), show max a b = b by omega]
  · rw [if_neg (fun q => h ((nI_ltI' ha hb).mp q)), show max a b = a by omega]
theorem nI_minI {a b : Nat} (ha : a < 2147483648) (hb : b < 2147483648) : (if nI b < nI a then nI b else nI a) = nI (min a b) := by
  by_cases h : b < a
  · rw [if_pos ((nI_ltI' hb ha).mpr h), show min a b = b by omega]
  · rw [if_neg (fun q => h ((nI_ltI' hb ha).mp q)), show min a b = a by omega]
set_option maxHeartbeats 4000000 in
set_option maxRecDepth 100000 in
theorem j_size (M : gM) (n l d len : Nat) (E : Nat → Nat) (h : aL M l d len E) : GM μJx4a65c_size_8abf5 0 0 0 0 [.ref l] M n (fun r M1 n1 => r = some (.int (nI len)) ∧ M1 = M ∧ n1 = n) := by
  refine GM.ofF (by decide +kernel) rfl (Nat.le_of_ble_eq_true rfl) rfl ?_
  refine g_aload_n dJx4a65c_size_8abf5_0 rfl ?_
  refine g_getI (f := 2) dJx4a65c_size_8abf5_1 cl0 h.1 (by decide) (Or.inl (iw_8 4 rfl)) (Or.inl rfl) (Or.inl rfl) ?_
  exact g_iret dJx4a65c_size_8abf5_4 (Or.inl rfl) (Nat.le_of_ble_eq_true rfl) (Nat.le_of_ble_eq_true rfl) ⟨by rw [h.2.2.1], rfl, rfl⟩

set_option maxHeartbeats 4000000 in
set_option maxRecDepth 100000 in
theorem j_el (M : gM) (n l d len k : Nat) (E : Nat → Nat) (h : aL M l d len E) (hk : k < len) : GM μJx4a65c_elementData_915e3 0 0 0 0 [.ref l, .int (nI k)] M n (fun r M1 n1 => r = some (.ref (E k)) ∧ M1 = M ∧ n1 = n) := by
  refine GM.ofF (by decide +kernel) rfl (Nat.le_of_ble_eq_true rfl) rfl ?_
  have h6 := h.2.2.2.2.1
  have h5 := h.2.2.2.2.2.1
  refine g_aload_n dJx4a65c_elementData_915e3_0 rfl ?_
  refine g_getR (f := 1) dJx4a65c_elementData_915e3_1 cl0 h.1 (by decide) (Or.inl (iw_2 18 rfl)) (Or.inl rfl) rfl h.2.1 ?_
  refine g_iload_n dJx4a65c_elementData_915e3_4 rfl ?_
  refine g_aaloadO dJx4a65c_elementData_915e3_5 (j := k) (L := mN M d) h.2.2.2.1 rfl rfl (by omega) (by omega) (h.2.2.2.2.2.2 k hk).1 ?_
  exact g_aret dJx4a65c_elementData_915e3_6 rfl rfl (Nat.le_of_ble_eq_true rfl) (Nat.le_of_ble_eq_true rfl) ⟨rfl, rfl, rfl⟩

set_option maxHeartbeats 4000000 in
set_option maxRecDepth 100000 in
theorem j_chk3 (M : gM) (n k len : Nat) (hk : k < len) (hl : len < 2147483648) : GM μJ3_checkIndex_8e157 0 0 0 0 [.int (nI k), .int (nI len), .null] M n (fun r M1 n1 => r = some (.int (nI k)) ∧ M1 = M ∧ n1 = n) := by
  refine GM.ofF (by decide +kernel) rfl (Nat.le_of_ble_eq_true rfl) rfl ?_
  refine g_iload_n dJ3_checkIndex_8e157_0 rfl ?_
  refine g_if_lt (tgt := 9) dJ3_checkIndex_8e157_1 (by decide) (fun c_1 => ?_) (fun c_1 => ?_)
  · skip
    rw [show (0 : Int32) = nI 0 from rfl, nI_ltI' (by omega) (by omega)] at c_1
    omega
  · skip
    refine g_iload_n dJ3_checkIndex_8e157_4 rfl ?_
    refine g_iload_n dJ3_checkIndex_8e157_5 rfl ?_
    refine g_icmp_lt (tgt := 16) dJ3_checkIndex_8e157_6 (by decide) (fun c_6 => ?_) (fun c_6 => ?_)
    · skip
      refine g_iload_n dJ3_checkIndex_8e157_16 rfl ?_
      exact g_iret dJ3_checkIndex_8e157_17 (Or.inl rfl) (Nat.le_of_ble_eq_true rfl) (Nat.le_of_ble_eq_true rfl) ⟨rfl, rfl, rfl⟩
    · skip
      rw [nI_ltI' (by omega) (by omega)] at c_6
      omega

set_option maxHeartbeats 4000000 in
set_option maxRecDepth 100000 in
theorem j_chk (M : gM) (n k len : Nat) (hk : k < len) (hl : len < 2147483648) : GM μJ15_checkIndex_7cf53 1 22 0 0 [.int (nI k), .int (nI len)] M n (fun r M1 n1 => r = some (.int (nI k)) ∧ M1 = M ∧ n1 = n) := by
  refine GM.ofF (by decide +kernel) rfl (Nat.le_of_ble_eq_true rfl) rfl ?_
  refine g_iload_n dJ15_checkIndex_7cf53_0 rfl ?_
  refine g_iload_n dJ15_checkIndex_7cf53_1 rfl ?_
  refine g_null dJ15_checkIndex_7cf53_2 ?_
  refine g_callS dJ15_checkIndex_7cf53_3 sJ3_checkIndex_8e157 (j_chk3 M n k len hk hl) tJ3_checkIndex_8e157 (iw_11 23 rfl) rfl rfl (Nat.le_of_ble_eq_true rfl) (Nat.le_of_ble_eq_true rfl) (Nat.le_of_ble_eq_true rfl) (Nat.le_of_ble_eq_true rfl) (Nat.le_of_ble_eq_true rfl) ?_
  intro r9 M9 n9 h9
  obtain ⟨h91, h92, h93⟩ := h9
  rw [h91, h92, h93]
  clear h91 h92 h93 r9 M9 n9
  exact g_iret dJ15_checkIndex_7cf53_6 (Or.inl rfl) (Nat.le_of_ble_eq_true rfl) (Nat.le_of_ble_eq_true rfl) ⟨rfl, rfl, rfl⟩

set_option maxHeartbeats 4000000 in
set_option maxRecDepth 100000 in
theorem j_get (M : gM) (n l d len k : Nat) (E : Nat → Nat) (h : aL M l d len E) (hk : k < len) : GM μJx4a65c_get_915e3 2 43 0 0 [.ref l, .int (nI k)] M n (fun r M1 n1 => r = some (.ref (E k)) ∧ M1 = M ∧ n1 = n) := by
  refine GM.ofF (by decide +kernel) rfl (Nat.le_of_ble_eq_true rfl) rfl ?_
  have h6 := h.2.2.2.2.1
  have h5 := h.2.2.2.2.2.1
  refine g_iload_n dJx4a65c_get_915e3_0 rfl ?_
  refine g_aload_n dJx4a65c_get_915e3_1 rfl ?_
  refine g_getI (f := 2) dJx4a65c_get_915e3_2 cl0 h.1 (by decide) (Or.inl (iw_8 4 rfl)) (Or.inl rfl) (Or.inl rfl) ?_
  rw [h.2.2.1]
  refine g_callS dJx4a65c_get_915e3_5 sJ15_checkIndex_7cf53 (j_chk M n k len hk (by omega)) tJ15_checkIndex_7cf53 (iw_11 19 rfl) rfl rfl (Nat.le_of_ble_eq_true rfl) (Nat.le_of_ble_eq_true rfl) (Nat.le_of_ble_eq_true rfl) (Nat.le_of_ble_eq_true rfl) (Nat.le_of_ble_eq_true rfl) ?_
  intro r9 M9 n9 h9
  obtain ⟨h91, h92, h93⟩ := h9
  rw [h91, h92, h93]
  clear h91 h92 h93 r9 M9 n9
  refine g_pop dJx4a65c_get_915e3_8 rfl ?_
  refine g_aload_n dJx4a65c_get_915e3_9 rfl ?_
  refine g_iload_n dJx4a65c_get_915e3_10 rfl ?_
  refine g_callV dJx4a65c_get_915e3_11 sJx4a65c_elementData_915e3 (j_el M n l d len k E h hk) cl0 h.1 iJx4a65c_elementData_915e3 vJx4a65c_elementData_915e3 (iw_12 3 rfl) rfl rfl (Nat.le_of_ble_eq_true rfl) (Nat.le_of_ble_eq_true rfl) (Nat.le_of_ble_eq_true rfl) (Nat.le_of_ble_eq_true rfl) (Nat.le_of_ble_eq_true rfl) ?_
  intro r9 M9 n9 h9
  obtain ⟨h91, h92, h93⟩ := h9
  rw [h91, h92, h93]
  clear h91 h92 h93 r9 M9 n9
  exact g_aret dJx4a65c_get_915e3_14 rfl rfl (Nat.le_of_ble_eq_true rfl) (Nat.le_of_ble_eq_true rfl) ⟨rfl, rfl, rfl⟩

set_option maxHeartbeats 4000000 in
set_option maxRecDepth 100000 in
theorem j_init2 (M : gM) (n l : Nat) : GM μJxa1e45_init_da8c8 1 20 0 0 [.ref l] M n (fun r M1 n1 => r = none ∧ M1 = M ∧ n1 = n) := by
  refine GM.ofF (by decide +kernel) rfl (Nat.le_of_ble_eq_true rfl) rfl ?_
  refine g_aload_n dJxa1e45_init_da8c8_0 rfl ?_
  refine g_objInit dJxa1e45_init_da8c8_1 (iw_3 4 rfl) (iw_1 11 rfl) (iw_1 12 rfl) (Nat.le_of_ble_eq_true rfl) (Nat.le_of_ble_eq_true rfl) ?_
  exact g_vret dJxa1e45_init_da8c8_4 rfl (Nat.le_of_ble_eq_true rfl) (Nat.le_of_ble_eq_true rfl) ⟨rfl, rfl, rfl⟩

set_option maxHeartbeats 4000000 in
set_option maxRecDepth 100000 in
theorem j_init1 (M : gM) (n l : Nat) (hk : mK M l = 0) : GM μJxc12de_init_da8c8 2 40 0 0 [.ref l] M n (fun r M1 n1 => r = none ∧ M1 = stI M l 0 (nI 0) ∧ n1 = n) := by
  refine GM.ofF (by decide +kernel) rfl (Nat.le_of_ble_eq_true rfl) rfl ?_
  refine g_aload_n dJxc12de_init_da8c8_0 rfl ?_
  refine g_callI dJxc12de_init_da8c8_1 sJxa1e45_init_da8c8 (j_init2 M n l) rfl rfl iJxa1e45_init_da8c8 (iw_3 0 rfl) rfl rfl (Nat.le_of_ble_eq_true rfl) (Nat.le_of_ble_eq_true rfl) (Nat.le_of_ble_eq_true rfl) (Nat.le_of_ble_eq_true rfl) (Nat.le_of_ble_eq_true rfl) ?_
  intro r9 M9 n9 h9
  obtain ⟨h91, h92, h93⟩ := h9
  rw [h91, h92, h93]
  clear h91 h92 h93 r9 M9 n9
  refine g_aload_n dJxc12de_init_da8c8_4 rfl ?_
  refine g_iconst (v := nI 0) dJxc12de_init_da8c8_5 rfl ?_
  refine g_putI (f := 0) dJxc12de_init_da8c8_6 cl0 hk (by decide) (Or.inl (iw_2 23 rfl)) (Or.inl rfl) (Or.inl rfl) (Or.inl rfl) ?_
  exact g_vret dJxc12de_init_da8c8_9 rfl (Nat.le_of_ble_eq_true rfl) (Nat.le_of_ble_eq_true rfl) ⟨rfl, rfl, rfl⟩

set_option maxHeartbeats 4000000 in
set_option maxRecDepth 100000 in
theorem j_init (M : gM) (n l : Nat) (hk : mK M l = 0) : GM μJx4a65c_init_da8c8 3 60 0 0 [.ref l] M n (fun r M1 n1 => r = none ∧ M1 = stR (stI M l 0 (nI 0)) l 1 (some 0) ∧ n1 = n) := by
  refine GM.ofF (by decide +kernel) rfl (Nat.le_of_ble_eq_true rfl) rfl ?_
  refine g_aload_n dJx4a65c_init_da8c8_0 rfl ?_
  refine g_callI dJx4a65c_init_da8c8_1 sJxc12de_init_da8c8 (j_init1 M n l hk) rfl rfl iJxc12de_init_da8c8 (iw_2 19 rfl) rfl rfl (Nat.le_of_ble_eq_true rfl) (Nat.le_of_ble_eq_true rfl) (Nat.le_of_ble_eq_true rfl) (Nat.le_of_ble_eq_true rfl) (Nat.le_of_ble_eq_true rfl) ?_
  intro r9 M9 n9 h9
  obtain ⟨h91, h92, h93⟩ := h9
  rw [h91, h92, h93]
  clear h91 h92 h93 r9 M9 n9
  refine g_aload_n dJx4a65c_init_da8c8_4 rfl ?_
  refine g_empty dJx4a65c_init_da8c8_5 (iw_2 17 rfl) ?_
  refine g_putR (f := 1) dJx4a65c_init_da8c8_8 cl0 hk (by decide) (Or.inl (iw_2 18 rfl)) (Or.inl rfl) (Or.inl rfl) rfl ?_
  exact g_vret dJx4a65c_init_da8c8_11 rfl (Nat.le_of_ble_eq_true rfl) (Nat.le_of_ble_eq_true rfl) ⟨rfl, rfl, rfl⟩

set_option maxHeartbeats 4000000 in
set_option maxRecDepth 100000 in
theorem j_newLen (M : gM) (n a c : Nat) (ha : 10 ≤ a ∧ a ≤ 60) (hc : 1 ≤ c ∧ c ≤ 60) : GM μJ8_newLength_cabcc 1 22 0 0 [.int (nI a), .int (nI 1), .int (nI c)] M n (fun r M1 n1 => r = some (.int (nI (a + c))) ∧ M1 = M ∧ n1 = n) := by
  refine GM.ofF (by decide +kernel) rfl (Nat.le_of_ble_eq_true rfl) rfl ?_
  refine g_iload_n dJ8_newLength_cabcc_0 rfl ?_
  refine g_iload_n dJ8_newLength_cabcc_1 rfl ?_
  refine g_iload_n dJ8_newLength_cabcc_2 rfl ?_
  refine g_mmax dJ8_newLength_cabcc_3 (iw_10 2 rfl) (iw_9 18 rfl) (iw_9 19 rfl) (iw_9 20 rfl) (Nat.le_of_ble_eq_true rfl) (Nat.le_of_ble_eq_true rfl) (Nat.le_of_ble_eq_true rfl) (Nat.le_of_ble_eq_true rfl) ?_
  rw [nI_maxI (by omega) (by omega), show max 1 c = c by omega]
  refine g_iadd dJ8_newLength_cabcc_6 ?_
  rw [nI_add]
  refine g_istore_n dJ8_newLength_cabcc_7 (Nat.le_of_ble_eq_true rfl) ?_
  refine g_iconst (v := nI 0) dJ8_newLength_cabcc_8 rfl ?_
  refine g_iload_n dJ8_newLength_cabcc_9 rfl ?_
  refine g_icmp_ge (tgt := 21) dJ8_newLength_cabcc_10 (by decide) (fun c_10 => ?_) (fun c_10 => ?_)
  · skip
    rw [nI_leI (by omega) (by omega)] at c_10
    omega
  · skip
    refine g_iload_n dJ8_newLength_cabcc_13 rfl ?_
    skip
    refine g_ldc (v := 2147483639) dJ8_newLength_cabcc_14 (iw_10 3 rfl) ?_
    rw [show (2147483639 : Int32) = nI 2147483639 from rfl]
    refine g_icmp_gt (tgt := 21) dJ8_newLength_cabcc_16 (by decide) (fun c_16 => ?_) (fun c_16 => ?_)
    · skip
      rw [nI_ltI' (by omega) (by omega)] at c_16
      omega
    · skip
      refine g_iload_n dJ8_newLength_cabcc_19 rfl ?_
      exact g_iret dJ8_newLength_cabcc_20 (Or.inl rfl) (Nat.le_of_ble_eq_true rfl) (Nat.le_of_ble_eq_true rfl) ⟨rfl, rfl, rfl⟩

def gwM (M : gM) (n d a c : Nat) : gM := cpR (stN M n 15 (a + c)) d n a
theorem stN_K (M : gM) (i k n a : Nat) (h : a ≠ i) : mK (stN M i k n) a = mK M a := up1_ne _ _ h
theorem stN_N (M : gM) (i k n a : Nat) (h : a ≠ i) : mN (stN M i k n) a = mN M a := up1_ne _ _ h
theorem stN_R (M : gM) (i k n a : Nat) (h : a ≠ i) : mR (stN M i k n) a = mR M a := up1_ne _ _ h
theorem stN_I (M : gM) (i k n a : Nat) (h : a ≠ i) : mI (stN M i k n) a = mI M a := up1_ne _ _ h
theorem stN_J (M : gM) (i k n a : Nat) (h : a ≠ i) : mJ (stN M i k n) a = mJ M a := up1_ne _ _ h
theorem stN_Ks (M : gM) (i k n : Nat) : mK (stN M i k n) i = k := up1_eq _ _ _
theorem stN_Ns (M : gM) (i k n : Nat) : mN (stN M i k n) i = n := up1_eq _ _ _
theorem stN_Rs (M : gM) (i k n : Nat) : mR (stN M i k n) i = fun _ => none := up1_eq _ _ _
theorem stN_Is (M : gM) (i k n : Nat) : mI (stN M i k n) i = fun _ => 0 := up1_eq _ _ _
set_option maxHeartbeats 4000000 in
set_option maxRecDepth 100000 in
theorem j_copy3 (M : gM) (n d a c : Nat) (hk : mK M d = 15) (hN : mN M d = a) (hd2 : 2 ≤ d) (ha : 10 ≤ a ∧ a ≤ 60) (hc : 1 ≤ c ∧ c ≤ 60) (hel : ∀ k, k < a → ∃ y, mR M d k = some y ∧ mK M y = 5) : GM μJ7_copyOf_6403c 1 48 1 200 [.ref d, .int (nI (a + c)), .ref 1] M n (fun r M1 n1 => r = some (.ref n) ∧ M1 = gwM M n d a c ∧ n1 = n + 1) := by
  refine GM.ofF (by decide +kernel) rfl (Nat.le_of_ble_eq_true rfl) rfl ?_
  refine g_facts (fun hw => ?_)
  have hw2 := hw.1
  have hdn : d < n := hw.lt (by omega)
  refine g_aload_n dJ7_copyOf_6403c_0 rfl ?_
  refine g_ldcM dJ7_copyOf_6403c_1 (iw_10 18 rfl) ?_
  refine g_acmp_ne (tgt := 13) dJ7_copyOf_6403c_3 (by decide) (Or.inl rfl) (fun c_3 => ?_) (fun c_3 => ?_)
  · skip
    exact absurd rfl c_3
  · skip
    refine g_iload_n dJ7_copyOf_6403c_6 rfl ?_
    refine g_anew (C := "java/lang/Object") (kd := 15) (t0 := 4) (L := a + c) dJ7_copyOf_6403c_7 (iw_10 19 rfl) (Or.inr ⟨rfl, rfl, rfl⟩) rfl (by omega) (Nat.le_of_ble_eq_true rfl) (by show 0 + (a + c) ≤ 200; omega) ?_
    refine g_goto (tgt := 24) dJ7_copyOf_6403c_10 (by decide) ?_
    refine g_astore_n dJ7_copyOf_6403c_24 (Nat.le_of_ble_eq_true rfl) ?_
    refine g_aload_n dJ7_copyOf_6403c_25 rfl ?_
    refine g_iconst (v := nI 0) dJ7_copyOf_6403c_26 rfl ?_
    refine g_aload_n dJ7_copyOf_6403c_27 rfl ?_
    refine g_iconst (v := nI 0) dJ7_copyOf_6403c_28 rfl ?_
    refine g_aload_n dJ7_copyOf_6403c_29 rfl ?_
    refine g_alen dJ7_copyOf_6403c_30 (by rw [stN_K _ _ _ _ _ (by omega), hk]; omega) (show mN (stN M n 15 (a + c)) d = a by rw [stN_N _ _ _ _ _ (by omega), hN]) ?_
    refine g_iload_n dJ7_copyOf_6403c_31 rfl ?_
    refine g_mmin dJ7_copyOf_6403c_32 (iw_10 20 rfl) (iw_10 21 rfl) (iw_9 19 rfl) (iw_10 22 rfl) (Nat.le_of_ble_eq_true rfl) (Nat.le_of_ble_eq_true rfl) (by first | decide | (show 0 + (a + c) ≤ 200; omega)) (by first | decide | (show 0 + (a + c) ≤ 200; omega)) ?_
    rw [nI_minI (by omega) (by omega), show min a (a + c) = a by omega]
    refine g_acopy dJ7_copyOf_6403c_35 (iw_10 23 rfl) (iw_11 0 rfl) (iw_11 1 rfl) (iw_11 2 rfl) (by rw [stN_K _ _ _ _ _ (by omega), hk]) (stN_Ks _ _ _ _) hw2 (by rw [stN_N _ _ _ _ _ (by omega), hN]; omega) (by rw [stN_Ns]; omega) (by omega) (by omega) (fun j hj => by
        obtain ⟨y, h1, h2⟩ := hel j hj
        refine ⟨y, by rw [stN_R _ _ _ _ _ (by omega)]; exact h1, by rw [stN_K _ _ _ _ _ (by have := hw.lt (i := y) (by omega); omega)]; exact h2⟩) (Nat.le_of_ble_eq_true rfl) (Nat.le_of_ble_eq_true rfl) ?_
    refine g_aload_n dJ7_copyOf_6403c_38 rfl ?_
    exact g_aret dJ7_copyOf_6403c_39 rfl rfl (by decide) (by show 0 + (a + c) ≤ 200; omega) ⟨rfl, rfl, rfl⟩

set_option maxHeartbeats 4000000 in
set_option maxRecDepth 100000 in
theorem j_copy2 (M : gM) (n d a c : Nat) (hk : mK M d = 15) (hN : mN M d = a) (hd2 : 2 ≤ d) (ha : 10 ≤ a ∧ a ≤ 60) (hc : 1 ≤ c ∧ c ≤ 60) (hel : ∀ k, k < a → ∃ y, mR M d k = some y ∧ mK M y = 5) : GM μJ7_copyOf_1904c 2 71 1 200 [.ref d, .int (nI (a + c))] M n (fun r M1 n1 => r = some (.ref n) ∧ M1 = gwM M n d a c ∧ n1 = n + 1) := by
  refine GM.ofF (by decide +kernel) rfl (Nat.le_of_ble_eq_true rfl) rfl ?_
  refine g_aload_n dJ7_copyOf_1904c_0 rfl ?_
  refine g_iload_n dJ7_copyOf_1904c_1 rfl ?_
  refine g_aload_n dJ7_copyOf_1904c_2 rfl ?_
  refine g_getC dJ7_copyOf_1904c_3 (iw_10 11 rfl) (iw_10 12 rfl) (iw_10 13 rfl) (iw_10 14 rfl) hk (Nat.le_of_ble_eq_true rfl) (Nat.le_of_ble_eq_true rfl) ?_
  refine g_callS dJ7_copyOf_1904c_6 sJ7_copyOf_6403c (j_copy3 M n d a c hk hN hd2 ha hc hel) tJ7_copyOf_6403c (iw_10 15 rfl) rfl rfl (Nat.le_of_ble_eq_true rfl) (Nat.le_of_ble_eq_true rfl) (Nat.le_of_ble_eq_true rfl) (Nat.le_of_ble_eq_true rfl) (Nat.le_of_ble_eq_true rfl) ?_
  intro r9 M9 n9 h9
  obtain ⟨h91, h92, h93⟩ := h9
  rw [h91, h92, h93]
  clear h91 h92 h93 r9 M9 n9
  exact g_aret dJ7_copyOf_1904c_9 rfl rfl (Nat.le_of_ble_eq_true rfl) (Nat.le_of_ble_eq_true rfl) ⟨rfl, rfl, rfl⟩

def grM (M : gM) (n l d : Nat) : gM := if d = 0 then stR (stN M n 15 10) l 1 (some n) else stR (gwM M n d (mN M d) (mN M d / 2)) l 1 (some n)
set_option maxHeartbeats 4000000 in
set_option maxRecDepth 100000 in
theorem j_grow (M : gM) (n l d len : Nat) (E : Nat → Nat) (h : aL M l d len E) (hf : mN M d = len) (hl : len < 40) : GM μJx4a65c_grow_92f84 3 92 1 200 [.ref l, .int (nI (len + 1))] M n (fun r M1 n1 => r = some (.ref n) ∧ M1 = grM M n l d ∧ n1 = n + 1) := by
  refine GM.ofF (by decide +kernel) rfl (Nat.le_of_ble_eq_true rfl) rfl ?_
  refine g_facts (fun hw => ?_)
  have hln : l < n := hw.lt (by rw [h.1]; omega)
  have h6 := h.2.2.2.2.1
  have h5 := h.2.2.2.2.2.1
  refine g_aload_n dJx4a65c_grow_92f84_0 rfl ?_
  refine g_getR (f := 1) dJx4a65c_grow_92f84_1 cl0 h.1 (by decide) (Or.inl (iw_2 18 rfl)) (Or.inl rfl) rfl h.2.1 ?_
  refine g_alen dJx4a65c_grow_92f84_4 (by rw [h.2.2.2.1]; omega) hf ?_
  refine g_istore_n dJx4a65c_grow_92f84_5 (Nat.le_of_ble_eq_true rfl) ?_
  refine g_iload_n dJx4a65c_grow_92f84_6 rfl ?_
  refine g_if_gt (tgt := 20) dJx4a65c_grow_92f84_7 (by decide) (fun c_7 => ?_) (fun c_7 => ?_)
  · skip
    have hd2 : 2 ≤ d ∧ 10 ≤ len := by
      first
        | (rw [show (0 : Int32) = nI 0 from rfl, nI_ltI' (by omega) (by omega)] at c_7; omega)
        | omega
    refine g_iload_n dJx4a65c_grow_92f84_20 rfl ?_
    refine g_iload_n dJx4a65c_grow_92f84_21 rfl ?_
    refine g_iload_n dJx4a65c_grow_92f84_22 rfl ?_
    refine g_isub dJx4a65c_grow_92f84_23 ?_
    rw [nI_s (by omega), show len + 1 - len = 1 by omega]
    refine g_iload_n dJx4a65c_grow_92f84_24 rfl ?_
    refine g_iconst (v := nI 1) dJx4a65c_grow_92f84_25 rfl ?_
    refine g_ishr dJx4a65c_grow_92f84_26 ?_
    rw [nI_half (by omega)]
    refine g_callS dJx4a65c_grow_92f84_27 sJ8_newLength_cabcc (j_newLen M n len (len / 2) (by omega) (by omega)) tJ8_newLength_cabcc (iw_9 22 rfl) rfl rfl (Nat.le_of_ble_eq_true rfl) (Nat.le_of_ble_eq_true rfl) (Nat.le_of_ble_eq_true rfl) (Nat.le_of_ble_eq_true rfl) (Nat.le_of_ble_eq_true rfl) ?_
    intro r9 M9 n9 h9
    obtain ⟨h91, h92, h93⟩ := h9
    rw [h91, h92, h93]
    clear h91 h92 h93 r9 M9 n9
    refine g_istore_n dJx4a65c_grow_92f84_30 (Nat.le_of_ble_eq_true rfl) ?_
    refine g_aload_n dJx4a65c_grow_92f84_31 rfl ?_
    refine g_aload_n dJx4a65c_grow_92f84_32 rfl ?_
    refine g_getR (f := 1) dJx4a65c_grow_92f84_33 cl0 h.1 (by decide) (Or.inl (iw_2 18 rfl)) (Or.inl rfl) rfl h.2.1 ?_
    refine g_iload_n dJx4a65c_grow_92f84_36 rfl ?_
    refine g_callS dJx4a65c_grow_92f84_37 sJ7_copyOf_1904c (j_copy2 M n d len (len / 2) h.2.2.2.1 hf (by omega) (by omega) (by omega) (fun k hk => ⟨E k, h.2.2.2.2.2.2 k hk⟩)) tJ7_copyOf_1904c (iw_10 7 rfl) rfl rfl (Nat.le_of_ble_eq_true rfl) (Nat.le_of_ble_eq_true rfl) (Nat.le_of_ble_eq_true rfl) (Nat.le_of_ble_eq_true rfl) (Nat.le_of_ble_eq_true rfl) ?_
    intro r9 M9 n9 h9
    obtain ⟨h91, h92, h93⟩ := h9
    rw [h91, h92, h93]
    clear h91 h92 h93 r9 M9 n9
    refine g_dup_x1 dJx4a65c_grow_92f84_40 rfl rfl ?_
    refine g_putR (f := 1) dJx4a65c_grow_92f84_41 cl0 (show mK (stN M n 15 (len + len / 2)) l = 0 by rw [stN_K _ _ _ _ _ (by omega)]; exact h.1) (by decide) (Or.inl (iw_2 18 rfl)) (Or.inl rfl) (Or.inl rfl) rfl ?_
    exact g_aret dJx4a65c_grow_92f84_44 rfl rfl (Nat.le_of_ble_eq_true rfl) (Nat.le_of_ble_eq_true rfl) ⟨rfl, by unfold grM; rw [if_neg (by omega), hf], rfl⟩
  · skip
    refine g_aload_n dJx4a65c_grow_92f84_10 rfl ?_
    refine g_getR (f := 1) dJx4a65c_grow_92f84_11 cl0 h.1 (by decide) (Or.inl (iw_2 18 rfl)) (Or.inl rfl) rfl h.2.1 ?_
    refine g_empty dJx4a65c_grow_92f84_14 (iw_2 17 rfl) ?_
    refine g_acmp_eq (tgt := 45) dJx4a65c_grow_92f84_17 (by decide) (by omega) (fun c_17 => ?_) (fun c_17 => ?_)
    · skip
      subst c_17
      refine g_aload_n dJx4a65c_grow_92f84_45 rfl ?_
      refine g_bipush (v := nI 10) dJx4a65c_grow_92f84_46 rfl ?_
      refine g_iload_n dJx4a65c_grow_92f84_48 rfl ?_
      refine g_mmax dJx4a65c_grow_92f84_49 (iw_9 17 rfl) (iw_9 18 rfl) (iw_9 19 rfl) (iw_9 20 rfl) (Nat.le_of_ble_eq_true rfl) (Nat.le_of_ble_eq_true rfl) (Nat.le_of_ble_eq_true rfl) (Nat.le_of_ble_eq_true rfl) ?_
      rw [nI_maxI (by omega) (by omega), show max 10 (len + 1) = 10 by omega]
      refine g_anew (C := "java/lang/Object") (kd := 15) (t0 := 4) (L := 10) dJx4a65c_grow_92f84_52 (iw_9 21 rfl) (Or.inr ⟨rfl, rfl, rfl⟩) rfl (by decide) (Nat.le_of_ble_eq_true rfl) (Nat.le_of_ble_eq_true rfl) ?_
      refine g_dup_x1 dJx4a65c_grow_92f84_55 rfl rfl ?_
      refine g_putR (f := 1) dJx4a65c_grow_92f84_56 cl0 (show mK (stN M n 15 10) l = 0 by rw [stN_K _ _ _ _ _ (by omega)]; exact h.1) (by decide) (Or.inl (iw_2 18 rfl)) (Or.inl rfl) (Or.inl rfl) rfl ?_
      exact g_aret dJx4a65c_grow_92f84_59 rfl rfl (Nat.le_of_ble_eq_true rfl) (Nat.le_of_ble_eq_true rfl) ⟨rfl, by unfold grM; rw [if_pos rfl], rfl⟩
    · skip
      have hd2 : 2 ≤ d ∧ 10 ≤ len := by
        first
          | (rw [show (0 : Int32) = nI 0 from rfl, nI_ltI' (by omega) (by omega)] at c_7; omega)
          | omega
      refine g_iload_n dJx4a65c_grow_92f84_20 rfl ?_
      refine g_iload_n dJx4a65c_grow_92f84_21 rfl ?_
      refine g_iload_n dJx4a65c_grow_92f84_22 rfl ?_
      refine g_isub dJx4a65c_grow_92f84_23 ?_
      rw [nI_s (by omega), show len + 1 - len = 1 by omega]
      refine g_iload_n dJx4a65c_grow_92f84_24 rfl ?_
      refine g_iconst (v := nI 1) dJx4a65c_grow_92f84_25 rfl ?_
      refine g_ishr dJx4a65c_grow_92f84_26 ?_
      rw [nI_half (by omega)]
      refine g_callS dJx4a65c_grow_92f84_27 sJ8_newLength_cabcc (j_newLen M n len (len / 2) (by omega) (by omega)) tJ8_newLength_cabcc (iw_9 22 rfl) rfl rfl (Nat.le_of_ble_eq_true rfl) (Nat.le_of_ble_eq_true rfl) (Nat.le_of_ble_eq_true rfl) (Nat.le_of_ble_eq_true rfl) (Nat.le_of_ble_eq_true rfl) ?_
      intro r9 M9 n9 h9
      obtain ⟨h91, h92, h93⟩ := h9
      rw [h91, h92, h93]
      clear h91 h92 h93 r9 M9 n9
      refine g_istore_n dJx4a65c_grow_92f84_30 (Nat.le_of_ble_eq_true rfl) ?_
      refine g_aload_n dJx4a65c_grow_92f84_31 rfl ?_
      refine g_aload_n dJx4a65c_grow_92f84_32 rfl ?_
      refine g_getR (f := 1) dJx4a65c_grow_92f84_33 cl0 h.1 (by decide) (Or.inl (iw_2 18 rfl)) (Or.inl rfl) rfl h.2.1 ?_
      refine g_iload_n dJx4a65c_grow_92f84_36 rfl ?_
      refine g_callS dJx4a65c_grow_92f84_37 sJ7_copyOf_1904c (j_copy2 M n d len (len / 2) h.2.2.2.1 hf (by omega) (by omega) (by omega) (fun k hk => ⟨E k, h.2.2.2.2.2.2 k hk⟩)) tJ7_copyOf_1904c (iw_10 7 rfl) rfl rfl (Nat.le_of_ble_eq_true rfl) (Nat.le_of_ble_eq_true rfl) (Nat.le_of_ble_eq_true rfl) (Nat.le_of_ble_eq_true rfl) (Nat.le_of_ble_eq_true rfl) ?_
      intro r9 M9 n9 h9
      obtain ⟨h91, h92, h93⟩ := h9
      rw [h91, h92, h93]
      clear h91 h92 h93 r9 M9 n9
      refine g_dup_x1 dJx4a65c_grow_92f84_40 rfl rfl ?_
      refine g_putR (f := 1) dJx4a65c_grow_92f84_41 cl0 (show mK (stN M n 15 (len + len / 2)) l = 0 by rw [stN_K _ _ _ _ _ (by omega)]; exact h.1) (by decide) (Or.inl (iw_2 18 rfl)) (Or.inl rfl) (Or.inl rfl) rfl ?_
      exact g_aret dJx4a65c_grow_92f84_44 rfl rfl (Nat.le_of_ble_eq_true rfl) (Nat.le_of_ble_eq_true rfl) ⟨rfl, by unfold grM; rw [if_neg (by omega), hf], rfl⟩

set_option maxHeartbeats 4000000 in
set_option maxRecDepth 100000 in
theorem j_grow1 (M : gM) (n l d len : Nat) (E : Nat → Nat) (h : aL M l d len E) (hf : mN M d = len) (hl : len < 40) : GM μJx4a65c_grow_d5877 4 115 1 200 [.ref l] M n (fun r M1 n1 => r = some (.ref n) ∧ M1 = grM M n l d ∧ n1 = n + 1) := by
  refine GM.ofF (by decide +kernel) rfl (Nat.le_of_ble_eq_true rfl) rfl ?_
  refine g_aload_n dJx4a65c_grow_d5877_0 rfl ?_
  refine g_aload_n dJx4a65c_grow_d5877_1 rfl ?_
  refine g_getI (f := 2) dJx4a65c_grow_d5877_2 cl0 h.1 (by decide) (Or.inl (iw_8 4 rfl)) (Or.inl rfl) (Or.inl rfl) ?_
  refine g_iconst (v := nI 1) dJx4a65c_grow_d5877_5 rfl ?_
  refine g_iadd dJx4a65c_grow_d5877_6 ?_
  rw [h.2.2.1, nI_add]
  refine g_callV dJx4a65c_grow_d5877_7 sJx4a65c_grow_92f84 (j_grow M n l d len E h hf hl) cl0 h.1 iJx4a65c_grow_92f84 vJx4a65c_grow_92f84 (iw_9 13 rfl) rfl rfl (Nat.le_of_ble_eq_true rfl) (Nat.le_of_ble_eq_true rfl) (Nat.le_of_ble_eq_true rfl) (Nat.le_of_ble_eq_true rfl) (Nat.le_of_ble_eq_true rfl) ?_
  intro r9 M9 n9 h9
  obtain ⟨h91, h92, h93⟩ := h9
  rw [h91, h92, h93]
  clear h91 h92 h93 r9 M9 n9
  exact g_aret dJx4a65c_grow_d5877_10 rfl rfl (Nat.le_of_ble_eq_true rfl) (Nat.le_of_ble_eq_true rfl) ⟨rfl, rfl, rfl⟩

