/-! the list of the JDK: add, clear; what stays when cells come -/
/-- the cells that were there keep their kinds; those outside of C keep all -/
def Fr (n : Nat) (C : Nat → Prop) (M M1 : gM) : Prop := (∀ i, i < n → mK M1 i = mK M i ∧ mN M1 i = mN M i) ∧ ∀ i, i < n → ¬ C i → mI M1 i = mI M i ∧ mJ M1 i = mJ M i ∧ mR M1 i = mR M i
theorem Fr.rf {n : Nat} {C : Nat → Prop} {M : gM} : Fr n C M M := ⟨fun _ _ => ⟨rfl, rfl⟩, fun _ _ _ => ⟨rfl, rfl, rfl⟩⟩
theorem Fr.trans {n n1 : Nat} {C : Nat → Prop} {M M1 M2 : gM} (h : Fr n C M M1) (h2 : Fr n1 C M1 M2) (hn : n ≤ n1) : Fr n C M M2 := ⟨fun i hi => ⟨(h2.1 i (by omega)).1.trans (h.1 i hi).1, (h2.1 i (by omega)).2.trans (h.1 i hi).2⟩, fun i hi hc => ⟨(h2.2 i (by omega) hc).1.trans (h.2 i hi hc).1, (h2.2 i (by omega) hc).2.1.trans (h.2 i hi hc).2.1, (h2.2 i (by omega) hc).2.2.trans (h.2 i hi hc).2.2⟩⟩
theorem Fr.mono {n : Nat} {C C2 : Nat → Prop} {M M1 : gM} (h : Fr n C M M1) (hs : ∀ i, C i → C2 i) : Fr n C2 M M1 := ⟨h.1, fun i hi hc => h.2 i hi (fun z => hc (hs i z))⟩
theorem Fr.less {n n1 : Nat} {C : Nat → Prop} {M M1 : gM} (h : Fr n C M M1) (hn : n1 ≤ n) : Fr n1 C M M1 := ⟨fun i hi => h.1 i (by omega), fun i hi hc => h.2 i (by omega) hc⟩
theorem Fr.off {n : Nat} {C : Nat → Prop} {M M1 : gM} {S : Nat → Nat → Prop} (h : Off M M1 S) (hs : ∀ i k, S i k → C i) : Fr n C M M1 := ⟨fun i _ => ⟨by rw [h.1], by rw [h.2.1]⟩, fun i _ hc => ⟨funext (fun k => h.i (fun z => hc (hs i k z))), funext (fun k => h.j (fun z => hc (hs i k z))), by rw [h.2.2.1]⟩⟩
theorem Fr.stI {n : Nat} {C : Nat → Prop} {M M1 : gM} {i k : Nat} {v : Int32} (h : Fr n C M M1) (hc : C i) : Fr n C M (Jvm.Pilot.CWholeSpansLaw_law_r3418_190b4e.stI M1 i k v) := ⟨h.1, fun j hj hcj => ⟨(up2_row (mI M1) v (fun z => hcj (by rw [z]; exact hc))).trans (h.2 j hj hcj).1, (h.2 j hj hcj).2⟩⟩
theorem Fr.stR {n : Nat} {C : Nat → Prop} {M M1 : gM} {i k : Nat} {v : Option Nat} (h : Fr n C M M1) (hc : C i ∨ n ≤ i) : Fr n C M (Jvm.Pilot.CWholeSpansLaw_law_r3418_190b4e.stR M1 i k v) := ⟨h.1, fun j hj hcj => ⟨(h.2 j hj hcj).1, (h.2 j hj hcj).2.1, (up2_row (mR M1) v (fun z => by rcases hc with hc | hc; exact hcj (by rw [z]; exact hc); omega)).trans (h.2 j hj hcj).2.2⟩⟩
theorem Fr.stN {n n1 : Nat} {C : Nat → Prop} {M M1 : gM} {kd ln : Nat} (h : Fr n C M M1) (hn : n ≤ n1) : Fr n C M (Jvm.Pilot.CWholeSpansLaw_law_r3418_190b4e.stN M1 n1 kd ln) := ⟨fun j hj => ⟨(stN_K M1 n1 kd ln j (by omega)).trans (h.1 j hj).1, (stN_N M1 n1 kd ln j (by omega)).trans (h.1 j hj).2⟩, fun j hj hcj => ⟨(stN_I M1 n1 kd ln j (by omega)).trans (h.2 j hj hcj).1, (stN_J M1 n1 kd ln j (by omega)).trans (h.2 j hj hcj).2.1, (stN_R M1 n1 kd ln j (by omega)).trans (h.2 j hj hcj).2.2⟩⟩
theorem grM_aL {M : gM} {n l d len : Nat} {E : Nat → Nat} (h : aL M l d len E) (hf : mN M d = len) (hl : len < 40) (hw : gW0 M n) : aL (grM M n l d) l n len E ∧ len < mN (grM M n l d) n ∧ Fr n (fun i => i = l) M (grM M n l d) := by
  have hln : l < n := hw.lt (by rw [h.1]; omega)
  have hdn : d < n := hw.lt (by rw [h.2.2.2.1]; omega)
  have hw2 := hw.1
  have h5 := h.2.2.2.2.2.1
  have hE : ∀ k, k < len → E k ≠ n := fun k hk => by have := hw.lt (i := E k) (by rw [(h.2.2.2.2.2.2 k hk).2]; omega); omega
  unfold grM
  by_cases c : d = 0
  · rw [if_pos c]
    refine ⟨⟨?_, ?_, ?_, ?_, ?_, ?_, fun k hk => ?_⟩, ?_, (Fr.rf.stN (Nat.le_refl _)).stR (Or.inl rfl)⟩
    · show mK (stN M n 15 10) l = 0; rw [stN_K _ _ _ _ _ (by omega)]; exact h.1
    · show up2 (mR (stN M n 15 10)) l 1 (some n) l 1 = some n; rw [up2_eq]
    · show mI (stN M n 15 10) l 2 = nI len; rw [stN_I _ _ _ _ _ (by omega)]; exact h.2.2.1
    · show mK (stN M n 15 10) n = 15; exact stN_Ks _ _ _ _
    · show len ≤ mN (stN M n 15 10) n; rw [stN_Ns]; omega
    · right; show 2 ≤ n ∧ 10 ≤ mN (stN M n 15 10) n ∧ mN (stN M n 15 10) n ≤ 60; rw [stN_Ns]; omega
    · omega
    · show len < mN (stN M n 15 10) n; rw [stN_Ns]; omega
  · rw [if_neg c, hf]
    unfold gwM
    refine ⟨⟨?_, ?_, ?_, ?_, ?_, ?_, fun k hk => ⟨?_, ?_⟩⟩, ?_, ⟨fun i hi => ⟨?_, ?_⟩, fun i hi hc => ⟨?_, ?_, ?_⟩⟩⟩
    · show mK (stN M n 15 (len + len / 2)) l = 0; rw [stN_K _ _ _ _ _ (by omega)]; exact h.1
    · show up2 (mR (cpR (stN M n 15 (len + len / 2)) d n len)) l 1 (some n) l 1 = some n; rw [up2_eq]
    · show mI (stN M n 15 (len + len / 2)) l 2 = nI len; rw [stN_I _ _ _ _ _ (by omega)]; exact h.2.2.1
    · show mK (stN M n 15 (len + len / 2)) n = 15; exact stN_Ks _ _ _ _
    · show len ≤ mN (stN M n 15 (len + len / 2)) n; rw [stN_Ns]; omega
    · right; show 2 ≤ n ∧ 10 ≤ mN (stN M n 15 (len + len / 2)) n ∧ mN (stN M n 15 (len + len / 2)) n ≤ 60; rw [stN_Ns]; omega
    · show up2 (mR (cpR (stN M n 15 (len + len / 2)) d n len)) l 1 (some n) n k = some (E k)
      rw [up2_ne _ _ (by omega)]
      show (if n = n ∧ k < len then mR (stN M n 15 (len + len / 2)) d k else _) = _
      rw [if_pos ⟨rfl, hk⟩, stN_R _ _ _ _ _ (by omega)]
      exact (h.2.2.2.2.2.2 k hk).1
    · show mK (stN M n 15 (len + len / 2)) (E k) = 5
      rw [stN_K _ _ _ _ _ (hE k hk)]; exact (h.2.2.2.2.2.2 k hk).2
    · show len < mN (stN M n 15 (len + len / 2)) n; rw [stN_Ns]; omega
    · exact stN_K M n 15 (len + len / 2) i (by omega)
    · exact stN_N M n 15 (len + len / 2) i (by omega)
    · exact stN_I M n 15 (len + len / 2) i (by omega)
    · exact stN_J M n 15 (len + len / 2) i (by omega)
    · show up2 (mR (cpR (stN M n 15 (len + len / 2)) d n len)) l 1 (some n) i = mR M i
      rw [up2_row _ _ hc]
      funext k
      show (if i = n ∧ k < len then mR (stN M n 15 (len + len / 2)) d k else mR (stN M n 15 (len + len / 2)) i k) = _
      rw [if_neg (by omega), stN_R _ _ _ _ _ (by omega)]
theorem aL.push {M : gM} {l d len r : Nat} {E : Nat → Nat} (h : aL M l d len E) (hlt : len < mN M d) (hr : mK M r = 5) : aL (stI (stR M d len (some r)) l 2 (nI (len + 1))) l d (len + 1) (up1 E len r) := by
  have hld : l ≠ d := fun e => by have h1 := h.1; have h2 := h.2.2.2.1; rw [e, h2] at h1; cases h1
  refine ⟨h.1, ?_, ?_, h.2.2.2.1, hlt, h.2.2.2.2.2.1, fun k hk => ?_⟩
  · show up2 (mR M) d len (some r) l 1 = some d
    rw [up2_row _ _ hld]; exact h.2.1
  · rw [mI_st, if_pos ⟨rfl, rfl⟩]
  · show up2 (mR M) d len (some r) d k = some (up1 E len r k) ∧ mK M (up1 E len r k) = 5
    by_cases e : k = len
    · rw [e, up2_eq, up1_eq]; exact ⟨rfl, hr⟩
    · rw [up2_ne _ _ (fun z => e z.2), up1_ne _ _ e]
      exact h.2.2.2.2.2.2 k (by omega)
set_option maxHeartbeats 4000000 in
set_option maxRecDepth 100000 in
theorem j_add3 (M : gM) (n l d len x : Nat) (E : Nat → Nat) (h : aL M l d len E) (hl : len < 40) (hx : mK M x = 5) : GM μJx4a65c_add_72be8 5 135 1 200 [.ref l, .ref x, .ref d, .int (nI len)] M n (fun r M1 n1 => r = none ∧ ∃ d1, aL M1 l d1 (len + 1) (up1 E len x) ∧ (d1 = d ∧ n1 = n ∨ d1 = n ∧ n1 = n + 1) ∧ Fr n (fun i => i = l ∨ i = d) M M1) := by
  refine GM.ofF (by decide +kernel) rfl (Nat.le_of_ble_eq_true rfl) rfl ?_
  refine g_facts (fun hw => ?_)
  have hw2 := hw.1
  have hln : l < n := hw.lt (by rw [h.1]; omega)
  have hdn : d < n := hw.lt (by rw [h.2.2.2.1]; omega)
  have hxn : x < n := hw.lt (by rw [hx]; omega)
  have h6 := h.2.2.2.2.1
  have h5 := h.2.2.2.2.2.1
  refine g_iload_n dJx4a65c_add_72be8_0 rfl ?_
  refine g_aload_n dJx4a65c_add_72be8_1 rfl ?_
  refine g_alen dJx4a65c_add_72be8_2 (by rw [h.2.2.2.1]; omega) rfl ?_
  refine g_icmp_ne (tgt := 11) dJx4a65c_add_72be8_3 (by decide) (fun c_3 => ?_) (fun c_3 => ?_)
  · skip
    first
      | (rw [nI_inj (by omega) (by omega)] at c_3
         have hlt : len < mN M d := by omega
         have hd2 : 2 ≤ d := by omega
         refine g_aload_n dJx4a65c_add_72be8_11 rfl ?_
         refine g_iload_n dJx4a65c_add_72be8_12 rfl ?_
         refine g_aload_n dJx4a65c_add_72be8_13 rfl ?_
         refine g_aastoreO dJx4a65c_add_72be8_14 (j := len) (L := mN M d) h.2.2.2.1 rfl rfl hlt (by omega) hx hd2 ?_
         refine g_aload_n dJx4a65c_add_72be8_15 rfl ?_
         refine g_iload_n dJx4a65c_add_72be8_16 rfl ?_
         refine g_iconst (v := nI 1) dJx4a65c_add_72be8_17 rfl ?_
         refine g_iadd dJx4a65c_add_72be8_18 ?_
         rw [nI_add]
         refine g_putI (f := 2) dJx4a65c_add_72be8_19 cl0 h.1 (by decide) (Or.inl (iw_8 4 rfl)) (Or.inl rfl) (Or.inl rfl) (Or.inl rfl) ?_
         exact g_vret dJx4a65c_add_72be8_22 rfl (Nat.le_of_ble_eq_true rfl) (Nat.le_of_ble_eq_true rfl) ⟨rfl, d, h.push hlt hx, Or.inl ⟨rfl, rfl⟩, (Fr.rf.stR (Or.inl (Or.inr rfl))).stI (Or.inl rfl)⟩)
      | (rw [nI_inj (by omega) (by omega)] at c_3
         obtain ⟨h9, hlt, hfr⟩ := grM_aL h (by omega) hl hw
         have hx9 : mK (grM M n l d) x = 5 := by rw [(hfr.1 x hxn).1]; exact hx
         generalize grM M n l d = M9 at h9 hlt hfr hx9 ⊢
         have h59 := h9.2.2.2.2.2.1
         refine g_aload_n dJx4a65c_add_72be8_11 rfl ?_
         refine g_iload_n dJx4a65c_add_72be8_12 rfl ?_
         refine g_aload_n dJx4a65c_add_72be8_13 rfl ?_
         refine g_aastoreO dJx4a65c_add_72be8_14 (j := len) (L := mN M9 n) h9.2.2.2.1 rfl rfl hlt (by omega) hx9 hw2 ?_
         refine g_aload_n dJx4a65c_add_72be8_15 rfl ?_
         refine g_iload_n dJx4a65c_add_72be8_16 rfl ?_
         refine g_iconst (v := nI 1) dJx4a65c_add_72be8_17 rfl ?_
         refine g_iadd dJx4a65c_add_72be8_18 ?_
         rw [nI_add]
         refine g_putI (f := 2) dJx4a65c_add_72be8_19 cl0 h9.1 (by decide) (Or.inl (iw_8 4 rfl)) (Or.inl rfl) (Or.inl rfl) (Or.inl rfl) ?_
         exact g_vret dJx4a65c_add_72be8_22 rfl (Nat.le_of_ble_eq_true rfl) (Nat.le_of_ble_eq_true rfl) ⟨rfl, n, h9.push hlt hx9, Or.inr ⟨rfl, rfl⟩, ((hfr.mono (fun i q => Or.inl q)).stR (Or.inr (Nat.le_refl _))).stI (Or.inl rfl)⟩)
  · skip
    refine g_aload_n dJx4a65c_add_72be8_6 rfl ?_
    refine g_callV dJx4a65c_add_72be8_7 sJx4a65c_grow_d5877 (j_grow1 M n l d len E h (by rw [nI_inj (by omega) (by omega)] at c_3; omega) hl) cl0 h.1 iJx4a65c_grow_d5877 vJx4a65c_grow_d5877 (iw_9 9 rfl) rfl rfl (Nat.le_of_ble_eq_true rfl) (Nat.le_of_ble_eq_true rfl) (Nat.le_of_ble_eq_true rfl) (Nat.le_of_ble_eq_true rfl) (Nat.le_of_ble_eq_true rfl) ?_
    intro r9 M9 n9 h9
    obtain ⟨h91, h92, h93⟩ := h9
    rw [h91, h92, h93]
    clear h91 h92 h93 r9 M9 n9
    refine g_astore_n dJx4a65c_add_72be8_10 (Nat.le_of_ble_eq_true rfl) ?_
    first
      | (rw [nI_inj (by omega) (by omega)] at c_3
         have hlt : len < mN M d := by omega
         have hd2 : 2 ≤ d := by omega
         refine g_aload_n dJx4a65c_add_72be8_11 rfl ?_
         refine g_iload_n dJx4a65c_add_72be8_12 rfl ?_
         refine g_aload_n dJx4a65c_add_72be8_13 rfl ?_
         refine g_aastoreO dJx4a65c_add_72be8_14 (j := len) (L := mN M d) h.2.2.2.1 rfl rfl hlt (by omega) hx hd2 ?_
         refine g_aload_n dJx4a65c_add_72be8_15 rfl ?_
         refine g_iload_n dJx4a65c_add_72be8_16 rfl ?_
         refine g_iconst (v := nI 1) dJx4a65c_add_72be8_17 rfl ?_
         refine g_iadd dJx4a65c_add_72be8_18 ?_
         rw [nI_add]
         refine g_putI (f := 2) dJx4a65c_add_72be8_19 cl0 h.1 (by decide) (Or.inl (iw_8 4 rfl)) (Or.inl rfl) (Or.inl rfl) (Or.inl rfl) ?_
         exact g_vret dJx4a65c_add_72be8_22 rfl (Nat.le_of_ble_eq_true rfl) (Nat.le_of_ble_eq_true rfl) ⟨rfl, d, h.push hlt hx, Or.inl ⟨rfl, rfl⟩, (Fr.rf.stR (Or.inl (Or.inr rfl))).stI (Or.inl rfl)⟩)
      | (rw [nI_inj (by omega) (by omega)] at c_3
         obtain ⟨h9, hlt, hfr⟩ := grM_aL h (by omega) hl hw
         have hx9 : mK (grM M n l d) x = 5 := by rw [(hfr.1 x hxn).1]; exact hx
         generalize grM M n l d = M9 at h9 hlt hfr hx9 ⊢
         have h59 := h9.2.2.2.2.2.1
         refine g_aload_n dJx4a65c_add_72be8_11 rfl ?_
         refine g_iload_n dJx4a65c_add_72be8_12 rfl ?_
         refine g_aload_n dJx4a65c_add_72be8_13 rfl ?_
         refine g_aastoreO dJx4a65c_add_72be8_14 (j := len) (L := mN M9 n) h9.2.2.2.1 rfl rfl hlt (by omega) hx9 hw2 ?_
         refine g_aload_n dJx4a65c_add_72be8_15 rfl ?_
         refine g_iload_n dJx4a65c_add_72be8_16 rfl ?_
         refine g_iconst (v := nI 1) dJx4a65c_add_72be8_17 rfl ?_
         refine g_iadd dJx4a65c_add_72be8_18 ?_
         rw [nI_add]
         refine g_putI (f := 2) dJx4a65c_add_72be8_19 cl0 h9.1 (by decide) (Or.inl (iw_8 4 rfl)) (Or.inl rfl) (Or.inl rfl) (Or.inl rfl) ?_
         exact g_vret dJx4a65c_add_72be8_22 rfl (Nat.le_of_ble_eq_true rfl) (Nat.le_of_ble_eq_true rfl) ⟨rfl, n, h9.push hlt hx9, Or.inr ⟨rfl, rfl⟩, ((hfr.mono (fun i q => Or.inl q)).stR (Or.inr (Nat.le_refl _))).stI (Or.inl rfl)⟩)

set_option maxHeartbeats 4000000 in
set_option maxRecDepth 100000 in
theorem j_add (M : gM) (n l d len x : Nat) (E : Nat → Nat) (h : aL M l d len E) (hl : len < 40) (hx : mK M x = 5) : GM μJx4a65c_add_9ea2d 6 158 1 200 [.ref l, .ref x] M n (fun r M1 n1 => r = some (.int 1) ∧ ∃ d1, aL M1 l d1 (len + 1) (up1 E len x) ∧ (d1 = d ∧ n1 = n ∨ d1 = n ∧ n1 = n + 1) ∧ Fr n (fun i => i = l ∨ i = d) M M1) := by
  refine GM.ofF (by decide +kernel) rfl (Nat.le_of_ble_eq_true rfl) rfl ?_
  refine g_aload_n dJx4a65c_add_9ea2d_0 rfl ?_
  refine g_dup dJx4a65c_add_9ea2d_1 rfl ?_
  refine g_getI (f := 0) dJx4a65c_add_9ea2d_2 cl0 h.1 (by decide) (Or.inl (iw_9 3 rfl)) (Or.inr (iw_9 4 rfl)) (Or.inl rfl) ?_
  refine g_iconst (v := nI 1) dJx4a65c_add_9ea2d_5 rfl ?_
  refine g_iadd dJx4a65c_add_9ea2d_6 ?_
  refine g_putI (f := 0) dJx4a65c_add_9ea2d_7 cl0 h.1 (by decide) (Or.inl (iw_9 3 rfl)) (Or.inr (iw_9 4 rfl)) (Or.inl rfl) (Or.inl rfl) ?_
  have ho : Off M (stI M l 0 (mI M l 0 + nI 1)) (fun i k => i = l ∧ k = 0) := Off.rf.stI ⟨rfl, rfl⟩
  have h1 := h.off ho (by omega)
  generalize stI M l 0 (mI M l 0 + nI 1) = M9 at ho h1 ⊢
  have hx1 : mK M9 x = 5 := by rw [ho.1]; exact hx
  have f1 : Fr n (fun i => i = l ∨ i = d) M M9 := Fr.off ho (fun i k q => Or.inl q.1)
  refine g_aload_n dJx4a65c_add_9ea2d_10 rfl ?_
  refine g_aload_n dJx4a65c_add_9ea2d_11 rfl ?_
  refine g_aload_n dJx4a65c_add_9ea2d_12 rfl ?_
  refine g_getR (f := 1) dJx4a65c_add_9ea2d_13 cl0 h1.1 (by decide) (Or.inl (iw_2 18 rfl)) (Or.inl rfl) rfl h1.2.1 ?_
  refine g_aload_n dJx4a65c_add_9ea2d_16 rfl ?_
  refine g_getI (f := 2) dJx4a65c_add_9ea2d_17 cl0 h1.1 (by decide) (Or.inl (iw_8 4 rfl)) (Or.inl rfl) (Or.inl rfl) ?_
  rw [h1.2.2.1]
  refine g_callV dJx4a65c_add_9ea2d_20 sJx4a65c_add_72be8 (j_add3 M9 n l d len x E h1 hl hx1) cl0 h1.1 iJx4a65c_add_72be8 vJx4a65c_add_72be8 (iw_9 5 rfl) rfl rfl (Nat.le_of_ble_eq_true rfl) (Nat.le_of_ble_eq_true rfl) (Nat.le_of_ble_eq_true rfl) (Nat.le_of_ble_eq_true rfl) (Nat.le_of_ble_eq_true rfl) ?_
  intro r9 M2 n2 h9
  obtain ⟨h91, d1, h92, h93, h94⟩ := h9
  rw [h91]
  clear h91 r9
  refine g_iconst (v := nI 1) dJx4a65c_add_9ea2d_23 rfl ?_
  exact g_iret dJx4a65c_add_9ea2d_24 (Or.inr ⟨rfl, by first | exact Or.inl rfl | exact Or.inr rfl⟩) (Nat.le_of_ble_eq_true rfl) (Nat.le_of_ble_eq_true rfl) ⟨rfl, d1, h92, h93, f1.trans h94 (Nat.le_refl _)⟩

set_option maxHeartbeats 4000000 in
set_option maxRecDepth 100000 in
theorem j_cl {M : gM} {n l d len : Nat} {Q : gθ} (hk15 : mK M d = 15) (hld : l ≠ d) (hlc : len ≤ mN M d) (hc60 : mN M d ≤ 60) (hd2 : len = 0 ∨ 2 ≤ d) (hk : ∀ M1, Fr n (fun i => i = d) M M1 → (∀ i, mK M1 i = mK M i ∧ mN M1 i = mN M i) → mI M1 = mI M → (∀ i, i ≠ d → mR M1 i = mR M i) → GW μJx4a65c_clear_da8c8 (gRm 0 0 0 0) Q 0 0 42 [some (.ref l), some (.ref d), some (.int (nI len)), none] [] M1 n) : ∀ (d9 : Nat) (j : Nat) (M1 : gM), len - j < d9 → j ≤ len → Fr n (fun i => i = d) M M1 → (∀ i, mK M1 i = mK M i ∧ mN M1 i = mN M i) → mI M1 = mI M → (∀ i, i ≠ d → mR M1 i = mR M i) → GW μJx4a65c_clear_da8c8 (gRm 0 0 0 0) Q 0 0 27 [some (.ref l), some (.ref d), some (.int (nI len)), some (.int (nI j))] [] M1 n := by
  intro d9
  induction d9 with
  | zero =>
    intro j M1 hd hj hf hkn hi hr
    omega
  | succ d9 ih =>
    intro j M1 hd hj hf hkn hi hr
    refine g_iload_n dJx4a65c_clear_da8c8_27 rfl ?_
    refine g_iload_n dJx4a65c_clear_da8c8_28 rfl ?_
    refine g_icmp_ge (tgt := 42) dJx4a65c_clear_da8c8_29 (by decide) (fun c_29 => ?_) (fun c_29 => ?_)
    · skip
      rw [nI_leI (by omega) (by omega)] at c_29
      refine g_drop 3 ?_
      exact hk M1 hf hkn hi hr
    · skip
      rw [nI_leI (by omega) (by omega)] at c_29
      refine g_aload_n dJx4a65c_clear_da8c8_32 rfl ?_
      refine g_iload_n dJx4a65c_clear_da8c8_33 rfl ?_
      refine g_null dJx4a65c_clear_da8c8_34 ?_
      refine g_aastoreN (j := j) (L := mN M d) dJx4a65c_clear_da8c8_35 (by rw [(hkn d).1]; exact hk15) (hkn d).2 rfl (by omega) (by omega) (by omega) ?_
      refine g_iinc dJx4a65c_clear_da8c8_36 rfl (nI_1 j) (Nat.le_of_ble_eq_true rfl) ?_
      refine g_goto (tgt := 27) dJx4a65c_clear_da8c8_39 (by decide) ?_
      exact ih (j + 1) _ (by omega) (by omega) (hf.stR (Or.inl rfl)) hkn hi (fun i hne => (up2_row _ _ hne).trans (hr i hne))

set_option maxHeartbeats 4000000 in
set_option maxRecDepth 100000 in
theorem j_clear (M : gM) (n l d len : Nat) (E : Nat → Nat) (h : aL M l d len E) : GM μJx4a65c_clear_da8c8 0 0 0 0 [.ref l] M n (fun r M1 n1 => r = none ∧ n1 = n ∧ aL M1 l d 0 E ∧ Fr n (fun i => i = l ∨ i = d) M M1) := by
  refine GM.ofF (by decide +kernel) rfl (Nat.le_of_ble_eq_true rfl) rfl ?_
  refine g_aload_n dJx4a65c_clear_da8c8_0 rfl ?_
  refine g_dup dJx4a65c_clear_da8c8_1 rfl ?_
  refine g_getI (f := 0) dJx4a65c_clear_da8c8_2 cl0 h.1 (by decide) (Or.inl (iw_9 3 rfl)) (Or.inr (iw_9 4 rfl)) (Or.inl rfl) ?_
  refine g_iconst (v := nI 1) dJx4a65c_clear_da8c8_5 rfl ?_
  refine g_iadd dJx4a65c_clear_da8c8_6 ?_
  refine g_putI (f := 0) dJx4a65c_clear_da8c8_7 cl0 h.1 (by decide) (Or.inl (iw_9 3 rfl)) (Or.inr (iw_9 4 rfl)) (Or.inl rfl) (Or.inl rfl) ?_
  refine g_aload_n dJx4a65c_clear_da8c8_10 rfl ?_
  refine g_getR (f := 1) dJx4a65c_clear_da8c8_11 cl0 h.1 (by decide) (Or.inl (iw_2 18 rfl)) (Or.inl rfl) rfl h.2.1 ?_
  refine g_astore_n dJx4a65c_clear_da8c8_14 (Nat.le_of_ble_eq_true rfl) ?_
  refine g_aload_n dJx4a65c_clear_da8c8_15 rfl ?_
  refine g_getI (f := 2) dJx4a65c_clear_da8c8_16 cl0 h.1 (by decide) (Or.inl (iw_8 4 rfl)) (Or.inl rfl) (Or.inl rfl) ?_
  rw [mI_st, if_neg (by omega), h.2.2.1]
  refine g_istore_n dJx4a65c_clear_da8c8_19 (Nat.le_of_ble_eq_true rfl) ?_
  refine g_aload_n dJx4a65c_clear_da8c8_20 rfl ?_
  refine g_iconst (v := nI 0) dJx4a65c_clear_da8c8_21 rfl ?_
  refine g_dup_x1 dJx4a65c_clear_da8c8_22 rfl rfl ?_
  refine g_putI (f := 2) dJx4a65c_clear_da8c8_23 cl0 h.1 (by decide) (Or.inl (iw_8 4 rfl)) (Or.inl rfl) (Or.inl rfl) (Or.inl rfl) ?_
  refine g_istore_n dJx4a65c_clear_da8c8_26 (Nat.le_of_ble_eq_true rfl) ?_
  have hld : l ≠ d := fun e => by have h1 := h.1; have h2 := h.2.2.2.1; rw [e, h2] at h1; cases h1
  have h5 := h.2.2.2.2.2.1
  have h6 := h.2.2.2.2.1
  refine j_cl (M := stI (stI M l 0 (mI M l 0 + nI 1)) l 2 (nI 0)) h.2.2.2.1 hld h6 (by show mN M d ≤ 60; omega) (by omega) (fun M1 hf hkn hi hr => ?_) (len + 1) 0 _ (by omega) (by omega) Fr.rf (fun _ => ⟨rfl, rfl⟩) rfl (fun _ _ => rfl)
  refine g_vret dJx4a65c_clear_da8c8_42 rfl (Nat.le_refl _) (Nat.le_refl _) ⟨rfl, rfl, ⟨(hkn l).1.trans h.1, ?_, ?_, (hkn d).1.trans h.2.2.2.1, Nat.zero_le _, ?_, fun k hk => by omega⟩, ?_⟩
  · rw [hr l hld]; exact h.2.1
  · rw [hi, mI_st, if_pos ⟨rfl, rfl⟩]
  · rw [(hkn d).2]; exact h5
  · exact ((Fr.rf.stI (Or.inl rfl)).stI (Or.inl rfl)).trans (hf.mono (fun i q => Or.inr q)) (Nat.le_refl _)

