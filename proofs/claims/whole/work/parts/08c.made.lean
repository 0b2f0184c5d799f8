/-! the class: its things are made -/
/-- the cells from lo to hi are the same -/
def Rw (M M1 : gM) (lo hi : Nat) : Prop := ∀ i, lo ≤ i → i ≤ hi → mK M1 i = mK M i ∧ mN M1 i = mN M i ∧ mI M1 i = mI M i ∧ mJ M1 i = mJ M i ∧ mR M1 i = mR M i
theorem Fr.rw {n : Nat} {C : Nat → Prop} {M M1 : gM} (h : Fr n C M M1) {lo hi : Nat} (hn : hi < n) (hc : ∀ i, lo ≤ i → i ≤ hi → ¬ C i) : Rw M M1 lo hi := fun i h1 h2 => ⟨(h.1 i (by omega)).1, (h.1 i (by omega)).2, h.2 i (by omega) (hc i h1 h2)⟩
theorem cS.rw {M M1 : gM} {a lo hi : Nat} {X : List Sp} (h : cS M a X) (r : Rw M M1 lo hi) (h1 : lo ≤ a) (h2 : a ≤ hi) : cS M1 a X := by
  obtain ⟨r1, r2, r3, r4, r5⟩ := r a h1 h2
  unfold cS
  rw [r1, r3]
  exact h
theorem gG.rw {M M1 : gM} {g lo hi : Nat} (h : gG M g) (r : Rw M M1 lo hi) (h1 : lo ≤ g) (h2 : g + 2 ≤ hi) : gG M1 g := by
  obtain ⟨r1, r2, r3, r4, r5⟩ := r g h1 (by omega)
  obtain ⟨s1, s2, s3, s4, s5⟩ := r (g + 1) (by omega) (by omega)
  obtain ⟨t1, t2, t3, t4, t5⟩ := r (g + 2) (by omega) (by omega)
  unfold gG
  rw [r1, r5, s1, s2, t1, t2]
  exact h
theorem sA.rw {M M1 : gM} {b lo hi : Nat} (h : sA M b) (r : Rw M M1 lo hi) (h1 : lo ≤ b) (h2 : b + 8 ≤ hi) : sA M1 b := by
  obtain ⟨r1, r2, r3, r4, r5⟩ := r b h1 (by omega)
  refine ⟨by rw [r1]; exact h.1, by rw [r2]; exact h.2.1, fun p hp => ⟨by rw [r5]; exact (h.2.2 p hp).1, by rw [(r (b + 1 + p) (by omega) (by omega)).1]; exact (h.2.2 p hp).2⟩⟩
theorem sE.rw {M M1 : gM} {b lo hi : Nat} {F : Nat → List Sp} (h : sE M b F) (r : Rw M M1 lo hi) (h1 : lo ≤ b) (h2 : b + 8 ≤ hi) : sE M1 b F := ⟨h.1.rw r h1 h2, fun p hp => (h.2 p hp).rw r (by omega) (by omega)⟩
theorem sP.rw {M M1 : gM} {v lo hi : Nat} (h : sP M v) (r : Rw M M1 lo hi) (h1 : lo ≤ v) (h2 : v + 14 ≤ hi) : sP M1 v := by
  obtain ⟨r1, r2, r3, r4, r5⟩ := r v h1 (by omega)
  refine ⟨by rw [r1]; exact h.1, by rw [r5]; exact h.2.1, h.2.2.1.rw r (by omega) (by omega), h.2.2.2.1.rw r (by omega) (by omega), by rw [(r (v + 13) (by omega) (by omega)).1]; exact h.2.2.2.2.1, by rw [(r (v + 14) (by omega) (by omega)).1]; exact h.2.2.2.2.2⟩
theorem tH.rw {M M1 : gM} {h lo hi : Nat} {T K : List Int} (q : tH M h T K) (r : Rw M M1 lo hi) (h1 : lo ≤ h) (h2 : h + 1 ≤ hi) : tH M1 h T K := by
  obtain ⟨r1, r2, r3, r4, r5⟩ := r h h1 (by omega)
  obtain ⟨s1, s2, s3, s4, s5⟩ := r (h + 1) (by omega) (by omega)
  unfold tH tT
  rw [r1, r5, r3, s1, s2, s3]
  exact q
theorem pR.rw {M M1 : gM} {p lo hi : Nat} (h : pR M p) (r : Rw M M1 lo hi) (h1 : lo ≤ p) (h2 : p ≤ hi) : pR M1 p := by
  obtain ⟨r1, r2, r3, r4, r5⟩ := r p h1 (by omega)
  unfold pR
  rw [r1, r5]
  exact h
theorem uR.rw {M M1 : gM} {u p lo hi : Nat} (h : uR M u p) (r : Rw M M1 lo hi) (h1 : lo ≤ u) (h2 : u + 28 ≤ hi) : uR M1 u p := by
  obtain ⟨r1, r2, r3, r4, r5⟩ := r u h1 (by omega)
  refine ⟨by rw [r1]; exact h.1, by rw [r5]; exact h.2.1, h.2.2.1.rw r (by omega) (by omega), h.2.2.2.1.rw r (by omega) (by omega), h.2.2.2.2.1.rw r (by omega) (by omega), by rw [(r (u + 28) (by omega) (by omega)).1]; exact h.2.2.2.2.2⟩
theorem qR.rw {M M1 : gM} {q p lo hi : Nat} (h : qR M q p) (r : Rw M M1 lo hi) (h1 : lo ≤ q) (h2 : q + 1 ≤ hi) : qR M1 q p := by
  obtain ⟨r1, r2, r3, r4, r5⟩ := r q h1 (by omega)
  obtain ⟨s1, s2, s3, s4, s5⟩ := r (q + 1) (by omega) (by omega)
  unfold qR
  rw [r1, r5, s1, s2]
  exact h
theorem sQ.rw {M M1 : gM} {e lo hi : Nat} {s : St} (h : sQ M e s) (r : Rw M M1 lo hi) (h1 : lo ≤ e) (h2 : e + 9 ≤ hi) : sQ M1 e s := by
  obtain ⟨r1, r2, r3, r4, r5⟩ := r e h1 (by omega)
  have h7 := h.2.2.2.2.2.2.rw r (b := e + 1) (by omega) (by omega)
  refine ⟨by rw [r1]; exact h.1, by rw [r3]; exact h.2.1, by rw [r3]; exact h.2.2.1, by rw [r3]; exact h.2.2.2.1, by rw [r3]; exact h.2.2.2.2.1, by rw [r5]; exact h.2.2.2.2.2.1, h7⟩
theorem aL.rw {M M1 : gM} {l d len : Nat} {E : Nat → Nat} (h : aL M l d len E) (r : Rw M M1 l l) (rd : Rw M M1 d d) (hE : ∀ k, k < len → mK M1 (E k) = mK M (E k)) : aL M1 l d len E := by
  obtain ⟨r1, r2, r3, r4, r5⟩ := r l (Nat.le_refl _) (Nat.le_refl _)
  obtain ⟨s1, s2, s3, s4, s5⟩ := rd d (Nat.le_refl _) (Nat.le_refl _)
  refine ⟨by rw [r1]; exact h.1, by rw [r5]; exact h.2.1, by rw [r3]; exact h.2.2.1, by rw [s1]; exact h.2.2.2.1, by rw [s2]; exact h.2.2.2.2.1, by rw [s2]; exact h.2.2.2.2.2.1, fun k hk => ⟨by rw [s5]; exact (h.2.2.2.2.2.2 k hk).1, by rw [hE k hk]; exact (h.2.2.2.2.2.2 k hk).2⟩⟩
abbrev nF : Nat → Prop := fun _ => False
theorem Fr.n0 {n lo hi : Nat} {M M1 : gM} (h : Fr n nF M M1) (hn : hi < n) : Rw M M1 lo hi := h.rw hn (fun _ _ _ z => z)
set_option maxHeartbeats 4000000 in
set_option maxRecDepth 100000 in
theorem i_set (M : gM) (n a : Nat) (hk : mK M a = 4) : GM μX3_init 1 20 0 0 [.ref a] M n (fun r M1 n1 => r = none ∧ M1 = stI M a 0 (nI 1) ∧ n1 = n) := by
  refine GM.ofW (by decide) rfl (Nat.le_of_ble_eq_true rfl) rfl ?_
  refine g_aload_n dX3_init_0 rfl ?_
  refine g_objInit dX3_init_1 (iw_3 12 rfl) (iw_1 11 rfl) (iw_1 12 rfl) (Nat.le_of_ble_eq_true rfl) (Nat.le_of_ble_eq_true rfl) ?_
  refine g_aload_n dX3_init_4 rfl ?_
  refine g_iconst (v := nI 1) dX3_init_5 rfl ?_
  refine g_putI (f := 0) dX3_init_6 cl4 hk (by decide) (Or.inl (iw_3 13 rfl)) (Or.inl rfl) (Or.inl rfl) (Or.inl rfl) ?_
  exact g_vret dX3_init_9 rfl (Nat.le_of_ble_eq_true rfl) (Nat.le_of_ble_eq_true rfl) ⟨rfl, rfl, rfl⟩

set_option maxHeartbeats 4000000 in
set_option maxRecDepth 100000 in
theorem i_gath (M : gM) (n g : Nat) (hk : mK M g = 1) (hn : n = g + 1) (h2 : 2 ≤ g) : GM μX0_init 1 20 2 32 [.ref g] M n (fun r M1 n1 => r = none ∧ n1 = g + 3 ∧ gG M1 g ∧ Fr g nF M M1) := by
  refine GM.ofW (by decide) rfl (Nat.le_of_ble_eq_true rfl) rfl ?_
  refine g_aload_n dX0_init_0 rfl ?_
  refine g_objInit dX0_init_1 (iw_5 6 rfl) (iw_1 11 rfl) (iw_1 12 rfl) (Nat.le_of_ble_eq_true rfl) (Nat.le_of_ble_eq_true rfl) ?_
  refine g_aload_n dX0_init_4 rfl ?_
  refine g_bipush (v := nI 16) dX0_init_5 rfl ?_
  refine g_newarr (kd := 11) (t0 := 0) (L := 16) (ty := .int) dX0_init_7 rfl (iw_3 18 rfl) (fun _ => rfl) (Or.inl ⟨rfl, rfl⟩) rfl (by decide) (by decide) (Nat.le_of_ble_eq_true rfl) (Nat.le_of_ble_eq_true rfl) ?_
  refine g_putR (f := 0) dX0_init_9 cl1 (show mK (stN M n 11 16) g = 1 by rw [stN_K _ _ _ _ _ (by omega)]; exact hk) (by decide) (Or.inl (iw_5 7 rfl)) (Or.inl rfl) (Or.inr ⟨rfl, rfl, rfl, (iw_5 7 rfl)⟩) rfl ?_
  refine g_aload_n dX0_init_12 rfl ?_
  refine g_bipush (v := nI 16) dX0_init_13 rfl ?_
  refine g_newarr (kd := 11) (t0 := 0) (L := 16) (ty := .int) dX0_init_15 rfl (iw_3 18 rfl) (fun _ => rfl) (Or.inl ⟨rfl, rfl⟩) rfl (by decide) (by decide) (Nat.le_of_ble_eq_true rfl) (Nat.le_of_ble_eq_true rfl) ?_
  refine g_putR (f := 1) dX0_init_17 cl1 (show mK (stN (stR (stN M n 11 16) g 0 (some n)) (n + 1) 11 16) g = 1 by rw [stN_K _ _ _ _ _ (by omega)]; show mK (stN M n 11 16) g = 1; rw [stN_K _ _ _ _ _ (by omega)]; exact hk) (by decide) (Or.inl (iw_5 8 rfl)) (Or.inl rfl) (Or.inr ⟨rfl, rfl, rfl, (iw_5 8 rfl)⟩) rfl ?_
  exact g_vret dX0_init_20 rfl (Nat.le_of_ble_eq_true rfl) (Nat.le_of_ble_eq_true rfl) (by
    subst hn
    refine ⟨rfl, rfl, ⟨?_, ?_, ?_, ?_, ?_, ?_, ?_⟩, ((Fr.rf.stN (by omega)).stR (Or.inr (by omega))).stN (by omega) |>.stR (Or.inr (by omega))⟩
    · show mK (stN (stR (stN M (g + 1) 11 16) g 0 (some (g + 1))) (g + 1 + 1) 11 16) g = 1
      rw [stN_K _ _ _ _ _ (by omega)]; show mK (stN M (g + 1) 11 16) g = 1; rw [stN_K _ _ _ _ _ (by omega)]; exact hk
    · show up2 (mR (stN (stR (stN M (g + 1) 11 16) g 0 (some (g + 1))) (g + 1 + 1) 11 16)) g 1 (some (g + 1 + 1)) g 0 = _
      rw [up2_ne _ _ (by omega), stN_R _ _ _ _ _ (by omega)]; exact up2_eq _ _ _ _
    · exact up2_eq _ _ _ _
    · show mK (stN (stR (stN M (g + 1) 11 16) g 0 (some (g + 1))) (g + 1 + 1) 11 16) (g + 1) = 11
      rw [stN_K _ _ _ _ _ (by omega)]; exact stN_Ks M (g + 1) 11 16
    · exact stN_Ks (stR (stN M (g + 1) 11 16) g 0 (some (g + 1))) (g + 1 + 1) 11 16
    · show mN (stN (stR (stN M (g + 1) 11 16) g 0 (some (g + 1))) (g + 1 + 1) 11 16) (g + 1) = 16
      rw [stN_N _ _ _ _ _ (by omega)]; exact stN_Ns M (g + 1) 11 16
    · exact stN_Ns (stR (stN M (g + 1) 11 16) g 0 (some (g + 1))) (g + 1 + 1) 11 16)

def mkI (M M1 : gM) (n j : Nat) : Prop := Fr n nF M M1 ∧ mK M1 n = 14 ∧ mN M1 n = 8 ∧ ∀ p, p < j → mR M1 n p = some (n + 1 + p) ∧ cS M1 (n + 1 + p) [(0, 0)]
theorem okX_0 : okX [((0 : Int), (0 : Int))] := okX_one (by decide) (by constructor <;> decide) (by constructor <;> decide)
theorem mkI.next {M M1 : gM} {n j : Nat} (h : mkI M M1 n j) (hn : 2 ≤ n) : mkI M (stR (stI (stN M1 (n + 1 + j) 4 0) (n + 1 + j) 0 (nI 1)) n j (some (n + 1 + j))) n (j + 1) := by
  obtain ⟨h1, h2, h3, h4⟩ := h
  refine ⟨((h1.stN (by omega)).trans (M2 := stI (stN M1 (n + 1 + j) 4 0) (n + 1 + j) 0 (nI 1)) (n1 := n) ⟨fun _ _ => ⟨rfl, rfl⟩, fun i hi _ => ⟨up2_row _ _ (by omega), rfl, rfl⟩⟩ (Nat.le_refl _)).stR (Or.inr (Nat.le_refl _)), ?_, ?_, fun p hp => ⟨?_, ?_⟩⟩
  · show mK (stN M1 (n + 1 + j) 4 0) n = 14; rw [stN_K _ _ _ _ _ (by omega)]; exact h2
  · show mN (stN M1 (n + 1 + j) 4 0) n = 8; rw [stN_N _ _ _ _ _ (by omega)]; exact h3
  · show up2 (mR (stN M1 (n + 1 + j) 4 0)) n j (some (n + 1 + j)) n p = _
    by_cases e : p = j
    · rw [e, up2_eq]
    · rw [up2_ne _ _ (by omega), stN_R _ _ _ _ _ (by omega)]; exact (h4 p (by omega)).1
  · by_cases e : p = j
    · subst e
      refine ⟨stN_Ks M1 (n + 1 + p) 4 0, okX_0, ?_, fun _ => ⟨?_, ?_⟩, fun q => by simp at q⟩
      · show up2 (mI (stN M1 (n + 1 + p) 4 0)) (n + 1 + p) 0 (nI 1) (n + 1 + p) 0 = _; exact up2_eq _ _ _ _
      · show up2 (mI (stN M1 (n + 1 + p) 4 0)) (n + 1 + p) 0 (nI 1) (n + 1 + p) 1 = _; rw [up2_ne _ _ (by omega), stN_Is]; rfl
      · show up2 (mI (stN M1 (n + 1 + p) 4 0)) (n + 1 + p) 0 (nI 1) (n + 1 + p) 2 = _; rw [up2_ne _ _ (by omega), stN_Is]; rfl
    · refine (h4 p (by omega)).2.rw (lo := n + 1 + p) (hi := n + 1 + p) (fun i g1 g2 => ?_) (Nat.le_refl _) (Nat.le_refl _)
      have ei : i = n + 1 + p := by omega
      subst ei
      refine ⟨stN_K M1 (n + 1 + j) 4 0 (n + 1 + p) (by omega), stN_N M1 (n + 1 + j) 4 0 (n + 1 + p) (by omega), ?_, stN_J M1 (n + 1 + j) 4 0 (n + 1 + p) (by omega), ?_⟩
      · show up2 (mI (stN M1 (n + 1 + j) 4 0)) (n + 1 + j) 0 (nI 1) (n + 1 + p) = _; rw [up2_row _ _ (by omega)]; exact stN_I _ _ _ _ _ (by omega)
      · show up2 (mR (stN M1 (n + 1 + j) 4 0)) n j (some (n + 1 + j)) (n + 1 + p) = _; rw [up2_row _ _ (by omega)]; exact stN_R _ _ _ _ _ (by omega)
set_option maxHeartbeats 4000000 in
set_option maxRecDepth 100000 in
theorem k_ms {M : gM} {n : Nat} (hn : 2 ≤ n) : ∀ (d9 : Nat) (j : Nat) (M1 : gM), 8 - j < d9 → j ≤ 8 → mkI M M1 n j → GW μX8_makeSets (gRm 2 40 9 48) (gTh (fun r M1 n1 => r = some (.ref n) ∧ n1 = n + 9 ∧ sE M1 n (fun _ => [(0, 0)]) ∧ Fr n nF M M1) 9 48) (1 + j) (8 + 5 * j) 8 [some (.ref n), some (.int (nI j))] [] M1 (n + 1 + j) := by
  intro d9
  induction d9 with
  | zero =>
    intro j M1 hd hj hI
    omega
  | succ d9 ih =>
    intro j M1 hd hj hI
    refine g_iload_n dX8_makeSets_8 rfl ?_
    refine g_bipush (v := nI 8) dX8_makeSets_9 rfl ?_
    refine g_icmp_ge (tgt := 30) dX8_makeSets_11 (by decide) (fun c_11 => ?_) (fun c_11 => ?_)
    · skip
      refine g_aload_n dX8_makeSets_30 rfl ?_
      exact g_aret dX8_makeSets_31 rfl rfl (by omega) (by omega) (by
        rw [nI_leI (by omega) (by omega)] at c_11
        have e : j = 8 := by omega
        subst e
        exact ⟨rfl, rfl, ⟨⟨hI.2.1, hI.2.2.1, fun p hp => ⟨(hI.2.2.2 p hp).1, (hI.2.2.2 p hp).2.1⟩⟩, fun p hp => (hI.2.2.2 p hp).2⟩, hI.1⟩)
    · skip
      rw [nI_leI (by omega) (by omega)] at c_11
      have hjl : j < 8 := by omega
      refine g_aload_n dX8_makeSets_14 rfl ?_
      refine g_iload_n dX8_makeSets_15 rfl ?_
      refine g_new dX8_makeSets_16 cl4 (iw_3 7 rfl) (iw_3 8 rfl) (iw_3 9 rfl) (by first | (show 1 + j + 1 ≤ 9; omega) | (show 8 + 5 * j + 5 ≤ 48; omega)) (by first | (show 1 + j + 1 ≤ 9; omega) | (show 8 + 5 * j + 5 ≤ 48; omega)) ?_
      refine g_dup dX8_makeSets_19 rfl ?_
      refine g_callIN dX8_makeSets_20 sX3_init (i_set (stN M1 (n + 1 + j) 4 0) (n + 1 + j + 1) (n + 1 + j) (stN_Ks _ _ _ _)) rfl rfl iX3_init (List.mem_of_getElem? (i := 0) rfl) rfl rfl (Nat.le_of_ble_eq_true rfl) (Nat.le_of_ble_eq_true rfl) (Nat.le_of_ble_eq_true rfl) (by show 1 + j + 1 + 0 ≤ 9; omega) (by show 8 + 5 * j + 5 + 0 ≤ 48; omega) ?_
      intro r9 M9 n9 h9
      obtain ⟨h91, h92, h93⟩ := h9
      rw [h91, h92, h93]
      clear h91 h92 h93 r9 M9 n9
      refine g_aastoreS dX8_makeSets_23 (j := j) (show mK (stI (stN M1 (n + 1 + j) 4 0) (n + 1 + j) 0 (nI 1)) n = 14 by show mK (stN M1 (n + 1 + j) 4 0) n = 14; rw [stN_K _ _ _ _ _ (by omega)]; exact hI.2.1) (show mN (stI (stN M1 (n + 1 + j) 4 0) (n + 1 + j) 0 (nI 1)) n = 8 by show mN (stN M1 (n + 1 + j) 4 0) n = 8; rw [stN_N _ _ _ _ _ (by omega)]; exact hI.2.2.1) rfl hjl (by decide) (stN_Ks M1 (n + 1 + j) 4 0) ?_
      skip
      refine g_iinc dX8_makeSets_24 rfl (nI_1 j) (Nat.le_of_ble_eq_true rfl) ?_
      refine g_goto (tgt := 8) dX8_makeSets_27 (by decide) ?_
      refine g_widen (k2 := 1 + (j + 1)) (q2 := 8 + 5 * (j + 1)) (by omega) (by omega) ?_
      exact ih (j + 1) _ (by omega) (by omega) (hI.next hn)

set_option maxHeartbeats 4000000 in
set_option maxRecDepth 100000 in
theorem i_sets (M : gM) (n : Nat) : GM μX8_makeSets 2 40 9 48 [] M n (fun r M1 n1 => r = some (.ref n) ∧ n1 = n + 9 ∧ sE M1 n (fun _ => [(0, 0)]) ∧ Fr n nF M M1) := by
  refine GM.ofW (by decide) rfl (Nat.le_of_ble_eq_true rfl) rfl ?_
  refine g_facts (fun hw => ?_)
  refine g_bipush (v := nI 8) dX8_makeSets_0 rfl ?_
  refine g_anew (C := RX3) (kd := 14) (t0 := 3) (L := 8) dX8_makeSets_2 (iw_3 7 rfl) (Or.inl ⟨rfl, rfl, rfl⟩) rfl (by decide) (Nat.le_of_ble_eq_true rfl) (Nat.le_of_ble_eq_true rfl) ?_
  refine g_astore_n dX8_makeSets_5 (Nat.le_of_ble_eq_true rfl) ?_
  refine g_iconst (v := nI 0) dX8_makeSets_6 rfl ?_
  refine g_istore_n dX8_makeSets_7 (Nat.le_of_ble_eq_true rfl) ?_
  exact k_ms hw.1 9 0 (stN M n 14 8) (by omega) (by omega) ⟨Fr.rf.stN (Nat.le_refl _), stN_Ks M n 14 8, stN_Ns M n 14 8, fun p hp => by omega⟩

