/-! the law: run, ended, clear, size -/
set_option maxHeartbeats 4000000 in
set_option maxRecDepth 100000 in
theorem b_run {sa L t k q n w : Nat} {xs : Nat → Int32} {M : gM} {σ : MS} (hL : L ≤ 2560) (hK : kW M w σ) (hR : rM M (w + 45) σ) (ho : mK M (w + 57) = 12 ∧ mN M (w + 57) = 1) (hb : w + 58 ≤ n) (ht : 5 * t + 5 ≤ L) (hkc : k + 11 ≤ 693874) (hqc : q + 257 ≤ 7014482) (hk : ∀ M1 n1 σ1, kW M1 w σ1 → rM M1 (w + 45) σ1 → (mK M1 (w + 57) = 12 ∧ mN M1 (w + 57) = 1) → n ≤ n1 → GW μL_law room_1 (gQL sa L xs) (k + 11) (q + 257) 862 [some (.retAddr sa), some (.ref w), some (.ref (w + 45)), some (.ref (w + 57)), some (.int (nI (5 * t))), none, none, none] [] M1 n1) : GW μL_law room_1 (gQL sa L xs) k q 279 [some (.retAddr sa), some (.ref w), some (.ref (w + 45)), some (.ref (w + 57)), some (.int (nI (5 * t))), none, none, none] [] M n := by
  have hRm := hR.mod
  refine g_aload_n dL_law_279 rfl ?_
  refine g_callV dL_law_280 sX8_run (c_run M n w σ hK) cl9 hK.k iX8_run vX8_run (iw_14 9 rfl) rfl rfl (Nat.le_of_ble_eq_true rfl) (Nat.le_of_ble_eq_true rfl) (Nat.le_of_ble_eq_true rfl) (by show _ ≤ 693874; omega) (by show _ ≤ 7014482; omega) ?_
  intro r9 M1 n1 h9
  obtain ⟨h91, -, hn1, hK1, hR1⟩ := h9
  rw [h91]
  clear h91 r9
  have hM1 : rM M1 (w + 45) σ := hR.rw (fun i a b => hR1 i a (by omega))
  have hM1m := hM1.mod
  have ho1 := oK_1 hR1 ho
  refine g_aload_n dL_law_283 rfl ?_
  refine g_callV dL_law_284 sX9_run (s_run M1 n1 (w + 45) σ hM1) cl10 hM1m.1 iX9_run vX9_run (iw_24 16 rfl) rfl rfl (Nat.le_of_ble_eq_true rfl) (Nat.le_of_ble_eq_true rfl) (Nat.le_of_ble_eq_true rfl) (by show _ ≤ 693874; omega) (by show _ ≤ 7014482; omega) ?_
  intro r9 M2 n9 h9
  obtain ⟨h91, h93, hO2, hM2, h02⟩ := h9
  rw [h91, h93]
  clear h91 h93 r9 n9
  have hK2 := hK1.offX hO2
  have ho2 : mK M2 (w + 57) = 12 ∧ mN M2 (w + 57) = 1 := ⟨by rw [hO2.1]; exact ho1.1, by rw [hO2.2.1]; exact ho1.2⟩
  refine g_icmp_eq (tgt := 862) dL_law_287 (by decide) (fun c_287 => ?_) (fun c_287 => ?_)
  · skip
    refine g_widen (k2 := k + 11) (q2 := q + 257) (by omega) (by omega) ?_
    exact hk M2 n1 _ hK2 hM2 ho2 hn1
  · skip
    exact absurd rfl c_287

set_option maxHeartbeats 4000000 in
set_option maxRecDepth 100000 in
theorem b_ended {sa L t k q n w : Nat} {xs : Nat → Int32} {M : gM} {σ : MS} (hL : L ≤ 2560) (hK : kW M w σ) (hR : rM M (w + 45) σ) (ho : mK M (w + 57) = 12 ∧ mN M (w + 57) = 1) (hb : w + 58 ≤ n) (ht : 5 * t + 5 ≤ L) (hkc : k + 11 ≤ 693874) (hqc : q + 257 ≤ 7014482) (hk : ∀ M1 n1 σ1, kW M1 w σ1 → rM M1 (w + 45) σ1 → (mK M1 (w + 57) = 12 ∧ mN M1 (w + 57) = 1) → n ≤ n1 → GW μL_law room_1 (gQL sa L xs) (k + 11) (q + 257) 862 [some (.retAddr sa), some (.ref w), some (.ref (w + 45)), some (.ref (w + 57)), some (.int (nI (5 * t))), none, none, none] [] M1 n1) : GW μL_law room_1 (gQL sa L xs) k q 823 [some (.retAddr sa), some (.ref w), some (.ref (w + 45)), some (.ref (w + 57)), some (.int (nI (5 * t))), none, none, none] [] M n := by
  have hRm := hR.mod
  refine g_aload_n dL_law_823 rfl ?_
  refine g_callV dL_law_824 sX8_ended (c_ended M n w σ hK) cl9 hK.k iX8_ended vX8_ended (iw_39 5 rfl) rfl rfl (Nat.le_of_ble_eq_true rfl) (Nat.le_of_ble_eq_true rfl) (Nat.le_of_ble_eq_true rfl) (by show _ ≤ 693874; omega) (by show _ ≤ 7014482; omega) ?_
  intro r9 M1 n1 h9
  obtain ⟨h91, -, hn1, hK1, hR1⟩ := h9
  rw [h91]
  clear h91 r9
  have hM1 : rM M1 (w + 45) σ := hR.rw (fun i a b => hR1 i a (by omega))
  have hM1m := hM1.mod
  have ho1 := oK_1 hR1 ho
  refine g_aload_n dL_law_827 rfl ?_
  refine g_callV dL_law_828 sX9_ended (s_ended M1 n1 (w + 45) σ hM1) cl10 hM1m.1 iX9_ended vX9_ended (iw_39 9 rfl) rfl rfl (Nat.le_of_ble_eq_true rfl) (Nat.le_of_ble_eq_true rfl) (Nat.le_of_ble_eq_true rfl) (by show _ ≤ 693874; omega) (by show _ ≤ 7014482; omega) ?_
  intro r9 M2 n9 h9
  obtain ⟨h91, h93, hO2, hM2, h02⟩ := h9
  rw [h91, h93]
  clear h91 h93 r9 n9
  have hK2 := hK1.offX hO2
  have ho2 : mK M2 (w + 57) = 12 ∧ mN M2 (w + 57) = 1 := ⟨by rw [hO2.1]; exact ho1.1, by rw [hO2.2.1]; exact ho1.2⟩
  refine g_icmp_eq (tgt := 862) dL_law_831 (by decide) (fun c_831 => ?_) (fun c_831 => ?_)
  · skip
    refine g_widen (k2 := k + 11) (q2 := q + 257) (by omega) (by omega) ?_
    exact hk M2 n1 _ hK2 hM2 ho2 hn1
  · skip
    exact absurd rfl c_831

set_option maxHeartbeats 4000000 in
set_option maxRecDepth 100000 in
theorem b_clear {sa L t k q n w : Nat} {xs : Nat → Int32} {M : gM} {σ : MS} (hL : L ≤ 2560) (hK : kW M w σ) (hR : rM M (w + 45) σ) (ho : mK M (w + 57) = 12 ∧ mN M (w + 57) = 1) (hb : w + 58 ≤ n) (ht : 5 * t + 5 ≤ L) (hkc : k + 11 ≤ 693874) (hqc : q + 257 ≤ 7014482) (hk : ∀ M1 n1 σ1, kW M1 w σ1 → rM M1 (w + 45) σ1 → (mK M1 (w + 57) = 12 ∧ mN M1 (w + 57) = 1) → n ≤ n1 → GW μL_law room_1 (gQL sa L xs) (k + 11) (q + 257) 862 [some (.retAddr sa), some (.ref w), some (.ref (w + 45)), some (.ref (w + 57)), some (.int (nI (5 * t))), none, none, none] [] M1 n1) : GW μL_law room_1 (gQL sa L xs) k q 836 [some (.retAddr sa), some (.ref w), some (.ref (w + 45)), some (.ref (w + 57)), some (.int (nI (5 * t))), none, none, none] [] M n := by
  have hRm := hR.mod
  refine g_aload_n dL_law_836 rfl ?_
  refine g_callV dL_law_837 sX8_clear (c_clear M n w σ hK hb) cl9 hK.k iX8_clear vX8_clear (iw_39 13 rfl) rfl rfl (Nat.le_of_ble_eq_true rfl) (Nat.le_of_ble_eq_true rfl) (Nat.le_of_ble_eq_true rfl) (by show _ ≤ 693874; omega) (by show _ ≤ 7014482; omega) ?_
  intro r9 M1 n1 h9
  obtain ⟨h91, -, hn1, hK1, hR1⟩ := h9
  rw [h91]
  clear h91 r9
  have hM1 : rM M1 (w + 45) σ := hR.rw (fun i a b => hR1 i a (by omega))
  have hM1m := hM1.mod
  have ho1 := oK_1 hR1 ho
  refine g_aload_n dL_law_840 rfl ?_
  refine g_callV dL_law_841 sX9_clear (s_clear M1 n1 (w + 45) σ hM1) cl10 hM1m.1 iX9_clear vX9_clear (iw_40 3 rfl) rfl rfl (Nat.le_of_ble_eq_true rfl) (Nat.le_of_ble_eq_true rfl) (Nat.le_of_ble_eq_true rfl) (by show _ ≤ 693874; omega) (by show _ ≤ 7014482; omega) ?_
  intro r9 M2 n9 h9
  obtain ⟨h91, h93, hO2, hM2, h02⟩ := h9
  rw [h91, h93]
  clear h91 h93 r9 n9
  have hK2 := hK1.offX hO2
  have ho2 : mK M2 (w + 57) = 12 ∧ mN M2 (w + 57) = 1 := ⟨by rw [hO2.1]; exact ho1.1, by rw [hO2.2.1]; exact ho1.2⟩
  refine g_icmp_eq (tgt := 862) dL_law_844 (by decide) (fun c_844 => ?_) (fun c_844 => ?_)
  · skip
    refine g_widen (k2 := k + 11) (q2 := q + 257) (by omega) (by omega) ?_
    exact hk M2 n1 _ hK2 hM2 ho2 hn1
  · skip
    exact absurd rfl c_844

set_option maxHeartbeats 4000000 in
set_option maxRecDepth 100000 in
theorem b_size {sa L t k q n w : Nat} {xs : Nat → Int32} {M : gM} {σ : MS} (hL : L ≤ 2560) (hK : kW M w σ) (hR : rM M (w + 45) σ) (ho : mK M (w + 57) = 12 ∧ mN M (w + 57) = 1) (hb : w + 58 ≤ n) (ht : 5 * t + 5 ≤ L) (hkc : k + 11 ≤ 693874) (hqc : q + 257 ≤ 7014482) (hk : ∀ M1 n1 σ1, kW M1 w σ1 → rM M1 (w + 45) σ1 → (mK M1 (w + 57) = 12 ∧ mN M1 (w + 57) = 1) → n ≤ n1 → GW μL_law room_1 (gQL sa L xs) (k + 11) (q + 257) 862 [some (.retAddr sa), some (.ref w), some (.ref (w + 45)), some (.ref (w + 57)), some (.int (nI (5 * t))), none, none, none] [] M1 n1) : GW μL_law room_1 (gQL sa L xs) k q 849 [some (.retAddr sa), some (.ref w), some (.ref (w + 45)), some (.ref (w + 57)), some (.int (nI (5 * t))), none, none, none] [] M n := by
  have hRm := hR.mod
  refine g_aload_n dL_law_849 rfl ?_
  refine g_callV dL_law_850 sX8_size (c_size M n w σ hK) cl9 hK.k iX8_size vX8_size (iw_40 7 rfl) rfl rfl (Nat.le_of_ble_eq_true rfl) (Nat.le_of_ble_eq_true rfl) (Nat.le_of_ble_eq_true rfl) (by show _ ≤ 693874; omega) (by show _ ≤ 7014482; omega) ?_
  intro r9 M1 n1 h9
  obtain ⟨h91, -, hn1, hK1, hR1⟩ := h9
  rw [h91]
  clear h91 r9
  have hM1 : rM M1 (w + 45) σ := hR.rw (fun i a b => hR1 i a (by omega))
  have hM1m := hM1.mod
  have ho1 := oK_1 hR1 ho
  refine g_aload_n dL_law_853 rfl ?_
  refine g_callV dL_law_854 sX9_size (s_size M1 n1 (w + 45) σ hM1) cl10 hM1m.1 iX9_size vX9_size (iw_40 11 rfl) rfl rfl (Nat.le_of_ble_eq_true rfl) (Nat.le_of_ble_eq_true rfl) (Nat.le_of_ble_eq_true rfl) (by show _ ≤ 693874; omega) (by show _ ≤ 7014482; omega) ?_
  intro r9 M2 n9 h9
  obtain ⟨h91, h93, hO2, hM2, h02⟩ := h9
  rw [h91, h93]
  clear h91 h93 r9 n9
  have hK2 := hK1.offX hO2
  have ho2 : mK M2 (w + 57) = 12 ∧ mN M2 (w + 57) = 1 := ⟨by rw [hO2.1]; exact ho1.1, by rw [hO2.2.1]; exact ho1.2⟩
  refine g_icmp_eq (tgt := 862) dL_law_857 (by decide) (fun c_857 => ?_) (fun c_857 => ?_)
  · skip
    refine g_widen (k2 := k + 11) (q2 := q + 257) (by omega) (by omega) ?_
    exact hk M2 n1 _ hK2 hM2 ho2 hn1
  · skip
    exact absurd rfl c_857

