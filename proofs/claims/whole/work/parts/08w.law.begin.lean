/-! the law: begin -/
set_option maxHeartbeats 4000000 in
set_option maxRecDepth 100000 in
theorem b_begin {sa L t k q n w : Nat} {xs : Nat → Int32} {M : gM} {σ : MS} (hL : L ≤ 2560) (hK : kW M w σ) (hR : rM M (w + 45) σ) (ho : mK M (w + 57) = 12 ∧ mN M (w + 57) = 1) (hb : w + 58 ≤ n) (ht : 5 * t + 5 ≤ L) (hkc : k + 11 ≤ 693874) (hqc : q + 257 ≤ 7014482) (hk : ∀ M1 n1 σ1, kW M1 w σ1 → rM M1 (w + 45) σ1 → (mK M1 (w + 57) = 12 ∧ mN M1 (w + 57) = 1) → n ≤ n1 → GW μL_law room_1 (gQL sa L xs) (k + 11) (q + 257) 862 [some (.retAddr sa), some (.ref w), some (.ref (w + 45)), some (.ref (w + 57)), some (.int (nI (5 * t))), none, none, none] [] M1 n1) : GW μL_law room_1 (gQL sa L xs) k q 200 [some (.retAddr sa), some (.ref w), some (.ref (w + 45)), some (.ref (w + 57)), some (.int (nI (5 * t))), none, none, none] [] M n := by
  have hRm := hR.mod
  refine g_aload_n dL_law_200 rfl ?_
  refine g_aload_nX dL_law_201 rfl ?_
  refine g_iload dL_law_202 rfl ?_
  refine g_iconst (v := nI 1) dL_law_204 rfl ?_
  refine g_iadd dL_law_205 ?_
  rw [nI_add]
  refine g_sld (j := 5 * t + 1) dL_law_206 rfl (by omega) hL ?_
  refine g_aload_nX dL_law_207 rfl ?_
  refine g_iload dL_law_208 rfl ?_
  refine g_iconst (v := nI 2) dL_law_210 rfl ?_
  refine g_iadd dL_law_211 ?_
  rw [nI_add]
  refine g_sld (j := 5 * t + 2) dL_law_212 rfl (by omega) hL ?_
  refine g_aload_nX dL_law_213 rfl ?_
  refine g_iload dL_law_214 rfl ?_
  refine g_iconst (v := nI 3) dL_law_216 rfl ?_
  refine g_iadd dL_law_217 ?_
  rw [nI_add]
  refine g_sld (j := 5 * t + 3) dL_law_218 rfl (by omega) hL ?_
  refine g_aload_n dL_law_219 rfl ?_
  refine g_callSW dL_law_220 sL_begin (w_begin M n w σ (xs (5 * t + 1)) (xs (5 * t + 2)) (xs (5 * t + 3)) hK ho hb) tL_begin (iw_13 13 rfl) rfl rfl (Nat.le_of_ble_eq_true rfl) (Nat.le_of_ble_eq_true rfl) (Nat.le_of_ble_eq_true rfl) (by show _ ≤ 693874; omega) (by show _ ≤ 7014482; omega) ?_
  intro r9 M1 n1 h9
  obtain ⟨h91, hn1, hK1, hR1, ho1, hv1⟩ := h9
  rw [h91]
  clear h91 r9
  have hM1 : rM M1 (w + 45) σ := hR.rw hR1
  have hM1m := hM1.mod
  refine g_istore dL_law_223 (Nat.le_of_ble_eq_true rfl) ?_
  refine g_aload_n dL_law_225 rfl ?_
  refine g_aload_nX dL_law_226 rfl ?_
  refine g_iload dL_law_227 rfl ?_
  refine g_iconst (v := nI 1) dL_law_229 rfl ?_
  refine g_iadd dL_law_230 ?_
  rw [nI_add]
  refine g_sld (j := 5 * t + 1) dL_law_231 rfl (by omega) hL ?_
  refine g_aload_nX dL_law_232 rfl ?_
  refine g_iload dL_law_233 rfl ?_
  refine g_iconst (v := nI 2) dL_law_235 rfl ?_
  refine g_iadd dL_law_236 ?_
  rw [nI_add]
  refine g_sld (j := 5 * t + 2) dL_law_237 rfl (by omega) hL ?_
  refine g_aload_nX dL_law_238 rfl ?_
  refine g_iload dL_law_239 rfl ?_
  refine g_iconst (v := nI 3) dL_law_241 rfl ?_
  refine g_iadd dL_law_242 ?_
  rw [nI_add]
  refine g_sld (j := 5 * t + 3) dL_law_243 rfl (by omega) hL ?_
  refine g_callV dL_law_244 sX9_begin (s_begin M1 n1 (w + 45) σ (xs (5 * t + 1)) (xs (5 * t + 2)) (xs (5 * t + 3)) hM1) cl10 hM1m.1 iX9_begin vX9_begin (iw_14 5 rfl) rfl rfl (Nat.le_of_ble_eq_true rfl) (Nat.le_of_ble_eq_true rfl) (Nat.le_of_ble_eq_true rfl) (by show _ ≤ 693874; omega) (by show _ ≤ 7014482; omega) ?_
  intro r9 M2 n9 h9
  obtain ⟨h91, h93, hO2, hM2, h02⟩ := h9
  rw [h91, h93]
  clear h91 h93 r9 n9
  have hK2 : kW M2 w (bgS σ (xs (5 * t + 1)) (xs (5 * t + 2)) (xs (5 * t + 3))) := hK1.offX hO2
  have ho2 : mK M2 (w + 57) = 12 ∧ mN M2 (w + 57) = 1 := ⟨by rw [hO2.1]; exact ho1.1, by rw [hO2.2.1]; exact ho1.2⟩
  have hv2 : (bgZ (xs (5 * t + 1)) (xs (5 * t + 2)) (xs (5 * t + 3))).1 = 0 → mJ M2 (w + 57) 0 = jI (bgZ (xs (5 * t + 1)) (xs (5 * t + 2)) (xs (5 * t + 3))).2 := fun h => by rw [hO2.j (by unfold fX; omega)]; exact hv1 h
  have hM2m := hM2.mod
  refine g_lstore dL_law_247 (Nat.le_of_ble_eq_true rfl) ?_
  refine g_aload_n dL_law_249 rfl ?_
  refine g_callV dL_law_250 sX9_thrown (m_thrown M2 n1 (w + 45) hM2m) cl10 hM2m.1 iX9_thrown vX9_thrown (iw_13 9 rfl) rfl rfl (Nat.le_of_ble_eq_true rfl) (Nat.le_of_ble_eq_true rfl) (Nat.le_of_ble_eq_true rfl) (by show _ ≤ 693874; omega) (by show _ ≤ 7014482; omega) ?_
  intro r9 M9 n9 h9
  obtain ⟨h91, h92, h93⟩ := h9
  rw [h91, h92, h93]
  clear h91 h92 h93 r9 M9 n9
  rw [h02]
  refine g_iload dL_law_253 rfl ?_
  refine g_icmp_eq (tgt := 260) dL_law_255 (by decide) (fun c_255 => ?_) (fun c_255 => ?_)
  · skip
    refine g_iload dL_law_260 rfl ?_
    refine g_if_ne (tgt := 276) dL_law_262 (by decide) (fun c_262 => ?_) (fun c_262 => ?_)
    · skip
      refine g_goto (tgt := 862) dL_law_276 (by decide) ?_
      refine g_drop 5 ?_
      refine g_drop 6 ?_
      refine g_drop 7 ?_
      refine g_widen (k2 := k + 11) (q2 := q + 257) (by omega) (by omega) ?_
      exact hk M2 n1 _ hK2 hM2 ho2 hn1
    · skip
      have hc0 : (bgZ (xs (5 * t + 1)) (xs (5 * t + 2)) (xs (5 * t + 3))).1 = 0 := nI_z (bgZ_le _ _ _ ) c_262
      have hv3 := hv2 hc0
      refine g_aload_n dL_law_265 rfl ?_
      refine g_iconst (v := nI 0) dL_law_266 rfl ?_
      refine g_laload dL_law_267 (j := 0) ho2.1 ho2.2 rfl (by decide) (by decide) ?_
      rw [hv3]
      refine g_lload dL_law_268 rfl ?_
      refine g_lcmp dL_law_270 ?_
      refine g_if_eq (tgt := 276) dL_law_271 (by decide) (fun c_271 => ?_) (fun c_271 => ?_)
      · skip
        refine g_goto (tgt := 862) dL_law_276 (by decide) ?_
        refine g_drop 5 ?_
        refine g_drop 6 ?_
        refine g_drop 7 ?_
        refine g_widen (k2 := k + 11) (q2 := q + 257) (by omega) (by omega) ?_
        exact hk M2 n1 _ hK2 hM2 ho2 hn1
      · skip
        exact absurd ((lg_cmp_eq _ _).mpr rfl) c_271
  · skip
    exact absurd rfl c_255

