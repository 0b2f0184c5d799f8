/-! the law: op -/
set_option maxHeartbeats 4000000 in
set_option maxRecDepth 100000 in
theorem b_op {sa L t k q n w : Nat} {xs : Nat → Int32} {M : gM} {σ : MS} (hL : L ≤ 2560) (hK : kW M w σ) (hR : rM M (w + 45) σ) (ho : mK M (w + 57) = 12 ∧ mN M (w + 57) = 1) (hb : w + 58 ≤ n) (ht : 5 * t + 5 ≤ L) (hkc : k + 11 ≤ 693874) (hqc : q + 257 ≤ 7014482) (hk : ∀ M1 n1 σ1, kW M1 w σ1 → rM M1 (w + 45) σ1 → (mK M1 (w + 57) = 12 ∧ mN M1 (w + 57) = 1) → n ≤ n1 → GW μL_law room_1 (gQL sa L xs) (k + 11) (q + 257) 862 [some (.retAddr sa), some (.ref w), some (.ref (w + 45)), some (.ref (w + 57)), some (.int (nI (5 * t))), none, none, none] [] M1 n1) : GW μL_law room_1 (gQL sa L xs) k q 108 [some (.retAddr sa), some (.ref w), some (.ref (w + 45)), some (.ref (w + 57)), some (.int (nI (5 * t))), none, none, none] [] M n := by
  have hRm := hR.mod
  refine g_aload_n dL_law_108 rfl ?_
  refine g_aload_nX dL_law_109 rfl ?_
  refine g_iload dL_law_110 rfl ?_
  refine g_iconst (v := nI 1) dL_law_112 rfl ?_
  refine g_iadd dL_law_113 ?_
  rw [nI_add]
  refine g_sld (j := 5 * t + 1) dL_law_114 rfl (by omega) hL ?_
  refine g_aload_nX dL_law_115 rfl ?_
  refine g_iload dL_law_116 rfl ?_
  refine g_iconst (v := nI 2) dL_law_118 rfl ?_
  refine g_iadd dL_law_119 ?_
  rw [nI_add]
  refine g_sld (j := 5 * t + 2) dL_law_120 rfl (by omega) hL ?_
  refine g_aload_nX dL_law_121 rfl ?_
  refine g_iload dL_law_122 rfl ?_
  refine g_iconst (v := nI 3) dL_law_124 rfl ?_
  refine g_iadd dL_law_125 ?_
  rw [nI_add]
  refine g_sld (j := 5 * t + 3) dL_law_126 rfl (by omega) hL ?_
  refine g_aload_nX dL_law_127 rfl ?_
  refine g_iload dL_law_128 rfl ?_
  refine g_iconst (v := nI 4) dL_law_130 rfl ?_
  refine g_iadd dL_law_131 ?_
  rw [nI_add]
  refine g_sld (j := 5 * t + 4) dL_law_132 rfl (by omega) hL ?_
  refine g_aload_n dL_law_133 rfl ?_
  refine g_callSW dL_law_134 sL_op (w_op M n w σ (xs (5 * t + 1)) (xs (5 * t + 2)) (xs (5 * t + 3)) (xs (5 * t + 4)) hK ho hb) tL_op (iw_6 13 rfl) rfl rfl (Nat.le_of_ble_eq_true rfl) (Nat.le_of_ble_eq_true rfl) (Nat.le_of_ble_eq_true rfl) (by show _ ≤ 693874; omega) (by show _ ≤ 7014482; omega) ?_
  intro r9 M1 n1 h9
  obtain ⟨h91, hn1, hK1, hR1, ho1, hv1⟩ := h9
  rw [h91]
  clear h91 r9
  have hM1 : rM M1 (w + 45) σ := hR.rw hR1
  have hM1m := hM1.mod
  refine g_istore dL_law_137 (Nat.le_of_ble_eq_true rfl) ?_
  refine g_aload_n dL_law_139 rfl ?_
  refine g_aload_nX dL_law_140 rfl ?_
  refine g_iload dL_law_141 rfl ?_
  refine g_iconst (v := nI 1) dL_law_143 rfl ?_
  refine g_iadd dL_law_144 ?_
  rw [nI_add]
  refine g_sld (j := 5 * t + 1) dL_law_145 rfl (by omega) hL ?_
  refine g_aload_nX dL_law_146 rfl ?_
  refine g_iload dL_law_147 rfl ?_
  refine g_iconst (v := nI 2) dL_law_149 rfl ?_
  refine g_iadd dL_law_150 ?_
  rw [nI_add]
  refine g_sld (j := 5 * t + 2) dL_law_151 rfl (by omega) hL ?_
  refine g_aload_nX dL_law_152 rfl ?_
  refine g_iload dL_law_153 rfl ?_
  refine g_iconst (v := nI 3) dL_law_155 rfl ?_
  refine g_iadd dL_law_156 ?_
  rw [nI_add]
  refine g_sld (j := 5 * t + 3) dL_law_157 rfl (by omega) hL ?_
  refine g_aload_nX dL_law_158 rfl ?_
  refine g_iload dL_law_159 rfl ?_
  refine g_iconst (v := nI 4) dL_law_161 rfl ?_
  refine g_iadd dL_law_162 ?_
  rw [nI_add]
  refine g_sld (j := 5 * t + 4) dL_law_163 rfl (by omega) hL ?_
  refine g_callV dL_law_164 sX9_op (s_op M1 n1 (w + 45) σ (xs (5 * t + 1)) (xs (5 * t + 2)) (xs (5 * t + 3)) (xs (5 * t + 4)) hM1) cl10 hM1m.1 iX9_op vX9_op (iw_12 7 rfl) rfl rfl (Nat.le_of_ble_eq_true rfl) (Nat.le_of_ble_eq_true rfl) (Nat.le_of_ble_eq_true rfl) (by show _ ≤ 693874; omega) (by show _ ≤ 7014482; omega) ?_
  intro r9 M2 n9 h9
  obtain ⟨h91, h93, hO2, hM2, h02⟩ := h9
  rw [h91, h93]
  clear h91 h93 r9 n9
  have hK2 : kW M2 w (opS σ (xs (5 * t + 1)) (xs (5 * t + 2)) (xs (5 * t + 3)) (xs (5 * t + 4))) := hK1.offX hO2
  have ho2 : mK M2 (w + 57) = 12 ∧ mN M2 (w + 57) = 1 := ⟨by rw [hO2.1]; exact ho1.1, by rw [hO2.2.1]; exact ho1.2⟩
  have hv2 : (opZ σ (xs (5 * t + 1)) (xs (5 * t + 2)) (xs (5 * t + 3)) (xs (5 * t + 4))).1 = 0 → mJ M2 (w + 57) 0 = (nI (opZ σ (xs (5 * t + 1)) (xs (5 * t + 2)) (xs (5 * t + 3)) (xs (5 * t + 4))).2).toInt64 := fun h => by rw [hO2.j (by unfold fX; omega)]; exact hv1 h
  have hM2m := hM2.mod
  refine g_istore dL_law_167 (Nat.le_of_ble_eq_true rfl) ?_
  refine g_aload_n dL_law_169 rfl ?_
  refine g_callV dL_law_170 sX9_thrown (m_thrown M2 n1 (w + 45) hM2m) cl10 hM2m.1 iX9_thrown vX9_thrown (iw_13 9 rfl) rfl rfl (Nat.le_of_ble_eq_true rfl) (Nat.le_of_ble_eq_true rfl) (Nat.le_of_ble_eq_true rfl) (by show _ ≤ 693874; omega) (by show _ ≤ 7014482; omega) ?_
  intro r9 M9 n9 h9
  obtain ⟨h91, h92, h93⟩ := h9
  rw [h91, h92, h93]
  clear h91 h92 h93 r9 M9 n9
  rw [h02]
  refine g_iload dL_law_173 rfl ?_
  refine g_icmp_eq (tgt := 180) dL_law_175 (by decide) (fun c_175 => ?_) (fun c_175 => ?_)
  · skip
    refine g_iload dL_law_180 rfl ?_
    refine g_if_ne (tgt := 197) dL_law_182 (by decide) (fun c_182 => ?_) (fun c_182 => ?_)
    · skip
      refine g_goto (tgt := 862) dL_law_197 (by decide) ?_
      refine g_drop 5 ?_
      refine g_drop 6 ?_
      refine g_drop 7 ?_
      refine g_widen (k2 := k + 11) (q2 := q + 257) (by omega) (by omega) ?_
      exact hk M2 n1 _ hK2 hM2 ho2 hn1
    · skip
      have hc0 : (opZ σ (xs (5 * t + 1)) (xs (5 * t + 2)) (xs (5 * t + 3)) (xs (5 * t + 4))).1 = 0 := nI_z (opZ_le _ _ _ _ _ ) c_182
      have hv3 := hv2 hc0
      refine g_aload_n dL_law_185 rfl ?_
      refine g_iconst (v := nI 0) dL_law_186 rfl ?_
      refine g_laload dL_law_187 (j := 0) ho2.1 ho2.2 rfl (by decide) (by decide) ?_
      rw [hv3]
      refine g_iload dL_law_188 rfl ?_
      refine g_i2l dL_law_190 ?_
      refine g_lcmp dL_law_191 ?_
      refine g_if_eq (tgt := 197) dL_law_192 (by decide) (fun c_192 => ?_) (fun c_192 => ?_)
      · skip
        refine g_goto (tgt := 862) dL_law_197 (by decide) ?_
        refine g_drop 5 ?_
        refine g_drop 6 ?_
        refine g_drop 7 ?_
        refine g_widen (k2 := k + 11) (q2 := q + 257) (by omega) (by omega) ?_
        exact hk M2 n1 _ hK2 hM2 ho2 hn1
      · skip
        exact absurd ((lg_cmp_eq _ _).mpr rfl) c_192
  · skip
    exact absurd rfl c_175

