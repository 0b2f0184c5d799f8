/-! the law: its loop -/
theorem sub5 {L : Nat} (hL : L ≤ 2560) : (nI L - nI 5).toInt = (L : Int) - 5 := by
  rw [nI_iZ L, nI_iZ 5, iZ_sub, iZ_t (by omega) (by omega)]
  omega
theorem add5 (t : Nat) : nI (5 * t) + 5 = nI (5 * (t + 1)) := by
  rw [show (5 : Int32) = nI 5 from rfl, nI_add]
  congr 1
set_option maxHeartbeats 4000000 in
set_option maxRecDepth 100000 in
theorem l_law {sa L w : Nat} {xs : Nat → Int32} (hL : L ≤ 2560) : ∀ (d t k q n : Nat) (M : gM) (σ : MS), L - 5 * t < d → 5 * t ≤ L → kW M w σ → rM M (w + 45) σ → (mK M (w + 57) = 12 ∧ mN M (w + 57) = 1) → w + 58 ≤ n → k ≤ 58 + 11 * t → q ≤ 3000 + 257 * t → GW μL_law room_1 (gQL sa L xs) k q 23 [some (.retAddr sa), some (.ref w), some (.ref (w + 45)), some (.ref (w + 57)), some (.int (nI (5 * t))), none, none, none] [] M n := by
  intro d
  induction d with
  | zero =>
    intro t k q n M σ h0
    omega
  | succ d ih =>
    intro t k q n M σ h0 h1 hK hR ho hb hk9 hq9
    refine g_iload dL_law_23 rfl ?_
    refine g_aload_nX dL_law_25 rfl ?_
    refine g_slen dL_law_26 ?_
    refine g_iconst (v := nI 5) dL_law_27 rfl ?_
    refine g_isub dL_law_28 ?_
    refine g_icmp_gt (tgt := 868) dL_law_29 (by decide) (fun c_29 => ?_) (fun c_29 => ?_)
    · skip
      have hkk : k ≤ 693874 := by omega
      have hqq : q ≤ 7014482 := by omega
      refine g_iconst (v := nI 1) dL_law_868 rfl ?_
      exact g_lawret dL_law_869 hkk hqq
    · skip
      have ht : 5 * t + 5 ≤ L := by rw [i_lt, sub5 hL, nI_toInt (by omega)] at c_29; omega
      have hk : ∀ M1 n1 σ1, kW M1 w σ1 → rM M1 (w + 45) σ1 → (mK M1 (w + 57) = 12 ∧ mN M1 (w + 57) = 1) → n ≤ n1 → GW μL_law room_1 (gQL sa L xs) (k + 11) (q + 257) 862 [some (.retAddr sa), some (.ref w), some (.ref (w + 45)), some (.ref (w + 57)), some (.int (nI (5 * t))), none, none, none] [] M1 n1 := fun M1 n1 σ1 a1 a2 a3 a4 => by
        refine g_iinc dL_law_862 rfl (add5 t) (Nat.le_of_ble_eq_true rfl) ?_
        refine g_goto (tgt := 23) dL_law_865 (by decide) ?_
        exact ih (t + 1) (k + 11) (q + 257) n1 M1 σ1 (by omega) (by omega) a1 a2 a3 (by omega) (by omega) (by omega)
      refine g_aload_nX dL_law_32 rfl ?_
      refine g_iload dL_law_33 rfl ?_
      refine g_sld (j := 5 * t) dL_law_35 rfl (by omega) hL ?_
      refine g_bipush (v := nI 15) dL_law_36 rfl ?_
      refine g_iand dL_law_38 ?_
      generalize xs (5 * t) &&& nI 15 = v9
      by_cases t_39_0 : v9.toInt = 0
      · skip
        refine g_tableIn (off := 69) (tgt := 108) dL_law_39 (by omega) (by omega) (by rw [t_39_0]; rfl) (by decide) ?_
        exact b_op hL hK hR ho hb ht (by omega) (by omega) hk
      · skip
        by_cases t_39_1 : v9.toInt = 1
        · skip
          refine g_tableIn (off := 161) (tgt := 200) dL_law_39 (by omega) (by omega) (by rw [t_39_1]; rfl) (by decide) ?_
          exact b_begin hL hK hR ho hb ht (by omega) (by omega) hk
        · skip
          by_cases t_39_2 : v9.toInt = 2
          · skip
            refine g_tableIn (off := 240) (tgt := 279) dL_law_39 (by omega) (by omega) (by rw [t_39_2]; rfl) (by decide) ?_
            exact b_run hL hK hR ho hb ht (by omega) (by omega) hk
          · skip
            by_cases t_39_3 : v9.toInt = 3
            · skip
              refine g_tableIn (off := 253) (tgt := 292) dL_law_39 (by omega) (by omega) (by rw [t_39_3]; rfl) (by decide) ?_
              exact b_reached hL hK hR ho hb ht (by omega) (by omega) hk
            · skip
              by_cases t_39_4 : v9.toInt = 4
              · skip
                refine g_tableIn (off := 316) (tgt := 355) dL_law_39 (by omega) (by omega) (by rw [t_39_4]; rfl) (by decide) ?_
                exact b_pieces hL hK hR ho hb ht (by omega) (by omega) hk
              · skip
                by_cases t_39_5 : v9.toInt = 5
                · skip
                  refine g_tableIn (off := 384) (tgt := 423) dL_law_39 (by omega) (by omega) (by rw [t_39_5]; rfl) (by decide) ?_
                  by_cases hx4 : xs (5 * t + 4) = 0
                  · exact b_endF hL hK hR ho hb ht (by omega) (by omega) hk hx4
                  · exact b_endT hL hK hR ho hb ht (by omega) (by omega) hk hx4
                · skip
                  by_cases t_39_6 : v9.toInt = 6
                  · skip
                    refine g_tableIn (off := 492) (tgt := 531) dL_law_39 (by omega) (by omega) (by rw [t_39_6]; rfl) (by decide) ?_
                    exact b_ways hL hK hR ho hb ht (by omega) (by omega) hk
                  · skip
                    by_cases t_39_7 : v9.toInt = 7
                    · skip
                      refine g_tableIn (off := 548) (tgt := 587) dL_law_39 (by omega) (by omega) (by rw [t_39_7]; rfl) (by decide) ?_
                      exact b_told hL hK hR ho hb ht (by omega) (by omega) hk
                    · skip
                      by_cases t_39_8 : v9.toInt = 8
                      · skip
                        refine g_tableIn (off := 604) (tgt := 643) dL_law_39 (by omega) (by omega) (by rw [t_39_8]; rfl) (by decide) ?_
                        exact b_threshold hL hK hR ho hb ht (by omega) (by omega) hk
                      · skip
                        by_cases t_39_9 : v9.toInt = 9
                        · skip
                          refine g_tableIn (off := 660) (tgt := 699) dL_law_39 (by omega) (by omega) (by rw [t_39_9]; rfl) (by decide) ?_
                          exact b_holds hL hK hR ho hb ht (by omega) (by omega) hk
                        · skip
                          by_cases t_39_10 : v9.toInt = 10
                          · skip
                            refine g_tableIn (off := 728) (tgt := 767) dL_law_39 (by omega) (by omega) (by rw [t_39_10]; rfl) (by decide) ?_
                            exact b_had hL hK hR ho hb ht (by omega) (by omega) hk
                          · skip
                            by_cases t_39_11 : v9.toInt = 11
                            · skip
                              refine g_tableIn (off := 784) (tgt := 823) dL_law_39 (by omega) (by omega) (by rw [t_39_11]; rfl) (by decide) ?_
                              exact b_ended hL hK hR ho hb ht (by omega) (by omega) hk
                            · skip
                              by_cases t_39_12 : v9.toInt = 12
                              · skip
                                refine g_tableIn (off := 797) (tgt := 836) dL_law_39 (by omega) (by omega) (by rw [t_39_12]; rfl) (by decide) ?_
                                exact b_clear hL hK hR ho hb ht (by omega) (by omega) hk
                              · skip
                                by_cases t_39_13 : v9.toInt = 13
                                · skip
                                  refine g_tableIn (off := 810) (tgt := 849) dL_law_39 (by omega) (by omega) (by rw [t_39_13]; rfl) (by decide) ?_
                                  exact b_size hL hK hR ho hb ht (by omega) (by omega) hk
                                · skip
                                  refine g_tableOut (tgt := 862) dL_law_39 (by omega) (by decide) ?_
                                  refine g_widen (k2 := k + 11) (q2 := q + 257) (by omega) (by omega) ?_
                                  exact hk M n σ hK hR ho (Nat.le_refl _)
