/-! the law: end -/
set_option maxHeartbeats 4000000 in
set_option maxRecDepth 100000 in
theorem b_endT {sa L t k q n w : Nat} {xs : Nat → Int32} {M : gM} {σ : MS} (hL : L ≤ 2560) (hK : kW M w σ) (hR : rM M (w + 45) σ) (ho : mK M (w + 57) = 12 ∧ mN M (w + 57) = 1) (hb : w + 58 ≤ n) (ht : 5 * t + 5 ≤ L) (hkc : k + 11 ≤ 693874) (hqc : q + 257 ≤ 7014482) (hk : ∀ M1 n1 σ1, kW M1 w σ1 → rM M1 (w + 45) σ1 → (mK M1 (w + 57) = 12 ∧ mN M1 (w + 57) = 1) → n ≤ n1 → GW μL_law room_1 (gQL sa L xs) (k + 11) (q + 257) 862 [some (.retAddr sa), some (.ref w), some (.ref (w + 45)), some (.ref (w + 57)), some (.int (nI (5 * t))), none, none, none] [] M1 n1) (hx4 : ¬ xs (5 * t + 4) = 0) : GW μL_law room_1 (gQL sa L xs) k q 423 [some (.retAddr sa), some (.ref w), some (.ref (w + 45)), some (.ref (w + 57)), some (.int (nI (5 * t))), none, none, none] [] M n := by
  have hRm := hR.mod
  refine g_aload_n dL_law_423 rfl ?_
  refine g_aload_nX dL_law_424 rfl ?_
  refine g_iload dL_law_425 rfl ?_
  refine g_iconst (v := nI 1) dL_law_427 rfl ?_
  refine g_iadd dL_law_428 ?_
  rw [nI_add]
  refine g_sld (j := 5 * t + 1) dL_law_429 rfl (by omega) hL ?_
  refine g_aload_nX dL_law_430 rfl ?_
  refine g_iload dL_law_431 rfl ?_
  refine g_iconst (v := nI 2) dL_law_433 rfl ?_
  refine g_iadd dL_law_434 ?_
  rw [nI_add]
  refine g_sld (j := 5 * t + 2) dL_law_435 rfl (by omega) hL ?_
  refine g_aload_nX dL_law_436 rfl ?_
  refine g_iload dL_law_437 rfl ?_
  refine g_iconst (v := nI 3) dL_law_439 rfl ?_
  refine g_iadd dL_law_440 ?_
  rw [nI_add]
  refine g_sld (j := 5 * t + 3) dL_law_441 rfl (by omega) hL ?_
  refine g_aload_nX dL_law_442 rfl ?_
  refine g_iload dL_law_443 rfl ?_
  refine g_iconst (v := nI 4) dL_law_445 rfl ?_
  refine g_iadd dL_law_446 ?_
  rw [nI_add]
  refine g_sld (j := 5 * t + 4) dL_law_447 rfl (by omega) hL ?_
  refine g_if_eq (tgt := 455) dL_law_448 (by decide) (fun c_448 => ?_) (fun c_448 => ?_)
  · skip
    exact absurd c_448 hx4
  · skip
    refine g_iconst (v := bI true) dL_law_451 rfl ?_
    refine g_goto (tgt := 456) dL_law_452 (by decide) ?_
    refine g_aload_n dL_law_456 rfl ?_
    refine g_callSW dL_law_457 sL_end (w_end M n w σ (xs (5 * t + 1)) (xs (5 * t + 2)) (xs (5 * t + 3)) true hK ho hb) tL_end (iw_32 22 rfl) rfl rfl (Nat.le_of_ble_eq_true rfl) (Nat.le_of_ble_eq_true rfl) (Nat.le_of_ble_eq_true rfl) (by show _ ≤ 693874; omega) (by show _ ≤ 7014482; omega) ?_
    intro r9 M1 n1 h9
    obtain ⟨h91, hn1, hK1, hR1, ho1, hv1⟩ := h9
    rw [h91]
    clear h91 r9
    have hM1 : rM M1 (w + 45) σ := hR.rw hR1
    have hM1m := hM1.mod
    refine g_istore dL_law_460 (Nat.le_of_ble_eq_true rfl) ?_
    refine g_aload_n dL_law_462 rfl ?_
    refine g_aload_nX dL_law_463 rfl ?_
    refine g_iload dL_law_464 rfl ?_
    refine g_iconst (v := nI 1) dL_law_466 rfl ?_
    refine g_iadd dL_law_467 ?_
    rw [nI_add]
    refine g_sld (j := 5 * t + 1) dL_law_468 rfl (by omega) hL ?_
    refine g_aload_nX dL_law_469 rfl ?_
    refine g_iload dL_law_470 rfl ?_
    refine g_iconst (v := nI 2) dL_law_472 rfl ?_
    refine g_iadd dL_law_473 ?_
    rw [nI_add]
    refine g_sld (j := 5 * t + 2) dL_law_474 rfl (by omega) hL ?_
    refine g_aload_nX dL_law_475 rfl ?_
    refine g_iload dL_law_476 rfl ?_
    refine g_iconst (v := nI 3) dL_law_478 rfl ?_
    refine g_iadd dL_law_479 ?_
    rw [nI_add]
    refine g_sld (j := 5 * t + 3) dL_law_480 rfl (by omega) hL ?_
    refine g_aload_nX dL_law_481 rfl ?_
    refine g_iload dL_law_482 rfl ?_
    refine g_iconst (v := nI 4) dL_law_484 rfl ?_
    refine g_iadd dL_law_485 ?_
    rw [nI_add]
    refine g_sld (j := 5 * t + 4) dL_law_486 rfl (by omega) hL ?_
    refine g_if_eq (tgt := 494) dL_law_487 (by decide) (fun c_487 => ?_) (fun c_487 => ?_)
    · skip
      exact absurd c_487 hx4
    · skip
      refine g_iconst (v := bI true) dL_law_490 rfl ?_
      refine g_goto (tgt := 495) dL_law_491 (by decide) ?_
      refine g_callV dL_law_495 sX9_end (s_end M1 n1 (w + 45) σ (xs (5 * t + 1)) (xs (5 * t + 2)) (xs (5 * t + 3)) true hM1) cl10 hM1m.1 iX9_end vX9_end (iw_33 7 rfl) rfl rfl (Nat.le_of_ble_eq_true rfl) (Nat.le_of_ble_eq_true rfl) (Nat.le_of_ble_eq_true rfl) (by show _ ≤ 693874; omega) (by show _ ≤ 7014482; omega) ?_
      intro r9 M2 n9 h9
      obtain ⟨h91, h93, hO2, hM2, h02⟩ := h9
      rw [h91, h93]
      clear h91 h93 r9 n9
      have hK2 : kW M2 w σ := hK1.offX hO2
      have ho2 : mK M2 (w + 57) = 12 ∧ mN M2 (w + 57) = 1 := ⟨by rw [hO2.1]; exact ho1.1, by rw [hO2.2.1]; exact ho1.2⟩
      have hv2 : (enZ σ (xs (5 * t + 1)) (xs (5 * t + 2)) (xs (5 * t + 3)) true).1 = 0 → mJ M2 (w + 57) 0 = (iZ (enZ σ (xs (5 * t + 1)) (xs (5 * t + 2)) (xs (5 * t + 3)) true).2).toInt64 := fun h => by rw [hO2.j (by unfold fX; omega)]; exact hv1 h
      have hM2m := hM2.mod
      refine g_istore dL_law_498 (Nat.le_of_ble_eq_true rfl) ?_
      refine g_aload_n dL_law_500 rfl ?_
      refine g_callV dL_law_501 sX9_thrown (m_thrown M2 n1 (w + 45) hM2m) cl10 hM2m.1 iX9_thrown vX9_thrown (iw_13 9 rfl) rfl rfl (Nat.le_of_ble_eq_true rfl) (Nat.le_of_ble_eq_true rfl) (Nat.le_of_ble_eq_true rfl) (by show _ ≤ 693874; omega) (by show _ ≤ 7014482; omega) ?_
      intro r9 M9 n9 h9
      obtain ⟨h91, h92, h93⟩ := h9
      rw [h91, h92, h93]
      clear h91 h92 h93 r9 M9 n9
      rw [h02]
      refine g_iload dL_law_504 rfl ?_
      refine g_icmp_eq (tgt := 511) dL_law_506 (by decide) (fun c_506 => ?_) (fun c_506 => ?_)
      · skip
        refine g_iload dL_law_511 rfl ?_
        refine g_if_ne (tgt := 528) dL_law_513 (by decide) (fun c_513 => ?_) (fun c_513 => ?_)
        · skip
          refine g_goto (tgt := 862) dL_law_528 (by decide) ?_
          refine g_drop 5 ?_
          refine g_drop 6 ?_
          refine g_drop 7 ?_
          refine g_widen (k2 := k + 11) (q2 := q + 257) (by omega) (by omega) ?_
          exact hk M2 n1 _ hK2 hM2 ho2 hn1
        · skip
          have hc0 : (enZ σ (xs (5 * t + 1)) (xs (5 * t + 2)) (xs (5 * t + 3)) true).1 = 0 := nI_z (enZ_le _ _ _ _ _ ) c_513
          have hv3 := hv2 hc0
          refine g_aload_n dL_law_516 rfl ?_
          refine g_iconst (v := nI 0) dL_law_517 rfl ?_
          refine g_laload dL_law_518 (j := 0) ho2.1 ho2.2 rfl (by decide) (by decide) ?_
          rw [hv3]
          refine g_iload dL_law_519 rfl ?_
          refine g_i2l dL_law_521 ?_
          refine g_lcmp dL_law_522 ?_
          refine g_if_eq (tgt := 528) dL_law_523 (by decide) (fun c_523 => ?_) (fun c_523 => ?_)
          · skip
            refine g_goto (tgt := 862) dL_law_528 (by decide) ?_
            refine g_drop 5 ?_
            refine g_drop 6 ?_
            refine g_drop 7 ?_
            refine g_widen (k2 := k + 11) (q2 := q + 257) (by omega) (by omega) ?_
            exact hk M2 n1 _ hK2 hM2 ho2 hn1
          · skip
            exact absurd ((lg_cmp_eq _ _).mpr rfl) c_523
      · skip
        exact absurd rfl c_506

set_option maxHeartbeats 4000000 in
set_option maxRecDepth 100000 in
theorem b_endF {sa L t k q n w : Nat} {xs : Nat → Int32} {M : gM} {σ : MS} (hL : L ≤ 2560) (hK : kW M w σ) (hR : rM M (w + 45) σ) (ho : mK M (w + 57) = 12 ∧ mN M (w + 57) = 1) (hb : w + 58 ≤ n) (ht : 5 * t + 5 ≤ L) (hkc : k + 11 ≤ 693874) (hqc : q + 257 ≤ 7014482) (hk : ∀ M1 n1 σ1, kW M1 w σ1 → rM M1 (w + 45) σ1 → (mK M1 (w + 57) = 12 ∧ mN M1 (w + 57) = 1) → n ≤ n1 → GW μL_law room_1 (gQL sa L xs) (k + 11) (q + 257) 862 [some (.retAddr sa), some (.ref w), some (.ref (w + 45)), some (.ref (w + 57)), some (.int (nI (5 * t))), none, none, none] [] M1 n1) (hx4 : xs (5 * t + 4) = 0) : GW μL_law room_1 (gQL sa L xs) k q 423 [some (.retAddr sa), some (.ref w), some (.ref (w + 45)), some (.ref (w + 57)), some (.int (nI (5 * t))), none, none, none] [] M n := by
  have hRm := hR.mod
  refine g_aload_n dL_law_423 rfl ?_
  refine g_aload_nX dL_law_424 rfl ?_
  refine g_iload dL_law_425 rfl ?_
  refine g_iconst (v := nI 1) dL_law_427 rfl ?_
  refine g_iadd dL_law_428 ?_
  rw [nI_add]
  refine g_sld (j := 5 * t + 1) dL_law_429 rfl (by omega) hL ?_
  refine g_aload_nX dL_law_430 rfl ?_
  refine g_iload dL_law_431 rfl ?_
  refine g_iconst (v := nI 2) dL_law_433 rfl ?_
  refine g_iadd dL_law_434 ?_
  rw [nI_add]
  refine g_sld (j := 5 * t + 2) dL_law_435 rfl (by omega) hL ?_
  refine g_aload_nX dL_law_436 rfl ?_
  refine g_iload dL_law_437 rfl ?_
  refine g_iconst (v := nI 3) dL_law_439 rfl ?_
  refine g_iadd dL_law_440 ?_
  rw [nI_add]
  refine g_sld (j := 5 * t + 3) dL_law_441 rfl (by omega) hL ?_
  refine g_aload_nX dL_law_442 rfl ?_
  refine g_iload dL_law_443 rfl ?_
  refine g_iconst (v := nI 4) dL_law_445 rfl ?_
  refine g_iadd dL_law_446 ?_
  rw [nI_add]
  refine g_sld (j := 5 * t + 4) dL_law_447 rfl (by omega) hL ?_
  refine g_if_eq (tgt := 455) dL_law_448 (by decide) (fun c_448 => ?_) (fun c_448 => ?_)
  · skip
    refine g_iconst (v := bI false) dL_law_455 rfl ?_
    refine g_aload_n dL_law_456 rfl ?_
    refine g_callSW dL_law_457 sL_end (w_end M n w σ (xs (5 * t + 1)) (xs (5 * t + 2)) (xs (5 * t + 3)) false hK ho hb) tL_end (iw_32 22 rfl) rfl rfl (Nat.le_of_ble_eq_true rfl) (Nat.le_of_ble_eq_true rfl) (Nat.le_of_ble_eq_true rfl) (by show _ ≤ 693874; omega) (by show _ ≤ 7014482; omega) ?_
    intro r9 M1 n1 h9
    obtain ⟨h91, hn1, hK1, hR1, ho1, hv1⟩ := h9
    rw [h91]
    clear h91 r9
    have hM1 : rM M1 (w + 45) σ := hR.rw hR1
    have hM1m := hM1.mod
    refine g_istore dL_law_460 (Nat.le_of_ble_eq_true rfl) ?_
    refine g_aload_n dL_law_462 rfl ?_
    refine g_aload_nX dL_law_463 rfl ?_
    refine g_iload dL_law_464 rfl ?_
    refine g_iconst (v := nI 1) dL_law_466 rfl ?_
    refine g_iadd dL_law_467 ?_
    rw [nI_add]
    refine g_sld (j := 5 * t + 1) dL_law_468 rfl (by omega) hL ?_
    refine g_aload_nX dL_law_469 rfl ?_
    refine g_iload dL_law_470 rfl ?_
    refine g_iconst (v := nI 2) dL_law_472 rfl ?_
    refine g_iadd dL_law_473 ?_
    rw [nI_add]
    refine g_sld (j := 5 * t + 2) dL_law_474 rfl (by omega) hL ?_
    refine g_aload_nX dL_law_475 rfl ?_
    refine g_iload dL_law_476 rfl ?_
    refine g_iconst (v := nI 3) dL_law_478 rfl ?_
    refine g_iadd dL_law_479 ?_
    rw [nI_add]
    refine g_sld (j := 5 * t + 3) dL_law_480 rfl (by omega) hL ?_
    refine g_aload_nX dL_law_481 rfl ?_
    refine g_iload dL_law_482 rfl ?_
    refine g_iconst (v := nI 4) dL_law_484 rfl ?_
    refine g_iadd dL_law_485 ?_
    rw [nI_add]
    refine g_sld (j := 5 * t + 4) dL_law_486 rfl (by omega) hL ?_
    refine g_if_eq (tgt := 494) dL_law_487 (by decide) (fun c_487 => ?_) (fun c_487 => ?_)
    · skip
      refine g_iconst (v := bI false) dL_law_494 rfl ?_
      refine g_callV dL_law_495 sX9_end (s_end M1 n1 (w + 45) σ (xs (5 * t + 1)) (xs (5 * t + 2)) (xs (5 * t + 3)) false hM1) cl10 hM1m.1 iX9_end vX9_end (iw_33 7 rfl) rfl rfl (Nat.le_of_ble_eq_true rfl) (Nat.le_of_ble_eq_true rfl) (Nat.le_of_ble_eq_true rfl) (by show _ ≤ 693874; omega) (by show _ ≤ 7014482; omega) ?_
      intro r9 M2 n9 h9
      obtain ⟨h91, h93, hO2, hM2, h02⟩ := h9
      rw [h91, h93]
      clear h91 h93 r9 n9
      have hK2 : kW M2 w σ := hK1.offX hO2
      have ho2 : mK M2 (w + 57) = 12 ∧ mN M2 (w + 57) = 1 := ⟨by rw [hO2.1]; exact ho1.1, by rw [hO2.2.1]; exact ho1.2⟩
      have hv2 : (enZ σ (xs (5 * t + 1)) (xs (5 * t + 2)) (xs (5 * t + 3)) false).1 = 0 → mJ M2 (w + 57) 0 = (iZ (enZ σ (xs (5 * t + 1)) (xs (5 * t + 2)) (xs (5 * t + 3)) false).2).toInt64 := fun h => by rw [hO2.j (by unfold fX; omega)]; exact hv1 h
      have hM2m := hM2.mod
      refine g_istore dL_law_498 (Nat.le_of_ble_eq_true rfl) ?_
      refine g_aload_n dL_law_500 rfl ?_
      refine g_callV dL_law_501 sX9_thrown (m_thrown M2 n1 (w + 45) hM2m) cl10 hM2m.1 iX9_thrown vX9_thrown (iw_13 9 rfl) rfl rfl (Nat.le_of_ble_eq_true rfl) (Nat.le_of_ble_eq_true rfl) (Nat.le_of_ble_eq_true rfl) (by show _ ≤ 693874; omega) (by show _ ≤ 7014482; omega) ?_
      intro r9 M9 n9 h9
      obtain ⟨h91, h92, h93⟩ := h9
      rw [h91, h92, h93]
      clear h91 h92 h93 r9 M9 n9
      rw [h02]
      refine g_iload dL_law_504 rfl ?_
      refine g_icmp_eq (tgt := 511) dL_law_506 (by decide) (fun c_506 => ?_) (fun c_506 => ?_)
      · skip
        refine g_iload dL_law_511 rfl ?_
        refine g_if_ne (tgt := 528) dL_law_513 (by decide) (fun c_513 => ?_) (fun c_513 => ?_)
        · skip
          refine g_goto (tgt := 862) dL_law_528 (by decide) ?_
          refine g_drop 5 ?_
          refine g_drop 6 ?_
          refine g_drop 7 ?_
          refine g_widen (k2 := k + 11) (q2 := q + 257) (by omega) (by omega) ?_
          exact hk M2 n1 _ hK2 hM2 ho2 hn1
        · skip
          have hc0 : (enZ σ (xs (5 * t + 1)) (xs (5 * t + 2)) (xs (5 * t + 3)) false).1 = 0 := nI_z (enZ_le _ _ _ _ _ ) c_513
          have hv3 := hv2 hc0
          refine g_aload_n dL_law_516 rfl ?_
          refine g_iconst (v := nI 0) dL_law_517 rfl ?_
          refine g_laload dL_law_518 (j := 0) ho2.1 ho2.2 rfl (by decide) (by decide) ?_
          rw [hv3]
          refine g_iload dL_law_519 rfl ?_
          refine g_i2l dL_law_521 ?_
          refine g_lcmp dL_law_522 ?_
          refine g_if_eq (tgt := 528) dL_law_523 (by decide) (fun c_523 => ?_) (fun c_523 => ?_)
          · skip
            refine g_goto (tgt := 862) dL_law_528 (by decide) ?_
            refine g_drop 5 ?_
            refine g_drop 6 ?_
            refine g_drop 7 ?_
            refine g_widen (k2 := k + 11) (q2 := q + 257) (by omega) (by omega) ?_
            exact hk M2 n1 _ hK2 hM2 ho2 hn1
          · skip
            exact absurd ((lg_cmp_eq _ _).mpr rfl) c_523
      · skip
        exact absurd rfl c_506
    · skip
      exact absurd hx4 c_487
  · skip
    exact absurd hx4 c_448

