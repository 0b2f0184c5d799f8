/-! the reference: a step of the trial -/
theorem iZ_shr (x : Int32) {t : Nat} (ht : t < 32) : x >>> (nI t &&& 31) = iZ (shZ t x.toInt) := by
  have key : ∀ t : Fin 32, (nI t.val &&& 31).toBitVec.smod 32 = BitVec.ofNat 32 t.val := by decide +kernel
  have k1 := key ⟨t, ht⟩
  have hx := i_rng x
  rw [← Int32.toInt_inj]
  have h1 : (x >>> (nI t &&& 31)).toInt = (x.toBitVec.sshiftRight' ((nI t &&& 31).toBitVec.smod 32)).toInt := rfl
  rw [h1, k1, BitVec.toInt_sshiftRight', BitVec.toNat_ofNat, Nat.mod_eq_of_lt (by omega)]
  have h3 := shZ_r (x := x.toInt) (i_rng x) t
  rw [iZ_t h3.1 h3.2]
  rfl
theorem jI_tmod {x y : Int} (hx : r5 x) (hy : r5 y) (h0 : y ≠ 0) : jI x - jI x / jI y * jI y = jI (x.tmod y) := by
  rw [jI_div hx hy h0, jI_mul, jI_sub]
  congr 1
  rw [Int.tmod_def, Int.mul_comm]
/-- a number at a place; 0 where no place is named -/
def atP (now : Nat → Int32) (b : Int32) : Int32 := if isP b then now (pl b) else 0
def vV (s : St) (nb nc : Int32) (l : Int) : Int32 := if s.1 = 0 then s.2.2.1 else if s.1 = 1 then nb else if s.1 = 2 then nb + nc else if s.1 = 3 then nb - nc else if s.1 = 4 then nb * nc else if s.1 = 5 then nb &&& s.2.2.2 else if s.1 = 6 then iZ (shZ (pl s.2.2.2) nb.toInt) else if s.1 = 7 then iZ (nb.toInt.tdiv nc.toInt) else if s.1 = 8 then iZ (nb.toInt.tmod nc.toInt) else if s.1 = 9 then iZ (cutZ s.2.2.2 nb.toInt) else iZ (drw (lk1 l) s.2.2.1.toInt s.2.2.2.toInt)
/-- a step: where it goes on, the link, the numbers, how it ended (-1: not yet) -/
def stZ (s : St) (a : Nat) (l : Int) (now : Nat → Int32) : Nat × Int × (Nat → Int32) × Int32 :=
  if s.1 = 19 then (a, l, now, 0) else if s.1 = 18 then (pl s.2.1, l, now, -1) else if 11 ≤ s.1 then (if hlN (s.1 - 11) (now (pl s.2.1)).toInt (atP now s.2.2.1).toInt = true then pl s.2.2.2 else a + 1, l, now, -1)
  else if (s.1 = 7 ∨ s.1 = 8) ∧ atP now s.2.2.2 = 0 then (a, l, now, 1) else (a + 1, if s.1 = 10 then lk1 l else l, up1 now (pl s.2.1) (vV s (atP now s.2.2.1) (atP now s.2.2.2) l), -1)
def fD (m : Nat) : Nat → Nat → Prop := fun i k => (i = m ∧ (k = 19 ∨ k = 20)) ∨ i = m + 11
/-- the reference in a trial -/
def trI (M M1 : gM) (m : Nat) (l : Int) (now : Nat → Int32) (h : Int32) : Prop := Off M M1 (fD m) ∧ mJ M1 m 20 = jI l ∧ okK l ∧ (∀ p, p < 8 → mI M1 (m + 11) p = now p) ∧ mI M1 m 19 = h
theorem trI.gm {M M1 : gM} {m : Nat} {l : Int} {now : Nat → Int32} {h : Int32} (hI : trI M M1 m l now h) (hm : gMod M m) : gMod M1 m := hm.off hI.1
theorem trI.st {M M1 : gM} {m a : Nat} {s : St} {l : Int} {now : Nat → Int32} {h : Int32} (hI : trI M M1 m l now h) (hT : sT M m a s) : sT M1 m a s := hT.off hI.1 (fun i k h1 h2 => by unfold fD; omega)
set_option maxHeartbeats 4000000 in
set_option maxRecDepth 100000 in
theorem p_st348 {M M1 : gM} {n m a : Nat} {s : St} {l : Int} {now : Nat → Int32} (hm : gMod M m) (ha : a < 40) (hT : sT M m a s) (hv : vS s) (hI : trI M M1 m l now (-1)) {x : Int32} {v : Int32} {l1 : Int} (hk : s.1 < 11) (hl1 : l1 = if s.1 = 10 then lk1 l else l) (hx : x = s.2.1) (hv9 : v = vV s (atP now s.2.2.1) (atP now s.2.2.2) l) (hz : ¬ ((s.1 = 7 ∨ s.1 = 8) ∧ atP now s.2.2.2 = 0)) {M2 : gM} (hI2 : trI M M2 m l1 now (-1)) : GW μX9_step (gRm 2 45 0 0) (gTh (fun r M2 n1 => r = some (.int (nI (stZ s a l now).1)) ∧ n1 = n ∧ trI M M2 m (stZ s a l now).2.1 (stZ s a l now).2.2.1 (stZ s a l now).2.2.2) 0 0) 0 0 348 [some (.ref m), some (.int (nI a)), none, some (.int x), none, none, some (.int v)] [] M2 n := by
  have pa := hv.2.1 (by omega)
  refine g_aload_n dX9_step_348 rfl ?_
  refine g_getR (f := 18) dX9_step_349 cl10 (hI2.gm hm).1 (by decide) (Or.inl (iw_6 7 rfl)) (Or.inl rfl) rfl (hI2.gm hm).r_now ?_
  refine g_iload_n dX9_step_352 rfl ?_
  refine g_iload dX9_step_353 rfl ?_
  refine g_iastore dX9_step_355 (j := pl s.2.1) (hI2.gm hm).k_now (hI2.gm hm).n_now (hx.trans pa.eq) pa.lt (by decide) ?_
  refine g_iload_n dX9_step_356 rfl ?_
  refine g_iconst (v := nI 1) dX9_step_357 rfl ?_
  refine g_iadd dX9_step_358 ?_
  rw [nI_add]
  exact g_iret dX9_step_359 (Or.inl rfl) (Nat.le_of_ble_eq_true rfl) (Nat.le_of_ble_eq_true rfl) (by
    have e : stZ s a l now = (a + 1, l1, up1 now (pl s.2.1) v, -1) := by
      unfold stZ
      rw [if_neg (by omega), if_neg (by omega), if_neg (by omega), if_neg hz, hl1, hv9]
    rw [e]
    refine ⟨rfl, rfl, hI2.1.stI (Or.inr rfl), hI2.2.1, hI2.2.2.1, fun p hp => ?_, ?_⟩
    · rw [mI_st]
      by_cases q : p = pl s.2.1
      · subst q; rw [if_pos ⟨rfl, rfl⟩]; exact (up1_eq _ _ _).symm
      · rw [if_neg (by omega)]; exact (hI2.2.2.2.1 p hp).trans (up1_ne _ _ q).symm
    · rw [mI_st, if_neg (by omega)]; exact hI2.2.2.2.2)

set_option maxHeartbeats 4000000 in
set_option maxRecDepth 100000 in
theorem p_st93 {M M1 : gM} {n m a : Nat} {s : St} {l : Int} {now : Nat → Int32} (hm : gMod M m) (ha : a < 40) (hT : sT M m a s) (hv : vS s) (hI : trI M M1 m l now (-1)) {x nb nc : Int32} (h19 : ¬ s.1 = 19) (h18 : ¬ s.1 = 18) (hx : x = s.2.1) (hnb : nb = (atP now s.2.2.1)) (hnc : nc = (atP now s.2.2.2)) : GW μX9_step (gRm 2 45 0 0) (gTh (fun r M2 n1 => r = some (.int (nI (stZ s a l now).1)) ∧ n1 = n ∧ trI M M2 m (stZ s a l now).2.1 (stZ s a l now).2.2.1 (stZ s a l now).2.2.2) 0 0) 0 0 93 [some (.ref m), some (.int (nI a)), some (.int (nI s.1)), some (.int x), some (.int nb), some (.int nc), none] [] M1 n := by
  have hm1 := hI.gm hm
  have hT1 := hI.st hT
  have hk19 := hv.1
  have br := i_rng nb
  have cr := i_rng nc
  have z0 : (0 : Int32).toInt = 0 := rfl
  refine g_iload_n dX9_step_93 rfl ?_
  refine g_bipush (v := nI 11) dX9_step_94 rfl ?_
  refine g_icmp_lt (tgt := 130) dX9_step_96 (by decide) (fun c_96 => ?_) (fun c_96 => ?_)
  · skip
    rw [nI_ltI (by omega) (by omega)] at c_96
    refine g_iload_n dX9_step_130 rfl ?_
    refine g_bipush (v := nI 7) dX9_step_131 rfl ?_
    refine g_icmp_eq (tgt := 142) dX9_step_133 (by decide) (fun c_133 => ?_) (fun c_133 => ?_)
    · skip
      try rw [nI_inj (by omega) (by omega)] at c_133
      try rw [nI_inj (by omega) (by omega)] at c_139
      refine g_iload dX9_step_142 rfl ?_
      refine g_if_ne (tgt := 154) dX9_step_144 (by decide) (fun c_144 => ?_) (fun c_144 => ?_)
      · skip
        try rw [nI_inj (by omega) (by omega)] at c_133
        try rw [nI_inj (by omega) (by omega)] at c_139
        try rw [i_eq, z0] at c_144
        refine g_iload_n dX9_step_154 rfl ?_
        by_cases t_155_0 : s.1 = 0
        · skip
          refine g_tableIn (off := 53) (tgt := 208) dX9_step_155 (by rw [nI_t (by omega)]; omega) (by rw [nI_t (by omega)]; omega) (by rw [nI_t (by omega)]; rw [t_155_0]; rfl) (by decide) ?_
          refine g_aload_n dX9_step_208 rfl ?_
          refine g_getR (f := 9) dX9_step_209 cl10 hm1.1 (by decide) (Or.inl (iw_6 2 rfl)) (Or.inl rfl) rfl hm1.r_argB ?_
          refine g_iload_n dX9_step_212 rfl ?_
          refine g_iaload dX9_step_213 (j := a) hm1.k_argB hm1.n_argB rfl (by omega) (by decide) ?_
          rw [hT1.2.2.1]
          refine g_istore dX9_step_214 (Nat.le_of_ble_eq_true rfl) ?_
          refine g_goto (tgt := 348) dX9_step_216 (by decide) ?_
          refine g_msk [true, true, false, true, false, false, true] ?_
          have hz : ¬ ((s.1 = 7 ∨ s.1 = 8) ∧ atP now s.2.2.2 = 0) := by
            rw [← hnc, i_eq, z0]
            omega
          first
            | (exfalso; omega)
            | (refine p_st348 (l1 := l) (x := x) hm ha hT hv hI (by omega) (by rw [if_neg (by omega)]) hx ?_ hz hI
               rw [← hnb, ← hnc]
               unfold vV
               first
                 | rw [if_pos (by omega)]
                 | rw [if_neg (by omega), if_pos (by omega)]
                 | rw [if_neg (by omega), if_neg (by omega), if_pos (by omega)]
                 | rw [if_neg (by omega), if_neg (by omega), if_neg (by omega), if_pos (by omega)]
                 | rw [if_neg (by omega), if_neg (by omega), if_neg (by omega), if_neg (by omega), if_pos (by omega)]
                 | rw [if_neg (by omega), if_neg (by omega), if_neg (by omega), if_neg (by omega), if_neg (by omega), if_pos (by omega)]
                 | rw [if_neg (by omega), if_neg (by omega), if_neg (by omega), if_neg (by omega), if_neg (by omega), if_neg (by omega), if_pos (by omega)]
                 | rw [if_neg (by omega), if_neg (by omega), if_neg (by omega), if_neg (by omega), if_neg (by omega), if_neg (by omega), if_neg (by omega), if_pos (by omega)]
                 | rw [if_neg (by omega), if_neg (by omega), if_neg (by omega), if_neg (by omega), if_neg (by omega), if_neg (by omega), if_neg (by omega), if_neg (by omega), if_pos (by omega)]
                 | rw [if_neg (by omega), if_neg (by omega), if_neg (by omega), if_neg (by omega), if_neg (by omega), if_neg (by omega), if_neg (by omega), if_neg (by omega), if_neg (by omega), if_pos (by omega)])
            | (refine p_st348 (l1 := lk1 l) (x := x) hm ha hT hv hI (by omega) (by rw [if_pos (by omega)]) hx ?_ hz ⟨hI.1.stJ (Or.inl ⟨rfl, by omega⟩), by rw [mJ_st, if_pos ⟨rfl, rfl⟩], lk1_ok l, hI.2.2.2.1, hI.2.2.2.2⟩
               unfold vV
               rw [if_neg (by omega), if_neg (by omega), if_neg (by omega), if_neg (by omega), if_neg (by omega), if_neg (by omega), if_neg (by omega), if_neg (by omega), if_neg (by omega), if_neg (by omega)])
        · skip
          by_cases t_155_1 : s.1 = 1
          · skip
            refine g_tableIn (off := 64) (tgt := 219) dX9_step_155 (by rw [nI_t (by omega)]; omega) (by rw [nI_t (by omega)]; omega) (by rw [nI_t (by omega)]; rw [t_155_1]; rfl) (by decide) ?_
            refine g_iload dX9_step_219 rfl ?_
            refine g_istore dX9_step_221 (Nat.le_of_ble_eq_true rfl) ?_
            refine g_goto (tgt := 348) dX9_step_223 (by decide) ?_
            refine g_msk [true, true, false, true, false, false, true] ?_
            have hz : ¬ ((s.1 = 7 ∨ s.1 = 8) ∧ atP now s.2.2.2 = 0) := by
              rw [← hnc, i_eq, z0]
              omega
            first
              | (exfalso; omega)
              | (refine p_st348 (l1 := l) (x := x) hm ha hT hv hI (by omega) (by rw [if_neg (by omega)]) hx ?_ hz hI
                 rw [← hnb, ← hnc]
                 unfold vV
                 first
                   | rw [if_pos (by omega)]
                   | rw [if_neg (by omega), if_pos (by omega)]
                   | rw [if_neg (by omega), if_neg (by omega), if_pos (by omega)]
                   | rw [if_neg (by omega), if_neg (by omega), if_neg (by omega), if_pos (by omega)]
                   | rw [if_neg (by omega), if_neg (by omega), if_neg (by omega), if_neg (by omega), if_pos (by omega)]
                   | rw [if_neg (by omega), if_neg (by omega), if_neg (by omega), if_neg (by omega), if_neg (by omega), if_pos (by omega)]
                   | rw [if_neg (by omega), if_neg (by omega), if_neg (by omega), if_neg (by omega), if_neg (by omega), if_neg (by omega), if_pos (by omega)]
                   | rw [if_neg (by omega), if_neg (by omega), if_neg (by omega), if_neg (by omega), if_neg (by omega), if_neg (by omega), if_neg (by omega), if_pos (by omega)]
                   | rw [if_neg (by omega), if_neg (by omega), if_neg (by omega), if_neg (by omega), if_neg (by omega), if_neg (by omega), if_neg (by omega), if_neg (by omega), if_pos (by omega)]
                   | rw [if_neg (by omega), if_neg (by omega), if_neg (by omega), if_neg (by omega), if_neg (by omega), if_neg (by omega), if_neg (by omega), if_neg (by omega), if_neg (by omega), if_pos (by omega)])
              | (refine p_st348 (l1 := lk1 l) (x := x) hm ha hT hv hI (by omega) (by rw [if_pos (by omega)]) hx ?_ hz ⟨hI.1.stJ (Or.inl ⟨rfl, by omega⟩), by rw [mJ_st, if_pos ⟨rfl, rfl⟩], lk1_ok l, hI.2.2.2.1, hI.2.2.2.2⟩
                 unfold vV
                 rw [if_neg (by omega), if_neg (by omega), if_neg (by omega), if_neg (by omega), if_neg (by omega), if_neg (by omega), if_neg (by omega), if_neg (by omega), if_neg (by omega), if_neg (by omega)])
          · skip
            by_cases t_155_2 : s.1 = 2
            · skip
              refine g_tableIn (off := 71) (tgt := 226) dX9_step_155 (by rw [nI_t (by omega)]; omega) (by rw [nI_t (by omega)]; omega) (by rw [nI_t (by omega)]; rw [t_155_2]; rfl) (by decide) ?_
              refine g_iload dX9_step_226 rfl ?_
              refine g_iload dX9_step_228 rfl ?_
              refine g_iadd dX9_step_230 ?_
              refine g_istore dX9_step_231 (Nat.le_of_ble_eq_true rfl) ?_
              refine g_goto (tgt := 348) dX9_step_233 (by decide) ?_
              refine g_msk [true, true, false, true, false, false, true] ?_
              have hz : ¬ ((s.1 = 7 ∨ s.1 = 8) ∧ atP now s.2.2.2 = 0) := by
                rw [← hnc, i_eq, z0]
                omega
              first
                | (exfalso; omega)
                | (refine p_st348 (l1 := l) (x := x) hm ha hT hv hI (by omega) (by rw [if_neg (by omega)]) hx ?_ hz hI
                   rw [← hnb, ← hnc]
                   unfold vV
                   first
                     | rw [if_pos (by omega)]
                     | rw [if_neg (by omega), if_pos (by omega)]
                     | rw [if_neg (by omega), if_neg (by omega), if_pos (by omega)]
                     | rw [if_neg (by omega), if_neg (by omega), if_neg (by omega), if_pos (by omega)]
                     | rw [if_neg (by omega), if_neg (by omega), if_neg (by omega), if_neg (by omega), if_pos (by omega)]
                     | rw [if_neg (by omega), if_neg (by omega), if_neg (by omega), if_neg (by omega), if_neg (by omega), if_pos (by omega)]
                     | rw [if_neg (by omega), if_neg (by omega), if_neg (by omega), if_neg (by omega), if_neg (by omega), if_neg (by omega), if_pos (by omega)]
                     | rw [if_neg (by omega), if_neg (by omega), if_neg (by omega), if_neg (by omega), if_neg (by omega), if_neg (by omega), if_neg (by omega), if_pos (by omega)]
                     | rw [if_neg (by omega), if_neg (by omega), if_neg (by omega), if_neg (by omega), if_neg (by omega), if_neg (by omega), if_neg (by omega), if_neg (by omega), if_pos (by omega)]
                     | rw [if_neg (by omega), if_neg (by omega), if_neg (by omega), if_neg (by omega), if_neg (by omega), if_neg (by omega), if_neg (by omega), if_neg (by omega), if_neg (by omega), if_pos (by omega)])
                | (refine p_st348 (l1 := lk1 l) (x := x) hm ha hT hv hI (by omega) (by rw [if_pos (by omega)]) hx ?_ hz ⟨hI.1.stJ (Or.inl ⟨rfl, by omega⟩), by rw [mJ_st, if_pos ⟨rfl, rfl⟩], lk1_ok l, hI.2.2.2.1, hI.2.2.2.2⟩
                   unfold vV
                   rw [if_neg (by omega), if_neg (by omega), if_neg (by omega), if_neg (by omega), if_neg (by omega), if_neg (by omega), if_neg (by omega), if_neg (by omega), if_neg (by omega), if_neg (by omega)])
            · skip
              by_cases t_155_3 : s.1 = 3
              · skip
                refine g_tableIn (off := 81) (tgt := 236) dX9_step_155 (by rw [nI_t (by omega)]; omega) (by rw [nI_t (by omega)]; omega) (by rw [nI_t (by omega)]; rw [t_155_3]; rfl) (by decide) ?_
                refine g_iload dX9_step_236 rfl ?_
                refine g_iload dX9_step_238 rfl ?_
                refine g_isub dX9_step_240 ?_
                refine g_istore dX9_step_241 (Nat.le_of_ble_eq_true rfl) ?_
                refine g_goto (tgt := 348) dX9_step_243 (by decide) ?_
                refine g_msk [true, true, false, true, false, false, true] ?_
                have hz : ¬ ((s.1 = 7 ∨ s.1 = 8) ∧ atP now s.2.2.2 = 0) := by
                  rw [← hnc, i_eq, z0]
                  omega
                first
                  | (exfalso; omega)
                  | (refine p_st348 (l1 := l) (x := x) hm ha hT hv hI (by omega) (by rw [if_neg (by omega)]) hx ?_ hz hI
                     rw [← hnb, ← hnc]
                     unfold vV
                     first
                       | rw [if_pos (by omega)]
                       | rw [if_neg (by omega), if_pos (by omega)]
                       | rw [if_neg (by omega), if_neg (by omega), if_pos (by omega)]
                       | rw [if_neg (by omega), if_neg (by omega), if_neg (by omega), if_pos (by omega)]
                       | rw [if_neg (by omega), if_neg (by omega), if_neg (by omega), if_neg (by omega), if_pos (by omega)]
                       | rw [if_neg (by omega), if_neg (by omega), if_neg (by omega), if_neg (by omega), if_neg (by omega), if_pos (by omega)]
                       | rw [if_neg (by omega), if_neg (by omega), if_neg (by omega), if_neg (by omega), if_neg (by omega), if_neg (by omega), if_pos (by omega)]
                       | rw [if_neg (by omega), if_neg (by omega), if_neg (by omega), if_neg (by omega), if_neg (by omega), if_neg (by omega), if_neg (by omega), if_pos (by omega)]
                       | rw [if_neg (by omega), if_neg (by omega), if_neg (by omega), if_neg (by omega), if_neg (by omega), if_neg (by omega), if_neg (by omega), if_neg (by omega), if_pos (by omega)]
                       | rw [if_neg (by omega), if_neg (by omega), if_neg (by omega), if_neg (by omega), if_neg (by omega), if_neg (by omega), if_neg (by omega), if_neg (by omega), if_neg (by omega), if_pos (by omega)])
                  | (refine p_st348 (l1 := lk1 l) (x := x) hm ha hT hv hI (by omega) (by rw [if_pos (by omega)]) hx ?_ hz ⟨hI.1.stJ (Or.inl ⟨rfl, by omega⟩), by rw [mJ_st, if_pos ⟨rfl, rfl⟩], lk1_ok l, hI.2.2.2.1, hI.2.2.2.2⟩
                     unfold vV
                     rw [if_neg (by omega), if_neg (by omega), if_neg (by omega), if_neg (by omega), if_neg (by omega), if_neg (by omega), if_neg (by omega), if_neg (by omega), if_neg (by omega), if_neg (by omega)])
              · skip
                by_cases t_155_4 : s.1 = 4
                · skip
                  refine g_tableIn (off := 91) (tgt := 246) dX9_step_155 (by rw [nI_t (by omega)]; omega) (by rw [nI_t (by omega)]; omega) (by rw [nI_t (by omega)]; rw [t_155_4]; rfl) (by decide) ?_
                  refine g_iload dX9_step_246 rfl ?_
                  refine g_iload dX9_step_248 rfl ?_
                  refine g_imul dX9_step_250 ?_
                  refine g_istore dX9_step_251 (Nat.le_of_ble_eq_true rfl) ?_
                  refine g_goto (tgt := 348) dX9_step_253 (by decide) ?_
                  refine g_msk [true, true, false, true, false, false, true] ?_
                  have hz : ¬ ((s.1 = 7 ∨ s.1 = 8) ∧ atP now s.2.2.2 = 0) := by
                    rw [← hnc, i_eq, z0]
                    omega
                  first
                    | (exfalso; omega)
                    | (refine p_st348 (l1 := l) (x := x) hm ha hT hv hI (by omega) (by rw [if_neg (by omega)]) hx ?_ hz hI
                       rw [← hnb, ← hnc]
                       unfold vV
                       first
                         | rw [if_pos (by omega)]
                         | rw [if_neg (by omega), if_pos (by omega)]
                         | rw [if_neg (by omega), if_neg (by omega), if_pos (by omega)]
                         | rw [if_neg (by omega), if_neg (by omega), if_neg (by omega), if_pos (by omega)]
                         | rw [if_neg (by omega), if_neg (by omega), if_neg (by omega), if_neg (by omega), if_pos (by omega)]
                         | rw [if_neg (by omega), if_neg (by omega), if_neg (by omega), if_neg (by omega), if_neg (by omega), if_pos (by omega)]
                         | rw [if_neg (by omega), if_neg (by omega), if_neg (by omega), if_neg (by omega), if_neg (by omega), if_neg (by omega), if_pos (by omega)]
                         | rw [if_neg (by omega), if_neg (by omega), if_neg (by omega), if_neg (by omega), if_neg (by omega), if_neg (by omega), if_neg (by omega), if_pos (by omega)]
                         | rw [if_neg (by omega), if_neg (by omega), if_neg (by omega), if_neg (by omega), if_neg (by omega), if_neg (by omega), if_neg (by omega), if_neg (by omega), if_pos (by omega)]
                         | rw [if_neg (by omega), if_neg (by omega), if_neg (by omega), if_neg (by omega), if_neg (by omega), if_neg (by omega), if_neg (by omega), if_neg (by omega), if_neg (by omega), if_pos (by omega)])
                    | (refine p_st348 (l1 := lk1 l) (x := x) hm ha hT hv hI (by omega) (by rw [if_pos (by omega)]) hx ?_ hz ⟨hI.1.stJ (Or.inl ⟨rfl, by omega⟩), by rw [mJ_st, if_pos ⟨rfl, rfl⟩], lk1_ok l, hI.2.2.2.1, hI.2.2.2.2⟩
                       unfold vV
                       rw [if_neg (by omega), if_neg (by omega), if_neg (by omega), if_neg (by omega), if_neg (by omega), if_neg (by omega), if_neg (by omega), if_neg (by omega), if_neg (by omega), if_neg (by omega)])
                · skip
                  by_cases t_155_5 : s.1 = 5
                  · skip
                    refine g_tableIn (off := 101) (tgt := 256) dX9_step_155 (by rw [nI_t (by omega)]; omega) (by rw [nI_t (by omega)]; omega) (by rw [nI_t (by omega)]; rw [t_155_5]; rfl) (by decide) ?_
                    refine g_iload dX9_step_256 rfl ?_
                    refine g_aload_n dX9_step_258 rfl ?_
                    refine g_getR (f := 10) dX9_step_259 cl10 hm1.1 (by decide) (Or.inl (iw_6 3 rfl)) (Or.inl rfl) rfl hm1.r_argC ?_
                    refine g_iload_n dX9_step_262 rfl ?_
                    refine g_iaload dX9_step_263 (j := a) hm1.k_argC hm1.n_argC rfl (by omega) (by decide) ?_
                    rw [hT1.2.2.2]
                    refine g_iand dX9_step_264 ?_
                    refine g_istore dX9_step_265 (Nat.le_of_ble_eq_true rfl) ?_
                    refine g_goto (tgt := 348) dX9_step_267 (by decide) ?_
                    refine g_msk [true, true, false, true, false, false, true] ?_
                    have hz : ¬ ((s.1 = 7 ∨ s.1 = 8) ∧ atP now s.2.2.2 = 0) := by
                      rw [← hnc, i_eq, z0]
                      omega
                    first
                      | (exfalso; omega)
                      | (refine p_st348 (l1 := l) (x := x) hm ha hT hv hI (by omega) (by rw [if_neg (by omega)]) hx ?_ hz hI
                         rw [← hnb, ← hnc]
                         unfold vV
                         first
                           | rw [if_pos (by omega)]
                           | rw [if_neg (by omega), if_pos (by omega)]
                           | rw [if_neg (by omega), if_neg (by omega), if_pos (by omega)]
                           | rw [if_neg (by omega), if_neg (by omega), if_neg (by omega), if_pos (by omega)]
                           | rw [if_neg (by omega), if_neg (by omega), if_neg (by omega), if_neg (by omega), if_pos (by omega)]
                           | rw [if_neg (by omega), if_neg (by omega), if_neg (by omega), if_neg (by omega), if_neg (by omega), if_pos (by omega)]
                           | rw [if_neg (by omega), if_neg (by omega), if_neg (by omega), if_neg (by omega), if_neg (by omega), if_neg (by omega), if_pos (by omega)]
                           | rw [if_neg (by omega), if_neg (by omega), if_neg (by omega), if_neg (by omega), if_neg (by omega), if_neg (by omega), if_neg (by omega), if_pos (by omega)]
                           | rw [if_neg (by omega), if_neg (by omega), if_neg (by omega), if_neg (by omega), if_neg (by omega), if_neg (by omega), if_neg (by omega), if_neg (by omega), if_pos (by omega)]
                           | rw [if_neg (by omega), if_neg (by omega), if_neg (by omega), if_neg (by omega), if_neg (by omega), if_neg (by omega), if_neg (by omega), if_neg (by omega), if_neg (by omega), if_pos (by omega)])
                      | (refine p_st348 (l1 := lk1 l) (x := x) hm ha hT hv hI (by omega) (by rw [if_pos (by omega)]) hx ?_ hz ⟨hI.1.stJ (Or.inl ⟨rfl, by omega⟩), by rw [mJ_st, if_pos ⟨rfl, rfl⟩], lk1_ok l, hI.2.2.2.1, hI.2.2.2.2⟩
                         unfold vV
                         rw [if_neg (by omega), if_neg (by omega), if_neg (by omega), if_neg (by omega), if_neg (by omega), if_neg (by omega), if_neg (by omega), if_neg (by omega), if_neg (by omega), if_neg (by omega)])
                  · skip
                    by_cases t_155_6 : s.1 = 6
                    · skip
                      refine g_tableIn (off := 115) (tgt := 270) dX9_step_155 (by rw [nI_t (by omega)]; omega) (by rw [nI_t (by omega)]; omega) (by rw [nI_t (by omega)]; rw [t_155_6]; rfl) (by decide) ?_
                      refine g_iload dX9_step_270 rfl ?_
                      refine g_aload_n dX9_step_272 rfl ?_
                      refine g_getR (f := 10) dX9_step_273 cl10 hm1.1 (by decide) (Or.inl (iw_6 3 rfl)) (Or.inl rfl) rfl hm1.r_argC ?_
                      refine g_iload_n dX9_step_276 rfl ?_
                      refine g_iaload dX9_step_277 (j := a) hm1.k_argC hm1.n_argC rfl (by omega) (by decide) ?_
                      rw [show mI M1 (m + 8) a = nI (pl s.2.2.2) from hT1.2.2.2.trans (pl_eq (hv.2.2.2.2.2.1 t_155_6).1)]
                      refine g_ishr dX9_step_278 ?_
                      rw [iZ_shr nb (by have h7 := hv.2.2.2.2.2.1 t_155_6; unfold pl; omega)]
                      refine g_istore dX9_step_279 (Nat.le_of_ble_eq_true rfl) ?_
                      refine g_goto (tgt := 348) dX9_step_281 (by decide) ?_
                      refine g_msk [true, true, false, true, false, false, true] ?_
                      have hz : ¬ ((s.1 = 7 ∨ s.1 = 8) ∧ atP now s.2.2.2 = 0) := by
                        rw [← hnc, i_eq, z0]
                        omega
                      first
                        | (exfalso; omega)
                        | (refine p_st348 (l1 := l) (x := x) hm ha hT hv hI (by omega) (by rw [if_neg (by omega)]) hx ?_ hz hI
                           rw [← hnb, ← hnc]
                           unfold vV
                           first
                             | rw [if_pos (by omega)]
                             | rw [if_neg (by omega), if_pos (by omega)]
                             | rw [if_neg (by omega), if_neg (by omega), if_pos (by omega)]
                             | rw [if_neg (by omega), if_neg (by omega), if_neg (by omega), if_pos (by omega)]
                             | rw [if_neg (by omega), if_neg (by omega), if_neg (by omega), if_neg (by omega), if_pos (by omega)]
                             | rw [if_neg (by omega), if_neg (by omega), if_neg (by omega), if_neg (by omega), if_neg (by omega), if_pos (by omega)]
                             | rw [if_neg (by omega), if_neg (by omega), if_neg (by omega), if_neg (by omega), if_neg (by omega), if_neg (by omega), if_pos (by omega)]
                             | rw [if_neg (by omega), if_neg (by omega), if_neg (by omega), if_neg (by omega), if_neg (by omega), if_neg (by omega), if_neg (by omega), if_pos (by omega)]
                             | rw [if_neg (by omega), if_neg (by omega), if_neg (by omega), if_neg (by omega), if_neg (by omega), if_neg (by omega), if_neg (by omega), if_neg (by omega), if_pos (by omega)]
                             | rw [if_neg (by omega), if_neg (by omega), if_neg (by omega), if_neg (by omega), if_neg (by omega), if_neg (by omega), if_neg (by omega), if_neg (by omega), if_neg (by omega), if_pos (by omega)])
                        | (refine p_st348 (l1 := lk1 l) (x := x) hm ha hT hv hI (by omega) (by rw [if_pos (by omega)]) hx ?_ hz ⟨hI.1.stJ (Or.inl ⟨rfl, by omega⟩), by rw [mJ_st, if_pos ⟨rfl, rfl⟩], lk1_ok l, hI.2.2.2.1, hI.2.2.2.2⟩
                           unfold vV
                           rw [if_neg (by omega), if_neg (by omega), if_neg (by omega), if_neg (by omega), if_neg (by omega), if_neg (by omega), if_neg (by omega), if_neg (by omega), if_neg (by omega), if_neg (by omega)])
                    · skip
                      by_cases t_155_7 : s.1 = 7
                      · skip
                        refine g_tableIn (off := 129) (tgt := 284) dX9_step_155 (by rw [nI_t (by omega)]; omega) (by rw [nI_t (by omega)]; omega) (by rw [nI_t (by omega)]; rw [t_155_7]; rfl) (by decide) ?_
                        refine g_iload dX9_step_284 rfl ?_
                        refine g_i2l dX9_step_286 ?_
                        rw [i_j]
                        refine g_iload dX9_step_287 rfl ?_
                        refine g_i2l dX9_step_289 ?_
                        rw [i_j]
                        refine g_ldiv dX9_step_290 (jI_ne (by constructor <;> omega) (by omega)) ?_
                        rw [jI_div br cr (by omega)]
                        refine g_l2i dX9_step_291 ?_
                        rw [jI_i]
                        refine g_istore dX9_step_292 (Nat.le_of_ble_eq_true rfl) ?_
                        refine g_goto (tgt := 348) dX9_step_294 (by decide) ?_
                        refine g_msk [true, true, false, true, false, false, true] ?_
                        have hz : ¬ ((s.1 = 7 ∨ s.1 = 8) ∧ atP now s.2.2.2 = 0) := by
                          rw [← hnc, i_eq, z0]
                          omega
                        first
                          | (exfalso; omega)
                          | (refine p_st348 (l1 := l) (x := x) hm ha hT hv hI (by omega) (by rw [if_neg (by omega)]) hx ?_ hz hI
                             rw [← hnb, ← hnc]
                             unfold vV
                             first
                               | rw [if_pos (by omega)]
                               | rw [if_neg (by omega), if_pos (by omega)]
                               | rw [if_neg (by omega), if_neg (by omega), if_pos (by omega)]
                               | rw [if_neg (by omega), if_neg (by omega), if_neg (by omega), if_pos (by omega)]
                               | rw [if_neg (by omega), if_neg (by omega), if_neg (by omega), if_neg (by omega), if_pos (by omega)]
                               | rw [if_neg (by omega), if_neg (by omega), if_neg (by omega), if_neg (by omega), if_neg (by omega), if_pos (by omega)]
                               | rw [if_neg (by omega), if_neg (by omega), if_neg (by omega), if_neg (by omega), if_neg (by omega), if_neg (by omega), if_pos (by omega)]
                               | rw [if_neg (by omega), if_neg (by omega), if_neg (by omega), if_neg (by omega), if_neg (by omega), if_neg (by omega), if_neg (by omega), if_pos (by omega)]
                               | rw [if_neg (by omega), if_neg (by omega), if_neg (by omega), if_neg (by omega), if_neg (by omega), if_neg (by omega), if_neg (by omega), if_neg (by omega), if_pos (by omega)]
                               | rw [if_neg (by omega), if_neg (by omega), if_neg (by omega), if_neg (by omega), if_neg (by omega), if_neg (by omega), if_neg (by omega), if_neg (by omega), if_neg (by omega), if_pos (by omega)])
                          | (refine p_st348 (l1 := lk1 l) (x := x) hm ha hT hv hI (by omega) (by rw [if_pos (by omega)]) hx ?_ hz ⟨hI.1.stJ (Or.inl ⟨rfl, by omega⟩), by rw [mJ_st, if_pos ⟨rfl, rfl⟩], lk1_ok l, hI.2.2.2.1, hI.2.2.2.2⟩
                             unfold vV
                             rw [if_neg (by omega), if_neg (by omega), if_neg (by omega), if_neg (by omega), if_neg (by omega), if_neg (by omega), if_neg (by omega), if_neg (by omega), if_neg (by omega), if_neg (by omega)])
                      · skip
                        by_cases t_155_8 : s.1 = 8
                        · skip
                          refine g_tableIn (off := 142) (tgt := 297) dX9_step_155 (by rw [nI_t (by omega)]; omega) (by rw [nI_t (by omega)]; omega) (by rw [nI_t (by omega)]; rw [t_155_8]; rfl) (by decide) ?_
                          refine g_iload dX9_step_297 rfl ?_
                          refine g_i2l dX9_step_299 ?_
                          rw [i_j]
                          refine g_iload dX9_step_300 rfl ?_
                          refine g_i2l dX9_step_302 ?_
                          rw [i_j]
                          refine g_lrem dX9_step_303 (jI_ne (by constructor <;> omega) (by omega)) ?_
                          rw [jI_tmod br cr (by omega)]
                          refine g_l2i dX9_step_304 ?_
                          rw [jI_i]
                          refine g_istore dX9_step_305 (Nat.le_of_ble_eq_true rfl) ?_
                          refine g_goto (tgt := 348) dX9_step_307 (by decide) ?_
                          refine g_msk [true, true, false, true, false, false, true] ?_
                          have hz : ¬ ((s.1 = 7 ∨ s.1 = 8) ∧ atP now s.2.2.2 = 0) := by
                            rw [← hnc, i_eq, z0]
                            omega
                          first
                            | (exfalso; omega)
                            | (refine p_st348 (l1 := l) (x := x) hm ha hT hv hI (by omega) (by rw [if_neg (by omega)]) hx ?_ hz hI
                               rw [← hnb, ← hnc]
                               unfold vV
                               first
                                 | rw [if_pos (by omega)]
                                 | rw [if_neg (by omega), if_pos (by omega)]
                                 | rw [if_neg (by omega), if_neg (by omega), if_pos (by omega)]
                                 | rw [if_neg (by omega), if_neg (by omega), if_neg (by omega), if_pos (by omega)]
                                 | rw [if_neg (by omega), if_neg (by omega), if_neg (by omega), if_neg (by omega), if_pos (by omega)]
                                 | rw [if_neg (by omega), if_neg (by omega), if_neg (by omega), if_neg (by omega), if_neg (by omega), if_pos (by omega)]
                                 | rw [if_neg (by omega), if_neg (by omega), if_neg (by omega), if_neg (by omega), if_neg (by omega), if_neg (by omega), if_pos (by omega)]
                                 | rw [if_neg (by omega), if_neg (by omega), if_neg (by omega), if_neg (by omega), if_neg (by omega), if_neg (by omega), if_neg (by omega), if_pos (by omega)]
                                 | rw [if_neg (by omega), if_neg (by omega), if_neg (by omega), if_neg (by omega), if_neg (by omega), if_neg (by omega), if_neg (by omega), if_neg (by omega), if_pos (by omega)]
                                 | rw [if_neg (by omega), if_neg (by omega), if_neg (by omega), if_neg (by omega), if_neg (by omega), if_neg (by omega), if_neg (by omega), if_neg (by omega), if_neg (by omega), if_pos (by omega)])
                            | (refine p_st348 (l1 := lk1 l) (x := x) hm ha hT hv hI (by omega) (by rw [if_pos (by omega)]) hx ?_ hz ⟨hI.1.stJ (Or.inl ⟨rfl, by omega⟩), by rw [mJ_st, if_pos ⟨rfl, rfl⟩], lk1_ok l, hI.2.2.2.1, hI.2.2.2.2⟩
                               unfold vV
                               rw [if_neg (by omega), if_neg (by omega), if_neg (by omega), if_neg (by omega), if_neg (by omega), if_neg (by omega), if_neg (by omega), if_neg (by omega), if_neg (by omega), if_neg (by omega)])
                        · skip
                          by_cases t_155_9 : s.1 = 9
                          · skip
                            refine g_tableIn (off := 155) (tgt := 310) dX9_step_155 (by rw [nI_t (by omega)]; omega) (by rw [nI_t (by omega)]; omega) (by rw [nI_t (by omega)]; rw [t_155_9]; rfl) (by decide) ?_
                            refine g_iload dX9_step_310 rfl ?_
                            refine g_i2l dX9_step_312 ?_
                            rw [i_j]
                            refine g_aload_n dX9_step_313 rfl ?_
                            refine g_getR (f := 10) dX9_step_314 cl10 hm1.1 (by decide) (Or.inl (iw_6 3 rfl)) (Or.inl rfl) rfl hm1.r_argC ?_
                            refine g_iload_n dX9_step_317 rfl ?_
                            refine g_iaload dX9_step_318 (j := a) hm1.k_argC hm1.n_argC rfl (by omega) (by decide) ?_
                            rw [hT1.2.2.2]
                            refine g_callS dX9_step_319 sX9_cut (m_cut M1 n nb.toInt s.2.2.2) tX9_cut (iw_27 0 rfl) rfl rfl (Nat.le_of_ble_eq_true rfl) (Nat.le_of_ble_eq_true rfl) (Nat.le_of_ble_eq_true rfl) (Nat.le_of_ble_eq_true rfl) (Nat.le_of_ble_eq_true rfl) ?_
                            intro r9 M9 n9 h9
                            obtain ⟨h91, h92, h93⟩ := h9
                            rw [h91, h92, h93]
                            clear h91 h92 h93 r9 M9 n9
                            refine g_l2i dX9_step_322 ?_
                            rw [jI_i]
                            refine g_istore dX9_step_323 (Nat.le_of_ble_eq_true rfl) ?_
                            refine g_goto (tgt := 348) dX9_step_325 (by decide) ?_
                            refine g_msk [true, true, false, true, false, false, true] ?_
                            have hz : ¬ ((s.1 = 7 ∨ s.1 = 8) ∧ atP now s.2.2.2 = 0) := by
                              rw [← hnc, i_eq, z0]
                              omega
                            first
                              | (exfalso; omega)
                              | (refine p_st348 (l1 := l) (x := x) hm ha hT hv hI (by omega) (by rw [if_neg (by omega)]) hx ?_ hz hI
                                 rw [← hnb, ← hnc]
                                 unfold vV
                                 first
                                   | rw [if_pos (by omega)]
                                   | rw [if_neg (by omega), if_pos (by omega)]
                                   | rw [if_neg (by omega), if_neg (by omega), if_pos (by omega)]
                                   | rw [if_neg (by omega), if_neg (by omega), if_neg (by omega), if_pos (by omega)]
                                   | rw [if_neg (by omega), if_neg (by omega), if_neg (by omega), if_neg (by omega), if_pos (by omega)]
                                   | rw [if_neg (by omega), if_neg (by omega), if_neg (by omega), if_neg (by omega), if_neg (by omega), if_pos (by omega)]
                                   | rw [if_neg (by omega), if_neg (by omega), if_neg (by omega), if_neg (by omega), if_neg (by omega), if_neg (by omega), if_pos (by omega)]
                                   | rw [if_neg (by omega), if_neg (by omega), if_neg (by omega), if_neg (by omega), if_neg (by omega), if_neg (by omega), if_neg (by omega), if_pos (by omega)]
                                   | rw [if_neg (by omega), if_neg (by omega), if_neg (by omega), if_neg (by omega), if_neg (by omega), if_neg (by omega), if_neg (by omega), if_neg (by omega), if_pos (by omega)]
                                   | rw [if_neg (by omega), if_neg (by omega), if_neg (by omega), if_neg (by omega), if_neg (by omega), if_neg (by omega), if_neg (by omega), if_neg (by omega), if_neg (by omega), if_pos (by omega)])
                              | (refine p_st348 (l1 := lk1 l) (x := x) hm ha hT hv hI (by omega) (by rw [if_pos (by omega)]) hx ?_ hz ⟨hI.1.stJ (Or.inl ⟨rfl, by omega⟩), by rw [mJ_st, if_pos ⟨rfl, rfl⟩], lk1_ok l, hI.2.2.2.1, hI.2.2.2.2⟩
                                 unfold vV
                                 rw [if_neg (by omega), if_neg (by omega), if_neg (by omega), if_neg (by omega), if_neg (by omega), if_neg (by omega), if_neg (by omega), if_neg (by omega), if_neg (by omega), if_neg (by omega)])
                          · skip
                            refine g_tableOut (tgt := 328) dX9_step_155 (by rw [nI_t (by omega)]; omega) (by decide) ?_
                            refine g_aload_n dX9_step_328 rfl ?_
                            refine g_aload_n dX9_step_329 rfl ?_
                            refine g_getR (f := 9) dX9_step_330 cl10 hm1.1 (by decide) (Or.inl (iw_6 2 rfl)) (Or.inl rfl) rfl hm1.r_argB ?_
                            refine g_iload_n dX9_step_333 rfl ?_
                            refine g_iaload dX9_step_334 (j := a) hm1.k_argB hm1.n_argB rfl (by omega) (by decide) ?_
                            rw [hT1.2.2.1]
                            refine g_i2l dX9_step_335 ?_
                            rw [i_j]
                            refine g_aload_n dX9_step_336 rfl ?_
                            refine g_getR (f := 10) dX9_step_337 cl10 hm1.1 (by decide) (Or.inl (iw_6 3 rfl)) (Or.inl rfl) rfl hm1.r_argC ?_
                            refine g_iload_n dX9_step_340 rfl ?_
                            refine g_iaload dX9_step_341 (j := a) hm1.k_argC hm1.n_argC rfl (by omega) (by decide) ?_
                            rw [hT1.2.2.2]
                            refine g_i2l dX9_step_342 ?_
                            rw [i_j]
                            refine g_callV dX9_step_343 sX9_drawn (m_drawn M1 n m l s.2.2.1.toInt s.2.2.2.toInt hm1 hI.2.1 hI.2.2.1 (i_rng _) (i_rng _) (hv.2.2.2.2.2.2.2.1 (by omega))) cl10 hm1.1 iX9_drawn vX9_drawn (iw_38 2 rfl) rfl rfl (Nat.le_of_ble_eq_true rfl) (Nat.le_of_ble_eq_true rfl) (Nat.le_of_ble_eq_true rfl) (Nat.le_of_ble_eq_true rfl) (Nat.le_of_ble_eq_true rfl) ?_
                            intro r9 M9 n9 h9
                            obtain ⟨h91, h92, h93⟩ := h9
                            rw [h91, h92, h93]
                            clear h91 h92 h93 r9 M9 n9
                            refine g_istore dX9_step_346 (Nat.le_of_ble_eq_true rfl) ?_
                            refine g_msk [true, true, false, true, false, false, true] ?_
                            have hz : ¬ ((s.1 = 7 ∨ s.1 = 8) ∧ atP now s.2.2.2 = 0) := by
                              rw [← hnc, i_eq, z0]
                              omega
                            first
                              | (exfalso; omega)
                              | (refine p_st348 (l1 := l) (x := x) hm ha hT hv hI (by omega) (by rw [if_neg (by omega)]) hx ?_ hz hI
                                 rw [← hnb, ← hnc]
                                 unfold vV
                                 first
                                   | rw [if_pos (by omega)]
                                   | rw [if_neg (by omega), if_pos (by omega)]
                                   | rw [if_neg (by omega), if_neg (by omega), if_pos (by omega)]
                                   | rw [if_neg (by omega), if_neg (by omega), if_neg (by omega), if_pos (by omega)]
                                   | rw [if_neg (by omega), if_neg (by omega), if_neg (by omega), if_neg (by omega), if_pos (by omega)]
                                   | rw [if_neg (by omega), if_neg (by omega), if_neg (by omega), if_neg (by omega), if_neg (by omega), if_pos (by omega)]
                                   | rw [if_neg (by omega), if_neg (by omega), if_neg (by omega), if_neg (by omega), if_neg (by omega), if_neg (by omega), if_pos (by omega)]
                                   | rw [if_neg (by omega), if_neg (by omega), if_neg (by omega), if_neg (by omega), if_neg (by omega), if_neg (by omega), if_neg (by omega), if_pos (by omega)]
                                   | rw [if_neg (by omega), if_neg (by omega), if_neg (by omega), if_neg (by omega), if_neg (by omega), if_neg (by omega), if_neg (by omega), if_neg (by omega), if_pos (by omega)]
                                   | rw [if_neg (by omega), if_neg (by omega), if_neg (by omega), if_neg (by omega), if_neg (by omega), if_neg (by omega), if_neg (by omega), if_neg (by omega), if_neg (by omega), if_pos (by omega)])
                              | (refine p_st348 (l1 := lk1 l) (x := x) hm ha hT hv hI (by omega) (by rw [if_pos (by omega)]) hx ?_ hz ⟨hI.1.stJ (Or.inl ⟨rfl, by omega⟩), by rw [mJ_st, if_pos ⟨rfl, rfl⟩], lk1_ok l, hI.2.2.2.1, hI.2.2.2.2⟩
                                 unfold vV
                                 rw [if_neg (by omega), if_neg (by omega), if_neg (by omega), if_neg (by omega), if_neg (by omega), if_neg (by omega), if_neg (by omega), if_neg (by omega), if_neg (by omega), if_neg (by omega)])
      · skip
        refine g_aload_n dX9_step_147 rfl ?_
        refine g_iconst (v := nI 1) dX9_step_148 rfl ?_
        refine g_putI (f := 19) dX9_step_149 cl10 hm1.1 (by decide) (Or.inl (iw_6 8 rfl)) (Or.inl rfl) (Or.inl rfl) (Or.inl rfl) ?_
        refine g_iload_n dX9_step_152 rfl ?_
        exact g_iret dX9_step_153 (Or.inl rfl) (Nat.le_of_ble_eq_true rfl) (Nat.le_of_ble_eq_true rfl) (by
          have e : stZ s a l now = (a, l, now, 1) := by
            unfold stZ
            rw [if_neg h19, if_neg h18, if_neg (by omega), if_pos ⟨by omega, by rw [← hnc]; exact c_144⟩]
          rw [e]
          exact ⟨rfl, rfl, hI.1.stI (Or.inl ⟨rfl, by omega⟩), hI.2.1, hI.2.2.1, fun p hp => by rw [mI_st, if_neg (by omega)]; exact hI.2.2.2.1 p hp, by rw [mI_st, if_pos ⟨rfl, rfl⟩]; rfl⟩)
    · skip
      refine g_iload_n dX9_step_136 rfl ?_
      refine g_bipush (v := nI 8) dX9_step_137 rfl ?_
      refine g_icmp_ne (tgt := 154) dX9_step_139 (by decide) (fun c_139 => ?_) (fun c_139 => ?_)
      · skip
        try rw [nI_inj (by omega) (by omega)] at c_133
        try rw [nI_inj (by omega) (by omega)] at c_139
        try rw [i_eq, z0] at c_144
        refine g_iload_n dX9_step_154 rfl ?_
        by_cases t_155_0 : s.1 = 0
        · skip
          refine g_tableIn (off := 53) (tgt := 208) dX9_step_155 (by rw [nI_t (by omega)]; omega) (by rw [nI_t (by omega)]; omega) (by rw [nI_t (by omega)]; rw [t_155_0]; rfl) (by decide) ?_
          refine g_aload_n dX9_step_208 rfl ?_
          refine g_getR (f := 9) dX9_step_209 cl10 hm1.1 (by decide) (Or.inl (iw_6 2 rfl)) (Or.inl rfl) rfl hm1.r_argB ?_
          refine g_iload_n dX9_step_212 rfl ?_
          refine g_iaload dX9_step_213 (j := a) hm1.k_argB hm1.n_argB rfl (by omega) (by decide) ?_
          rw [hT1.2.2.1]
          refine g_istore dX9_step_214 (Nat.le_of_ble_eq_true rfl) ?_
          refine g_goto (tgt := 348) dX9_step_216 (by decide) ?_
          refine g_msk [true, true, false, true, false, false, true] ?_
          have hz : ¬ ((s.1 = 7 ∨ s.1 = 8) ∧ atP now s.2.2.2 = 0) := by
            rw [← hnc, i_eq, z0]
            omega
          first
            | (exfalso; omega)
            | (refine p_st348 (l1 := l) (x := x) hm ha hT hv hI (by omega) (by rw [if_neg (by omega)]) hx ?_ hz hI
               rw [← hnb, ← hnc]
               unfold vV
               first
                 | rw [if_pos (by omega)]
                 | rw [if_neg (by omega), if_pos (by omega)]
                 | rw [if_neg (by omega), if_neg (by omega), if_pos (by omega)]
                 | rw [if_neg (by omega), if_neg (by omega), if_neg (by omega), if_pos (by omega)]
                 | rw [if_neg (by omega), if_neg (by omega), if_neg (by omega), if_neg (by omega), if_pos (by omega)]
                 | rw [if_neg (by omega), if_neg (by omega), if_neg (by omega), if_neg (by omega), if_neg (by omega), if_pos (by omega)]
                 | rw [if_neg (by omega), if_neg (by omega), if_neg (by omega), if_neg (by omega), if_neg (by omega), if_neg (by omega), if_pos (by omega)]
                 | rw [if_neg (by omega), if_neg (by omega), if_neg (by omega), if_neg (by omega), if_neg (by omega), if_neg (by omega), if_neg (by omega), if_pos (by omega)]
                 | rw [if_neg (by omega), if_neg (by omega), if_neg (by omega), if_neg (by omega), if_neg (by omega), if_neg (by omega), if_neg (by omega), if_neg (by omega), if_pos (by omega)]
                 | rw [if_neg (by omega), if_neg (by omega), if_neg (by omega), if_neg (by omega), if_neg (by omega), if_neg (by omega), if_neg (by omega), if_neg (by omega), if_neg (by omega), if_pos (by omega)])
            | (refine p_st348 (l1 := lk1 l) (x := x) hm ha hT hv hI (by omega) (by rw [if_pos (by omega)]) hx ?_ hz ⟨hI.1.stJ (Or.inl ⟨rfl, by omega⟩), by rw [mJ_st, if_pos ⟨rfl, rfl⟩], lk1_ok l, hI.2.2.2.1, hI.2.2.2.2⟩
               unfold vV
               rw [if_neg (by omega), if_neg (by omega), if_neg (by omega), if_neg (by omega), if_neg (by omega), if_neg (by omega), if_neg (by omega), if_neg (by omega), if_neg (by omega), if_neg (by omega)])
        · skip
          by_cases t_155_1 : s.1 = 1
          · skip
            refine g_tableIn (off := 64) (tgt := 219) dX9_step_155 (by rw [nI_t (by omega)]; omega) (by rw [nI_t (by omega)]; omega) (by rw [nI_t (by omega)]; rw [t_155_1]; rfl) (by decide) ?_
            refine g_iload dX9_step_219 rfl ?_
            refine g_istore dX9_step_221 (Nat.le_of_ble_eq_true rfl) ?_
            refine g_goto (tgt := 348) dX9_step_223 (by decide) ?_
            refine g_msk [true, true, false, true, false, false, true] ?_
            have hz : ¬ ((s.1 = 7 ∨ s.1 = 8) ∧ atP now s.2.2.2 = 0) := by
              rw [← hnc, i_eq, z0]
              omega
            first
              | (exfalso; omega)
              | (refine p_st348 (l1 := l) (x := x) hm ha hT hv hI (by omega) (by rw [if_neg (by omega)]) hx ?_ hz hI
                 rw [← hnb, ← hnc]
                 unfold vV
                 first
                   | rw [if_pos (by omega)]
                   | rw [if_neg (by omega), if_pos (by omega)]
                   | rw [if_neg (by omega), if_neg (by omega), if_pos (by omega)]
                   | rw [if_neg (by omega), if_neg (by omega), if_neg (by omega), if_pos (by omega)]
                   | rw [if_neg (by omega), if_neg (by omega), if_neg (by omega), if_neg (by omega), if_pos (by omega)]
                   | rw [if_neg (by omega), if_neg (by omega), if_neg (by omega), if_neg (by omega), if_neg (by omega), if_pos (by omega)]
                   | rw [if_neg (by omega), if_neg (by omega), if_neg (by omega), if_neg (by omega), if_neg (by omega), if_neg (by omega), if_pos (by omega)]
                   | rw [if_neg (by omega), if_neg (by omega), if_neg (by omega), if_neg (by omega), if_neg (by omega), if_neg (by omega), if_neg (by omega), if_pos (by omega)]
                   | rw [if_neg (by omega), if_neg (by omega), if_neg (by omega), if_neg (by omega), if_neg (by omega), if_neg (by omega), if_neg (by omega), if_neg (by omega), if_pos (by omega)]
                   | rw [if_neg (by omega), if_neg (by omega), if_neg (by omega), if_neg (by omega), if_neg (by omega), if_neg (by omega), if_neg (by omega), if_neg (by omega), if_neg (by omega), if_pos (by omega)])
              | (refine p_st348 (l1 := lk1 l) (x := x) hm ha hT hv hI (by omega) (by rw [if_pos (by omega)]) hx ?_ hz ⟨hI.1.stJ (Or.inl ⟨rfl, by omega⟩), by rw [mJ_st, if_pos ⟨rfl, rfl⟩], lk1_ok l, hI.2.2.2.1, hI.2.2.2.2⟩
                 unfold vV
                 rw [if_neg (by omega), if_neg (by omega), if_neg (by omega), if_neg (by omega), if_neg (by omega), if_neg (by omega), if_neg (by omega), if_neg (by omega), if_neg (by omega), if_neg (by omega)])
          · skip
            by_cases t_155_2 : s.1 = 2
            · skip
              refine g_tableIn (off := 71) (tgt := 226) dX9_step_155 (by rw [nI_t (by omega)]; omega) (by rw [nI_t (by omega)]; omega) (by rw [nI_t (by omega)]; rw [t_155_2]; rfl) (by decide) ?_
              refine g_iload dX9_step_226 rfl ?_
              refine g_iload dX9_step_228 rfl ?_
              refine g_iadd dX9_step_230 ?_
              refine g_istore dX9_step_231 (Nat.le_of_ble_eq_true rfl) ?_
              refine g_goto (tgt := 348) dX9_step_233 (by decide) ?_
              refine g_msk [true, true, false, true, false, false, true] ?_
              have hz : ¬ ((s.1 = 7 ∨ s.1 = 8) ∧ atP now s.2.2.2 = 0) := by
                rw [← hnc, i_eq, z0]
                omega
              first
                | (exfalso; omega)
                | (refine p_st348 (l1 := l) (x := x) hm ha hT hv hI (by omega) (by rw [if_neg (by omega)]) hx ?_ hz hI
                   rw [← hnb, ← hnc]
                   unfold vV
                   first
                     | rw [if_pos (by omega)]
                     | rw [if_neg (by omega), if_pos (by omega)]
                     | rw [if_neg (by omega), if_neg (by omega), if_pos (by omega)]
                     | rw [if_neg (by omega), if_neg (by omega), if_neg (by omega), if_pos (by omega)]
                     | rw [if_neg (by omega), if_neg (by omega), if_neg (by omega), if_neg (by omega), if_pos (by omega)]
                     | rw [if_neg (by omega), if_neg (by omega), if_neg (by omega), if_neg (by omega), if_neg (by omega), if_pos (by omega)]
                     | rw [if_neg (by omega), if_neg (by omega), if_neg (by omega), if_neg (by omega), if_neg (by omega), if_neg (by omega), if_pos (by omega)]
                     | rw [if_neg (by omega), if_neg (by omega), if_neg (by omega), if_neg (by omega), if_neg (by omega), if_neg (by omega), if_neg (by omega), if_pos (by omega)]
                     | rw [if_neg (by omega), if_neg (by omega), if_neg (by omega), if_neg (by omega), if_neg (by omega), if_neg (by omega), if_neg (by omega), if_neg (by omega), if_pos (by omega)]
                     | rw [if_neg (by omega), if_neg (by omega), if_neg (by omega), if_neg (by omega), if_neg (by omega), if_neg (by omega), if_neg (by omega), if_neg (by omega), if_neg (by omega), if_pos (by omega)])
                | (refine p_st348 (l1 := lk1 l) (x := x) hm ha hT hv hI (by omega) (by rw [if_pos (by omega)]) hx ?_ hz ⟨hI.1.stJ (Or.inl ⟨rfl, by omega⟩), by rw [mJ_st, if_pos ⟨rfl, rfl⟩], lk1_ok l, hI.2.2.2.1, hI.2.2.2.2⟩
                   unfold vV
                   rw [if_neg (by omega), if_neg (by omega), if_neg (by omega), if_neg (by omega), if_neg (by omega), if_neg (by omega), if_neg (by omega), if_neg (by omega), if_neg (by omega), if_neg (by omega)])
            · skip
              by_cases t_155_3 : s.1 = 3
              · skip
                refine g_tableIn (off := 81) (tgt := 236) dX9_step_155 (by rw [nI_t (by omega)]; omega) (by rw [nI_t (by omega)]; omega) (by rw [nI_t (by omega)]; rw [t_155_3]; rfl) (by decide) ?_
                refine g_iload dX9_step_236 rfl ?_
                refine g_iload dX9_step_238 rfl ?_
                refine g_isub dX9_step_240 ?_
                refine g_istore dX9_step_241 (Nat.le_of_ble_eq_true rfl) ?_
                refine g_goto (tgt := 348) dX9_step_243 (by decide) ?_
                refine g_msk [true, true, false, true, false, false, true] ?_
                have hz : ¬ ((s.1 = 7 ∨ s.1 = 8) ∧ atP now s.2.2.2 = 0) := by
                  rw [← hnc, i_eq, z0]
                  omega
                first
                  | (exfalso; omega)
                  | (refine p_st348 (l1 := l) (x := x) hm ha hT hv hI (by omega) (by rw [if_neg (by omega)]) hx ?_ hz hI
                     rw [← hnb, ← hnc]
                     unfold vV
                     first
                       | rw [if_pos (by omega)]
                       | rw [if_neg (by omega), if_pos (by omega)]
                       | rw [if_neg (by omega), if_neg (by omega), if_pos (by omega)]
                       | rw [if_neg (by omega), if_neg (by omega), if_neg (by omega), if_pos (by omega)]
                       | rw [if_neg (by omega), if_neg (by omega), if_neg (by omega), if_neg (by omega), if_pos (by omega)]
                       | rw [if_neg (by omega), if_neg (by omega), if_neg (by omega), if_neg (by omega), if_neg (by omega), if_pos (by omega)]
                       | rw [if_neg (by omega), if_neg (by omega), if_neg (by omega), if_neg (by omega), if_neg (by omega), if_neg (by omega), if_pos (by omega)]
                       | rw [if_neg (by omega), if_neg (by omega), if_neg (by omega), if_neg (by omega), if_neg (by omega), if_neg (by omega), if_neg (by omega), if_pos (by omega)]
                       | rw [if_neg (by omega), if_neg (by omega), if_neg (by omega), if_neg (by omega), if_neg (by omega), if_neg (by omega), if_neg (by omega), if_neg (by omega), if_pos (by omega)]
                       | rw [if_neg (by omega), if_neg (by omega), if_neg (by omega), if_neg (by omega), if_neg (by omega), if_neg (by omega), if_neg (by omega), if_neg (by omega), if_neg (by omega), if_pos (by omega)])
                  | (refine p_st348 (l1 := lk1 l) (x := x) hm ha hT hv hI (by omega) (by rw [if_pos (by omega)]) hx ?_ hz ⟨hI.1.stJ (Or.inl ⟨rfl, by omega⟩), by rw [mJ_st, if_pos ⟨rfl, rfl⟩], lk1_ok l, hI.2.2.2.1, hI.2.2.2.2⟩
                     unfold vV
                     rw [if_neg (by omega), if_neg (by omega), if_neg (by omega), if_neg (by omega), if_neg (by omega), if_neg (by omega), if_neg (by omega), if_neg (by omega), if_neg (by omega), if_neg (by omega)])
              · skip
                by_cases t_155_4 : s.1 = 4
                · skip
                  refine g_tableIn (off := 91) (tgt := 246) dX9_step_155 (by rw [nI_t (by omega)]; omega) (by rw [nI_t (by omega)]; omega) (by rw [nI_t (by omega)]; rw [t_155_4]; rfl) (by decide) ?_
                  refine g_iload dX9_step_246 rfl ?_
                  refine g_iload dX9_step_248 rfl ?_
                  refine g_imul dX9_step_250 ?_
                  refine g_istore dX9_step_251 (Nat.le_of_ble_eq_true rfl) ?_
                  refine g_goto (tgt := 348) dX9_step_253 (by decide) ?_
                  refine g_msk [true, true, false, true, false, false, true] ?_
                  have hz : ¬ ((s.1 = 7 ∨ s.1 = 8) ∧ atP now s.2.2.2 = 0) := by
                    rw [← hnc, i_eq, z0]
                    omega
                  first
                    | (exfalso; omega)
                    | (refine p_st348 (l1 := l) (x := x) hm ha hT hv hI (by omega) (by rw [if_neg (by omega)]) hx ?_ hz hI
                       rw [← hnb, ← hnc]
                       unfold vV
                       first
                         | rw [if_pos (by omega)]
                         | rw [if_neg (by omega), if_pos (by omega)]
                         | rw [if_neg (by omega), if_neg (by omega), if_pos (by omega)]
                         | rw [if_neg (by omega), if_neg (by omega), if_neg (by omega), if_pos (by omega)]
                         | rw [if_neg (by omega), if_neg (by omega), if_neg (by omega), if_neg (by omega), if_pos (by omega)]
                         | rw [if_neg (by omega), if_neg (by omega), if_neg (by omega), if_neg (by omega), if_neg (by omega), if_pos (by omega)]
                         | rw [if_neg (by omega), if_neg (by omega), if_neg (by omega), if_neg (by omega), if_neg (by omega), if_neg (by omega), if_pos (by omega)]
                         | rw [if_neg (by omega), if_neg (by omega), if_neg (by omega), if_neg (by omega), if_neg (by omega), if_neg (by omega), if_neg (by omega), if_pos (by omega)]
                         | rw [if_neg (by omega), if_neg (by omega), if_neg (by omega), if_neg (by omega), if_neg (by omega), if_neg (by omega), if_neg (by omega), if_neg (by omega), if_pos (by omega)]
                         | rw [if_neg (by omega), if_neg (by omega), if_neg (by omega), if_neg (by omega), if_neg (by omega), if_neg (by omega), if_neg (by omega), if_neg (by omega), if_neg (by omega), if_pos (by omega)])
                    | (refine p_st348 (l1 := lk1 l) (x := x) hm ha hT hv hI (by omega) (by rw [if_pos (by omega)]) hx ?_ hz ⟨hI.1.stJ (Or.inl ⟨rfl, by omega⟩), by rw [mJ_st, if_pos ⟨rfl, rfl⟩], lk1_ok l, hI.2.2.2.1, hI.2.2.2.2⟩
                       unfold vV
                       rw [if_neg (by omega), if_neg (by omega), if_neg (by omega), if_neg (by omega), if_neg (by omega), if_neg (by omega), if_neg (by omega), if_neg (by omega), if_neg (by omega), if_neg (by omega)])
                · skip
                  by_cases t_155_5 : s.1 = 5
                  · skip
                    refine g_tableIn (off := 101) (tgt := 256) dX9_step_155 (by rw [nI_t (by omega)]; omega) (by rw [nI_t (by omega)]; omega) (by rw [nI_t (by omega)]; rw [t_155_5]; rfl) (by decide) ?_
                    refine g_iload dX9_step_256 rfl ?_
                    refine g_aload_n dX9_step_258 rfl ?_
                    refine g_getR (f := 10) dX9_step_259 cl10 hm1.1 (by decide) (Or.inl (iw_6 3 rfl)) (Or.inl rfl) rfl hm1.r_argC ?_
                    refine g_iload_n dX9_step_262 rfl ?_
                    refine g_iaload dX9_step_263 (j := a) hm1.k_argC hm1.n_argC rfl (by omega) (by decide) ?_
                    rw [hT1.2.2.2]
                    refine g_iand dX9_step_264 ?_
                    refine g_istore dX9_step_265 (Nat.le_of_ble_eq_true rfl) ?_
                    refine g_goto (tgt := 348) dX9_step_267 (by decide) ?_
                    refine g_msk [true, true, false, true, false, false, true] ?_
                    have hz : ¬ ((s.1 = 7 ∨ s.1 = 8) ∧ atP now s.2.2.2 = 0) := by
                      rw [← hnc, i_eq, z0]
                      omega
                    first
                      | (exfalso; omega)
                      | (refine p_st348 (l1 := l) (x := x) hm ha hT hv hI (by omega) (by rw [if_neg (by omega)]) hx ?_ hz hI
                         rw [← hnb, ← hnc]
                         unfold vV
                         first
                           | rw [if_pos (by omega)]
                           | rw [if_neg (by omega), if_pos (by omega)]
                           | rw [if_neg (by omega), if_neg (by omega), if_pos (by omega)]
                           | rw [if_neg (by omega), if_neg (by omega), if_neg (by omega), if_pos (by omega)]
                           | rw [if_neg (by omega), if_neg (by omega), if_neg (by omega), if_neg (by omega), if_pos (by omega)]
                           | rw [if_neg (by omega), if_neg (by omega), if_neg (by omega), if_neg (by omega), if_neg (by omega), if_pos (by omega)]
                           | rw [if_neg (by omega), if_neg (by omega), if_neg (by omega), if_neg (by omega), if_neg (by omega), if_neg (by omega), if_pos (by omega)]
                           | rw [if_neg (by omega), if_neg (by omega), if_neg (by omega), if_neg (by omega), if_neg (by omega), if_neg (by omega), if_neg (by omega), if_pos (by omega)]
                           | rw [if_neg (by omega), if_neg (by omega), if_neg (by omega), if_neg (by omega), if_neg (by omega), if_neg (by omega), if_neg (by omega), if_neg (by omega), if_pos (by omega)]
                           | rw [if_neg (by omega), if_neg (by omega), if_neg (by omega), if_neg (by omega), if_neg (by omega), if_neg (by omega), if_neg (by omega), if_neg (by omega), if_neg (by omega), if_pos (by omega)])
                      | (refine p_st348 (l1 := lk1 l) (x := x) hm ha hT hv hI (by omega) (by rw [if_pos (by omega)]) hx ?_ hz ⟨hI.1.stJ (Or.inl ⟨rfl, by omega⟩), by rw [mJ_st, if_pos ⟨rfl, rfl⟩], lk1_ok l, hI.2.2.2.1, hI.2.2.2.2⟩
                         unfold vV
                         rw [if_neg (by omega), if_neg (by omega), if_neg (by omega), if_neg (by omega), if_neg (by omega), if_neg (by omega), if_neg (by omega), if_neg (by omega), if_neg (by omega), if_neg (by omega)])
                  · skip
                    by_cases t_155_6 : s.1 = 6
                    · skip
                      refine g_tableIn (off := 115) (tgt := 270) dX9_step_155 (by rw [nI_t (by omega)]; omega) (by rw [nI_t (by omega)]; omega) (by rw [nI_t (by omega)]; rw [t_155_6]; rfl) (by decide) ?_
                      refine g_iload dX9_step_270 rfl ?_
                      refine g_aload_n dX9_step_272 rfl ?_
                      refine g_getR (f := 10) dX9_step_273 cl10 hm1.1 (by decide) (Or.inl (iw_6 3 rfl)) (Or.inl rfl) rfl hm1.r_argC ?_
                      refine g_iload_n dX9_step_276 rfl ?_
                      refine g_iaload dX9_step_277 (j := a) hm1.k_argC hm1.n_argC rfl (by omega) (by decide) ?_
                      rw [show mI M1 (m + 8) a = nI (pl s.2.2.2) from hT1.2.2.2.trans (pl_eq (hv.2.2.2.2.2.1 t_155_6).1)]
                      refine g_ishr dX9_step_278 ?_
                      rw [iZ_shr nb (by have h7 := hv.2.2.2.2.2.1 t_155_6; unfold pl; omega)]
                      refine g_istore dX9_step_279 (Nat.le_of_ble_eq_true rfl) ?_
                      refine g_goto (tgt := 348) dX9_step_281 (by decide) ?_
                      refine g_msk [true, true, false, true, false, false, true] ?_
                      have hz : ¬ ((s.1 = 7 ∨ s.1 = 8) ∧ atP now s.2.2.2 = 0) := by
                        rw [← hnc, i_eq, z0]
                        omega
                      first
                        | (exfalso; omega)
                        | (refine p_st348 (l1 := l) (x := x) hm ha hT hv hI (by omega) (by rw [if_neg (by omega)]) hx ?_ hz hI
                           rw [← hnb, ← hnc]
                           unfold vV
                           first
                             | rw [if_pos (by omega)]
                             | rw [if_neg (by omega), if_pos (by omega)]
                             | rw [if_neg (by omega), if_neg (by omega), if_pos (by omega)]
                             | rw [if_neg (by omega), if_neg (by omega), if_neg (by omega), if_pos (by omega)]
                             | rw [if_neg (by omega), if_neg (by omega), if_neg (by omega), if_neg (by omega), if_pos (by omega)]
                             | rw [if_neg (by omega), if_neg (by omega), if_neg (by omega), if_neg (by omega), if_neg (by omega), if_pos (by omega)]
                             | rw [if_neg (by omega), if_neg (by omega), if_neg (by omega), if_neg (by omega), if_neg (by omega), if_neg (by omega), if_pos (by omega)]
                             | rw [if_neg (by omega), if_neg (by omega), if_neg (by omega), if_neg (by omega), if_neg (by omega), if_neg (by omega), if_neg (by omega), if_pos (by omega)]
                             | rw [if_neg (by omega), if_neg (by omega), if_neg (by omega), if_neg (by omega), if_neg (by omega), if_neg (by omega), if_neg (by omega), if_neg (by omega), if_pos (by omega)]
                             | rw [if_neg (by omega), if_neg (by omega), if_neg (by omega), if_neg (by omega), if_neg (by omega), if_neg (by omega), if_neg (by omega), if_neg (by omega), if_neg (by omega), if_pos (by omega)])
                        | (refine p_st348 (l1 := lk1 l) (x := x) hm ha hT hv hI (by omega) (by rw [if_pos (by omega)]) hx ?_ hz ⟨hI.1.stJ (Or.inl ⟨rfl, by omega⟩), by rw [mJ_st, if_pos ⟨rfl, rfl⟩], lk1_ok l, hI.2.2.2.1, hI.2.2.2.2⟩
                           unfold vV
                           rw [if_neg (by omega), if_neg (by omega), if_neg (by omega), if_neg (by omega), if_neg (by omega), if_neg (by omega), if_neg (by omega), if_neg (by omega), if_neg (by omega), if_neg (by omega)])
                    · skip
                      by_cases t_155_7 : s.1 = 7
                      · skip
                        refine g_tableIn (off := 129) (tgt := 284) dX9_step_155 (by rw [nI_t (by omega)]; omega) (by rw [nI_t (by omega)]; omega) (by rw [nI_t (by omega)]; rw [t_155_7]; rfl) (by decide) ?_
                        refine g_iload dX9_step_284 rfl ?_
                        refine g_i2l dX9_step_286 ?_
                        rw [i_j]
                        refine g_iload dX9_step_287 rfl ?_
                        refine g_i2l dX9_step_289 ?_
                        rw [i_j]
                        refine g_ldiv dX9_step_290 (jI_ne (by constructor <;> omega) (by omega)) ?_
                        rw [jI_div br cr (by omega)]
                        refine g_l2i dX9_step_291 ?_
                        rw [jI_i]
                        refine g_istore dX9_step_292 (Nat.le_of_ble_eq_true rfl) ?_
                        refine g_goto (tgt := 348) dX9_step_294 (by decide) ?_
                        refine g_msk [true, true, false, true, false, false, true] ?_
                        have hz : ¬ ((s.1 = 7 ∨ s.1 = 8) ∧ atP now s.2.2.2 = 0) := by
                          rw [← hnc, i_eq, z0]
                          omega
                        first
                          | (exfalso; omega)
                          | (refine p_st348 (l1 := l) (x := x) hm ha hT hv hI (by omega) (by rw [if_neg (by omega)]) hx ?_ hz hI
                             rw [← hnb, ← hnc]
                             unfold vV
                             first
                               | rw [if_pos (by omega)]
                               | rw [if_neg (by omega), if_pos (by omega)]
                               | rw [if_neg (by omega), if_neg (by omega), if_pos (by omega)]
                               | rw [if_neg (by omega), if_neg (by omega), if_neg (by omega), if_pos (by omega)]
                               | rw [if_neg (by omega), if_neg (by omega), if_neg (by omega), if_neg (by omega), if_pos (by omega)]
                               | rw [if_neg (by omega), if_neg (by omega), if_neg (by omega), if_neg (by omega), if_neg (by omega), if_pos (by omega)]
                               | rw [if_neg (by omega), if_neg (by omega), if_neg (by omega), if_neg (by omega), if_neg (by omega), if_neg (by omega), if_pos (by omega)]
                               | rw [if_neg (by omega), if_neg (by omega), if_neg (by omega), if_neg (by omega), if_neg (by omega), if_neg (by omega), if_neg (by omega), if_pos (by omega)]
                               | rw [if_neg (by omega), if_neg (by omega), if_neg (by omega), if_neg (by omega), if_neg (by omega), if_neg (by omega), if_neg (by omega), if_neg (by omega), if_pos (by omega)]
                               | rw [if_neg (by omega), if_neg (by omega), if_neg (by omega), if_neg (by omega), if_neg (by omega), if_neg (by omega), if_neg (by omega), if_neg (by omega), if_neg (by omega), if_pos (by omega)])
                          | (refine p_st348 (l1 := lk1 l) (x := x) hm ha hT hv hI (by omega) (by rw [if_pos (by omega)]) hx ?_ hz ⟨hI.1.stJ (Or.inl ⟨rfl, by omega⟩), by rw [mJ_st, if_pos ⟨rfl, rfl⟩], lk1_ok l, hI.2.2.2.1, hI.2.2.2.2⟩
                             unfold vV
                             rw [if_neg (by omega), if_neg (by omega), if_neg (by omega), if_neg (by omega), if_neg (by omega), if_neg (by omega), if_neg (by omega), if_neg (by omega), if_neg (by omega), if_neg (by omega)])
                      · skip
                        by_cases t_155_8 : s.1 = 8
                        · skip
                          refine g_tableIn (off := 142) (tgt := 297) dX9_step_155 (by rw [nI_t (by omega)]; omega) (by rw [nI_t (by omega)]; omega) (by rw [nI_t (by omega)]; rw [t_155_8]; rfl) (by decide) ?_
                          refine g_iload dX9_step_297 rfl ?_
                          refine g_i2l dX9_step_299 ?_
                          rw [i_j]
                          refine g_iload dX9_step_300 rfl ?_
                          refine g_i2l dX9_step_302 ?_
                          rw [i_j]
                          refine g_lrem dX9_step_303 (jI_ne (by constructor <;> omega) (by omega)) ?_
                          rw [jI_tmod br cr (by omega)]
                          refine g_l2i dX9_step_304 ?_
                          rw [jI_i]
                          refine g_istore dX9_step_305 (Nat.le_of_ble_eq_true rfl) ?_
                          refine g_goto (tgt := 348) dX9_step_307 (by decide) ?_
                          refine g_msk [true, true, false, true, false, false, true] ?_
                          have hz : ¬ ((s.1 = 7 ∨ s.1 = 8) ∧ atP now s.2.2.2 = 0) := by
                            rw [← hnc, i_eq, z0]
                            omega
                          first
                            | (exfalso; omega)
                            | (refine p_st348 (l1 := l) (x := x) hm ha hT hv hI (by omega) (by rw [if_neg (by omega)]) hx ?_ hz hI
                               rw [← hnb, ← hnc]
                               unfold vV
                               first
                                 | rw [if_pos (by omega)]
                                 | rw [if_neg (by omega), if_pos (by omega)]
                                 | rw [if_neg (by omega), if_neg (by omega), if_pos (by omega)]
                                 | rw [if_neg (by omega), if_neg (by omega), if_neg (by omega), if_pos (by omega)]
                                 | rw [if_neg (by omega), if_neg (by omega), if_neg (by omega), if_neg (by omega), if_pos (by omega)]
                                 | rw [if_neg (by omega), if_neg (by omega), if_neg (by omega), if_neg (by omega), if_neg (by omega), if_pos (by omega)]
                                 | rw [if_neg (by omega), if_neg (by omega), if_neg (by omega), if_neg (by omega), if_neg (by omega), if_neg (by omega), if_pos (by omega)]
                                 | rw [if_neg (by omega), if_neg (by omega), if_neg (by omega), if_neg (by omega), if_neg (by omega), if_neg (by omega), if_neg (by omega), if_pos (by omega)]
                                 | rw [if_neg (by omega), if_neg (by omega), if_neg (by omega), if_neg (by omega), if_neg (by omega), if_neg (by omega), if_neg (by omega), if_neg (by omega), if_pos (by omega)]
                                 | rw [if_neg (by omega), if_neg (by omega), if_neg (by omega), if_neg (by omega), if_neg (by omega), if_neg (by omega), if_neg (by omega), if_neg (by omega), if_neg (by omega), if_pos (by omega)])
                            | (refine p_st348 (l1 := lk1 l) (x := x) hm ha hT hv hI (by omega) (by rw [if_pos (by omega)]) hx ?_ hz ⟨hI.1.stJ (Or.inl ⟨rfl, by omega⟩), by rw [mJ_st, if_pos ⟨rfl, rfl⟩], lk1_ok l, hI.2.2.2.1, hI.2.2.2.2⟩
                               unfold vV
                               rw [if_neg (by omega), if_neg (by omega), if_neg (by omega), if_neg (by omega), if_neg (by omega), if_neg (by omega), if_neg (by omega), if_neg (by omega), if_neg (by omega), if_neg (by omega)])
                        · skip
                          by_cases t_155_9 : s.1 = 9
                          · skip
                            refine g_tableIn (off := 155) (tgt := 310) dX9_step_155 (by rw [nI_t (by omega)]; omega) (by rw [nI_t (by omega)]; omega) (by rw [nI_t (by omega)]; rw [t_155_9]; rfl) (by decide) ?_
                            refine g_iload dX9_step_310 rfl ?_
                            refine g_i2l dX9_step_312 ?_
                            rw [i_j]
                            refine g_aload_n dX9_step_313 rfl ?_
                            refine g_getR (f := 10) dX9_step_314 cl10 hm1.1 (by decide) (Or.inl (iw_6 3 rfl)) (Or.inl rfl) rfl hm1.r_argC ?_
                            refine g_iload_n dX9_step_317 rfl ?_
                            refine g_iaload dX9_step_318 (j := a) hm1.k_argC hm1.n_argC rfl (by omega) (by decide) ?_
                            rw [hT1.2.2.2]
                            refine g_callS dX9_step_319 sX9_cut (m_cut M1 n nb.toInt s.2.2.2) tX9_cut (iw_27 0 rfl) rfl rfl (Nat.le_of_ble_eq_true rfl) (Nat.le_of_ble_eq_true rfl) (Nat.le_of_ble_eq_true rfl) (Nat.le_of_ble_eq_true rfl) (Nat.le_of_ble_eq_true rfl) ?_
                            intro r9 M9 n9 h9
                            obtain ⟨h91, h92, h93⟩ := h9
                            rw [h91, h92, h93]
                            clear h91 h92 h93 r9 M9 n9
                            refine g_l2i dX9_step_322 ?_
                            rw [jI_i]
                            refine g_istore dX9_step_323 (Nat.le_of_ble_eq_true rfl) ?_
                            refine g_goto (tgt := 348) dX9_step_325 (by decide) ?_
                            refine g_msk [true, true, false, true, false, false, true] ?_
                            have hz : ¬ ((s.1 = 7 ∨ s.1 = 8) ∧ atP now s.2.2.2 = 0) := by
                              rw [← hnc, i_eq, z0]
                              omega
                            first
                              | (exfalso; omega)
                              | (refine p_st348 (l1 := l) (x := x) hm ha hT hv hI (by omega) (by rw [if_neg (by omega)]) hx ?_ hz hI
                                 rw [← hnb, ← hnc]
                                 unfold vV
                                 first
                                   | rw [if_pos (by omega)]
                                   | rw [if_neg (by omega), if_pos (by omega)]
                                   | rw [if_neg (by omega), if_neg (by omega), if_pos (by omega)]
                                   | rw [if_neg (by omega), if_neg (by omega), if_neg (by omega), if_pos (by omega)]
                                   | rw [if_neg (by omega), if_neg (by omega), if_neg (by omega), if_neg (by omega), if_pos (by omega)]
                                   | rw [if_neg (by omega), if_neg (by omega), if_neg (by omega), if_neg (by omega), if_neg (by omega), if_pos (by omega)]
                                   | rw [if_neg (by omega), if_neg (by omega), if_neg (by omega), if_neg (by omega), if_neg (by omega), if_neg (by omega), if_pos (by omega)]
                                   | rw [if_neg (by omega), if_neg (by omega), if_neg (by omega), if_neg (by omega), if_neg (by omega), if_neg (by omega), if_neg (by omega), if_pos (by omega)]
                                   | rw [if_neg (by omega), if_neg (by omega), if_neg (by omega), if_neg (by omega), if_neg (by omega), if_neg (by omega), if_neg (by omega), if_neg (by omega), if_pos (by omega)]
                                   | rw [if_neg (by omega), if_neg (by omega), if_neg (by omega), if_neg (by omega), if_neg (by omega), if_neg (by omega), if_neg (by omega), if_neg (by omega), if_neg (by omega), if_pos (by omega)])
                              | (refine p_st348 (l1 := lk1 l) (x := x) hm ha hT hv hI (by omega) (by rw [if_pos (by omega)]) hx ?_ hz ⟨hI.1.stJ (Or.inl ⟨rfl, by omega⟩), by rw [mJ_st, if_pos ⟨rfl, rfl⟩], lk1_ok l, hI.2.2.2.1, hI.2.2.2.2⟩
                                 unfold vV
                                 rw [if_neg (by omega), if_neg (by omega), if_neg (by omega), if_neg (by omega), if_neg (by omega), if_neg (by omega), if_neg (by omega), if_neg (by omega), if_neg (by omega), if_neg (by omega)])
                          · skip
                            refine g_tableOut (tgt := 328) dX9_step_155 (by rw [nI_t (by omega)]; omega) (by decide) ?_
                            refine g_aload_n dX9_step_328 rfl ?_
                            refine g_aload_n dX9_step_329 rfl ?_
                            refine g_getR (f := 9) dX9_step_330 cl10 hm1.1 (by decide) (Or.inl (iw_6 2 rfl)) (Or.inl rfl) rfl hm1.r_argB ?_
                            refine g_iload_n dX9_step_333 rfl ?_
                            refine g_iaload dX9_step_334 (j := a) hm1.k_argB hm1.n_argB rfl (by omega) (by decide) ?_
                            rw [hT1.2.2.1]
                            refine g_i2l dX9_step_335 ?_
                            rw [i_j]
                            refine g_aload_n dX9_step_336 rfl ?_
                            refine g_getR (f := 10) dX9_step_337 cl10 hm1.1 (by decide) (Or.inl (iw_6 3 rfl)) (Or.inl rfl) rfl hm1.r_argC ?_
                            refine g_iload_n dX9_step_340 rfl ?_
                            refine g_iaload dX9_step_341 (j := a) hm1.k_argC hm1.n_argC rfl (by omega) (by decide) ?_
                            rw [hT1.2.2.2]
                            refine g_i2l dX9_step_342 ?_
                            rw [i_j]
                            refine g_callV dX9_step_343 sX9_drawn (m_drawn M1 n m l s.2.2.1.toInt s.2.2.2.toInt hm1 hI.2.1 hI.2.2.1 (i_rng _) (i_rng _) (hv.2.2.2.2.2.2.2.1 (by omega))) cl10 hm1.1 iX9_drawn vX9_drawn (iw_38 2 rfl) rfl rfl (Nat.le_of_ble_eq_true rfl) (Nat.le_of_ble_eq_true rfl) (Nat.le_of_ble_eq_true rfl) (Nat.le_of_ble_eq_true rfl) (Nat.le_of_ble_eq_true rfl) ?_
                            intro r9 M9 n9 h9
                            obtain ⟨h91, h92, h93⟩ := h9
                            rw [h91, h92, h93]
                            clear h91 h92 h93 r9 M9 n9
                            refine g_istore dX9_step_346 (Nat.le_of_ble_eq_true rfl) ?_
                            refine g_msk [true, true, false, true, false, false, true] ?_
                            have hz : ¬ ((s.1 = 7 ∨ s.1 = 8) ∧ atP now s.2.2.2 = 0) := by
                              rw [← hnc, i_eq, z0]
                              omega
                            first
                              | (exfalso; omega)
                              | (refine p_st348 (l1 := l) (x := x) hm ha hT hv hI (by omega) (by rw [if_neg (by omega)]) hx ?_ hz hI
                                 rw [← hnb, ← hnc]
                                 unfold vV
                                 first
                                   | rw [if_pos (by omega)]
                                   | rw [if_neg (by omega), if_pos (by omega)]
                                   | rw [if_neg (by omega), if_neg (by omega), if_pos (by omega)]
                                   | rw [if_neg (by omega), if_neg (by omega), if_neg (by omega), if_pos (by omega)]
                                   | rw [if_neg (by omega), if_neg (by omega), if_neg (by omega), if_neg (by omega), if_pos (by omega)]
                                   | rw [if_neg (by omega), if_neg (by omega), if_neg (by omega), if_neg (by omega), if_neg (by omega), if_pos (by omega)]
                                   | rw [if_neg (by omega), if_neg (by omega), if_neg (by omega), if_neg (by omega), if_neg (by omega), if_neg (by omega), if_pos (by omega)]
                                   | rw [if_neg (by omega), if_neg (by omega), if_neg (by omega), if_neg (by omega), if_neg (by omega), if_neg (by omega), if_neg (by omega), if_pos (by omega)]
                                   | rw [if_neg (by omega), if_neg (by omega), if_neg (by omega), if_neg (by omega), if_neg (by omega), if_neg (by omega), if_neg (by omega), if_neg (by omega), if_pos (by omega)]
                                   | rw [if_neg (by omega), if_neg (by omega), if_neg (by omega), if_neg (by omega), if_neg (by omega), if_neg (by omega), if_neg (by omega), if_neg (by omega), if_neg (by omega), if_pos (by omega)])
                              | (refine p_st348 (l1 := lk1 l) (x := x) hm ha hT hv hI (by omega) (by rw [if_pos (by omega)]) hx ?_ hz ⟨hI.1.stJ (Or.inl ⟨rfl, by omega⟩), by rw [mJ_st, if_pos ⟨rfl, rfl⟩], lk1_ok l, hI.2.2.2.1, hI.2.2.2.2⟩
                                 unfold vV
                                 rw [if_neg (by omega), if_neg (by omega), if_neg (by omega), if_neg (by omega), if_neg (by omega), if_neg (by omega), if_neg (by omega), if_neg (by omega), if_neg (by omega), if_neg (by omega)])
      · skip
        try rw [nI_inj (by omega) (by omega)] at c_133
        try rw [nI_inj (by omega) (by omega)] at c_139
        refine g_iload dX9_step_142 rfl ?_
        refine g_if_ne (tgt := 154) dX9_step_144 (by decide) (fun c_144 => ?_) (fun c_144 => ?_)
        · skip
          try rw [nI_inj (by omega) (by omega)] at c_133
          try rw [nI_inj (by omega) (by omega)] at c_139
          try rw [i_eq, z0] at c_144
          refine g_iload_n dX9_step_154 rfl ?_
          by_cases t_155_0 : s.1 = 0
          · skip
            refine g_tableIn (off := 53) (tgt := 208) dX9_step_155 (by rw [nI_t (by omega)]; omega) (by rw [nI_t (by omega)]; omega) (by rw [nI_t (by omega)]; rw [t_155_0]; rfl) (by decide) ?_
            refine g_aload_n dX9_step_208 rfl ?_
            refine g_getR (f := 9) dX9_step_209 cl10 hm1.1 (by decide) (Or.inl (iw_6 2 rfl)) (Or.inl rfl) rfl hm1.r_argB ?_
            refine g_iload_n dX9_step_212 rfl ?_
            refine g_iaload dX9_step_213 (j := a) hm1.k_argB hm1.n_argB rfl (by omega) (by decide) ?_
            rw [hT1.2.2.1]
            refine g_istore dX9_step_214 (Nat.le_of_ble_eq_true rfl) ?_
            refine g_goto (tgt := 348) dX9_step_216 (by decide) ?_
            refine g_msk [true, true, false, true, false, false, true] ?_
            have hz : ¬ ((s.1 = 7 ∨ s.1 = 8) ∧ atP now s.2.2.2 = 0) := by
              rw [← hnc, i_eq, z0]
              omega
            first
              | (exfalso; omega)
              | (refine p_st348 (l1 := l) (x := x) hm ha hT hv hI (by omega) (by rw [if_neg (by omega)]) hx ?_ hz hI
                 rw [← hnb, ← hnc]
                 unfold vV
                 first
                   | rw [if_pos (by omega)]
                   | rw [if_neg (by omega), if_pos (by omega)]
                   | rw [if_neg (by omega), if_neg (by omega), if_pos (by omega)]
                   | rw [if_neg (by omega), if_neg (by omega), if_neg (by omega), if_pos (by omega)]
                   | rw [if_neg (by omega), if_neg (by omega), if_neg (by omega), if_neg (by omega), if_pos (by omega)]
                   | rw [if_neg (by omega), if_neg (by omega), if_neg (by omega), if_neg (by omega), if_neg (by omega), if_pos (by omega)]
                   | rw [if_neg (by omega), if_neg (by omega), if_neg (by omega), if_neg (by omega), if_neg (by omega), if_neg (by omega), if_pos (by omega)]
                   | rw [if_neg (by omega), if_neg (by omega), if_neg (by omega), if_neg (by omega), if_neg (by omega), if_neg (by omega), if_neg (by omega), if_pos (by omega)]
                   | rw [if_neg (by omega), if_neg (by omega), if_neg (by omega), if_neg (by omega), if_neg (by omega), if_neg (by omega), if_neg (by omega), if_neg (by omega), if_pos (by omega)]
                   | rw [if_neg (by omega), if_neg (by omega), if_neg (by omega), if_neg (by omega), if_neg (by omega), if_neg (by omega), if_neg (by omega), if_neg (by omega), if_neg (by omega), if_pos (by omega)])
              | (refine p_st348 (l1 := lk1 l) (x := x) hm ha hT hv hI (by omega) (by rw [if_pos (by omega)]) hx ?_ hz ⟨hI.1.stJ (Or.inl ⟨rfl, by omega⟩), by rw [mJ_st, if_pos ⟨rfl, rfl⟩], lk1_ok l, hI.2.2.2.1, hI.2.2.2.2⟩
                 unfold vV
                 rw [if_neg (by omega), if_neg (by omega), if_neg (by omega), if_neg (by omega), if_neg (by omega), if_neg (by omega), if_neg (by omega), if_neg (by omega), if_neg (by omega), if_neg (by omega)])
          · skip
            by_cases t_155_1 : s.1 = 1
            · skip
              refine g_tableIn (off := 64) (tgt := 219) dX9_step_155 (by rw [nI_t (by omega)]; omega) (by rw [nI_t (by omega)]; omega) (by rw [nI_t (by omega)]; rw [t_155_1]; rfl) (by decide) ?_
              refine g_iload dX9_step_219 rfl ?_
              refine g_istore dX9_step_221 (Nat.le_of_ble_eq_true rfl) ?_
              refine g_goto (tgt := 348) dX9_step_223 (by decide) ?_
              refine g_msk [true, true, false, true, false, false, true] ?_
              have hz : ¬ ((s.1 = 7 ∨ s.1 = 8) ∧ atP now s.2.2.2 = 0) := by
                rw [← hnc, i_eq, z0]
                omega
              first
                | (exfalso; omega)
                | (refine p_st348 (l1 := l) (x := x) hm ha hT hv hI (by omega) (by rw [if_neg (by omega)]) hx ?_ hz hI
                   rw [← hnb, ← hnc]
                   unfold vV
                   first
                     | rw [if_pos (by omega)]
                     | rw [if_neg (by omega), if_pos (by omega)]
                     | rw [if_neg (by omega), if_neg (by omega), if_pos (by omega)]
                     | rw [if_neg (by omega), if_neg (by omega), if_neg (by omega), if_pos (by omega)]
                     | rw [if_neg (by omega), if_neg (by omega), if_neg (by omega), if_neg (by omega), if_pos (by omega)]
                     | rw [if_neg (by omega), if_neg (by omega), if_neg (by omega), if_neg (by omega), if_neg (by omega), if_pos (by omega)]
                     | rw [if_neg (by omega), if_neg (by omega), if_neg (by omega), if_neg (by omega), if_neg (by omega), if_neg (by omega), if_pos (by omega)]
                     | rw [if_neg (by omega), if_neg (by omega), if_neg (by omega), if_neg (by omega), if_neg (by omega), if_neg (by omega), if_neg (by omega), if_pos (by omega)]
                     | rw [if_neg (by omega), if_neg (by omega), if_neg (by omega), if_neg (by omega), if_neg (by omega), if_neg (by omega), if_neg (by omega), if_neg (by omega), if_pos (by omega)]
                     | rw [if_neg (by omega), if_neg (by omega), if_neg (by omega), if_neg (by omega), if_neg (by omega), if_neg (by omega), if_neg (by omega), if_neg (by omega), if_neg (by omega), if_pos (by omega)])
                | (refine p_st348 (l1 := lk1 l) (x := x) hm ha hT hv hI (by omega) (by rw [if_pos (by omega)]) hx ?_ hz ⟨hI.1.stJ (Or.inl ⟨rfl, by omega⟩), by rw [mJ_st, if_pos ⟨rfl, rfl⟩], lk1_ok l, hI.2.2.2.1, hI.2.2.2.2⟩
                   unfold vV
                   rw [if_neg (by omega), if_neg (by omega), if_neg (by omega), if_neg (by omega), if_neg (by omega), if_neg (by omega), if_neg (by omega), if_neg (by omega), if_neg (by omega), if_neg (by omega)])
            · skip
              by_cases t_155_2 : s.1 = 2
              · skip
                refine g_tableIn (off := 71) (tgt := 226) dX9_step_155 (by rw [nI_t (by omega)]; omega) (by rw [nI_t (by omega)]; omega) (by rw [nI_t (by omega)]; rw [t_155_2]; rfl) (by decide) ?_
                refine g_iload dX9_step_226 rfl ?_
                refine g_iload dX9_step_228 rfl ?_
                refine g_iadd dX9_step_230 ?_
                refine g_istore dX9_step_231 (Nat.le_of_ble_eq_true rfl) ?_
                refine g_goto (tgt := 348) dX9_step_233 (by decide) ?_
                refine g_msk [true, true, false, true, false, false, true] ?_
                have hz : ¬ ((s.1 = 7 ∨ s.1 = 8) ∧ atP now s.2.2.2 = 0) := by
                  rw [← hnc, i_eq, z0]
                  omega
                first
                  | (exfalso; omega)
                  | (refine p_st348 (l1 := l) (x := x) hm ha hT hv hI (by omega) (by rw [if_neg (by omega)]) hx ?_ hz hI
                     rw [← hnb, ← hnc]
                     unfold vV
                     first
                       | rw [if_pos (by omega)]
                       | rw [if_neg (by omega), if_pos (by omega)]
                       | rw [if_neg (by omega), if_neg (by omega), if_pos (by omega)]
                       | rw [if_neg (by omega), if_neg (by omega), if_neg (by omega), if_pos (by omega)]
                       | rw [if_neg (by omega), if_neg (by omega), if_neg (by omega), if_neg (by omega), if_pos (by omega)]
                       | rw [if_neg (by omega), if_neg (by omega), if_neg (by omega), if_neg (by omega), if_neg (by omega), if_pos (by omega)]
                       | rw [if_neg (by omega), if_neg (by omega), if_neg (by omega), if_neg (by omega), if_neg (by omega), if_neg (by omega), if_pos (by omega)]
                       | rw [if_neg (by omega), if_neg (by omega), if_neg (by omega), if_neg (by omega), if_neg (by omega), if_neg (by omega), if_neg (by omega), if_pos (by omega)]
                       | rw [if_neg (by omega), if_neg (by omega), if_neg (by omega), if_neg (by omega), if_neg (by omega), if_neg (by omega), if_neg (by omega), if_neg (by omega), if_pos (by omega)]
                       | rw [if_neg (by omega), if_neg (by omega), if_neg (by omega), if_neg (by omega), if_neg (by omega), if_neg (by omega), if_neg (by omega), if_neg (by omega), if_neg (by omega), if_pos (by omega)])
                  | (refine p_st348 (l1 := lk1 l) (x := x) hm ha hT hv hI (by omega) (by rw [if_pos (by omega)]) hx ?_ hz ⟨hI.1.stJ (Or.inl ⟨rfl, by omega⟩), by rw [mJ_st, if_pos ⟨rfl, rfl⟩], lk1_ok l, hI.2.2.2.1, hI.2.2.2.2⟩
                     unfold vV
                     rw [if_neg (by omega), if_neg (by omega), if_neg (by omega), if_neg (by omega), if_neg (by omega), if_neg (by omega), if_neg (by omega), if_neg (by omega), if_neg (by omega), if_neg (by omega)])
              · skip
                by_cases t_155_3 : s.1 = 3
                · skip
                  refine g_tableIn (off := 81) (tgt := 236) dX9_step_155 (by rw [nI_t (by omega)]; omega) (by rw [nI_t (by omega)]; omega) (by rw [nI_t (by omega)]; rw [t_155_3]; rfl) (by decide) ?_
                  refine g_iload dX9_step_236 rfl ?_
                  refine g_iload dX9_step_238 rfl ?_
                  refine g_isub dX9_step_240 ?_
                  refine g_istore dX9_step_241 (Nat.le_of_ble_eq_true rfl) ?_
                  refine g_goto (tgt := 348) dX9_step_243 (by decide) ?_
                  refine g_msk [true, true, false, true, false, false, true] ?_
                  have hz : ¬ ((s.1 = 7 ∨ s.1 = 8) ∧ atP now s.2.2.2 = 0) := by
                    rw [← hnc, i_eq, z0]
                    omega
                  first
                    | (exfalso; omega)
                    | (refine p_st348 (l1 := l) (x := x) hm ha hT hv hI (by omega) (by rw [if_neg (by omega)]) hx ?_ hz hI
                       rw [← hnb, ← hnc]
                       unfold vV
                       first
                         | rw [if_pos (by omega)]
                         | rw [if_neg (by omega), if_pos (by omega)]
                         | rw [if_neg (by omega), if_neg (by omega), if_pos (by omega)]
                         | rw [if_neg (by omega), if_neg (by omega), if_neg (by omega), if_pos (by omega)]
                         | rw [if_neg (by omega), if_neg (by omega), if_neg (by omega), if_neg (by omega), if_pos (by omega)]
                         | rw [if_neg (by omega), if_neg (by omega), if_neg (by omega), if_neg (by omega), if_neg (by omega), if_pos (by omega)]
                         | rw [if_neg (by omega), if_neg (by omega), if_neg (by omega), if_neg (by omega), if_neg (by omega), if_neg (by omega), if_pos (by omega)]
                         | rw [if_neg (by omega), if_neg (by omega), if_neg (by omega), if_neg (by omega), if_neg (by omega), if_neg (by omega), if_neg (by omega), if_pos (by omega)]
                         | rw [if_neg (by omega), if_neg (by omega), if_neg (by omega), if_neg (by omega), if_neg (by omega), if_neg (by omega), if_neg (by omega), if_neg (by omega), if_pos (by omega)]
                         | rw [if_neg (by omega), if_neg (by omega), if_neg (by omega), if_neg (by omega), if_neg (by omega), if_neg (by omega), if_neg (by omega), if_neg (by omega), if_neg (by omega), if_pos (by omega)])
                    | (refine p_st348 (l1 := lk1 l) (x := x) hm ha hT hv hI (by omega) (by rw [if_pos (by omega)]) hx ?_ hz ⟨hI.1.stJ (Or.inl ⟨rfl, by omega⟩), by rw [mJ_st, if_pos ⟨rfl, rfl⟩], lk1_ok l, hI.2.2.2.1, hI.2.2.2.2⟩
                       unfold vV
                       rw [if_neg (by omega), if_neg (by omega), if_neg (by omega), if_neg (by omega), if_neg (by omega), if_neg (by omega), if_neg (by omega), if_neg (by omega), if_neg (by omega), if_neg (by omega)])
                · skip
                  by_cases t_155_4 : s.1 = 4
                  · skip
                    refine g_tableIn (off := 91) (tgt := 246) dX9_step_155 (by rw [nI_t (by omega)]; omega) (by rw [nI_t (by omega)]; omega) (by rw [nI_t (by omega)]; rw [t_155_4]; rfl) (by decide) ?_
                    refine g_iload dX9_step_246 rfl ?_
                    refine g_iload dX9_step_248 rfl ?_
                    refine g_imul dX9_step_250 ?_
                    refine g_istore dX9_step_251 (Nat.le_of_ble_eq_true rfl) ?_
                    refine g_goto (tgt := 348) dX9_step_253 (by decide) ?_
                    refine g_msk [true, true, false, true, false, false, true] ?_
                    have hz : ¬ ((s.1 = 7 ∨ s.1 = 8) ∧ atP now s.2.2.2 = 0) := by
                      rw [← hnc, i_eq, z0]
                      omega
                    first
                      | (exfalso; omega)
                      | (refine p_st348 (l1 := l) (x := x) hm ha hT hv hI (by omega) (by rw [if_neg (by omega)]) hx ?_ hz hI
                         rw [← hnb, ← hnc]
                         unfold vV
                         first
                           | rw [if_pos (by omega)]
                           | rw [if_neg (by omega), if_pos (by omega)]
                           | rw [if_neg (by omega), if_neg (by omega), if_pos (by omega)]
                           | rw [if_neg (by omega), if_neg (by omega), if_neg (by omega), if_pos (by omega)]
                           | rw [if_neg (by omega), if_neg (by omega), if_neg (by omega), if_neg (by omega), if_pos (by omega)]
                           | rw [if_neg (by omega), if_neg (by omega), if_neg (by omega), if_neg (by omega), if_neg (by omega), if_pos (by omega)]
                           | rw [if_neg (by omega), if_neg (by omega), if_neg (by omega), if_neg (by omega), if_neg (by omega), if_neg (by omega), if_pos (by omega)]
                           | rw [if_neg (by omega), if_neg (by omega), if_neg (by omega), if_neg (by omega), if_neg (by omega), if_neg (by omega), if_neg (by omega), if_pos (by omega)]
                           | rw [if_neg (by omega), if_neg (by omega), if_neg (by omega), if_neg (by omega), if_neg (by omega), if_neg (by omega), if_neg (by omega), if_neg (by omega), if_pos (by omega)]
                           | rw [if_neg (by omega), if_neg (by omega), if_neg (by omega), if_neg (by omega), if_neg (by omega), if_neg (by omega), if_neg (by omega), if_neg (by omega), if_neg (by omega), if_pos (by omega)])
                      | (refine p_st348 (l1 := lk1 l) (x := x) hm ha hT hv hI (by omega) (by rw [if_pos (by omega)]) hx ?_ hz ⟨hI.1.stJ (Or.inl ⟨rfl, by omega⟩), by rw [mJ_st, if_pos ⟨rfl, rfl⟩], lk1_ok l, hI.2.2.2.1, hI.2.2.2.2⟩
                         unfold vV
                         rw [if_neg (by omega), if_neg (by omega), if_neg (by omega), if_neg (by omega), if_neg (by omega), if_neg (by omega), if_neg (by omega), if_neg (by omega), if_neg (by omega), if_neg (by omega)])
                  · skip
                    by_cases t_155_5 : s.1 = 5
                    · skip
                      refine g_tableIn (off := 101) (tgt := 256) dX9_step_155 (by rw [nI_t (by omega)]; omega) (by rw [nI_t (by omega)]; omega) (by rw [nI_t (by omega)]; rw [t_155_5]; rfl) (by decide) ?_
                      refine g_iload dX9_step_256 rfl ?_
                      refine g_aload_n dX9_step_258 rfl ?_
                      refine g_getR (f := 10) dX9_step_259 cl10 hm1.1 (by decide) (Or.inl (iw_6 3 rfl)) (Or.inl rfl) rfl hm1.r_argC ?_
                      refine g_iload_n dX9_step_262 rfl ?_
                      refine g_iaload dX9_step_263 (j := a) hm1.k_argC hm1.n_argC rfl (by omega) (by decide) ?_
                      rw [hT1.2.2.2]
                      refine g_iand dX9_step_264 ?_
                      refine g_istore dX9_step_265 (Nat.le_of_ble_eq_true rfl) ?_
                      refine g_goto (tgt := 348) dX9_step_267 (by decide) ?_
                      refine g_msk [true, true, false, true, false, false, true] ?_
                      have hz : ¬ ((s.1 = 7 ∨ s.1 = 8) ∧ atP now s.2.2.2 = 0) := by
                        rw [← hnc, i_eq, z0]
                        omega
                      first
                        | (exfalso; omega)
                        | (refine p_st348 (l1 := l) (x := x) hm ha hT hv hI (by omega) (by rw [if_neg (by omega)]) hx ?_ hz hI
                           rw [← hnb, ← hnc]
                           unfold vV
                           first
                             | rw [if_pos (by omega)]
                             | rw [if_neg (by omega), if_pos (by omega)]
                             | rw [if_neg (by omega), if_neg (by omega), if_pos (by omega)]
                             | rw [if_neg (by omega), if_neg (by omega), if_neg (by omega), if_pos (by omega)]
                             | rw [if_neg (by omega), if_neg (by omega), if_neg (by omega), if_neg (by omega), if_pos (by omega)]
                             | rw [if_neg (by omega), if_neg (by omega), if_neg (by omega), if_neg (by omega), if_neg (by omega), if_pos (by omega)]
                             | rw [if_neg (by omega), if_neg (by omega), if_neg (by omega), if_neg (by omega), if_neg (by omega), if_neg (by omega), if_pos (by omega)]
                             | rw [if_neg (by omega), if_neg (by omega), if_neg (by omega), if_neg (by omega), if_neg (by omega), if_neg (by omega), if_neg (by omega), if_pos (by omega)]
                             | rw [if_neg (by omega), if_neg (by omega), if_neg (by omega), if_neg (by omega), if_neg (by omega), if_neg (by omega), if_neg (by omega), if_neg (by omega), if_pos (by omega)]
                             | rw [if_neg (by omega), if_neg (by omega), if_neg (by omega), if_neg (by omega), if_neg (by omega), if_neg (by omega), if_neg (by omega), if_neg (by omega), if_neg (by omega), if_pos (by omega)])
                        | (refine p_st348 (l1 := lk1 l) (x := x) hm ha hT hv hI (by omega) (by rw [if_pos (by omega)]) hx ?_ hz ⟨hI.1.stJ (Or.inl ⟨rfl, by omega⟩), by rw [mJ_st, if_pos ⟨rfl, rfl⟩], lk1_ok l, hI.2.2.2.1, hI.2.2.2.2⟩
                           unfold vV
                           rw [if_neg (by omega), if_neg (by omega), if_neg (by omega), if_neg (by omega), if_neg (by omega), if_neg (by omega), if_neg (by omega), if_neg (by omega), if_neg (by omega), if_neg (by omega)])
                    · skip
                      by_cases t_155_6 : s.1 = 6
                      · skip
                        refine g_tableIn (off := 115) (tgt := 270) dX9_step_155 (by rw [nI_t (by omega)]; omega) (by rw [nI_t (by omega)]; omega) (by rw [nI_t (by omega)]; rw [t_155_6]; rfl) (by decide) ?_
                        refine g_iload dX9_step_270 rfl ?_
                        refine g_aload_n dX9_step_272 rfl ?_
                        refine g_getR (f := 10) dX9_step_273 cl10 hm1.1 (by decide) (Or.inl (iw_6 3 rfl)) (Or.inl rfl) rfl hm1.r_argC ?_
                        refine g_iload_n dX9_step_276 rfl ?_
                        refine g_iaload dX9_step_277 (j := a) hm1.k_argC hm1.n_argC rfl (by omega) (by decide) ?_
                        rw [show mI M1 (m + 8) a = nI (pl s.2.2.2) from hT1.2.2.2.trans (pl_eq (hv.2.2.2.2.2.1 t_155_6).1)]
                        refine g_ishr dX9_step_278 ?_
                        rw [iZ_shr nb (by have h7 := hv.2.2.2.2.2.1 t_155_6; unfold pl; omega)]
                        refine g_istore dX9_step_279 (Nat.le_of_ble_eq_true rfl) ?_
                        refine g_goto (tgt := 348) dX9_step_281 (by decide) ?_
                        refine g_msk [true, true, false, true, false, false, true] ?_
                        have hz : ¬ ((s.1 = 7 ∨ s.1 = 8) ∧ atP now s.2.2.2 = 0) := by
                          rw [← hnc, i_eq, z0]
                          omega
                        first
                          | (exfalso; omega)
                          | (refine p_st348 (l1 := l) (x := x) hm ha hT hv hI (by omega) (by rw [if_neg (by omega)]) hx ?_ hz hI
                             rw [← hnb, ← hnc]
                             unfold vV
                             first
                               | rw [if_pos (by omega)]
                               | rw [if_neg (by omega), if_pos (by omega)]
                               | rw [if_neg (by omega), if_neg (by omega), if_pos (by omega)]
                               | rw [if_neg (by omega), if_neg (by omega), if_neg (by omega), if_pos (by omega)]
                               | rw [if_neg (by omega), if_neg (by omega), if_neg (by omega), if_neg (by omega), if_pos (by omega)]
                               | rw [if_neg (by omega), if_neg (by omega), if_neg (by omega), if_neg (by omega), if_neg (by omega), if_pos (by omega)]
                               | rw [if_neg (by omega), if_neg (by omega), if_neg (by omega), if_neg (by omega), if_neg (by omega), if_neg (by omega), if_pos (by omega)]
                               | rw [if_neg (by omega), if_neg (by omega), if_neg (by omega), if_neg (by omega), if_neg (by omega), if_neg (by omega), if_neg (by omega), if_pos (by omega)]
                               | rw [if_neg (by omega), if_neg (by omega), if_neg (by omega), if_neg (by omega), if_neg (by omega), if_neg (by omega), if_neg (by omega), if_neg (by omega), if_pos (by omega)]
                               | rw [if_neg (by omega), if_neg (by omega), if_neg (by omega), if_neg (by omega), if_neg (by omega), if_neg (by omega), if_neg (by omega), if_neg (by omega), if_neg (by omega), if_pos (by omega)])
                          | (refine p_st348 (l1 := lk1 l) (x := x) hm ha hT hv hI (by omega) (by rw [if_pos (by omega)]) hx ?_ hz ⟨hI.1.stJ (Or.inl ⟨rfl, by omega⟩), by rw [mJ_st, if_pos ⟨rfl, rfl⟩], lk1_ok l, hI.2.2.2.1, hI.2.2.2.2⟩
                             unfold vV
                             rw [if_neg (by omega), if_neg (by omega), if_neg (by omega), if_neg (by omega), if_neg (by omega), if_neg (by omega), if_neg (by omega), if_neg (by omega), if_neg (by omega), if_neg (by omega)])
                      · skip
                        by_cases t_155_7 : s.1 = 7
                        · skip
                          refine g_tableIn (off := 129) (tgt := 284) dX9_step_155 (by rw [nI_t (by omega)]; omega) (by rw [nI_t (by omega)]; omega) (by rw [nI_t (by omega)]; rw [t_155_7]; rfl) (by decide) ?_
                          refine g_iload dX9_step_284 rfl ?_
                          refine g_i2l dX9_step_286 ?_
                          rw [i_j]
                          refine g_iload dX9_step_287 rfl ?_
                          refine g_i2l dX9_step_289 ?_
                          rw [i_j]
                          refine g_ldiv dX9_step_290 (jI_ne (by constructor <;> omega) (by omega)) ?_
                          rw [jI_div br cr (by omega)]
                          refine g_l2i dX9_step_291 ?_
                          rw [jI_i]
                          refine g_istore dX9_step_292 (Nat.le_of_ble_eq_true rfl) ?_
                          refine g_goto (tgt := 348) dX9_step_294 (by decide) ?_
                          refine g_msk [true, true, false, true, false, false, true] ?_
                          have hz : ¬ ((s.1 = 7 ∨ s.1 = 8) ∧ atP now s.2.2.2 = 0) := by
                            rw [← hnc, i_eq, z0]
                            omega
                          first
                            | (exfalso; omega)
                            | (refine p_st348 (l1 := l) (x := x) hm ha hT hv hI (by omega) (by rw [if_neg (by omega)]) hx ?_ hz hI
                               rw [← hnb, ← hnc]
                               unfold vV
                               first
                                 | rw [if_pos (by omega)]
                                 | rw [if_neg (by omega), if_pos (by omega)]
                                 | rw [if_neg (by omega), if_neg (by omega), if_pos (by omega)]
                                 | rw [if_neg (by omega), if_neg (by omega), if_neg (by omega), if_pos (by omega)]
                                 | rw [if_neg (by omega), if_neg (by omega), if_neg (by omega), if_neg (by omega), if_pos (by omega)]
                                 | rw [if_neg (by omega), if_neg (by omega), if_neg (by omega), if_neg (by omega), if_neg (by omega), if_pos (by omega)]
                                 | rw [if_neg (by omega), if_neg (by omega), if_neg (by omega), if_neg (by omega), if_neg (by omega), if_neg (by omega), if_pos (by omega)]
                                 | rw [if_neg (by omega), if_neg (by omega), if_neg (by omega), if_neg (by omega), if_neg (by omega), if_neg (by omega), if_neg (by omega), if_pos (by omega)]
                                 | rw [if_neg (by omega), if_neg (by omega), if_neg (by omega), if_neg (by omega), if_neg (by omega), if_neg (by omega), if_neg (by omega), if_neg (by omega), if_pos (by omega)]
                                 | rw [if_neg (by omega), if_neg (by omega), if_neg (by omega), if_neg (by omega), if_neg (by omega), if_neg (by omega), if_neg (by omega), if_neg (by omega), if_neg (by omega), if_pos (by omega)])
                            | (refine p_st348 (l1 := lk1 l) (x := x) hm ha hT hv hI (by omega) (by rw [if_pos (by omega)]) hx ?_ hz ⟨hI.1.stJ (Or.inl ⟨rfl, by omega⟩), by rw [mJ_st, if_pos ⟨rfl, rfl⟩], lk1_ok l, hI.2.2.2.1, hI.2.2.2.2⟩
                               unfold vV
                               rw [if_neg (by omega), if_neg (by omega), if_neg (by omega), if_neg (by omega), if_neg (by omega), if_neg (by omega), if_neg (by omega), if_neg (by omega), if_neg (by omega), if_neg (by omega)])
                        · skip
                          by_cases t_155_8 : s.1 = 8
                          · skip
                            refine g_tableIn (off := 142) (tgt := 297) dX9_step_155 (by rw [nI_t (by omega)]; omega) (by rw [nI_t (by omega)]; omega) (by rw [nI_t (by omega)]; rw [t_155_8]; rfl) (by decide) ?_
                            refine g_iload dX9_step_297 rfl ?_
                            refine g_i2l dX9_step_299 ?_
                            rw [i_j]
                            refine g_iload dX9_step_300 rfl ?_
                            refine g_i2l dX9_step_302 ?_
                            rw [i_j]
                            refine g_lrem dX9_step_303 (jI_ne (by constructor <;> omega) (by omega)) ?_
                            rw [jI_tmod br cr (by omega)]
                            refine g_l2i dX9_step_304 ?_
                            rw [jI_i]
                            refine g_istore dX9_step_305 (Nat.le_of_ble_eq_true rfl) ?_
                            refine g_goto (tgt := 348) dX9_step_307 (by decide) ?_
                            refine g_msk [true, true, false, true, false, false, true] ?_
                            have hz : ¬ ((s.1 = 7 ∨ s.1 = 8) ∧ atP now s.2.2.2 = 0) := by
                              rw [← hnc, i_eq, z0]
                              omega
                            first
                              | (exfalso; omega)
                              | (refine p_st348 (l1 := l) (x := x) hm ha hT hv hI (by omega) (by rw [if_neg (by omega)]) hx ?_ hz hI
                                 rw [← hnb, ← hnc]
                                 unfold vV
                                 first
                                   | rw [if_pos (by omega)]
                                   | rw [if_neg (by omega), if_pos (by omega)]
                                   | rw [if_neg (by omega), if_neg (by omega), if_pos (by omega)]
                                   | rw [if_neg (by omega), if_neg (by omega), if_neg (by omega), if_pos (by omega)]
                                   | rw [if_neg (by omega), if_neg (by omega), if_neg (by omega), if_neg (by omega), if_pos (by omega)]
                                   | rw [if_neg (by omega), if_neg (by omega), if_neg (by omega), if_neg (by omega), if_neg (by omega), if_pos (by omega)]
                                   | rw [if_neg (by omega), if_neg (by omega), if_neg (by omega), if_neg (by omega), if_neg (by omega), if_neg (by omega), if_pos (by omega)]
                                   | rw [if_neg (by omega), if_neg (by omega), if_neg (by omega), if_neg (by omega), if_neg (by omega), if_neg (by omega), if_neg (by omega), if_pos (by omega)]
                                   | rw [if_neg (by omega), if_neg (by omega), if_neg (by omega), if_neg (by omega), if_neg (by omega), if_neg (by omega), if_neg (by omega), if_neg (by omega), if_pos (by omega)]
                                   | rw [if_neg (by omega), if_neg (by omega), if_neg (by omega), if_neg (by omega), if_neg (by omega), if_neg (by omega), if_neg (by omega), if_neg (by omega), if_neg (by omega), if_pos (by omega)])
                              | (refine p_st348 (l1 := lk1 l) (x := x) hm ha hT hv hI (by omega) (by rw [if_pos (by omega)]) hx ?_ hz ⟨hI.1.stJ (Or.inl ⟨rfl, by omega⟩), by rw [mJ_st, if_pos ⟨rfl, rfl⟩], lk1_ok l, hI.2.2.2.1, hI.2.2.2.2⟩
                                 unfold vV
                                 rw [if_neg (by omega), if_neg (by omega), if_neg (by omega), if_neg (by omega), if_neg (by omega), if_neg (by omega), if_neg (by omega), if_neg (by omega), if_neg (by omega), if_neg (by omega)])
                          · skip
                            by_cases t_155_9 : s.1 = 9
                            · skip
                              refine g_tableIn (off := 155) (tgt := 310) dX9_step_155 (by rw [nI_t (by omega)]; omega) (by rw [nI_t (by omega)]; omega) (by rw [nI_t (by omega)]; rw [t_155_9]; rfl) (by decide) ?_
                              refine g_iload dX9_step_310 rfl ?_
                              refine g_i2l dX9_step_312 ?_
                              rw [i_j]
                              refine g_aload_n dX9_step_313 rfl ?_
                              refine g_getR (f := 10) dX9_step_314 cl10 hm1.1 (by decide) (Or.inl (iw_6 3 rfl)) (Or.inl rfl) rfl hm1.r_argC ?_
                              refine g_iload_n dX9_step_317 rfl ?_
                              refine g_iaload dX9_step_318 (j := a) hm1.k_argC hm1.n_argC rfl (by omega) (by decide) ?_
                              rw [hT1.2.2.2]
                              refine g_callS dX9_step_319 sX9_cut (m_cut M1 n nb.toInt s.2.2.2) tX9_cut (iw_27 0 rfl) rfl rfl (Nat.le_of_ble_eq_true rfl) (Nat.le_of_ble_eq_true rfl) (Nat.le_of_ble_eq_true rfl) (Nat.le_of_ble_eq_true rfl) (Nat.le_of_ble_eq_true rfl) ?_
                              intro r9 M9 n9 h9
                              obtain ⟨h91, h92, h93⟩ := h9
                              rw [h91, h92, h93]
                              clear h91 h92 h93 r9 M9 n9
                              refine g_l2i dX9_step_322 ?_
                              rw [jI_i]
                              refine g_istore dX9_step_323 (Nat.le_of_ble_eq_true rfl) ?_
                              refine g_goto (tgt := 348) dX9_step_325 (by decide) ?_
                              refine g_msk [true, true, false, true, false, false, true] ?_
                              have hz : ¬ ((s.1 = 7 ∨ s.1 = 8) ∧ atP now s.2.2.2 = 0) := by
                                rw [← hnc, i_eq, z0]
                                omega
                              first
                                | (exfalso; omega)
                                | (refine p_st348 (l1 := l) (x := x) hm ha hT hv hI (by omega) (by rw [if_neg (by omega)]) hx ?_ hz hI
                                   rw [← hnb, ← hnc]
                                   unfold vV
                                   first
                                     | rw [if_pos (by omega)]
                                     | rw [if_neg (by omega), if_pos (by omega)]
                                     | rw [if_neg (by omega), if_neg (by omega), if_pos (by omega)]
                                     | rw [if_neg (by omega), if_neg (by omega), if_neg (by omega), if_pos (by omega)]
                                     | rw [if_neg (by omega), if_neg (by omega), if_neg (by omega), if_neg (by omega), if_pos (by omega)]
                                     | rw [if_neg (by omega), if_neg (by omega), if_neg (by omega), if_neg (by omega), if_neg (by omega), if_pos (by omega)]
                                     | rw [if_neg (by omega), if_neg (by omega), if_neg (by omega), if_neg (by omega), if_neg (by omega), if_neg (by omega), if_pos (by omega)]
                                     | rw [if_neg (by omega), if_neg (by omega), if_neg (by omega), if_neg (by omega), if_neg (by omega), if_neg (by omega), if_neg (by omega), if_pos (by omega)]
                                     | rw [if_neg (by omega), if_neg (by omega), if_neg (by omega), if_neg (by omega), if_neg (by omega), if_neg (by omega), if_neg (by omega), if_neg (by omega), if_pos (by omega)]
                                     | rw [if_neg (by omega), if_neg (by omega), if_neg (by omega), if_neg (by omega), if_neg (by omega), if_neg (by omega), if_neg (by omega), if_neg (by omega), if_neg (by omega), if_pos (by omega)])
                                | (refine p_st348 (l1 := lk1 l) (x := x) hm ha hT hv hI (by omega) (by rw [if_pos (by omega)]) hx ?_ hz ⟨hI.1.stJ (Or.inl ⟨rfl, by omega⟩), by rw [mJ_st, if_pos ⟨rfl, rfl⟩], lk1_ok l, hI.2.2.2.1, hI.2.2.2.2⟩
                                   unfold vV
                                   rw [if_neg (by omega), if_neg (by omega), if_neg (by omega), if_neg (by omega), if_neg (by omega), if_neg (by omega), if_neg (by omega), if_neg (by omega), if_neg (by omega), if_neg (by omega)])
                            · skip
                              refine g_tableOut (tgt := 328) dX9_step_155 (by rw [nI_t (by omega)]; omega) (by decide) ?_
                              refine g_aload_n dX9_step_328 rfl ?_
                              refine g_aload_n dX9_step_329 rfl ?_
                              refine g_getR (f := 9) dX9_step_330 cl10 hm1.1 (by decide) (Or.inl (iw_6 2 rfl)) (Or.inl rfl) rfl hm1.r_argB ?_
                              refine g_iload_n dX9_step_333 rfl ?_
                              refine g_iaload dX9_step_334 (j := a) hm1.k_argB hm1.n_argB rfl (by omega) (by decide) ?_
                              rw [hT1.2.2.1]
                              refine g_i2l dX9_step_335 ?_
                              rw [i_j]
                              refine g_aload_n dX9_step_336 rfl ?_
                              refine g_getR (f := 10) dX9_step_337 cl10 hm1.1 (by decide) (Or.inl (iw_6 3 rfl)) (Or.inl rfl) rfl hm1.r_argC ?_
                              refine g_iload_n dX9_step_340 rfl ?_
                              refine g_iaload dX9_step_341 (j := a) hm1.k_argC hm1.n_argC rfl (by omega) (by decide) ?_
                              rw [hT1.2.2.2]
                              refine g_i2l dX9_step_342 ?_
                              rw [i_j]
                              refine g_callV dX9_step_343 sX9_drawn (m_drawn M1 n m l s.2.2.1.toInt s.2.2.2.toInt hm1 hI.2.1 hI.2.2.1 (i_rng _) (i_rng _) (hv.2.2.2.2.2.2.2.1 (by omega))) cl10 hm1.1 iX9_drawn vX9_drawn (iw_38 2 rfl) rfl rfl (Nat.le_of_ble_eq_true rfl) (Nat.le_of_ble_eq_true rfl) (Nat.le_of_ble_eq_true rfl) (Nat.le_of_ble_eq_true rfl) (Nat.le_of_ble_eq_true rfl) ?_
                              intro r9 M9 n9 h9
                              obtain ⟨h91, h92, h93⟩ := h9
                              rw [h91, h92, h93]
                              clear h91 h92 h93 r9 M9 n9
                              refine g_istore dX9_step_346 (Nat.le_of_ble_eq_true rfl) ?_
                              refine g_msk [true, true, false, true, false, false, true] ?_
                              have hz : ¬ ((s.1 = 7 ∨ s.1 = 8) ∧ atP now s.2.2.2 = 0) := by
                                rw [← hnc, i_eq, z0]
                                omega
                              first
                                | (exfalso; omega)
                                | (refine p_st348 (l1 := l) (x := x) hm ha hT hv hI (by omega) (by rw [if_neg (by omega)]) hx ?_ hz hI
                                   rw [← hnb, ← hnc]
                                   unfold vV
                                   first
                                     | rw [if_pos (by omega)]
                                     | rw [if_neg (by omega), if_pos (by omega)]
                                     | rw [if_neg (by omega), if_neg (by omega), if_pos (by omega)]
                                     | rw [if_neg (by omega), if_neg (by omega), if_neg (by omega), if_pos (by omega)]
                                     | rw [if_neg (by omega), if_neg (by omega), if_neg (by omega), if_neg (by omega), if_pos (by omega)]
                                     | rw [if_neg (by omega), if_neg (by omega), if_neg (by omega), if_neg (by omega), if_neg (by omega), if_pos (by omega)]
                                     | rw [if_neg (by omega), if_neg (by omega), if_neg (by omega), if_neg (by omega), if_neg (by omega), if_neg (by omega), if_pos (by omega)]
                                     | rw [if_neg (by omega), if_neg (by omega), if_neg (by omega), if_neg (by omega), if_neg (by omega), if_neg (by omega), if_neg (by omega), if_pos (by omega)]
                                     | rw [if_neg (by omega), if_neg (by omega), if_neg (by omega), if_neg (by omega), if_neg (by omega), if_neg (by omega), if_neg (by omega), if_neg (by omega), if_pos (by omega)]
                                     | rw [if_neg (by omega), if_neg (by omega), if_neg (by omega), if_neg (by omega), if_neg (by omega), if_neg (by omega), if_neg (by omega), if_neg (by omega), if_neg (by omega), if_pos (by omega)])
                                | (refine p_st348 (l1 := lk1 l) (x := x) hm ha hT hv hI (by omega) (by rw [if_pos (by omega)]) hx ?_ hz ⟨hI.1.stJ (Or.inl ⟨rfl, by omega⟩), by rw [mJ_st, if_pos ⟨rfl, rfl⟩], lk1_ok l, hI.2.2.2.1, hI.2.2.2.2⟩
                                   unfold vV
                                   rw [if_neg (by omega), if_neg (by omega), if_neg (by omega), if_neg (by omega), if_neg (by omega), if_neg (by omega), if_neg (by omega), if_neg (by omega), if_neg (by omega), if_neg (by omega)])
        · skip
          refine g_aload_n dX9_step_147 rfl ?_
          refine g_iconst (v := nI 1) dX9_step_148 rfl ?_
          refine g_putI (f := 19) dX9_step_149 cl10 hm1.1 (by decide) (Or.inl (iw_6 8 rfl)) (Or.inl rfl) (Or.inl rfl) (Or.inl rfl) ?_
          refine g_iload_n dX9_step_152 rfl ?_
          exact g_iret dX9_step_153 (Or.inl rfl) (Nat.le_of_ble_eq_true rfl) (Nat.le_of_ble_eq_true rfl) (by
            have e : stZ s a l now = (a, l, now, 1) := by
              unfold stZ
              rw [if_neg h19, if_neg h18, if_neg (by omega), if_pos ⟨by omega, by rw [← hnc]; exact c_144⟩]
            rw [e]
            exact ⟨rfl, rfl, hI.1.stI (Or.inl ⟨rfl, by omega⟩), hI.2.1, hI.2.2.1, fun p hp => by rw [mI_st, if_neg (by omega)]; exact hI.2.2.2.1 p hp, by rw [mI_st, if_pos ⟨rfl, rfl⟩]; rfl⟩)
  · skip
    rw [nI_ltI (by omega) (by omega)] at c_96
    have pa := hv.2.1 (by omega)
    refine g_iload_n dX9_step_99 rfl ?_
    refine g_bipush (v := nI 11) dX9_step_100 rfl ?_
    refine g_isub dX9_step_102 ?_
    rw [pk_sub (by omega)]
    refine g_aload_n dX9_step_103 rfl ?_
    refine g_getR (f := 18) dX9_step_104 cl10 hm1.1 (by decide) (Or.inl (iw_6 7 rfl)) (Or.inl rfl) rfl hm1.r_now ?_
    refine g_iload_n dX9_step_107 rfl ?_
    refine g_iaload dX9_step_108 (j := pl s.2.1) hm1.k_now hm1.n_now (hx.trans pa.eq) pa.lt (by decide) ?_
    rw [hI.2.2.2.1 (pl s.2.1) pa.lt]
    refine g_iload dX9_step_109 rfl ?_
    refine g_callS dX9_step_111 sX9_holdsNow (m_holdsNow M1 n (s.1 - 11) (now (pl s.2.1)) nb (by omega)) tX9_holdsNow (iw_38 15 rfl) rfl rfl (Nat.le_of_ble_eq_true rfl) (Nat.le_of_ble_eq_true rfl) (Nat.le_of_ble_eq_true rfl) (Nat.le_of_ble_eq_true rfl) (Nat.le_of_ble_eq_true rfl) ?_
    intro r9 M9 n9 h9
    obtain ⟨h91, h92, h93⟩ := h9
    rw [h91, h92, h93]
    clear h91 h92 h93 r9 M9 n9
    refine g_if_eq (tgt := 126) dX9_step_114 (by decide) (fun c_114 => ?_) (fun c_114 => ?_)
    · skip
      rw [bI_eq0] at c_114
      refine g_iload_n dX9_step_126 rfl ?_
      refine g_iconst (v := nI 1) dX9_step_127 rfl ?_
      refine g_iadd dX9_step_128 ?_
      try rw [nI_add]
      exact g_iret dX9_step_129 (Or.inl rfl) (Nat.le_of_ble_eq_true rfl) (Nat.le_of_ble_eq_true rfl) (by
        have e : stZ s a l now = (if hlN (s.1 - 11) (now (pl s.2.1)).toInt nb.toInt = true then pl s.2.2.2 else a + 1, l, now, -1) := by
          unfold stZ
          rw [if_neg h19, if_neg h18, if_pos (by omega), hnb]
        rw [e]
        first
          | (rw [if_pos c_114]; exact ⟨rfl, rfl, hI⟩)
          | (rw [if_neg (by rw [c_114]; decide)]; exact ⟨rfl, rfl, hI⟩))
    · skip
      rw [bI_eq0, Bool.not_eq_false] at c_114
      refine g_aload_n dX9_step_117 rfl ?_
      refine g_getR (f := 10) dX9_step_118 cl10 hm1.1 (by decide) (Or.inl (iw_6 3 rfl)) (Or.inl rfl) rfl hm1.r_argC ?_
      refine g_iload_n dX9_step_121 rfl ?_
      refine g_iaload dX9_step_122 (j := a) hm1.k_argC hm1.n_argC rfl (by omega) (by decide) ?_
      rw [show mI M1 (m + 8) a = nI (pl s.2.2.2) from hT1.2.2.2.trans (pl_eq (hv.2.2.2.2.2.2.2.2.1 (by omega)).1)]
      refine g_goto (tgt := 129) dX9_step_123 (by decide) ?_
      try rw [nI_add]
      exact g_iret dX9_step_129 (Or.inl rfl) (Nat.le_of_ble_eq_true rfl) (Nat.le_of_ble_eq_true rfl) (by
        have e : stZ s a l now = (if hlN (s.1 - 11) (now (pl s.2.1)).toInt nb.toInt = true then pl s.2.2.2 else a + 1, l, now, -1) := by
          unfold stZ
          rw [if_neg h19, if_neg h18, if_pos (by omega), hnb]
        rw [e]
        first
          | (rw [if_pos c_114]; exact ⟨rfl, rfl, hI⟩)
          | (rw [if_neg (by rw [c_114]; decide)]; exact ⟨rfl, rfl, hI⟩))

set_option maxHeartbeats 4000000 in
set_option maxRecDepth 100000 in
theorem m_step (M M1 : gM) (n m a : Nat) (s : St) (l : Int) (now : Nat → Int32) (hm : gMod M m) (ha : a < 40) (hT : sT M m a s) (hv : vS s) (hI : trI M M1 m l now (-1)) : GM μX9_step 2 45 0 0 [.ref m, .int (nI a)] M1 n (fun r M2 n1 => r = some (.int (nI (stZ s a l now).1)) ∧ n1 = n ∧ trI M M2 m (stZ s a l now).2.1 (stZ s a l now).2.2.1 (stZ s a l now).2.2.2) := by
  refine GM.ofW (by decide) rfl (Nat.le_of_ble_eq_true rfl) rfl ?_
  have hm1 := hI.gm hm
  have hT1 := hI.st hT
  have hk19 := hv.1
  refine g_aload_n dX9_step_0 rfl ?_
  refine g_getR (f := 7) dX9_step_1 cl10 hm1.1 (by decide) (Or.inl (iw_6 0 rfl)) (Or.inl rfl) rfl hm1.r_kind ?_
  refine g_iload_n dX9_step_4 rfl ?_
  refine g_iaload dX9_step_5 (j := a) hm1.k_kind hm1.n_kind rfl (by omega) (by decide) ?_
  rw [hT1.1]
  refine g_istore_n dX9_step_6 (Nat.le_of_ble_eq_true rfl) ?_
  refine g_aload_n dX9_step_7 rfl ?_
  refine g_getR (f := 8) dX9_step_8 cl10 hm1.1 (by decide) (Or.inl (iw_6 1 rfl)) (Or.inl rfl) rfl hm1.r_argA ?_
  refine g_iload_n dX9_step_11 rfl ?_
  refine g_iaload dX9_step_12 (j := a) hm1.k_argA hm1.n_argA rfl (by omega) (by decide) ?_
  rw [hT1.2.1]
  refine g_istore_n dX9_step_13 (Nat.le_of_ble_eq_true rfl) ?_
  refine g_iload_n dX9_step_14 rfl ?_
  refine g_bipush (v := nI 19) dX9_step_15 rfl ?_
  refine g_icmp_ne (tgt := 27) dX9_step_17 (by decide) (fun c_17 => ?_) (fun c_17 => ?_)
  · skip
    rw [nI_inj (by omega) (by omega)] at c_17
    refine g_iload_n dX9_step_27 rfl ?_
    refine g_bipush (v := nI 18) dX9_step_28 rfl ?_
    refine g_icmp_ne (tgt := 35) dX9_step_30 (by decide) (fun c_30 => ?_) (fun c_30 => ?_)
    · skip
      rw [nI_inj (by omega) (by omega)] at c_30
      refine g_aload_n dX9_step_35 rfl ?_
      refine g_getR (f := 9) dX9_step_36 cl10 hm1.1 (by decide) (Or.inl (iw_6 2 rfl)) (Or.inl rfl) rfl hm1.r_argB ?_
      refine g_iload_n dX9_step_39 rfl ?_
      refine g_iaload dX9_step_40 (j := a) hm1.k_argB hm1.n_argB rfl (by omega) (by decide) ?_
      rw [hT1.2.2.1]
      refine g_callS dX9_step_41 sX9_isPlace (m_isPlace M1 n s.2.2.1) tX9_isPlace (iw_13 1 rfl) rfl rfl (Nat.le_of_ble_eq_true rfl) (Nat.le_of_ble_eq_true rfl) (Nat.le_of_ble_eq_true rfl) (Nat.le_of_ble_eq_true rfl) (Nat.le_of_ble_eq_true rfl) ?_
      intro r9 M9 n9 h9
      obtain ⟨h91, h92, h93⟩ := h9
      rw [h91, h92, h93]
      clear h91 h92 h93 r9 M9 n9
      refine g_if_eq (tgt := 61) dX9_step_44 (by decide) (fun c_44 => ?_) (fun c_44 => ?_)
      · skip
        rw [bI_eq0, decide_eq_false_iff_not] at c_44
        refine g_iconst (v := nI 0) dX9_step_61 rfl ?_
        refine g_istore dX9_step_62 (Nat.le_of_ble_eq_true rfl) ?_
        refine g_aload_n dX9_step_64 rfl ?_
        refine g_getR (f := 10) dX9_step_65 cl10 hm1.1 (by decide) (Or.inl (iw_6 3 rfl)) (Or.inl rfl) rfl hm1.r_argC ?_
        refine g_iload_n dX9_step_68 rfl ?_
        refine g_iaload dX9_step_69 (j := a) hm1.k_argC hm1.n_argC rfl (by omega) (by decide) ?_
        rw [hT1.2.2.2]
        refine g_callS dX9_step_70 sX9_isPlace (m_isPlace M1 n s.2.2.2) tX9_isPlace (iw_13 1 rfl) rfl rfl (Nat.le_of_ble_eq_true rfl) (Nat.le_of_ble_eq_true rfl) (Nat.le_of_ble_eq_true rfl) (Nat.le_of_ble_eq_true rfl) (Nat.le_of_ble_eq_true rfl) ?_
        intro r9 M9 n9 h9
        obtain ⟨h91, h92, h93⟩ := h9
        rw [h91, h92, h93]
        clear h91 h92 h93 r9 M9 n9
        refine g_if_eq (tgt := 90) dX9_step_73 (by decide) (fun c_73 => ?_) (fun c_73 => ?_)
        · skip
          rw [bI_eq0, decide_eq_false_iff_not] at c_73
          refine g_iconst (v := nI 0) dX9_step_90 rfl ?_
          refine g_istore dX9_step_91 (Nat.le_of_ble_eq_true rfl) ?_
          exact p_st93 hm ha hT hv hI c_17 c_30 rfl (by unfold atP; first | rw [if_pos c_44] | (rw [if_neg c_44]; rfl)) (by unfold atP; first | rw [if_pos c_73] | (rw [if_neg c_73]; rfl))
        · skip
          rw [bI_eq0, decide_eq_false_iff_not, Classical.not_not] at c_73
          refine g_aload_n dX9_step_76 rfl ?_
          refine g_getR (f := 18) dX9_step_77 cl10 hm1.1 (by decide) (Or.inl (iw_6 7 rfl)) (Or.inl rfl) rfl hm1.r_now ?_
          refine g_aload_n dX9_step_80 rfl ?_
          refine g_getR (f := 10) dX9_step_81 cl10 hm1.1 (by decide) (Or.inl (iw_6 3 rfl)) (Or.inl rfl) rfl hm1.r_argC ?_
          refine g_iload_n dX9_step_84 rfl ?_
          refine g_iaload dX9_step_85 (j := a) hm1.k_argC hm1.n_argC rfl (by omega) (by decide) ?_
          refine g_iaload dX9_step_86 (j := pl s.2.2.2) hm1.k_now hm1.n_now (hT1.2.2.2.trans c_73.eq) c_73.lt (by decide) ?_
          rw [hI.2.2.2.1 _ c_73.lt]
          refine g_goto (tgt := 91) dX9_step_87 (by decide) ?_
          refine g_istore dX9_step_91 (Nat.le_of_ble_eq_true rfl) ?_
          exact p_st93 hm ha hT hv hI c_17 c_30 rfl (by unfold atP; first | rw [if_pos c_44] | (rw [if_neg c_44]; rfl)) (by unfold atP; first | rw [if_pos c_73] | (rw [if_neg c_73]; rfl))
      · skip
        rw [bI_eq0, decide_eq_false_iff_not, Classical.not_not] at c_44
        refine g_aload_n dX9_step_47 rfl ?_
        refine g_getR (f := 18) dX9_step_48 cl10 hm1.1 (by decide) (Or.inl (iw_6 7 rfl)) (Or.inl rfl) rfl hm1.r_now ?_
        refine g_aload_n dX9_step_51 rfl ?_
        refine g_getR (f := 9) dX9_step_52 cl10 hm1.1 (by decide) (Or.inl (iw_6 2 rfl)) (Or.inl rfl) rfl hm1.r_argB ?_
        refine g_iload_n dX9_step_55 rfl ?_
        refine g_iaload dX9_step_56 (j := a) hm1.k_argB hm1.n_argB rfl (by omega) (by decide) ?_
        refine g_iaload dX9_step_57 (j := pl s.2.2.1) hm1.k_now hm1.n_now (hT1.2.2.1.trans c_44.eq) c_44.lt (by decide) ?_
        rw [hI.2.2.2.1 _ c_44.lt]
        refine g_goto (tgt := 62) dX9_step_58 (by decide) ?_
        refine g_istore dX9_step_62 (Nat.le_of_ble_eq_true rfl) ?_
        refine g_aload_n dX9_step_64 rfl ?_
        refine g_getR (f := 10) dX9_step_65 cl10 hm1.1 (by decide) (Or.inl (iw_6 3 rfl)) (Or.inl rfl) rfl hm1.r_argC ?_
        refine g_iload_n dX9_step_68 rfl ?_
        refine g_iaload dX9_step_69 (j := a) hm1.k_argC hm1.n_argC rfl (by omega) (by decide) ?_
        rw [hT1.2.2.2]
        refine g_callS dX9_step_70 sX9_isPlace (m_isPlace M1 n s.2.2.2) tX9_isPlace (iw_13 1 rfl) rfl rfl (Nat.le_of_ble_eq_true rfl) (Nat.le_of_ble_eq_true rfl) (Nat.le_of_ble_eq_true rfl) (Nat.le_of_ble_eq_true rfl) (Nat.le_of_ble_eq_true rfl) ?_
        intro r9 M9 n9 h9
        obtain ⟨h91, h92, h93⟩ := h9
        rw [h91, h92, h93]
        clear h91 h92 h93 r9 M9 n9
        refine g_if_eq (tgt := 90) dX9_step_73 (by decide) (fun c_73 => ?_) (fun c_73 => ?_)
        · skip
          rw [bI_eq0, decide_eq_false_iff_not] at c_73
          refine g_iconst (v := nI 0) dX9_step_90 rfl ?_
          refine g_istore dX9_step_91 (Nat.le_of_ble_eq_true rfl) ?_
          exact p_st93 hm ha hT hv hI c_17 c_30 rfl (by unfold atP; first | rw [if_pos c_44] | (rw [if_neg c_44]; rfl)) (by unfold atP; first | rw [if_pos c_73] | (rw [if_neg c_73]; rfl))
        · skip
          rw [bI_eq0, decide_eq_false_iff_not, Classical.not_not] at c_73
          refine g_aload_n dX9_step_76 rfl ?_
          refine g_getR (f := 18) dX9_step_77 cl10 hm1.1 (by decide) (Or.inl (iw_6 7 rfl)) (Or.inl rfl) rfl hm1.r_now ?_
          refine g_aload_n dX9_step_80 rfl ?_
          refine g_getR (f := 10) dX9_step_81 cl10 hm1.1 (by decide) (Or.inl (iw_6 3 rfl)) (Or.inl rfl) rfl hm1.r_argC ?_
          refine g_iload_n dX9_step_84 rfl ?_
          refine g_iaload dX9_step_85 (j := a) hm1.k_argC hm1.n_argC rfl (by omega) (by decide) ?_
          refine g_iaload dX9_step_86 (j := pl s.2.2.2) hm1.k_now hm1.n_now (hT1.2.2.2.trans c_73.eq) c_73.lt (by decide) ?_
          rw [hI.2.2.2.1 _ c_73.lt]
          refine g_goto (tgt := 91) dX9_step_87 (by decide) ?_
          refine g_istore dX9_step_91 (Nat.le_of_ble_eq_true rfl) ?_
          exact p_st93 hm ha hT hv hI c_17 c_30 rfl (by unfold atP; first | rw [if_pos c_44] | (rw [if_neg c_44]; rfl)) (by unfold atP; first | rw [if_pos c_73] | (rw [if_neg c_73]; rfl))
    · skip
      rw [nI_inj (by omega) (by omega)] at c_30
      refine g_iload_n dX9_step_33 rfl ?_
      exact g_iret dX9_step_34 (Or.inl rfl) (Nat.le_of_ble_eq_true rfl) (Nat.le_of_ble_eq_true rfl) (by
        have e : stZ s a l now = (pl s.2.1, l, now, -1) := by unfold stZ; rw [if_neg c_17, if_pos c_30]
        rw [e]
        exact ⟨by rw [← pl_eq (hv.2.2.2.2.2.2.2.2.2 c_30).1], rfl, hI⟩)
  · skip
    rw [nI_inj (by omega) (by omega)] at c_17
    refine g_aload_n dX9_step_20 rfl ?_
    refine g_iconst (v := nI 0) dX9_step_21 rfl ?_
    refine g_putI (f := 19) dX9_step_22 cl10 hm1.1 (by decide) (Or.inl (iw_6 8 rfl)) (Or.inl rfl) (Or.inl rfl) (Or.inl rfl) ?_
    refine g_iload_n dX9_step_25 rfl ?_
    exact g_iret dX9_step_26 (Or.inl rfl) (Nat.le_of_ble_eq_true rfl) (Nat.le_of_ble_eq_true rfl) (by
      have e : stZ s a l now = (a, l, now, 0) := by unfold stZ; rw [if_pos c_17]
      rw [e]
      exact ⟨rfl, rfl, hI.1.stI (Or.inl ⟨rfl, by omega⟩), hI.2.1, hI.2.2.1, fun p hp => by rw [mI_st, if_neg (by omega)]; exact hI.2.2.2.1 p hp, by rw [mI_st, if_pos ⟨rfl, rfl⟩]; rfl⟩)

