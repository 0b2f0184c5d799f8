/-! the reference: holds; a new one -/
def hlZ (P : List St) (A : RA) : Nat → Nat → Int → (Nat → Int32) → Nat → Nat × Int32 × (Nat → Int32)
  | 0, a, _, now, dn => if P.length ≤ a then (dn, 0, now) else (dn, 2, now)
  | r + 1, a, l, now, dn => if P.length ≤ a then (dn, 0, now) else if wtK (aF A a) now (aR A a) 8 = false then (dn, 3, now) else if (stZ (P.getD a st0) a l now).2.2.2 = -1 then hlZ P A r (stZ (P.getD a st0) a l now).1 (stZ (P.getD a st0) a l now).2.1 (stZ (P.getD a st0) a l now).2.2.1 (dn + 1) else (dn + 1, (stZ (P.getD a st0) a l now).2.2.2, (stZ (P.getD a st0) a l now).2.2.1)
def dnK (F : Ev) (l : Int) (now : Nat → Int32) : Nat → Int × (Nat → Int32)
  | 0 => (l, now)
  | j + 1 => (lk1 (dnK F l now j).1, up1 (dnK F l now j).2 j (iZ (drw (lk1 (dnK F l now j).1) (lo1 (F j)) (hi1 (F j)))))
def hoZ (σ : MS) (k s : Int32) : Nat × Nat × Int32 × (Nat → Int32) := if ¬ (0 ≤ k.toInt ∧ k.toInt ≤ 5000) ∨ s < 1 ∨ s = 2147483647 then (1, 0, zH σ, zN σ) else if zR σ = false then (2, 0, zH σ, zN σ) else (0, hlZ (zP σ) (zA σ) (pl k) 0 (dnK (zF σ) s.toInt (zN σ) 8).1 (dnK (zF σ) s.toInt (zN σ) 8).2 0)
def hoS (σ : MS) (k s : Int32) : MS := (zP σ, zF σ, zR σ, (hoZ σ k s).2.2.1, (hoZ σ k s).2.2.2)
theorem rQ.trial {M M2 : gM} {m : Nat} {σ : MS} {S : Nat → List Sp} {l : Int} {now : Nat → Int32} {h : Int32} (hQ : rQ M m σ S) (hI : trI M M2 m l now h) : rQ M2 m (zP σ, zF σ, zR σ, h, now) S := by
  obtain ⟨h1, h2, h3, h4, h5, h6, h7, h8⟩ := hQ
  have ho := hI.1
  refine ⟨h1.offI ho (fun i k h => by unfold fD at h; unfold fA; omega), h2.off ho (by unfold fD; omega) (fun i k a b => by unfold fD; omega), h3, h4, (ho.i (by unfold fD; omega)).trans h5, hI.2.2.2.2, hI.2.2.2.1, fun hr => ?_⟩
  obtain ⟨a1, a2, a3⟩ := h8 hr
  exact ⟨⟨fun t ht => (ho.i (by unfold fD; omega)).trans (a1.1 t ht), fun t ht => (ho.i (by unfold fD; omega)).trans (a1.2.1 t ht), (ho.i (by unfold fD; omega)).trans a1.2.2.1, a1.2.2.2⟩, (ho.i (by unfold fD; omega)).trans a2, (ho.i (by unfold fD; omega)).trans a3⟩
theorem fD_X {m i k : Nat} (h : fD m i k) : fX m i k := by unfold fD at h; unfold fX; omega
theorem stZ_nx {s : St} (hv : vS s) {a : Nat} (ha : a < 40) (l : Int) (now : Nat → Int32) : (stZ s a l now).1 ≤ 40 := by
  unfold stZ
  split
  · exact Nat.le_of_lt ha
  · split
    · rename_i c; have := hv.2.2.2.2.2.2.2.2.2 c; show pl s.2.1 ≤ 40; unfold pl; omega
    · split
      · rename_i c1 c2 c3
        have h19 := hv.1
        have := hv.2.2.2.2.2.2.2.2.1 (by omega)
        split
        · show pl s.2.2.2 ≤ 40; unfold pl; omega
        · exact ha
      · split
        · exact Nat.le_of_lt ha
        · exact ha
set_option maxHeartbeats 4000000 in
set_option maxRecDepth 100000 in
theorem p_ho108 {M M1 : gM} {n m : Nat} {σ : MS} {S : Nat → List Sp} {w : Nat × Int32 × (Nat → Int32)} {k s : Int32} (hO1 : Off M M1 (fX m)) (hQ1 : rQ M1 m σ S) (h0 : mI M1 m 0 = nI 0) {M2 : gM} {l : Int} {now : Nat → Int32} {h : Int32} {dn : Nat} {x : Int32} (hI : trI M1 M2 m l now h) (hne : ¬ h = -1) (h02 : mI M2 m 0 = nI 0) (hw : w = (dn, h, now)) : GW μX9_holds (gRm 3 71 0 0) (gTh (fun r M2 n1 => r = some (.int (nI w.1)) ∧ n1 = n ∧ Off M M2 (fX m) ∧ rM M2 m (zP σ, zF σ, zR σ, w.2.1, w.2.2) ∧ mI M2 m 0 = nI 0) 0 0) 0 0 108 [some (.ref m), some (.int k), some (.int s), some (.int x), some (.int (nI dn))] [] M2 n := by
  refine g_aload_n dX9_holds_108 rfl ?_
  refine g_getI (f := 19) dX9_holds_109 cl10 (hI.gm hQ1.1.1).1 (by decide) (Or.inl (iw_6 8 rfl)) (Or.inl rfl) (Or.inl rfl) ?_
  rw [hI.2.2.2.2]
  refine g_iconst (v := (-1)) dX9_holds_112 (by decide) ?_
  refine g_icmp_ne (tgt := 174) dX9_holds_113 (by decide) (fun c_113 => ?_) (fun c_113 => ?_)
  · skip
    refine g_iload dX9_holds_174 rfl ?_
    exact g_iret dX9_holds_176 (Or.inl rfl) (Nat.le_of_ble_eq_true rfl) (Nat.le_of_ble_eq_true rfl) ⟨by rw [hw], rfl, hO1.trans (hI.1.mono (fun i k h => fD_X h)), by rw [hw]; exact ⟨S, hQ1.trial hI⟩, h02⟩
  · skip
    exact absurd c_113 hne

set_option maxHeartbeats 4000000 in
set_option maxRecDepth 100000 in
theorem l_ho108 {M M1 : gM} {n m : Nat} {σ : MS} {S : Nat → List Sp} {w : Nat × Int32 × (Nat → Int32)} {k s : Int32} (hO1 : Off M M1 (fX m)) (hQ1 : rQ M1 m σ S) (h0 : mI M1 m 0 = nI 0) (hr : zR σ = true) (hk : 0 ≤ k.toInt ∧ k.toInt ≤ 5000) : ∀ (d : Nat) (a : Nat) (l : Int) (now : Nat → Int32) (dn : Nat) (M2 : gM), pl k - dn < d → a ≤ 40 → dn ≤ pl k → trI M1 M2 m l now (-1) → mI M2 m 0 = nI 0 → w = hlZ (zP σ) (zA σ) (pl k - dn) a l now dn → GW μX9_holds (gRm 3 71 0 0) (gTh (fun r M2 n1 => r = some (.int (nI w.1)) ∧ n1 = n ∧ Off M M2 (fX m) ∧ rM M2 m (zP σ, zF σ, zR σ, w.2.1, w.2.2) ∧ mI M2 m 0 = nI 0) 0 0) 0 0 108 [some (.ref m), some (.int k), some (.int s), some (.int (nI a)), some (.int (nI dn))] [] M2 n := by
  intro d
  induction d with
  | zero =>
    intro a l now dn M2 hd ha hdn hI h02 hw
    omega
  | succ d ih =>
    intro a l now dn M2 hd ha hdn hI h02 hw
    have hm2 := hI.gm hQ1.1.1
    have hP1 := hQ1.2.1
    have l40 := hP1.2.1
    have ek : k = nI (pl k) := pl_eq hk.1
    have hpk : pl k ≤ 5000 := by unfold pl; omega
    have s6 : mI M2 m 6 = nI (zP σ).length := (hI.1.i (by unfold fD; omega)).trans hP1.1
    refine g_aload_n dX9_holds_108 rfl ?_
    refine g_getI (f := 19) dX9_holds_109 cl10 hm2.1 (by decide) (Or.inl (iw_6 8 rfl)) (Or.inl rfl) (Or.inl rfl) ?_
    rw [hI.2.2.2.2]
    refine g_iconst (v := (-1)) dX9_holds_112 (by decide) ?_
    refine g_icmp_ne (tgt := 174) dX9_holds_113 (by decide) (fun c_113 => ?_) (fun c_113 => ?_)
    · skip
      exact absurd rfl c_113
    · skip
      refine g_iload_n dX9_holds_116 rfl ?_
      refine g_aload_n dX9_holds_117 rfl ?_
      refine g_getI (f := 6) dX9_holds_118 cl10 hm2.1 (by decide) (Or.inl (iw_12 20 rfl)) (Or.inl rfl) (Or.inl rfl) ?_
      rw [s6]
      refine g_icmp_lt (tgt := 132) dX9_holds_121 (by decide) (fun c_121 => ?_) (fun c_121 => ?_)
      · skip
        rw [nI_ltI (by omega) (by omega)] at c_121
        have hT := (hP1.2.2 a c_121).1
        have hv := (hP1.2.2 a c_121).2
        obtain ⟨hA, -, -⟩ := hQ1.2.2.2.2.2.2.2 hr
        have hQ2 := hQ1.trial hI
        have hA2 := (hQ2.2.2.2.2.2.2.2 hr).1
        refine g_iload dX9_holds_132 rfl ?_
        refine g_iload_n dX9_holds_134 rfl ?_
        refine g_icmp_ne (tgt := 146) dX9_holds_135 (by decide) (fun c_135 => ?_) (fun c_135 => ?_)
        · skip
          rw [ek, nI_inj (by omega) (by omega)] at c_135
          refine g_aload_n dX9_holds_146 rfl ?_
          refine g_iload_n dX9_holds_147 rfl ?_
          refine g_callV dX9_holds_148 sX9_isWithin (m_isWithin M2 n m a S (zA σ) now hQ2.1 hA2 (by omega) (zA_gd hQ1.2.2.1 a c_121) hI.2.2.2.1) cl10 hm2.1 iX9_isWithin vX9_isWithin (iw_38 7 rfl) rfl rfl (Nat.le_of_ble_eq_true rfl) (Nat.le_of_ble_eq_true rfl) (Nat.le_of_ble_eq_true rfl) (Nat.le_of_ble_eq_true rfl) (Nat.le_of_ble_eq_true rfl) ?_
          intro r9 M9 n9 h9
          obtain ⟨h91, h92, h93⟩ := h9
          rw [h91, h92, h93]
          clear h91 h92 h93 r9 M9 n9
          refine g_if_ne (tgt := 162) dX9_holds_151 (by decide) (fun c_151 => ?_) (fun c_151 => ?_)
          · skip
            rw [bI_eq0, Bool.not_eq_false] at c_151
            refine g_iinc dX9_holds_162 rfl (nI_1 dn) (Nat.le_of_ble_eq_true rfl) ?_
            refine g_aload_n dX9_holds_165 rfl ?_
            refine g_iload_n dX9_holds_166 rfl ?_
            refine g_callV dX9_holds_167 sX9_step (m_step M1 M2 n m a _ l now hQ1.1.1 (by omega) hT hv hI) cl10 hm2.1 iX9_step vX9_step (iw_38 11 rfl) rfl rfl (Nat.le_of_ble_eq_true rfl) (Nat.le_of_ble_eq_true rfl) (Nat.le_of_ble_eq_true rfl) (Nat.le_of_ble_eq_true rfl) (Nat.le_of_ble_eq_true rfl) ?_
            intro r9 M3 n9 h9
            obtain ⟨h91, h93, hI3⟩ := h9
            rw [h91, h93]
            clear h91 h93 r9 n9
            refine g_istore_n dX9_holds_170 (Nat.le_of_ble_eq_true rfl) ?_
            refine g_goto (tgt := 108) dX9_holds_171 (by decide) ?_
            have hm2 := hI.gm hQ1.1.1
            have hP1 := hQ1.2.1
            have l40 := hP1.2.1
            have ek : k = nI (pl k) := pl_eq hk.1
            have hpk : pl k ≤ 5000 := by unfold pl; omega
            have s6 : mI M2 m 6 = nI (zP σ).length := (hI.1.i (by unfold fD; omega)).trans hP1.1
            first
              | (have h03 : mI M3 m 0 = nI 0 := by
                   have q1 := hI3.1
                   rw [q1.i (by unfold fD; omega)]; exact h0
                 have hsu : pl k - dn = (pl k - (dn + 1)) + 1 := by omega
                 rw [hsu] at hw
                 unfold hlZ at hw
                 rw [if_neg (by omega), if_neg (by rw [c_151]; decide)] at hw
                 by_cases c : (stZ ((zP σ).getD a st0) a l now).2.2.2 = -1
                 · rw [if_pos c] at hw
                   rw [c] at hI3
                   exact ih _ _ _ (dn + 1) M3 (by omega) (stZ_nx hv (by omega) l now) (by omega) hI3 h03 hw
                 · rw [if_neg c] at hw
                   exact p_ho108 hO1 hQ1 h0 hI3 c h03 hw)
              | (have hI3 : trI M1 (stI M2 m 19 (nI 3)) m l now 3 := ⟨hI.1.stI (Or.inl ⟨rfl, by omega⟩), hI.2.1, hI.2.2.1, fun p hp => by rw [mI_st, if_neg (by omega)]; exact hI.2.2.2.1 p hp, by rw [mI_st, if_pos ⟨rfl, rfl⟩]; rfl⟩
                 refine p_ho108 hO1 hQ1 h0 hI3 (by decide) (by rw [mI_st, if_neg (by omega)]; exact h02) ?_
                 rw [hw, show pl k - dn = (pl k - (dn + 1)) + 1 by omega]
                 unfold hlZ
                 rw [if_neg (by omega), if_pos c_151])
              | (have hI3 : trI M1 (stI M2 m 19 (nI 2)) m l now 2 := ⟨hI.1.stI (Or.inl ⟨rfl, by omega⟩), hI.2.1, hI.2.2.1, fun p hp => by rw [mI_st, if_neg (by omega)]; exact hI.2.2.2.1 p hp, by rw [mI_st, if_pos ⟨rfl, rfl⟩]; rfl⟩
                 refine p_ho108 hO1 hQ1 h0 hI3 (by decide) (by rw [mI_st, if_neg (by omega)]; exact h02) ?_
                 rw [hw, show pl k - dn = 0 by omega]
                 unfold hlZ
                 rw [if_neg (by omega)])
              | (have hI3 : trI M1 (stI M2 m 19 (nI 0)) m l now 0 := ⟨hI.1.stI (Or.inl ⟨rfl, by omega⟩), hI.2.1, hI.2.2.1, fun p hp => by rw [mI_st, if_neg (by omega)]; exact hI.2.2.2.1 p hp, by rw [mI_st, if_pos ⟨rfl, rfl⟩]; rfl⟩
                 refine p_ho108 hO1 hQ1 h0 hI3 (by decide) (by rw [mI_st, if_neg (by omega)]; exact h02) ?_
                 rw [hw]
                 cases pl k - dn with
                 | zero => unfold hlZ; rw [if_pos (by omega)]
                 | succ r => unfold hlZ; rw [if_pos (by omega)])
          · skip
            rw [bI_eq0] at c_151
            refine g_aload_n dX9_holds_154 rfl ?_
            refine g_iconst (v := nI 3) dX9_holds_155 rfl ?_
            refine g_putI (f := 19) dX9_holds_156 cl10 hm2.1 (by decide) (Or.inl (iw_6 8 rfl)) (Or.inl rfl) (Or.inl rfl) (Or.inl rfl) ?_
            refine g_goto (tgt := 108) dX9_holds_159 (by decide) ?_
            have hm2 := hI.gm hQ1.1.1
            have hP1 := hQ1.2.1
            have l40 := hP1.2.1
            have ek : k = nI (pl k) := pl_eq hk.1
            have hpk : pl k ≤ 5000 := by unfold pl; omega
            have s6 : mI M2 m 6 = nI (zP σ).length := (hI.1.i (by unfold fD; omega)).trans hP1.1
            first
              | (have h03 : mI M3 m 0 = nI 0 := by
                   have q1 := hI3.1
                   rw [q1.i (by unfold fD; omega)]; exact h0
                 have hsu : pl k - dn = (pl k - (dn + 1)) + 1 := by omega
                 rw [hsu] at hw
                 unfold hlZ at hw
                 rw [if_neg (by omega), if_neg (by rw [c_151]; decide)] at hw
                 by_cases c : (stZ ((zP σ).getD a st0) a l now).2.2.2 = -1
                 · rw [if_pos c] at hw
                   rw [c] at hI3
                   exact ih _ _ _ (dn + 1) M3 (by omega) (stZ_nx hv (by omega) l now) (by omega) hI3 h03 hw
                 · rw [if_neg c] at hw
                   exact p_ho108 hO1 hQ1 h0 hI3 c h03 hw)
              | (have hI3 : trI M1 (stI M2 m 19 (nI 3)) m l now 3 := ⟨hI.1.stI (Or.inl ⟨rfl, by omega⟩), hI.2.1, hI.2.2.1, fun p hp => by rw [mI_st, if_neg (by omega)]; exact hI.2.2.2.1 p hp, by rw [mI_st, if_pos ⟨rfl, rfl⟩]; rfl⟩
                 refine p_ho108 hO1 hQ1 h0 hI3 (by decide) (by rw [mI_st, if_neg (by omega)]; exact h02) ?_
                 rw [hw, show pl k - dn = (pl k - (dn + 1)) + 1 by omega]
                 unfold hlZ
                 rw [if_neg (by omega), if_pos c_151])
              | (have hI3 : trI M1 (stI M2 m 19 (nI 2)) m l now 2 := ⟨hI.1.stI (Or.inl ⟨rfl, by omega⟩), hI.2.1, hI.2.2.1, fun p hp => by rw [mI_st, if_neg (by omega)]; exact hI.2.2.2.1 p hp, by rw [mI_st, if_pos ⟨rfl, rfl⟩]; rfl⟩
                 refine p_ho108 hO1 hQ1 h0 hI3 (by decide) (by rw [mI_st, if_neg (by omega)]; exact h02) ?_
                 rw [hw, show pl k - dn = 0 by omega]
                 unfold hlZ
                 rw [if_neg (by omega)])
              | (have hI3 : trI M1 (stI M2 m 19 (nI 0)) m l now 0 := ⟨hI.1.stI (Or.inl ⟨rfl, by omega⟩), hI.2.1, hI.2.2.1, fun p hp => by rw [mI_st, if_neg (by omega)]; exact hI.2.2.2.1 p hp, by rw [mI_st, if_pos ⟨rfl, rfl⟩]; rfl⟩
                 refine p_ho108 hO1 hQ1 h0 hI3 (by decide) (by rw [mI_st, if_neg (by omega)]; exact h02) ?_
                 rw [hw]
                 cases pl k - dn with
                 | zero => unfold hlZ; rw [if_pos (by omega)]
                 | succ r => unfold hlZ; rw [if_pos (by omega)])
        · skip
          rw [ek, nI_inj (by omega) (by omega)] at c_135
          refine g_aload_n dX9_holds_138 rfl ?_
          refine g_iconst (v := nI 2) dX9_holds_139 rfl ?_
          refine g_putI (f := 19) dX9_holds_140 cl10 hm2.1 (by decide) (Or.inl (iw_6 8 rfl)) (Or.inl rfl) (Or.inl rfl) (Or.inl rfl) ?_
          refine g_goto (tgt := 108) dX9_holds_143 (by decide) ?_
          have hm2 := hI.gm hQ1.1.1
          have hP1 := hQ1.2.1
          have l40 := hP1.2.1
          have ek : k = nI (pl k) := pl_eq hk.1
          have hpk : pl k ≤ 5000 := by unfold pl; omega
          have s6 : mI M2 m 6 = nI (zP σ).length := (hI.1.i (by unfold fD; omega)).trans hP1.1
          first
            | (have h03 : mI M3 m 0 = nI 0 := by
                 have q1 := hI3.1
                 rw [q1.i (by unfold fD; omega)]; exact h0
               have hsu : pl k - dn = (pl k - (dn + 1)) + 1 := by omega
               rw [hsu] at hw
               unfold hlZ at hw
               rw [if_neg (by omega), if_neg (by rw [c_151]; decide)] at hw
               by_cases c : (stZ ((zP σ).getD a st0) a l now).2.2.2 = -1
               · rw [if_pos c] at hw
                 rw [c] at hI3
                 exact ih _ _ _ (dn + 1) M3 (by omega) (stZ_nx hv (by omega) l now) (by omega) hI3 h03 hw
               · rw [if_neg c] at hw
                 exact p_ho108 hO1 hQ1 h0 hI3 c h03 hw)
            | (have hI3 : trI M1 (stI M2 m 19 (nI 3)) m l now 3 := ⟨hI.1.stI (Or.inl ⟨rfl, by omega⟩), hI.2.1, hI.2.2.1, fun p hp => by rw [mI_st, if_neg (by omega)]; exact hI.2.2.2.1 p hp, by rw [mI_st, if_pos ⟨rfl, rfl⟩]; rfl⟩
               refine p_ho108 hO1 hQ1 h0 hI3 (by decide) (by rw [mI_st, if_neg (by omega)]; exact h02) ?_
               rw [hw, show pl k - dn = (pl k - (dn + 1)) + 1 by omega]
               unfold hlZ
               rw [if_neg (by omega), if_pos c_151])
            | (have hI3 : trI M1 (stI M2 m 19 (nI 2)) m l now 2 := ⟨hI.1.stI (Or.inl ⟨rfl, by omega⟩), hI.2.1, hI.2.2.1, fun p hp => by rw [mI_st, if_neg (by omega)]; exact hI.2.2.2.1 p hp, by rw [mI_st, if_pos ⟨rfl, rfl⟩]; rfl⟩
               refine p_ho108 hO1 hQ1 h0 hI3 (by decide) (by rw [mI_st, if_neg (by omega)]; exact h02) ?_
               rw [hw, show pl k - dn = 0 by omega]
               unfold hlZ
               rw [if_neg (by omega)])
            | (have hI3 : trI M1 (stI M2 m 19 (nI 0)) m l now 0 := ⟨hI.1.stI (Or.inl ⟨rfl, by omega⟩), hI.2.1, hI.2.2.1, fun p hp => by rw [mI_st, if_neg (by omega)]; exact hI.2.2.2.1 p hp, by rw [mI_st, if_pos ⟨rfl, rfl⟩]; rfl⟩
               refine p_ho108 hO1 hQ1 h0 hI3 (by decide) (by rw [mI_st, if_neg (by omega)]; exact h02) ?_
               rw [hw]
               cases pl k - dn with
               | zero => unfold hlZ; rw [if_pos (by omega)]
               | succ r => unfold hlZ; rw [if_pos (by omega)])
      · skip
        rw [nI_ltI (by omega) (by omega)] at c_121
        refine g_aload_n dX9_holds_124 rfl ?_
        refine g_iconst (v := nI 0) dX9_holds_125 rfl ?_
        refine g_putI (f := 19) dX9_holds_126 cl10 hm2.1 (by decide) (Or.inl (iw_6 8 rfl)) (Or.inl rfl) (Or.inl rfl) (Or.inl rfl) ?_
        refine g_goto (tgt := 108) dX9_holds_129 (by decide) ?_
        have hm2 := hI.gm hQ1.1.1
        have hP1 := hQ1.2.1
        have l40 := hP1.2.1
        have ek : k = nI (pl k) := pl_eq hk.1
        have hpk : pl k ≤ 5000 := by unfold pl; omega
        have s6 : mI M2 m 6 = nI (zP σ).length := (hI.1.i (by unfold fD; omega)).trans hP1.1
        first
          | (have h03 : mI M3 m 0 = nI 0 := by
               have q1 := hI3.1
               rw [q1.i (by unfold fD; omega)]; exact h0
             have hsu : pl k - dn = (pl k - (dn + 1)) + 1 := by omega
             rw [hsu] at hw
             unfold hlZ at hw
             rw [if_neg (by omega), if_neg (by rw [c_151]; decide)] at hw
             by_cases c : (stZ ((zP σ).getD a st0) a l now).2.2.2 = -1
             · rw [if_pos c] at hw
               rw [c] at hI3
               exact ih _ _ _ (dn + 1) M3 (by omega) (stZ_nx hv (by omega) l now) (by omega) hI3 h03 hw
             · rw [if_neg c] at hw
               exact p_ho108 hO1 hQ1 h0 hI3 c h03 hw)
          | (have hI3 : trI M1 (stI M2 m 19 (nI 3)) m l now 3 := ⟨hI.1.stI (Or.inl ⟨rfl, by omega⟩), hI.2.1, hI.2.2.1, fun p hp => by rw [mI_st, if_neg (by omega)]; exact hI.2.2.2.1 p hp, by rw [mI_st, if_pos ⟨rfl, rfl⟩]; rfl⟩
             refine p_ho108 hO1 hQ1 h0 hI3 (by decide) (by rw [mI_st, if_neg (by omega)]; exact h02) ?_
             rw [hw, show pl k - dn = (pl k - (dn + 1)) + 1 by omega]
             unfold hlZ
             rw [if_neg (by omega), if_pos c_151])
          | (have hI3 : trI M1 (stI M2 m 19 (nI 2)) m l now 2 := ⟨hI.1.stI (Or.inl ⟨rfl, by omega⟩), hI.2.1, hI.2.2.1, fun p hp => by rw [mI_st, if_neg (by omega)]; exact hI.2.2.2.1 p hp, by rw [mI_st, if_pos ⟨rfl, rfl⟩]; rfl⟩
             refine p_ho108 hO1 hQ1 h0 hI3 (by decide) (by rw [mI_st, if_neg (by omega)]; exact h02) ?_
             rw [hw, show pl k - dn = 0 by omega]
             unfold hlZ
             rw [if_neg (by omega)])
          | (have hI3 : trI M1 (stI M2 m 19 (nI 0)) m l now 0 := ⟨hI.1.stI (Or.inl ⟨rfl, by omega⟩), hI.2.1, hI.2.2.1, fun p hp => by rw [mI_st, if_neg (by omega)]; exact hI.2.2.2.1 p hp, by rw [mI_st, if_pos ⟨rfl, rfl⟩]; rfl⟩
             refine p_ho108 hO1 hQ1 h0 hI3 (by decide) (by rw [mI_st, if_neg (by omega)]; exact h02) ?_
             rw [hw]
             cases pl k - dn with
             | zero => unfold hlZ; rw [if_pos (by omega)]
             | succ r => unfold hlZ; rw [if_pos (by omega)])

set_option maxHeartbeats 4000000 in
set_option maxRecDepth 100000 in
theorem l_ho56 {M1 : gM} {n m : Nat} {σ : MS} {S : Nat → List Sp} {k s : Int32} {Q : gθ} (hQ1 : rQ M1 m σ S) (hs : okK s.toInt) (hk : ∀ M2, trI M1 M2 m (dnK (zF σ) s.toInt (zN σ) 8).1 (dnK (zF σ) s.toInt (zN σ) 8).2 (zH σ) → GW μX9_holds (gRm 3 71 0 0) Q 0 0 98 [some (.ref m), some (.int k), some (.int s), none, none] [] M2 n) : ∀ (d : Nat) (j : Nat) (M2 : gM), 8 - j < d → j ≤ 8 → trI M1 M2 m (dnK (zF σ) s.toInt (zN σ) j).1 (dnK (zF σ) s.toInt (zN σ) j).2 (zH σ) → GW μX9_holds (gRm 3 71 0 0) Q 0 0 56 [some (.ref m), some (.int k), some (.int s), some (.int (nI j)), none] [] M2 n := by
  intro d
  induction d with
  | zero =>
    intro j M2 hd hj hI
    omega
  | succ d ih =>
    intro j M2 hd hj hI
    have hm2 := hI.gm hQ1.1.1
    refine g_iload_n dX9_holds_56 rfl ?_
    refine g_bipush (v := nI 8) dX9_holds_57 rfl ?_
    refine g_icmp_ge (tgt := 98) dX9_holds_59 (by decide) (fun c_59 => ?_) (fun c_59 => ?_)
    · skip
      rw [nI_leI (by omega) (by omega)] at c_59
      have e8 : j = 8 := by omega
      subst e8
      refine g_drop 3 ?_
      exact hk M2 hI
    · skip
      rw [nI_leI (by omega) (by omega)] at c_59
      have hQ2 := hQ1.trial hI
      have hS := (hQ2.1.2.1 (320 + j) (by omega)).1
      rw [hQ2.2.2.2.1 j (by omega)] at hS
      obtain ⟨g1, g2⟩ := hQ1.2.2.1.2 j (by omega)
      have hS' : iS M2 m (320 + j) (zF σ j) := hS
      have gl : 0 < (zF σ j).length := by omega
      have gn : zF σ j ≠ [] := by intro q; rw [q] at gl; cases gl
      have r1 := lo1_r g1 gn
      have r2 := hi1_r g1 gn
      have r3 := lo_hi g1 gn
      have e1 : ((zF σ j).getD 0 (0, 0)).1 = lo1 (zF σ j) := rfl
      have e2 : ((zF σ j).getD 0 (0, 0)).2 = hi1 (zF σ j) := by unfold hi1; rw [g2]
      refine g_aload_n dX9_holds_62 rfl ?_
      refine g_getR (f := 18) dX9_holds_63 cl10 hm2.1 (by decide) (Or.inl (iw_6 7 rfl)) (Or.inl rfl) rfl hm2.r_now ?_
      refine g_iload_n dX9_holds_66 rfl ?_
      refine g_aload_n dX9_holds_67 rfl ?_
      refine g_aload_n dX9_holds_68 rfl ?_
      refine g_sipush (v := nI 320) dX9_holds_69 rfl ?_
      refine g_iload_n dX9_holds_72 rfl ?_
      refine g_iadd dX9_holds_73 ?_
      rw [nI_add]
      refine g_iconst (v := nI 0) dX9_holds_74 rfl ?_
      refine g_callV dX9_holds_75 sX9_low (m_loX M2 n m (320 + j) 0 _ hm2 (by omega) hS' gl) cl10 hm2.1 iX9_low vX9_low (iw_26 0 rfl) rfl rfl (Nat.le_of_ble_eq_true rfl) (Nat.le_of_ble_eq_true rfl) (Nat.le_of_ble_eq_true rfl) (Nat.le_of_ble_eq_true rfl) (Nat.le_of_ble_eq_true rfl) ?_
      intro r9 M9 n9 h9
      obtain ⟨h91, h92, h93⟩ := h9
      rw [h91, h92, h93]
      clear h91 h92 h93 r9 M9 n9
      rw [e1]
      refine g_aload_n dX9_holds_78 rfl ?_
      refine g_sipush (v := nI 320) dX9_holds_79 rfl ?_
      refine g_iload_n dX9_holds_82 rfl ?_
      refine g_iadd dX9_holds_83 ?_
      rw [nI_add]
      refine g_iconst (v := nI 0) dX9_holds_84 rfl ?_
      refine g_callV dX9_holds_85 sX9_high (m_hiX M2 n m (320 + j) 0 _ hm2 (by omega) hS' gl) cl10 hm2.1 iX9_high vX9_high (iw_26 4 rfl) rfl rfl (Nat.le_of_ble_eq_true rfl) (Nat.le_of_ble_eq_true rfl) (Nat.le_of_ble_eq_true rfl) (Nat.le_of_ble_eq_true rfl) (Nat.le_of_ble_eq_true rfl) ?_
      intro r9 M9 n9 h9
      obtain ⟨h91, h92, h93⟩ := h9
      rw [h91, h92, h93]
      clear h91 h92 h93 r9 M9 n9
      rw [e2]
      refine g_callV dX9_holds_88 sX9_drawn (m_drawn M2 n m _ (lo1 (zF σ j)) (hi1 (zF σ j)) hm2 hI.2.1 hI.2.2.1 r1 r2 r3) cl10 hm2.1 iX9_drawn vX9_drawn (iw_38 2 rfl) rfl rfl (Nat.le_of_ble_eq_true rfl) (Nat.le_of_ble_eq_true rfl) (Nat.le_of_ble_eq_true rfl) (Nat.le_of_ble_eq_true rfl) (Nat.le_of_ble_eq_true rfl) ?_
      intro r9 M9 n9 h9
      obtain ⟨h91, h92, h93⟩ := h9
      rw [h91, h92, h93]
      clear h91 h92 h93 r9 M9 n9
      refine g_iastore dX9_holds_91 (j := j) hm2.k_now hm2.n_now rfl (by omega) (by decide) ?_
      refine g_iinc dX9_holds_92 rfl (nI_1 j) (Nat.le_of_ble_eq_true rfl) ?_
      refine g_goto (tgt := 56) dX9_holds_95 (by decide) ?_
      have hm2 := hI.gm hQ1.1.1
      refine ih (j + 1) _ (by omega) (by omega) ⟨(hI.1.stJ (Or.inl ⟨rfl, by omega⟩)).stI (Or.inr rfl), ?_, lk1_ok _, fun p hp => ?_, ?_⟩
      · rw [mJ_sI, mJ_st, if_pos ⟨rfl, rfl⟩]; rfl
      · rw [mI_st]
        by_cases q : p = j
        · subst q; rw [if_pos ⟨rfl, rfl⟩]; exact (up1_eq _ _ _).symm
        · rw [if_neg (by omega), mI_sJ]; exact (hI.2.2.2.1 p hp).trans (up1_ne _ _ q).symm
      · rw [mI_st, if_neg (by omega), mI_sJ]; exact hI.2.2.2.2

set_option maxHeartbeats 4000000 in
set_option maxRecDepth 100000 in
theorem s_holds (M : gM) (n m : Nat) (σ : MS) (k s : Int32) (hQ : rM M m σ) : GM μX9_holds 3 71 0 0 [.ref m, .int k, .int s] M n (fun r M1 n1 => r = some (.int (nI (hoZ σ k s).2.1)) ∧ n1 = n ∧ Off M M1 (fX m) ∧ rM M1 m (hoS σ k s) ∧ mI M1 m 0 = nI (hoZ σ k s).1) := by
  refine GM.ofW (by decide) rfl (Nat.le_of_ble_eq_true rfl) rfl ?_
  obtain ⟨S, hQ⟩ := hQ
  have l40 := hQ.2.1.2.1
  have kr := i_rng k
  have sr := i_rng s
  refine g_aload_n dX9_holds_0 rfl ?_
  refine g_iconst (v := nI 0) dX9_holds_1 rfl ?_
  refine g_putI (f := 0) dX9_holds_2 cl10 hQ.1.1.1 (by decide) (Or.inl (iw_12 11 rfl)) (Or.inl rfl) (Or.inl rfl) (Or.inl rfl) ?_
  have hO1 : Off M (stI M m 0 (nI 0)) (fX m) := Off.rf.stI ⟨by omega, by omega⟩
  have hQ1 := hQ.thr (nI 0)
  have h0 : mI (stI M m 0 (nI 0)) m 0 = nI 0 := by rw [mI_st, if_pos ⟨rfl, rfl⟩]
  generalize stI M m 0 (nI 0) = M1 at hO1 hQ1 h0 ⊢
  have hG := hQ1.1
  have hP := hQ1.2.1
  refine g_iload_n dX9_holds_5 rfl ?_
  refine g_i2l dX9_holds_6 ?_
  rw [i_j]
  refine g_lconst (v := jI 0) dX9_holds_7 rfl ?_
  refine g_ldc2 (v := jI (5000)) dX9_holds_8 (iw_37 23 rfl) ?_
  refine g_callS dX9_holds_11 sX9_isIn (m_isInZ M1 n k.toInt 0 5000 (by constructor <;> omega) (by constructor <;> omega) (by constructor <;> omega)) tX9_isIn (iw_12 22 rfl) rfl rfl (Nat.le_of_ble_eq_true rfl) (Nat.le_of_ble_eq_true rfl) (Nat.le_of_ble_eq_true rfl) (Nat.le_of_ble_eq_true rfl) (Nat.le_of_ble_eq_true rfl) ?_
  intro r9 M9 n9 h9
  obtain ⟨h91, h92, h93⟩ := h9
  rw [h91, h92, h93]
  clear h91 h92 h93 r9 M9 n9
  refine g_if_eq (tgt := 29) dX9_holds_14 (by decide) (fun c_14 => ?_) (fun c_14 => ?_)
  · skip
    try rw [bI_eq0, decide_eq_false_iff_not] at c_14
    refine g_aload_n dX9_holds_29 rfl ?_
    refine g_iconst (v := nI 1) dX9_holds_30 rfl ?_
    refine g_callV dX9_holds_31 sX9_fail (m_fail M1 n m (nI 1) hG.1) cl10 hG.1.1 iX9_fail vX9_fail (iw_13 5 rfl) rfl rfl (Nat.le_of_ble_eq_true rfl) (Nat.le_of_ble_eq_true rfl) (Nat.le_of_ble_eq_true rfl) (Nat.le_of_ble_eq_true rfl) (Nat.le_of_ble_eq_true rfl) ?_
    intro r9 M9 n9 h9
    obtain ⟨h91, h92, h93⟩ := h9
    rw [h91, h92, h93]
    clear h91 h92 h93 r9 M9 n9
    exact g_iret dX9_holds_34 (Or.inl rfl) (Nat.le_of_ble_eq_true rfl) (Nat.le_of_ble_eq_true rfl) (by
      have e : hoZ σ k s = (1, 0, zH σ, zN σ) := by
        unfold hoZ
        rw [if_pos (by first | exact Or.inl c_14 | exact Or.inr (Or.inl c_19) | exact Or.inr (Or.inr c_26))]
      have e2 : hoS σ k s = σ := by unfold hoS; rw [e]; rfl
      exact ⟨by rw [e]; rfl, rfl, hO1.stI ⟨by omega, by omega⟩, by rw [e2]; exact ⟨S, hQ1.thr _⟩, by rw [e, mI_st, if_pos ⟨rfl, rfl⟩]⟩)
  · skip
    rw [bI_eq0, decide_eq_false_iff_not, Classical.not_not] at c_14
    refine g_iload_n dX9_holds_17 rfl ?_
    refine g_iconst (v := 1) dX9_holds_18 rfl ?_
    refine g_icmp_lt (tgt := 29) dX9_holds_19 (by decide) (fun c_19 => ?_) (fun c_19 => ?_)
    · skip
      try rw [bI_eq0, decide_eq_false_iff_not] at c_14
      refine g_aload_n dX9_holds_29 rfl ?_
      refine g_iconst (v := nI 1) dX9_holds_30 rfl ?_
      refine g_callV dX9_holds_31 sX9_fail (m_fail M1 n m (nI 1) hG.1) cl10 hG.1.1 iX9_fail vX9_fail (iw_13 5 rfl) rfl rfl (Nat.le_of_ble_eq_true rfl) (Nat.le_of_ble_eq_true rfl) (Nat.le_of_ble_eq_true rfl) (Nat.le_of_ble_eq_true rfl) (Nat.le_of_ble_eq_true rfl) ?_
      intro r9 M9 n9 h9
      obtain ⟨h91, h92, h93⟩ := h9
      rw [h91, h92, h93]
      clear h91 h92 h93 r9 M9 n9
      exact g_iret dX9_holds_34 (Or.inl rfl) (Nat.le_of_ble_eq_true rfl) (Nat.le_of_ble_eq_true rfl) (by
        have e : hoZ σ k s = (1, 0, zH σ, zN σ) := by
          unfold hoZ
          rw [if_pos (by first | exact Or.inl c_14 | exact Or.inr (Or.inl c_19) | exact Or.inr (Or.inr c_26))]
        have e2 : hoS σ k s = σ := by unfold hoS; rw [e]; rfl
        exact ⟨by rw [e]; rfl, rfl, hO1.stI ⟨by omega, by omega⟩, by rw [e2]; exact ⟨S, hQ1.thr _⟩, by rw [e, mI_st, if_pos ⟨rfl, rfl⟩]⟩)
    · skip
      refine g_iload_n dX9_holds_22 rfl ?_
      refine g_ldc_w (v := 2147483647) dX9_holds_23 (iw_38 0 rfl) ?_
      refine g_icmp_ne (tgt := 35) dX9_holds_26 (by decide) (fun c_26 => ?_) (fun c_26 => ?_)
      · skip
        refine g_aload_n dX9_holds_35 rfl ?_
        refine g_getI (f := 11) dX9_holds_36 cl10 hG.1.1 (by decide) (Or.inl (iw_12 21 rfl)) (Or.inl rfl) (Or.inr rfl) ?_
        rw [hQ1.2.2.2.2.1]
        refine g_if_ne (tgt := 48) dX9_holds_39 (by decide) (fun c_39 => ?_) (fun c_39 => ?_)
        · skip
          rw [bI_eq0, Bool.not_eq_false] at c_39
          refine g_aload_n dX9_holds_48 rfl ?_
          refine g_iload_n dX9_holds_49 rfl ?_
          refine g_i2l dX9_holds_50 ?_
          rw [i_j]
          refine g_putJ (f := 20) dX9_holds_51 cl10 hG.1.1 (by decide) (Or.inl (iw_38 1 rfl)) (Or.inl rfl) (Or.inl rfl) rfl ?_
          have ho1 : (1 : Int32).toInt = 1 := rfl
          have ho2 : (2147483647 : Int32).toInt = 2147483647 := rfl
          have q1 := c_19
          have q2 := c_26
          rw [i_lt, ho1] at q1
          rw [i_eq, ho2] at q2
          have hQ2 : rQ (stJ M1 m 20 (jI s.toInt)) m σ S := hQ1.off0 (Off.rf.stJ ⟨rfl, Or.inr rfl⟩)
          have hO2 : Off M (stJ M1 m 20 (jI s.toInt)) (fX m) := hO1.stJ ⟨by omega, by omega⟩
          have h02 : mI (stJ M1 m 20 (jI s.toInt)) m 0 = nI 0 := h0
          have hL : mJ (stJ M1 m 20 (jI s.toInt)) m 20 = jI s.toInt := by rw [mJ_st, if_pos ⟨rfl, rfl⟩]
          generalize stJ M1 m 20 (jI s.toInt) = M2 at hQ2 hO2 h02 hL ⊢
          refine g_iconst (v := nI 0) dX9_holds_54 rfl ?_
          refine g_istore_n dX9_holds_55 (Nat.le_of_ble_eq_true rfl) ?_
          have e : hoZ σ k s = (0, hlZ (zP σ) (zA σ) (pl k) 0 (dnK (zF σ) s.toInt (zN σ) 8).1 (dnK (zF σ) s.toInt (zN σ) 8).2 0) := by
            unfold hoZ
            rw [if_neg (fun h => h.elim (fun h => h c_14) (fun h => h.elim c_19 c_26)), if_neg (by rw [c_39]; decide)]
          refine l_ho56 (σ := σ) (s := s) hQ2 (by unfold okK; omega) (fun M3 hI3 => ?_) 9 0 M2 (by omega) (by omega) ⟨Off.rf, hL, by unfold okK; exact ⟨by show 0 ≤ s.toInt; omega, by show s.toInt < 2147483648; omega⟩, hQ2.2.2.2.2.2.2.1, hQ2.2.2.2.2.2.1⟩
          have h03 : mI M3 m 0 = nI 0 := (hI3.1.i (by unfold fD; omega)).trans h02
          refine g_iconst (v := nI 0) dX9_holds_98 rfl ?_
          refine g_istore_n dX9_holds_99 (Nat.le_of_ble_eq_true rfl) ?_
          refine g_iconst (v := nI 0) dX9_holds_100 rfl ?_
          refine g_istore dX9_holds_101 (Nat.le_of_ble_eq_true rfl) ?_
          refine g_aload_n dX9_holds_103 rfl ?_
          refine g_iconst (v := (-1)) dX9_holds_104 (by decide) ?_
          refine g_putI (f := 19) dX9_holds_105 cl10 (hI3.gm hQ2.1.1).1 (by decide) (Or.inl (iw_6 8 rfl)) (Or.inl rfl) (Or.inl rfl) (Or.inl rfl) ?_
          refine GW.post ?_ (l_ho108 (w := hlZ (zP σ) (zA σ) (pl k) 0 (dnK (zF σ) s.toInt (zN σ) 8).1 (dnK (zF σ) s.toInt (zN σ) 8).2 0) hO2 hQ2 h02 c_39 c_14 (pl k + 1) 0 (dnK (zF σ) s.toInt (zN σ) 8).1 (dnK (zF σ) s.toInt (zN σ) 8).2 0 _ (by omega) (by omega) (by omega) ⟨hI3.1.stI (Or.inl ⟨rfl, by omega⟩), hI3.2.1, hI3.2.2.1, fun p hp => by rw [mI_st, if_neg (by omega)]; exact hI3.2.2.2.1 p hp, by rw [mI_st, if_pos ⟨rfl, rfl⟩]⟩ (by rw [mI_st, if_neg (by omega)]; exact h03) rfl)
          intro r M4 n4 h
          unfold hoS
          rw [e]
          exact h
        · skip
          rw [bI_eq0] at c_39
          refine g_aload_n dX9_holds_42 rfl ?_
          refine g_iconst (v := nI 2) dX9_holds_43 rfl ?_
          refine g_callV dX9_holds_44 sX9_fail (m_fail M1 n m (nI 2) hG.1) cl10 hG.1.1 iX9_fail vX9_fail (iw_13 5 rfl) rfl rfl (Nat.le_of_ble_eq_true rfl) (Nat.le_of_ble_eq_true rfl) (Nat.le_of_ble_eq_true rfl) (Nat.le_of_ble_eq_true rfl) (Nat.le_of_ble_eq_true rfl) ?_
          intro r9 M9 n9 h9
          obtain ⟨h91, h92, h93⟩ := h9
          rw [h91, h92, h93]
          clear h91 h92 h93 r9 M9 n9
          exact g_iret dX9_holds_47 (Or.inl rfl) (Nat.le_of_ble_eq_true rfl) (Nat.le_of_ble_eq_true rfl) (by
            have e : hoZ σ k s = (2, 0, zH σ, zN σ) := by
              unfold hoZ
              rw [if_neg (fun h => h.elim (fun h => h c_14) (fun h => h.elim c_19 c_26)), if_pos c_39]
            have e2 : hoS σ k s = σ := by unfold hoS; rw [e]; rfl
            exact ⟨by rw [e]; rfl, rfl, hO1.stI ⟨by omega, by omega⟩, by rw [e2]; exact ⟨S, hQ1.thr _⟩, by rw [e, mI_st, if_pos ⟨rfl, rfl⟩]⟩)
      · skip
        try rw [bI_eq0, decide_eq_false_iff_not] at c_14
        refine g_aload_n dX9_holds_29 rfl ?_
        refine g_iconst (v := nI 1) dX9_holds_30 rfl ?_
        refine g_callV dX9_holds_31 sX9_fail (m_fail M1 n m (nI 1) hG.1) cl10 hG.1.1 iX9_fail vX9_fail (iw_13 5 rfl) rfl rfl (Nat.le_of_ble_eq_true rfl) (Nat.le_of_ble_eq_true rfl) (Nat.le_of_ble_eq_true rfl) (Nat.le_of_ble_eq_true rfl) (Nat.le_of_ble_eq_true rfl) ?_
        intro r9 M9 n9 h9
        obtain ⟨h91, h92, h93⟩ := h9
        rw [h91, h92, h93]
        clear h91 h92 h93 r9 M9 n9
        exact g_iret dX9_holds_34 (Or.inl rfl) (Nat.le_of_ble_eq_true rfl) (Nat.le_of_ble_eq_true rfl) (by
          have e : hoZ σ k s = (1, 0, zH σ, zN σ) := by
            unfold hoZ
            rw [if_pos (by first | exact Or.inl c_14 | exact Or.inr (Or.inl c_19) | exact Or.inr (Or.inr c_26))]
          have e2 : hoS σ k s = σ := by unfold hoS; rw [e]; rfl
          exact ⟨by rw [e]; rfl, rfl, hO1.stI ⟨by omega, by omega⟩, by rw [e2]; exact ⟨S, hQ1.thr _⟩, by rw [e, mI_st, if_pos ⟨rfl, rfl⟩]⟩)

