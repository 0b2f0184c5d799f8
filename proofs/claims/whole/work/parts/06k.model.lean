/-! the reference: a statement makes its set -/
/-- the reference's statement a -/
def sT (M : gM) (m a : Nat) (s : St) : Prop := mI M (m + 5) a = nI s.1 ∧ mI M (m + 6) a = s.2.1 ∧ mI M (m + 7) a = s.2.2.1 ∧ mI M (m + 8) a = s.2.2.2
theorem sT.off {M M1 : gM} {m a : Nat} {s : St} {S : Nat → Nat → Prop} (h : sT M m a s) (ho : Off M M1 S) (hs : ∀ i k, m + 5 ≤ i → i ≤ m + 8 → ¬ S i k) : sT M1 m a s := by
  obtain ⟨h1, h2, h3, h4⟩ := h
  exact ⟨(ho.i (hs _ _ (by omega) (by omega))).trans h1, (ho.i (hs _ _ (by omega) (by omega))).trans h2, (ho.i (hs _ _ (by omega) (by omega))).trans h3, (ho.i (hs _ _ (by omega) (by omega))).trans h4⟩
theorem fL_st {m i k : Nat} (h1 : m + 5 ≤ i) (h2 : i ≤ m + 8) : ¬ fL m i k := by unfold fL; omega
theorem fL_S {m s i k : Nat} (h : fS m s i k) : ¬ fL m i k := by unfold fS at h; unfold fL; omega
set_option maxHeartbeats 4000000 in
set_option maxRecDepth 100000 in
theorem p_mk309 {M M1 : gM} {n m : Nat} {s : St} {F : Nat → List Sp} {L : List Sp} (hm : gMod M m) (hO : Off M M1 (fL m)) (hI : iL M1 m L) (hL : L = makL s F) (hw : wl L) (hl : L.length ≤ 64) : GW μX9_make (gRm 4 111 0 0) (gTh (fun r M1 n1 => r = none ∧ n1 = n ∧ Off M M1 (fM m 346) ∧ iL M1 m [] ∧ iS M1 m 346 (mkS (makL s F)) ∧ okX (mkS (makL s F))) 0 0) 0 0 309 [some (.ref m), none, none, none, none, none, none, none, none, none, none] [] M1 n := by
  have hm1 : gMod M1 m := hm.off hO
  refine g_aload_n dX9_make_309 rfl ?_
  refine g_sipush (v := nI 346) dX9_make_310 rfl ?_
  refine g_callV dX9_make_313 sX9_made (m_made M1 n m 346 L hm1 (by omega) hI hw.1 hw.2 hl) cl10 hm1.1 iX9_made vX9_made (iw_28 2 rfl) rfl rfl (Nat.le_of_ble_eq_true rfl) (Nat.le_of_ble_eq_true rfl) (Nat.le_of_ble_eq_true rfl) (Nat.le_of_ble_eq_true rfl) (Nat.le_of_ble_eq_true rfl) ?_
  intro r9 M2 n9 h9
  obtain ⟨h91, h93, hO2, hI2, hS2, hk2⟩ := h9
  rw [h91, h93]
  clear h91 h93 r9 n9
  exact g_vret dX9_make_316 rfl (Nat.le_of_ble_eq_true rfl) (Nat.le_of_ble_eq_true rfl) ⟨rfl, rfl, (hO.mono (fun i k h => Or.inl h)).trans hO2, hI2, by rw [← hL]; exact hS2, by rw [← hL]; exact hk2⟩

set_option maxHeartbeats 4000000 in
set_option maxRecDepth 100000 in
theorem l_mk2 {M : gM} {n m a b c : Nat} {s : St} {F : Nat → List Sp} {X Y : List Sp} (hm : gMod M m) (ha : a < 40) (hT : sT M m a s) (hv : vS s) (hb : b < 360) (hX : iS M m b X) (oX : okX X) (eX : X = F (pl s.2.2.1)) (hc : c < 360) (hY : iS M m c Y) (oY : okX Y) (eY : s.1 = 2 ∨ s.1 = 3 ∨ s.1 = 4 ∨ s.1 = 7 ∨ s.1 = 8 → Y = F (pl s.2.2.2)) {i : Nat} {L : List Sp} {Q : gθ} (hi : i < X.length) (hl : L.length + 8 ≤ 64) (hk : ∀ (jj : Nat) (M1 : gM), Off M M1 (fL m) → iL M1 m (L ++ Y.flatMap (bothP (nI s.1) (X.getD i (0, 0)))) → GW μX9_make (gRm 4 111 0 0) Q 0 0 303 [some (.ref m), some (.int (nI a)), some (.int (nI s.1)), some (.int (nI b)), some (.int (nI c)), some (.int (nI i)), some (.long (jI (X.getD i (0, 0)).1)), none, some (.long (jI (X.getD i (0, 0)).2)), none, some (.int (nI jj))] [] M1 n) : ∀ (d : Nat) (j : Nat) (M1 : gM), Y.length - j < d → j ≤ Y.length → Off M M1 (fL m) → iL M1 m (L ++ (Y.take j).flatMap (bothP (nI s.1) (X.getD i (0, 0)))) → GW μX9_make (gRm 4 111 0 0) Q 0 0 260 [some (.ref m), some (.int (nI a)), some (.int (nI s.1)), some (.int (nI b)), some (.int (nI c)), some (.int (nI i)), some (.long (jI (X.getD i (0, 0)).1)), none, some (.long (jI (X.getD i (0, 0)).2)), none, some (.int (nI j))] [] M1 n := by
  intro d
  induction d with
  | zero =>
    intro j M1 hd hj hO hI
    omega
  | succ d ih =>
    intro j M1 hd hj hO hI
    have hm1 : gMod M1 m := hm.off hO
    have hX1 : iS M1 m b X := hX.off hO (fun i k h1 => fL_S h1)
    have hY1 : iS M1 m c Y := hY.off hO (fun i k h1 => fL_S h1)
    have hT1 : sT M1 m a s := hT.off hO (fun i k h1 h2 => fL_st h1 h2)
    have lX := oX.2.1
    have lY := oY.2.1
    refine g_iload dX9_make_260 rfl ?_
    refine g_aload_n dX9_make_262 rfl ?_
    refine g_getR (f := 1) dX9_make_263 cl10 hm1.1 (by decide) (Or.inl (iw_5 20 rfl)) (Or.inl rfl) rfl hm1.r_many ?_
    refine g_iload dX9_make_266 rfl ?_
    refine g_iaload dX9_make_268 (j := c) hm1.k_many hm1.n_many rfl (by omega) (by decide) ?_
    rw [hY1.2.1]
    refine g_icmp_ge (tgt := 303) dX9_make_269 (by decide) (fun c_269 => ?_) (fun c_269 => ?_)
    · skip
      rw [nI_leI (by omega) (by omega)] at c_269
      refine hk j M1 hO ?_
      rw [List.take_of_length_le (by omega)] at hI
      exact hI
    · skip
      rw [nI_leI (by omega) (by omega)] at c_269
      have hj2 : j < Y.length := by omega
      obtain ⟨b1, b2⟩ := r5_getD oX.2.2 hi
      obtain ⟨b3, b4⟩ := r5_getD oY.2.2 hj2
      have o1 := cn_okL oX.1 _ (getD_mem hi)
      have o2 := cn_okL oY.1 _ (getD_mem hj2)
      refine g_aload_n dX9_make_272 rfl ?_
      refine g_iload_n dX9_make_273 rfl ?_
      refine g_lload dX9_make_274 rfl ?_
      refine g_lload dX9_make_276 rfl ?_
      refine g_aload_n dX9_make_278 rfl ?_
      refine g_iload dX9_make_279 rfl ?_
      refine g_iload dX9_make_281 rfl ?_
      refine g_callV dX9_make_283 sX9_low (m_loX M1 n m c j Y hm1 hc hY1 hj2) cl10 hm1.1 iX9_low vX9_low (iw_26 0 rfl) rfl rfl (Nat.le_of_ble_eq_true rfl) (Nat.le_of_ble_eq_true rfl) (Nat.le_of_ble_eq_true rfl) (Nat.le_of_ble_eq_true rfl) (Nat.le_of_ble_eq_true rfl) ?_
      intro r9 M9 n9 h9
      obtain ⟨h91, h92, h93⟩ := h9
      rw [h91, h92, h93]
      clear h91 h92 h93 r9 M9 n9
      refine g_aload_n dX9_make_286 rfl ?_
      refine g_iload dX9_make_287 rfl ?_
      refine g_iload dX9_make_289 rfl ?_
      refine g_callV dX9_make_291 sX9_high (m_hiX M1 n m c j Y hm1 hc hY1 hj2) cl10 hm1.1 iX9_high vX9_high (iw_26 4 rfl) rfl rfl (Nat.le_of_ble_eq_true rfl) (Nat.le_of_ble_eq_true rfl) (Nat.le_of_ble_eq_true rfl) (Nat.le_of_ble_eq_true rfl) (Nat.le_of_ble_eq_true rfl) ?_
      intro r9 M9 n9 h9
      obtain ⟨h91, h92, h93⟩ := h9
      rw [h91, h92, h93]
      clear h91 h92 h93 r9 M9 n9
      refine g_callV dX9_make_294 sX9_layBoth (m_layBoth M1 n m (nI s.1) (X.getD i (0, 0)) (Y.getD j (0, 0)) _ hm1 hI (by rw [List.length_append]; have h9 := flat_len (X := Y.take j) (f := bothP (nI s.1) (X.getD i (0, 0))) (c := 4) (fun p _ => bothP_len _ _ _); rw [List.length_take] at h9; have h8 : min j Y.length ≤ 1 := (by omega); omega) b1 b2 b3 b4 o1 o2) cl10 hm1.1 iX9_layBoth vX9_layBoth (iw_27 10 rfl) rfl rfl (Nat.le_of_ble_eq_true rfl) (Nat.le_of_ble_eq_true rfl) (Nat.le_of_ble_eq_true rfl) (Nat.le_of_ble_eq_true rfl) (Nat.le_of_ble_eq_true rfl) ?_
      intro r9 M2 n9 h9
      obtain ⟨h91, h93, hO2, hI2⟩ := h9
      rw [h91, h93]
      clear h91 h93 r9 n9
      refine g_iinc dX9_make_297 rfl (nI_1 j) (Nat.le_of_ble_eq_true rfl) ?_
      refine g_goto (tgt := 260) dX9_make_300 (by decide) ?_
      refine ih (j + 1) _ (by omega) (by omega) (hO.trans hO2) ?_
      rw [take_one hj2, List.flatMap_append, ← List.append_assoc, List.flatMap_singleton]
      exact hI2

set_option maxHeartbeats 4000000 in
set_option maxRecDepth 100000 in
theorem l_mk1 {M : gM} {n m a b c : Nat} {s : St} {F : Nat → List Sp} {X Y : List Sp} (hm : gMod M m) (ha : a < 40) (hT : sT M m a s) (hv : vS s) (hb : b < 360) (hX : iS M m b X) (oX : okX X) (eX : X = F (pl s.2.2.1)) (hc : c < 360) (hY : iS M m c Y) (oY : okX Y) (eY : s.1 = 2 ∨ s.1 = 3 ∨ s.1 = 4 ∨ s.1 = 7 ∨ s.1 = 8 → Y = F (pl s.2.2.2)) (hF2 : (F (pl s.2.2.2)).length ≤ 2) (h8 : s.1 = 8 → okX (F (pl s.2.2.2))) (hk1 : s.1 ≠ 0) (hk2 : s.1 ≠ 10) (hk3 : s.1 ≠ 1) (hk4 : s.1 ≤ 10) : ∀ (d : Nat) (i : Nat) (M1 : gM), X.length - i < d → i ≤ X.length → Off M M1 (fL m) → iL M1 m ((X.take i).flatMap (oneP s F)) → GW μX9_make (gRm 4 111 0 0) (gTh (fun r M1 n1 => r = none ∧ n1 = n ∧ Off M M1 (fM m 346) ∧ iL M1 m [] ∧ iS M1 m 346 (mkS (makL s F)) ∧ okX (mkS (makL s F))) 0 0) 0 0 132 [some (.ref m), some (.int (nI a)), some (.int (nI s.1)), some (.int (nI b)), some (.int (nI c)), some (.int (nI i)), none, none, none, none, none] [] M1 n := by
  intro d
  induction d with
  | zero =>
    intro i M1 hd hi hO hI
    omega
  | succ d ih =>
    intro i M1 hd hi hO hI
    have hm1 : gMod M1 m := hm.off hO
    have hX1 : iS M1 m b X := hX.off hO (fun i k h1 => fL_S h1)
    have hY1 : iS M1 m c Y := hY.off hO (fun i k h1 => fL_S h1)
    have hT1 : sT M1 m a s := hT.off hO (fun i k h1 h2 => fL_st h1 h2)
    have lX := oX.2.1
    have lY := oY.2.1
    refine g_iload dX9_make_132 rfl ?_
    refine g_aload_n dX9_make_134 rfl ?_
    refine g_getR (f := 1) dX9_make_135 cl10 hm1.1 (by decide) (Or.inl (iw_5 20 rfl)) (Or.inl rfl) rfl hm1.r_many ?_
    refine g_iload_n dX9_make_138 rfl ?_
    refine g_iaload dX9_make_139 (j := b) hm1.k_many hm1.n_many rfl (by omega) (by decide) ?_
    rw [hX1.2.1]
    refine g_icmp_ge (tgt := 309) dX9_make_140 (by decide) (fun c_140 => ?_) (fun c_140 => ?_)
    · skip
      rw [nI_leI (by omega) (by omega)] at c_140
      rw [List.take_of_length_le (by omega)] at hI
      refine g_msk [true, false, false, false, false, false, false, false, false, false, false] ?_
      refine p_mk309 hm hO hI ?_ ?_ ?_
      · unfold makL; rw [if_neg hk1, if_neg hk2, if_neg hk3, ← eX]
      · exact wl_flat (fun p hp => oneP_wl hv h8 (cn_okL oX.1 p hp) (oX.2.2 p hp).1 (oX.2.2 p hp).2)
      · have := flat_len (X := X) (f := oneP s F) (c := 8) (fun p _ => oneP_len hF2); omega
    · skip
      rw [nI_leI (by omega) (by omega)] at c_140
      have hi2 : i < X.length := by omega
      obtain ⟨b1, b2⟩ := r5_getD oX.2.2 hi2
      have o1 := cn_okL oX.1 _ (getD_mem hi2)
      have hk0 := hv.1
      have hln : ((X.take i).flatMap (oneP s F)).length ≤ 8 := (by have h9 := flat_len (X := X.take i) (f := oneP s F) (c := 8) (fun p _ => oneP_len (hF2)); rw [List.length_take] at h9; have h8 : min i X.length ≤ 1 := (by omega); omega)
      refine g_aload_n dX9_make_143 rfl ?_
      refine g_iload_n dX9_make_144 rfl ?_
      refine g_iload dX9_make_145 rfl ?_
      refine g_callV dX9_make_147 sX9_low (m_loX M1 n m b i X hm1 hb hX1 hi2) cl10 hm1.1 iX9_low vX9_low (iw_26 0 rfl) rfl rfl (Nat.le_of_ble_eq_true rfl) (Nat.le_of_ble_eq_true rfl) (Nat.le_of_ble_eq_true rfl) (Nat.le_of_ble_eq_true rfl) (Nat.le_of_ble_eq_true rfl) ?_
      intro r9 M9 n9 h9
      obtain ⟨h91, h92, h93⟩ := h9
      rw [h91, h92, h93]
      clear h91 h92 h93 r9 M9 n9
      refine g_lstore dX9_make_150 (Nat.le_of_ble_eq_true rfl) ?_
      refine g_aload_n dX9_make_152 rfl ?_
      refine g_iload_n dX9_make_153 rfl ?_
      refine g_iload dX9_make_154 rfl ?_
      refine g_callV dX9_make_156 sX9_high (m_hiX M1 n m b i X hm1 hb hX1 hi2) cl10 hm1.1 iX9_high vX9_high (iw_26 4 rfl) rfl rfl (Nat.le_of_ble_eq_true rfl) (Nat.le_of_ble_eq_true rfl) (Nat.le_of_ble_eq_true rfl) (Nat.le_of_ble_eq_true rfl) (Nat.le_of_ble_eq_true rfl) ?_
      intro r9 M9 n9 h9
      obtain ⟨h91, h92, h93⟩ := h9
      rw [h91, h92, h93]
      clear h91 h92 h93 r9 M9 n9
      refine g_lstore dX9_make_159 (Nat.le_of_ble_eq_true rfl) ?_
      refine g_iload_n dX9_make_161 rfl ?_
      refine g_iconst (v := nI 5) dX9_make_162 rfl ?_
      refine g_icmp_ne (tgt := 184) dX9_make_163 (by decide) (fun c_163 => ?_) (fun c_163 => ?_)
      · skip
        rw [nI_inj (by omega) (by omega)] at c_163
        refine g_iload_n dX9_make_184 rfl ?_
        refine g_bipush (v := nI 6) dX9_make_185 rfl ?_
        refine g_icmp_ne (tgt := 215) dX9_make_187 (by decide) (fun c_187 => ?_) (fun c_187 => ?_)
        · skip
          rw [nI_inj (by omega) (by omega)] at c_187
          refine g_iload_n dX9_make_215 rfl ?_
          refine g_bipush (v := nI 9) dX9_make_216 rfl ?_
          refine g_icmp_ne (tgt := 238) dX9_make_218 (by decide) (fun c_218 => ?_) (fun c_218 => ?_)
          · skip
            rw [nI_inj (by omega) (by omega)] at c_218
            refine g_iload_n dX9_make_238 rfl ?_
            refine g_bipush (v := nI 8) dX9_make_239 rfl ?_
            refine g_icmp_ne (tgt := 257) dX9_make_241 (by decide) (fun c_241 => ?_) (fun c_241 => ?_)
            · skip
              rw [nI_inj (by omega) (by omega)] at c_241
              refine g_iconst (v := nI 0) dX9_make_257 rfl ?_
              refine g_istore dX9_make_258 (Nat.le_of_ble_eq_true rfl) ?_
              have e9 : oneP s F (X.getD i (0, 0)) = Y.flatMap (bothP (nI s.1) (X.getD i (0, 0))) := by
                unfold oneP
                rw [if_neg c_163, if_neg c_187, if_neg c_218, if_neg c_241, ← eY (by omega)]
              refine l_mk2 (L := (X.take i).flatMap (oneP s F)) hm ha hT hv hb hX oX eX hc hY oY eY hi2 (by omega) (fun jj M2 hO2 hI2 => ?_) (Y.length + 1) 0 M1 (by omega) (by omega) hO (by simpa using hI)
              refine g_iinc dX9_make_303 rfl (nI_1 i) (Nat.le_of_ble_eq_true rfl) ?_
              refine g_goto (tgt := 132) dX9_make_306 (by decide) ?_
              refine g_msk [true, true, true, true, true, true, false, false, false, false, false] ?_
              refine ih (i + 1) M2 (by omega) (by omega) hO2 ?_
              rw [take_one hi2, List.flatMap_append, List.flatMap_singleton, e9]
              exact hI2
            · skip
              rw [nI_inj (by omega) (by omega)] at c_241
              refine g_aload_n dX9_make_244 rfl ?_
              refine g_lload dX9_make_245 rfl ?_
              refine g_lload dX9_make_247 rfl ?_
              refine g_iload dX9_make_249 rfl ?_
              refine g_callV dX9_make_251 sX9_layRest (m_layRest M1 n m c (X.getD i (0, 0)).1 (X.getD i (0, 0)).2 Y _ hm1 hc hY1 oY hI (by omega) b1 b2 o1) cl10 hm1.1 iX9_layRest vX9_layRest (iw_27 3 rfl) rfl rfl (Nat.le_of_ble_eq_true rfl) (Nat.le_of_ble_eq_true rfl) (Nat.le_of_ble_eq_true rfl) (Nat.le_of_ble_eq_true rfl) (Nat.le_of_ble_eq_true rfl) ?_
              intro r9 M2 n9 h9
              obtain ⟨h91, h93, hO2, hI2⟩ := h9
              rw [h91, h93]
              clear h91 h93 r9 n9
              refine g_goto (tgt := 303) dX9_make_254 (by decide) ?_
              refine g_iinc dX9_make_303 rfl (nI_1 i) (Nat.le_of_ble_eq_true rfl) ?_
              refine g_goto (tgt := 132) dX9_make_306 (by decide) ?_
              refine g_msk [true, true, true, true, true, true, false, false, false, false, false] ?_
              refine ih (i + 1) _ (by omega) (by omega) (hO.trans hO2) ?_
              rw [take_one hi2, List.flatMap_append, List.flatMap_singleton]
              first
                | (rw [show oneP s F (X.getD i (0, 0)) = andP s.2.2.2.toInt (X.getD i (0, 0)) by unfold oneP; rw [if_pos c_163]]; exact hI2)
                | (rw [show oneP s F (X.getD i (0, 0)) = [(shZ (pl s.2.2.2) (X.getD i (0, 0)).1, shZ (pl s.2.2.2) (X.getD i (0, 0)).2)] by unfold oneP; rw [if_neg c_163, if_pos c_187]]; exact hI2)
                | (rw [show oneP s F (X.getD i (0, 0)) = rnd (cE s.2.2.2) (cW s.2.2.2) (X.getD i (0, 0)).1 (X.getD i (0, 0)).2 by unfold oneP; rw [if_neg c_163, if_neg c_187, if_pos c_218]]; exact hI2)
                | (rw [show oneP s F (X.getD i (0, 0)) = restP Y (X.getD i (0, 0)) by unfold oneP; rw [if_neg c_163, if_neg c_187, if_neg c_218, if_pos c_241, ← eY (by omega)]]; exact hI2)
          · skip
            rw [nI_inj (by omega) (by omega)] at c_218
            refine g_aload_n dX9_make_221 rfl ?_
            refine g_lload dX9_make_222 rfl ?_
            refine g_lload dX9_make_224 rfl ?_
            refine g_aload_n dX9_make_226 rfl ?_
            refine g_getR (f := 10) dX9_make_227 cl10 hm1.1 (by decide) (Or.inl (iw_6 3 rfl)) (Or.inl rfl) rfl hm1.r_argC ?_
            refine g_iload_n dX9_make_230 rfl ?_
            refine g_iaload dX9_make_231 (j := a) hm1.k_argC hm1.n_argC rfl (by omega) (by decide) ?_
            rw [hT1.2.2.2]
            refine g_callV dX9_make_232 sX9_layCut (m_layCut M1 n m (X.getD i (0, 0)).1 (X.getD i (0, 0)).2 _ s.2.2.2 hm1 hI (by omega) b1 b2) cl10 hm1.1 iX9_layCut vX9_layCut (iw_26 15 rfl) rfl rfl (Nat.le_of_ble_eq_true rfl) (Nat.le_of_ble_eq_true rfl) (Nat.le_of_ble_eq_true rfl) (Nat.le_of_ble_eq_true rfl) (Nat.le_of_ble_eq_true rfl) ?_
            intro r9 M2 n9 h9
            obtain ⟨h91, h93, hO2, hI2⟩ := h9
            rw [h91, h93]
            clear h91 h93 r9 n9
            refine g_goto (tgt := 303) dX9_make_235 (by decide) ?_
            refine g_iinc dX9_make_303 rfl (nI_1 i) (Nat.le_of_ble_eq_true rfl) ?_
            refine g_goto (tgt := 132) dX9_make_306 (by decide) ?_
            refine g_msk [true, true, true, true, true, true, false, false, false, false, false] ?_
            refine ih (i + 1) _ (by omega) (by omega) (hO.trans hO2) ?_
            rw [take_one hi2, List.flatMap_append, List.flatMap_singleton]
            first
              | (rw [show oneP s F (X.getD i (0, 0)) = andP s.2.2.2.toInt (X.getD i (0, 0)) by unfold oneP; rw [if_pos c_163]]; exact hI2)
              | (rw [show oneP s F (X.getD i (0, 0)) = [(shZ (pl s.2.2.2) (X.getD i (0, 0)).1, shZ (pl s.2.2.2) (X.getD i (0, 0)).2)] by unfold oneP; rw [if_neg c_163, if_pos c_187]]; exact hI2)
              | (rw [show oneP s F (X.getD i (0, 0)) = rnd (cE s.2.2.2) (cW s.2.2.2) (X.getD i (0, 0)).1 (X.getD i (0, 0)).2 by unfold oneP; rw [if_neg c_163, if_neg c_187, if_pos c_218]]; exact hI2)
              | (rw [show oneP s F (X.getD i (0, 0)) = restP Y (X.getD i (0, 0)) by unfold oneP; rw [if_neg c_163, if_neg c_187, if_neg c_218, if_pos c_241, ← eY (by omega)]]; exact hI2)
        · skip
          rw [nI_inj (by omega) (by omega)] at c_187
          refine g_aload_n dX9_make_190 rfl ?_
          refine g_lload dX9_make_191 rfl ?_
          refine g_aload_n dX9_make_193 rfl ?_
          refine g_getR (f := 10) dX9_make_194 cl10 hm1.1 (by decide) (Or.inl (iw_6 3 rfl)) (Or.inl rfl) rfl hm1.r_argC ?_
          refine g_iload_n dX9_make_197 rfl ?_
          refine g_iaload dX9_make_198 (j := a) hm1.k_argC hm1.n_argC rfl (by omega) (by decide) ?_
          rw [show mI M1 (m + 8) a = nI (pl s.2.2.2) from hT1.2.2.2.trans (pl_eq (hv.2.2.2.2.2.1 c_187).1)]
          refine g_lshr dX9_make_199 ?_
          rw [jI_shr _ (by have h7 := hv.2.2.2.2.2.1 c_187; unfold pl; omega) b1]
          refine g_lload dX9_make_200 rfl ?_
          refine g_aload_n dX9_make_202 rfl ?_
          refine g_getR (f := 10) dX9_make_203 cl10 hm1.1 (by decide) (Or.inl (iw_6 3 rfl)) (Or.inl rfl) rfl hm1.r_argC ?_
          refine g_iload_n dX9_make_206 rfl ?_
          refine g_iaload dX9_make_207 (j := a) hm1.k_argC hm1.n_argC rfl (by omega) (by decide) ?_
          rw [show mI M1 (m + 8) a = nI (pl s.2.2.2) from hT1.2.2.2.trans (pl_eq (hv.2.2.2.2.2.1 c_187).1)]
          refine g_lshr dX9_make_208 ?_
          rw [jI_shr _ (by have h7 := hv.2.2.2.2.2.1 c_187; unfold pl; omega) b2]
          refine g_callV dX9_make_209 sX9_lay (m_lay1 M1 n m (shZ (pl s.2.2.2) (X.getD i (0, 0)).1) (shZ (pl s.2.2.2) (X.getD i (0, 0)).2) _ hm1 hI (by omega) (r6_5 (shZ_r b1 _)) (r6_5 (shZ_r b2 _)) (shZ_le o1 _)) cl10 hm1.1 iX9_lay vX9_lay (iw_25 15 rfl) rfl rfl (Nat.le_of_ble_eq_true rfl) (Nat.le_of_ble_eq_true rfl) (Nat.le_of_ble_eq_true rfl) (Nat.le_of_ble_eq_true rfl) (Nat.le_of_ble_eq_true rfl) ?_
          intro r9 M2 n9 h9
          obtain ⟨h91, h93, hO2, hI2⟩ := h9
          rw [h91, h93]
          clear h91 h93 r9 n9
          refine g_goto (tgt := 303) dX9_make_212 (by decide) ?_
          refine g_iinc dX9_make_303 rfl (nI_1 i) (Nat.le_of_ble_eq_true rfl) ?_
          refine g_goto (tgt := 132) dX9_make_306 (by decide) ?_
          refine g_msk [true, true, true, true, true, true, false, false, false, false, false] ?_
          refine ih (i + 1) _ (by omega) (by omega) (hO.trans hO2) ?_
          rw [take_one hi2, List.flatMap_append, List.flatMap_singleton]
          first
            | (rw [show oneP s F (X.getD i (0, 0)) = andP s.2.2.2.toInt (X.getD i (0, 0)) by unfold oneP; rw [if_pos c_163]]; exact hI2)
            | (rw [show oneP s F (X.getD i (0, 0)) = [(shZ (pl s.2.2.2) (X.getD i (0, 0)).1, shZ (pl s.2.2.2) (X.getD i (0, 0)).2)] by unfold oneP; rw [if_neg c_163, if_pos c_187]]; exact hI2)
            | (rw [show oneP s F (X.getD i (0, 0)) = rnd (cE s.2.2.2) (cW s.2.2.2) (X.getD i (0, 0)).1 (X.getD i (0, 0)).2 by unfold oneP; rw [if_neg c_163, if_neg c_187, if_pos c_218]]; exact hI2)
            | (rw [show oneP s F (X.getD i (0, 0)) = restP Y (X.getD i (0, 0)) by unfold oneP; rw [if_neg c_163, if_neg c_187, if_neg c_218, if_pos c_241, ← eY (by omega)]]; exact hI2)
      · skip
        rw [nI_inj (by omega) (by omega)] at c_163
        refine g_aload_n dX9_make_166 rfl ?_
        refine g_lload dX9_make_167 rfl ?_
        refine g_lload dX9_make_169 rfl ?_
        refine g_aload_n dX9_make_171 rfl ?_
        refine g_getR (f := 10) dX9_make_172 cl10 hm1.1 (by decide) (Or.inl (iw_6 3 rfl)) (Or.inl rfl) rfl hm1.r_argC ?_
        refine g_iload_n dX9_make_175 rfl ?_
        refine g_iaload dX9_make_176 (j := a) hm1.k_argC hm1.n_argC rfl (by omega) (by decide) ?_
        rw [hT1.2.2.2]
        refine g_i2l dX9_make_177 ?_
        rw [i_j]
        refine g_callV dX9_make_178 sX9_layAnd (m_layAnd M1 n m (X.getD i (0, 0)).1 (X.getD i (0, 0)).2 s.2.2.2.toInt _ hm1 hI (by omega) b1 b2 o1 ⟨hv.2.2.2.2.1 c_163, (i_rng _).2⟩) cl10 hm1.1 iX9_layAnd vX9_layAnd (iw_26 8 rfl) rfl rfl (Nat.le_of_ble_eq_true rfl) (Nat.le_of_ble_eq_true rfl) (Nat.le_of_ble_eq_true rfl) (Nat.le_of_ble_eq_true rfl) (Nat.le_of_ble_eq_true rfl) ?_
        intro r9 M2 n9 h9
        obtain ⟨h91, h93, hO2, hI2⟩ := h9
        rw [h91, h93]
        clear h91 h93 r9 n9
        refine g_goto (tgt := 303) dX9_make_181 (by decide) ?_
        refine g_iinc dX9_make_303 rfl (nI_1 i) (Nat.le_of_ble_eq_true rfl) ?_
        refine g_goto (tgt := 132) dX9_make_306 (by decide) ?_
        refine g_msk [true, true, true, true, true, true, false, false, false, false, false] ?_
        refine ih (i + 1) _ (by omega) (by omega) (hO.trans hO2) ?_
        rw [take_one hi2, List.flatMap_append, List.flatMap_singleton]
        first
          | (rw [show oneP s F (X.getD i (0, 0)) = andP s.2.2.2.toInt (X.getD i (0, 0)) by unfold oneP; rw [if_pos c_163]]; exact hI2)
          | (rw [show oneP s F (X.getD i (0, 0)) = [(shZ (pl s.2.2.2) (X.getD i (0, 0)).1, shZ (pl s.2.2.2) (X.getD i (0, 0)).2)] by unfold oneP; rw [if_neg c_163, if_pos c_187]]; exact hI2)
          | (rw [show oneP s F (X.getD i (0, 0)) = rnd (cE s.2.2.2) (cW s.2.2.2) (X.getD i (0, 0)).1 (X.getD i (0, 0)).2 by unfold oneP; rw [if_neg c_163, if_neg c_187, if_pos c_218]]; exact hI2)
          | (rw [show oneP s F (X.getD i (0, 0)) = restP Y (X.getD i (0, 0)) by unfold oneP; rw [if_neg c_163, if_neg c_187, if_neg c_218, if_pos c_241, ← eY (by omega)]]; exact hI2)

