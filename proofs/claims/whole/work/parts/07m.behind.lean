/-! the class: what goes to the statement behind -/
set_option maxHeartbeats 4000000 in
set_option maxRecDepth 100000 in
theorem k_bh57 {M M2 : gM} {n v e : Nat} {s : St} {F : Nat → List Sp} (h : sP M v) (hs : sQ M e s) (hv : vS s) (hE : sE M (e + 1) F) (hd : dis e v) (hF : gdF F) (hk : s.1 ≤ 10) (hO : Off M M2 (fV v)) (hG : sE M2 (v + 4) F) (hU : gt M2 (v + 1) []) : GW μX5_goesBehind (gRm 4 102 0 0) (gTh (fun r M1 n1 => r = some (.int (bI (gvn s F false).isSome)) ∧ n1 = n ∧ Off M M1 (fV v) ∧ ∀ G, gvn s F false = some G → sE M1 (v + 4) G) 0 0) 0 0 64 [some (.ref v), some (.ref e)] [] M2 n := by
  have h2 := h.off hO
  have hs2 := hs.offV hd hO
  have hE2 := hE.offV hd hO
  have h19 := hv.1
  refine g_aload_n dX5_goesBehind_64 rfl ?_
  refine g_getI (f := 0) dX5_goesBehind_65 cl5 hs2.1 (by decide) (Or.inr (List.mem_of_getElem? (i := 28) rfl)) (Or.inl rfl) (Or.inl rfl) ?_
  rw [hs2.2.1]
  by_cases t_68_0 : (s.1 : Int) = 0
  · skip
    refine g_tableIn (off := 60) (tgt := 128) dX5_goesBehind_68 (by rw [nI_t (by omega)]; omega) (by rw [nI_t (by omega)]; omega) (by rw [nI_t (by omega)]; rw [t_68_0]; rfl) (by decide) ?_
    refine g_aload_n dX5_goesBehind_128 rfl ?_
    refine g_getR (f := 0) dX5_goesBehind_129 cl6 h2.1 (by decide) (Or.inl (iw_4 23 rfl)) (Or.inl rfl) rfl h2.2.1.1 ?_
    refine g_aload_n dX5_goesBehind_132 rfl ?_
    refine g_getI (f := 2) dX5_goesBehind_133 cl5 hs2.1 (by decide) (Or.inr (List.mem_of_getElem? (i := 31) rfl)) (Or.inl rfl) (Or.inl rfl) ?_
    rw [hs2.2.2.2.1]
    refine g_aload_n dX5_goesBehind_136 rfl ?_
    refine g_getI (f := 2) dX5_goesBehind_137 cl5 hs2.1 (by decide) (Or.inr (List.mem_of_getElem? (i := 31) rfl)) (Or.inl rfl) (Or.inl rfl) ?_
    rw [hs2.2.2.2.1]
    have hadd := c_add M2 n (v + 1) [] (s.2.2.1.toInt, s.2.2.1.toInt) hU (by simp) wl_nil.2 (i_rng _)
    simp only [← iZ_of] at hadd
    refine g_callV dX5_goesBehind_140 sX0_add hadd cl1 hU.g.1 iX0_add vX0_add (iw_21 22 rfl) rfl rfl (Nat.le_of_ble_eq_true rfl) (Nat.le_of_ble_eq_true rfl) (Nat.le_of_ble_eq_true rfl) (Nat.le_of_ble_eq_true rfl) (Nat.le_of_ble_eq_true rfl) ?_
    intro r9 M9 n9 h9
    obtain ⟨h91, h93, hO9, hI9⟩ := h9
    rw [h91, h93]
    clear h91 h93 r9 n9
    refine g_goto (tgt := 297) dX5_goesBehind_143 (by decide) ?_
    refine k_bh297 h hs hv hd hk (hO.trans (hO9.mono (fun i k q => fY_V q))) (hG.off hO9 (fun i k h1 h2 q => by unfold fY at q; omega)) hI9 ?_ ?_
    · exact wl_one (by first | exact Int.le_refl _ | exact hv.2.2.2.2.2.2.2.1 (by omega)) (i_rng _) (i_rng _)
    · rw [List.nil_append]
      unfold makL
      first
        | rw [if_pos (by omega)]
        | rw [if_neg (by omega), if_pos (by omega)]
  · skip
    by_cases t_68_1 : (s.1 : Int) = 1 ∨ (s.1 : Int) = 5 ∨ (s.1 : Int) = 6 ∨ (s.1 : Int) = 9
    · skip
      refine g_tableIn (off := 208) (tgt := 276) dX5_goesBehind_68 (by rw [nI_t (by omega)]; omega) (by rw [nI_t (by omega)]; omega) (by rw [nI_t (by omega)]; rcases t_68_1 with h9 | h9 | h9 | h9 <;> rw [h9] <;> rfl) (by decide) ?_
      have hk4 : s.1 = 1 ∨ s.1 = 5 ∨ s.1 = 6 ∨ s.1 = 9 := by omega
      have hb := hv.2.2.1 (by omega)
      have hb8 := hb.lt
      have okb := (hF _ hb8).1
      refine g_aload_n dX5_goesBehind_276 rfl ?_
      refine g_aload_n dX5_goesBehind_277 rfl ?_
      refine g_getI (f := 0) dX5_goesBehind_278 cl5 hs2.1 (by decide) (Or.inr (List.mem_of_getElem? (i := 28) rfl)) (Or.inl rfl) (Or.inl rfl) ?_
      rw [hs2.2.1]
      refine g_aload_n dX5_goesBehind_281 rfl ?_
      refine g_getR (f := 4) dX5_goesBehind_282 cl5 hs2.1 (by decide) (Or.inr (List.mem_of_getElem? (i := 29) rfl)) (Or.inl rfl) rfl hs2.2.2.2.2.2.1 ?_
      refine g_aload_n dX5_goesBehind_285 rfl ?_
      refine g_getI (f := 2) dX5_goesBehind_286 cl5 hs2.1 (by decide) (Or.inr (List.mem_of_getElem? (i := 31) rfl)) (Or.inl rfl) (Or.inl rfl) ?_
      rw [hs2.2.2.2.1]
      refine g_aaloadS dX5_goesBehind_289 (j := pl s.2.2.1) hE2.1.1 hE2.1.2.1 hb.eq hb8 (by decide) (hE2.1.2.2 (pl s.2.2.1) hb8).1 ?_
      refine g_aload_n dX5_goesBehind_290 rfl ?_
      refine g_getI (f := 3) dX5_goesBehind_291 cl5 hs2.1 (by decide) (Or.inr (List.mem_of_getElem? (i := 30) rfl)) (Or.inl rfl) (Or.inl rfl) ?_
      rw [hs2.2.2.2.2.1]
      refine g_callV dX5_goesBehind_294 sX5_gatherOfOne (c_one M2 n v s.1 (e + 1 + 1 + pl s.2.2.1) s.2.2.2 [] (F (pl s.2.2.1)) hU (hE2.2 _ hb8) (by simp) wl_nil.2 ⟨hk4, fun q => hv.2.2.2.2.1 q, fun q => hv.2.2.2.2.2.1 q, fun q => hv.2.2.2.2.2.2.1 q⟩ h2.1 h2.2.1.1) cl6 h2.1 iX5_gatherOfOne vX5_gatherOfOne (iw_23 4 rfl) rfl rfl (Nat.le_of_ble_eq_true rfl) (Nat.le_of_ble_eq_true rfl) (Nat.le_of_ble_eq_true rfl) (Nat.le_of_ble_eq_true rfl) (Nat.le_of_ble_eq_true rfl) ?_
      intro r9 M9 n9 h9
      obtain ⟨h91, h93, hO9, hI9⟩ := h9
      rw [h91, h93]
      clear h91 h93 r9 n9
      refine k_bh297 h hs hv hd hk (hO.trans (hO9.mono (fun i k q => fY_V q))) (hG.off hO9 (fun i k h1 h2 q => by unfold fY at q; omega)) hI9 ?_ ?_
      · rw [List.nil_append, one_all hk4]
        exact makL_wl hv hk (fun p hp => (hF p hp).1)
      · rw [List.nil_append, one_all hk4]
    · skip
      by_cases t_68_2 : (s.1 : Int) = 2 ∨ (s.1 : Int) = 3 ∨ (s.1 : Int) = 4
      · skip
        refine g_tableIn (off := 96) (tgt := 164) dX5_goesBehind_68 (by rw [nI_t (by omega)]; omega) (by rw [nI_t (by omega)]; omega) (by rw [nI_t (by omega)]; rcases t_68_2 with h9 | h9 | h9 <;> rw [h9] <;> rfl) (by decide) ?_
        have hb := hv.2.2.1 (by omega)
        have hb8 := hb.lt
        have okb := (hF _ hb8).1
        have hc := hv.2.2.2.1 (by omega)
        have hc8 := hc.lt
        have okc := (hF _ hc8).1
        refine g_aload_n dX5_goesBehind_164 rfl ?_
        refine g_aload_n dX5_goesBehind_165 rfl ?_
        refine g_getI (f := 0) dX5_goesBehind_166 cl5 hs2.1 (by decide) (Or.inr (List.mem_of_getElem? (i := 28) rfl)) (Or.inl rfl) (Or.inl rfl) ?_
        rw [hs2.2.1]
        refine g_aload_n dX5_goesBehind_169 rfl ?_
        refine g_getR (f := 4) dX5_goesBehind_170 cl5 hs2.1 (by decide) (Or.inr (List.mem_of_getElem? (i := 29) rfl)) (Or.inl rfl) rfl hs2.2.2.2.2.2.1 ?_
        refine g_aload_n dX5_goesBehind_173 rfl ?_
        refine g_getI (f := 2) dX5_goesBehind_174 cl5 hs2.1 (by decide) (Or.inr (List.mem_of_getElem? (i := 31) rfl)) (Or.inl rfl) (Or.inl rfl) ?_
        rw [hs2.2.2.2.1]
        refine g_aaloadS dX5_goesBehind_177 (j := pl s.2.2.1) hE2.1.1 hE2.1.2.1 hb.eq hb8 (by decide) (hE2.1.2.2 (pl s.2.2.1) hb8).1 ?_
        refine g_aload_n dX5_goesBehind_178 rfl ?_
        refine g_getR (f := 4) dX5_goesBehind_179 cl5 hs2.1 (by decide) (Or.inr (List.mem_of_getElem? (i := 29) rfl)) (Or.inl rfl) rfl hs2.2.2.2.2.2.1 ?_
        refine g_aload_n dX5_goesBehind_182 rfl ?_
        refine g_getI (f := 3) dX5_goesBehind_183 cl5 hs2.1 (by decide) (Or.inr (List.mem_of_getElem? (i := 30) rfl)) (Or.inl rfl) (Or.inl rfl) ?_
        rw [hs2.2.2.2.2.1]
        refine g_aaloadS dX5_goesBehind_186 (j := pl s.2.2.2) hE2.1.1 hE2.1.2.1 hc.eq hc8 (by decide) (hE2.1.2.2 (pl s.2.2.2) hc8).1 ?_
        refine g_callV dX5_goesBehind_187 sX5_gatherPairs (c_pairs M2 n v s.1 (e + 1 + 1 + pl s.2.2.1) (e + 1 + 1 + pl s.2.2.2) [] (F (pl s.2.2.1)) (F (pl s.2.2.2)) hU (hE2.2 _ hb8) (hE2.2 _ hc8) (by simp) wl_nil.2 (by omega) h2.1 h2.2.1.1) cl6 h2.1 iX5_gatherPairs vX5_gatherPairs (iw_21 23 rfl) rfl rfl (Nat.le_of_ble_eq_true rfl) (Nat.le_of_ble_eq_true rfl) (Nat.le_of_ble_eq_true rfl) (Nat.le_of_ble_eq_true rfl) (Nat.le_of_ble_eq_true rfl) ?_
        intro r9 M9 n9 h9
        obtain ⟨h91, h93, hO9, hI9⟩ := h9
        rw [h91, h93]
        clear h91 h93 r9 n9
        refine g_goto (tgt := 297) dX5_goesBehind_190 (by decide) ?_
        refine k_bh297 h hs hv hd hk (hO.trans (hO9.mono (fun i k q => fY_V q))) (hG.off hO9 (fun i k h1 h2 q => by unfold fY at q; omega)) hI9 (by rw [List.nil_append]; exact prP_wl _ _ _) ?_
        rw [List.nil_append, two_all (by omega) okb okc]
      · skip
        by_cases t_68_7 : (s.1 : Int) = 7
        · skip
          refine g_tableIn (off := 125) (tgt := 193) dX5_goesBehind_68 (by rw [nI_t (by omega)]; omega) (by rw [nI_t (by omega)]; omega) (by rw [nI_t (by omega)]; rw [t_68_7]; rfl) (by decide) ?_
          have hb := hv.2.2.1 (by omega)
          have hb8 := hb.lt
          have okb := (hF _ hb8).1
          have hc := hv.2.2.2.1 (by omega)
          have hc8 := hc.lt
          have okc := (hF _ hc8).1
          refine g_aload_n dX5_goesBehind_193 rfl ?_
          refine g_aload_n dX5_goesBehind_194 rfl ?_
          refine g_getR (f := 4) dX5_goesBehind_195 cl5 hs2.1 (by decide) (Or.inr (List.mem_of_getElem? (i := 29) rfl)) (Or.inl rfl) rfl hs2.2.2.2.2.2.1 ?_
          refine g_aload_n dX5_goesBehind_198 rfl ?_
          refine g_getI (f := 3) dX5_goesBehind_199 cl5 hs2.1 (by decide) (Or.inr (List.mem_of_getElem? (i := 30) rfl)) (Or.inl rfl) (Or.inl rfl) ?_
          rw [hs2.2.2.2.2.1]
          refine g_aaloadS dX5_goesBehind_202 (j := pl s.2.2.2) hE2.1.1 hE2.1.2.1 hc.eq hc8 (by decide) (hE2.1.2.2 (pl s.2.2.2) hc8).1 ?_
          refine g_callV dX5_goesBehind_203 sX5_splitDivisor (c_split M2 n v (e + 1 + 1 + pl s.2.2.2) (F (pl s.2.2.2)) h2 (hE2.2 _ hc8) (by unfold dis at hd; omega) (by unfold dis at hd; omega)) cl6 h2.1 iX5_splitDivisor vX5_splitDivisor (iw_22 15 rfl) rfl rfl (Nat.le_of_ble_eq_true rfl) (Nat.le_of_ble_eq_true rfl) (Nat.le_of_ble_eq_true rfl) (Nat.le_of_ble_eq_true rfl) (Nat.le_of_ble_eq_true rfl) ?_
          intro r9 M3 n9 h9
          obtain ⟨h91, h93, hO3, hB3, hA3⟩ := h9
          rw [h91, h93]
          clear h91 h93 r9 n9
          have hO3' : Off M2 M3 (fV v) := hO3.mono (fun i k q => by unfold fV; omega)
          have h3 := h2.off hO3
          have hs3 := hs2.offV hd hO3'
          have hE3 := hE2.offV hd hO3'
          have hU3 := hU.off hO3 (fun i k q z => by unfold fY at q; omega)
          refine g_aload_n dX5_goesBehind_206 rfl ?_
          refine g_bipush (v := nI 7) dX5_goesBehind_207 rfl ?_
          refine g_aload_n dX5_goesBehind_209 rfl ?_
          refine g_getR (f := 4) dX5_goesBehind_210 cl5 hs3.1 (by decide) (Or.inr (List.mem_of_getElem? (i := 29) rfl)) (Or.inl rfl) rfl hs3.2.2.2.2.2.1 ?_
          refine g_aload_n dX5_goesBehind_213 rfl ?_
          refine g_getI (f := 2) dX5_goesBehind_214 cl5 hs3.1 (by decide) (Or.inr (List.mem_of_getElem? (i := 31) rfl)) (Or.inl rfl) (Or.inl rfl) ?_
          rw [hs3.2.2.2.1]
          refine g_aaloadS dX5_goesBehind_217 (j := pl s.2.2.1) hE3.1.1 hE3.1.2.1 hb.eq hb8 (by decide) (hE3.1.2.2 (pl s.2.2.1) hb8).1 ?_
          refine g_aload_n dX5_goesBehind_218 rfl ?_
          refine g_getR (f := 2) dX5_goesBehind_219 cl6 h3.1 (by decide) (Or.inl (iw_5 2 rfl)) (Or.inl rfl) rfl h3.2.1.2.2.1 ?_
          refine g_callV dX5_goesBehind_222 sX5_gatherPairs (c_pairs M3 n v 7 (e + 1 + 1 + pl s.2.2.1) (v + 13) [] (F (pl s.2.2.1)) (clip (F (pl s.2.2.2)) (-2147483648) (-1)) hU3 (hE3.2 _ hb8) hB3 (by simp) wl_nil.2 (by omega) h3.1 h3.2.1.1) cl6 h3.1 iX5_gatherPairs vX5_gatherPairs (iw_21 23 rfl) rfl rfl (Nat.le_of_ble_eq_true rfl) (Nat.le_of_ble_eq_true rfl) (Nat.le_of_ble_eq_true rfl) (Nat.le_of_ble_eq_true rfl) (Nat.le_of_ble_eq_true rfl) ?_
          intro r9 M4 n9 h9
          obtain ⟨h91, h93, hO4, hI4⟩ := h9
          rw [h91, h93]
          clear h91 h93 r9 n9
          have h4 := h3.off hO4
          have hs4 := hs3.offV hd (hO4.mono (fun i k q => fY_V q))
          have hE4 := hE3.offV hd (hO4.mono (fun i k q => fY_V q))
          have hA4 := hA3.off hO4 (fun k q => by unfold fY at q; omega)
          refine g_aload_n dX5_goesBehind_225 rfl ?_
          refine g_bipush (v := nI 7) dX5_goesBehind_226 rfl ?_
          refine g_aload_n dX5_goesBehind_228 rfl ?_
          refine g_getR (f := 4) dX5_goesBehind_229 cl5 hs4.1 (by decide) (Or.inr (List.mem_of_getElem? (i := 29) rfl)) (Or.inl rfl) rfl hs4.2.2.2.2.2.1 ?_
          refine g_aload_n dX5_goesBehind_232 rfl ?_
          refine g_getI (f := 2) dX5_goesBehind_233 cl5 hs4.1 (by decide) (Or.inr (List.mem_of_getElem? (i := 31) rfl)) (Or.inl rfl) (Or.inl rfl) ?_
          rw [hs4.2.2.2.1]
          refine g_aaloadS dX5_goesBehind_236 (j := pl s.2.2.1) hE4.1.1 hE4.1.2.1 hb.eq hb8 (by decide) (hE4.1.2.2 (pl s.2.2.1) hb8).1 ?_
          refine g_aload_n dX5_goesBehind_237 rfl ?_
          refine g_getR (f := 3) dX5_goesBehind_238 cl6 h4.1 (by decide) (Or.inl (iw_5 3 rfl)) (Or.inl rfl) rfl h4.2.1.2.2.2 ?_
          refine g_callV dX5_goesBehind_241 sX5_gatherPairs (c_pairs M4 n v 7 (e + 1 + 1 + pl s.2.2.1) (v + 14) ([] ++ prP 7 (F (pl s.2.2.1)) (clip (F (pl s.2.2.2)) (-2147483648) (-1))) (F (pl s.2.2.1)) (clip (F (pl s.2.2.2)) 1 2147483647) hI4 (hE4.2 _ hb8) hA4 (by rw [List.nil_append]; have := prP_len (k := 7) okb.2.1 (clip_ok okc (-2147483648) (-1)).2.1; omega) (by rw [List.nil_append]; exact (prP_wl _ _ _).2) (by omega) h4.1 h4.2.1.1) cl6 h4.1 iX5_gatherPairs vX5_gatherPairs (iw_21 23 rfl) rfl rfl (Nat.le_of_ble_eq_true rfl) (Nat.le_of_ble_eq_true rfl) (Nat.le_of_ble_eq_true rfl) (Nat.le_of_ble_eq_true rfl) (Nat.le_of_ble_eq_true rfl) ?_
          intro r9 M9 n9 h9
          obtain ⟨h91, h93, hO9, hI9⟩ := h9
          rw [h91, h93]
          clear h91 h93 r9 n9
          refine g_goto (tgt := 297) dX5_goesBehind_244 (by decide) ?_
          refine k_bh297 h hs hv hd hk (hO.trans (hO3'.trans ((hO4.trans hO9).mono (fun i k q => fY_V q)))) ((hG.off hO3 (fun i k h1 h2 q => by omega)).off (hO4.trans hO9) (fun i k h1 h2 q => by unfold fY at q; omega)) hI9 (by rw [List.nil_append]; exact wl_app (prP_wl _ _ _) (prP_wl _ _ _)) ?_
          rw [List.nil_append]
          exact quo_all (by omega) okc (makL_wl hv hk (fun p hp => (hF p hp).1))
        · skip
          by_cases t_68_8 : (s.1 : Int) = 8
          · skip
            refine g_tableIn (off := 179) (tgt := 247) dX5_goesBehind_68 (by rw [nI_t (by omega)]; omega) (by rw [nI_t (by omega)]; omega) (by rw [nI_t (by omega)]; rw [t_68_8]; rfl) (by decide) ?_
            have hb := hv.2.2.1 (by omega)
            have hb8 := hb.lt
            have okb := (hF _ hb8).1
            have hc := hv.2.2.2.1 (by omega)
            have hc8 := hc.lt
            have okc := (hF _ hc8).1
            refine g_aload_n dX5_goesBehind_247 rfl ?_
            refine g_aload_n dX5_goesBehind_248 rfl ?_
            refine g_getR (f := 4) dX5_goesBehind_249 cl5 hs2.1 (by decide) (Or.inr (List.mem_of_getElem? (i := 29) rfl)) (Or.inl rfl) rfl hs2.2.2.2.2.2.1 ?_
            refine g_aload_n dX5_goesBehind_252 rfl ?_
            refine g_getI (f := 3) dX5_goesBehind_253 cl5 hs2.1 (by decide) (Or.inr (List.mem_of_getElem? (i := 30) rfl)) (Or.inl rfl) (Or.inl rfl) ?_
            rw [hs2.2.2.2.2.1]
            refine g_aaloadS dX5_goesBehind_256 (j := pl s.2.2.2) hE2.1.1 hE2.1.2.1 hc.eq hc8 (by decide) (hE2.1.2.2 (pl s.2.2.2) hc8).1 ?_
            refine g_callV dX5_goesBehind_257 sX5_splitDivisor (c_split M2 n v (e + 1 + 1 + pl s.2.2.2) (F (pl s.2.2.2)) h2 (hE2.2 _ hc8) (by unfold dis at hd; omega) (by unfold dis at hd; omega)) cl6 h2.1 iX5_splitDivisor vX5_splitDivisor (iw_22 15 rfl) rfl rfl (Nat.le_of_ble_eq_true rfl) (Nat.le_of_ble_eq_true rfl) (Nat.le_of_ble_eq_true rfl) (Nat.le_of_ble_eq_true rfl) (Nat.le_of_ble_eq_true rfl) ?_
            intro r9 M3 n9 h9
            obtain ⟨h91, h93, hO3, hB3, hA3⟩ := h9
            rw [h91, h93]
            clear h91 h93 r9 n9
            have hO3' : Off M2 M3 (fV v) := hO3.mono (fun i k q => by unfold fV; omega)
            have h3 := h2.off hO3
            have hs3 := hs2.offV hd hO3'
            have hE3 := hE2.offV hd hO3'
            have hU3 := hU.off hO3 (fun i k q z => by unfold fY at q; omega)
            refine g_aload_n dX5_goesBehind_260 rfl ?_
            refine g_aload_n dX5_goesBehind_261 rfl ?_
            refine g_getR (f := 4) dX5_goesBehind_262 cl5 hs3.1 (by decide) (Or.inr (List.mem_of_getElem? (i := 29) rfl)) (Or.inl rfl) rfl hs3.2.2.2.2.2.1 ?_
            refine g_aload_n dX5_goesBehind_265 rfl ?_
            refine g_getI (f := 2) dX5_goesBehind_266 cl5 hs3.1 (by decide) (Or.inr (List.mem_of_getElem? (i := 31) rfl)) (Or.inl rfl) (Or.inl rfl) ?_
            rw [hs3.2.2.2.1]
            refine g_aaloadS dX5_goesBehind_269 (j := pl s.2.2.1) hE3.1.1 hE3.1.2.1 hb.eq hb8 (by decide) (hE3.1.2.2 (pl s.2.2.1) hb8).1 ?_
            refine g_callV dX5_goesBehind_270 sX5_gatherRests (c_rests M3 n v (e + 1 + 1 + pl s.2.2.1) [] (F (pl s.2.2.1)) (clip (F (pl s.2.2.2)) 1 2147483647) (clip (F (pl s.2.2.2)) (-2147483648) (-1)) hU3 (hE3.2 _ hb8) (by simp) wl_nil.2 h3.1 h3.2.1.1 hB3 hA3 (clip_neg okc) (clip_pos okc) h3.2.1.2.2.1 h3.2.1.2.2.2) cl6 h3.1 iX5_gatherRests vX5_gatherRests (iw_22 20 rfl) rfl rfl (Nat.le_of_ble_eq_true rfl) (Nat.le_of_ble_eq_true rfl) (Nat.le_of_ble_eq_true rfl) (Nat.le_of_ble_eq_true rfl) (Nat.le_of_ble_eq_true rfl) ?_
            intro r9 M9 n9 h9
            obtain ⟨h91, h93, hO9, hI9⟩ := h9
            rw [h91, h93]
            clear h91 h93 r9 n9
            refine g_goto (tgt := 297) dX5_goesBehind_273 (by decide) ?_
            refine k_bh297 h hs hv hd hk (hO.trans (hO3'.trans (hO9.mono (fun i k q => fY_V q)))) ((hG.off hO3 (fun i k h1 h2 q => by omega)).off hO9 (fun i k h1 h2 q => by unfold fY at q; omega)) hI9 ?_ ?_
            · rw [List.nil_append, eig_all (by omega) okb okc]
              exact makL_wl hv hk (fun p hp => (hF p hp).1)
            · rw [List.nil_append, eig_all (by omega) okb okc]
          · skip
            by_cases t_68_10 : (s.1 : Int) = 10
            · skip
              refine g_tableIn (off := 78) (tgt := 146) dX5_goesBehind_68 (by rw [nI_t (by omega)]; omega) (by rw [nI_t (by omega)]; omega) (by rw [nI_t (by omega)]; rw [t_68_10]; rfl) (by decide) ?_
              refine g_aload_n dX5_goesBehind_146 rfl ?_
              refine g_getR (f := 0) dX5_goesBehind_147 cl6 h2.1 (by decide) (Or.inl (iw_4 23 rfl)) (Or.inl rfl) rfl h2.2.1.1 ?_
              refine g_aload_n dX5_goesBehind_150 rfl ?_
              refine g_getI (f := 2) dX5_goesBehind_151 cl5 hs2.1 (by decide) (Or.inr (List.mem_of_getElem? (i := 31) rfl)) (Or.inl rfl) (Or.inl rfl) ?_
              rw [hs2.2.2.2.1]
              refine g_aload_n dX5_goesBehind_154 rfl ?_
              refine g_getI (f := 3) dX5_goesBehind_155 cl5 hs2.1 (by decide) (Or.inr (List.mem_of_getElem? (i := 30) rfl)) (Or.inl rfl) (Or.inl rfl) ?_
              rw [hs2.2.2.2.2.1]
              have hadd := c_add M2 n (v + 1) [] (s.2.2.1.toInt, s.2.2.2.toInt) hU (by simp) wl_nil.2 (i_rng _)
              simp only [← iZ_of] at hadd
              refine g_callV dX5_goesBehind_158 sX0_add hadd cl1 hU.g.1 iX0_add vX0_add (iw_21 22 rfl) rfl rfl (Nat.le_of_ble_eq_true rfl) (Nat.le_of_ble_eq_true rfl) (Nat.le_of_ble_eq_true rfl) (Nat.le_of_ble_eq_true rfl) (Nat.le_of_ble_eq_true rfl) ?_
              intro r9 M9 n9 h9
              obtain ⟨h91, h93, hO9, hI9⟩ := h9
              rw [h91, h93]
              clear h91 h93 r9 n9
              refine g_goto (tgt := 297) dX5_goesBehind_161 (by decide) ?_
              refine k_bh297 h hs hv hd hk (hO.trans (hO9.mono (fun i k q => fY_V q))) (hG.off hO9 (fun i k h1 h2 q => by unfold fY at q; omega)) hI9 ?_ ?_
              · exact wl_one (by first | exact Int.le_refl _ | exact hv.2.2.2.2.2.2.2.1 (by omega)) (i_rng _) (i_rng _)
              · rw [List.nil_append]
                unfold makL
                first
                  | rw [if_pos (by omega)]
                  | rw [if_neg (by omega), if_pos (by omega)]
            · skip
              refine g_tableOut (tgt := 276) dX5_goesBehind_68 (by rw [nI_t (by omega)]; omega) (by decide) ?_
              have hk4 : s.1 = 1 ∨ s.1 = 5 ∨ s.1 = 6 ∨ s.1 = 9 := by omega
              have hb := hv.2.2.1 (by omega)
              have hb8 := hb.lt
              have okb := (hF _ hb8).1
              refine g_aload_n dX5_goesBehind_276 rfl ?_
              refine g_aload_n dX5_goesBehind_277 rfl ?_
              refine g_getI (f := 0) dX5_goesBehind_278 cl5 hs2.1 (by decide) (Or.inr (List.mem_of_getElem? (i := 28) rfl)) (Or.inl rfl) (Or.inl rfl) ?_
              rw [hs2.2.1]
              refine g_aload_n dX5_goesBehind_281 rfl ?_
              refine g_getR (f := 4) dX5_goesBehind_282 cl5 hs2.1 (by decide) (Or.inr (List.mem_of_getElem? (i := 29) rfl)) (Or.inl rfl) rfl hs2.2.2.2.2.2.1 ?_
              refine g_aload_n dX5_goesBehind_285 rfl ?_
              refine g_getI (f := 2) dX5_goesBehind_286 cl5 hs2.1 (by decide) (Or.inr (List.mem_of_getElem? (i := 31) rfl)) (Or.inl rfl) (Or.inl rfl) ?_
              rw [hs2.2.2.2.1]
              refine g_aaloadS dX5_goesBehind_289 (j := pl s.2.2.1) hE2.1.1 hE2.1.2.1 hb.eq hb8 (by decide) (hE2.1.2.2 (pl s.2.2.1) hb8).1 ?_
              refine g_aload_n dX5_goesBehind_290 rfl ?_
              refine g_getI (f := 3) dX5_goesBehind_291 cl5 hs2.1 (by decide) (Or.inr (List.mem_of_getElem? (i := 30) rfl)) (Or.inl rfl) (Or.inl rfl) ?_
              rw [hs2.2.2.2.2.1]
              refine g_callV dX5_goesBehind_294 sX5_gatherOfOne (c_one M2 n v s.1 (e + 1 + 1 + pl s.2.2.1) s.2.2.2 [] (F (pl s.2.2.1)) hU (hE2.2 _ hb8) (by simp) wl_nil.2 ⟨hk4, fun q => hv.2.2.2.2.1 q, fun q => hv.2.2.2.2.2.1 q, fun q => hv.2.2.2.2.2.2.1 q⟩ h2.1 h2.2.1.1) cl6 h2.1 iX5_gatherOfOne vX5_gatherOfOne (iw_23 4 rfl) rfl rfl (Nat.le_of_ble_eq_true rfl) (Nat.le_of_ble_eq_true rfl) (Nat.le_of_ble_eq_true rfl) (Nat.le_of_ble_eq_true rfl) (Nat.le_of_ble_eq_true rfl) ?_
              intro r9 M9 n9 h9
              obtain ⟨h91, h93, hO9, hI9⟩ := h9
              rw [h91, h93]
              clear h91 h93 r9 n9
              refine k_bh297 h hs hv hd hk (hO.trans (hO9.mono (fun i k q => fY_V q))) (hG.off hO9 (fun i k h1 h2 q => by unfold fY at q; omega)) hI9 ?_ ?_
              · rw [List.nil_append, one_all hk4]
                exact makL_wl hv hk (fun p hp => (hF p hp).1)
              · rw [List.nil_append, one_all hk4]

set_option maxHeartbeats 4000000 in
set_option maxRecDepth 100000 in
theorem c_behind (M : gM) (n v e : Nat) (s : St) (F : Nat → List Sp) (h : sP M v) (hs : sQ M e s) (hv : vS s) (hE : sE M (e + 1) F) (hd : dis e v) (hF : gdF F) : GM μX5_goesBehind 4 102 0 0 [.ref v, .ref e] M n (fun r M1 n1 => r = some (.int (bI (gvn s F false).isSome)) ∧ n1 = n ∧ Off M M1 (fV v) ∧ ∀ G, gvn s F false = some G → sE M1 (v + 4) G) := by
  refine GM.ofW (by decide) rfl (Nat.le_of_ble_eq_true rfl) rfl ?_
  have h19 := hv.1
  refine g_aload_n dX5_goesBehind_0 rfl ?_
  refine g_getI (f := 0) dX5_goesBehind_1 cl5 hs.1 (by decide) (Or.inr (List.mem_of_getElem? (i := 28) rfl)) (Or.inl rfl) (Or.inl rfl) ?_
  rw [hs.2.1]
  refine g_bipush (v := nI 18) dX5_goesBehind_4 rfl ?_
  refine g_icmp_eq (tgt := 18) dX5_goesBehind_6 (by decide) (fun c_6 => ?_) (fun c_6 => ?_)
  · skip
    refine g_iconst (v := nI 0) dX5_goesBehind_18 rfl ?_
    exact g_iret dX5_goesBehind_19 (Or.inr ⟨rfl, by first | exact Or.inl rfl | exact Or.inr rfl⟩) (Nat.le_of_ble_eq_true rfl) (Nat.le_of_ble_eq_true rfl) (by
      have e8 : gvn s F false = none := by
        unfold gvn
        first
          | (rw [nI_inj (by omega) (by omega)] at c_15
             rw [if_pos c_15])
          | (rw [nI_inj (by omega) (by omega)] at c_6
             rw [if_neg (by omega), if_pos c_6]; rfl)
      exact ⟨by rw [e8]; rfl, rfl, Off.rf, fun G hG9 => by rw [e8] at hG9; cases hG9⟩)
  · skip
    rw [nI_inj (by omega) (by omega)] at c_6
    refine g_aload_n dX5_goesBehind_9 rfl ?_
    refine g_getI (f := 0) dX5_goesBehind_10 cl5 hs.1 (by decide) (Or.inr (List.mem_of_getElem? (i := 28) rfl)) (Or.inl rfl) (Or.inl rfl) ?_
    rw [hs.2.1]
    refine g_bipush (v := nI 19) dX5_goesBehind_13 rfl ?_
    refine g_icmp_ne (tgt := 20) dX5_goesBehind_15 (by decide) (fun c_15 => ?_) (fun c_15 => ?_)
    · skip
      rw [nI_inj (by omega) (by omega)] at c_15
      refine g_aload_n dX5_goesBehind_20 rfl ?_
      refine g_getR (f := 4) dX5_goesBehind_21 cl5 hs.1 (by decide) (Or.inr (List.mem_of_getElem? (i := 29) rfl)) (Or.inl rfl) rfl hs.2.2.2.2.2.1 ?_
      refine g_aload_n dX5_goesBehind_24 rfl ?_
      refine g_getR (f := 1) dX5_goesBehind_25 cl6 h.1 (by decide) (Or.inl (iw_5 0 rfl)) (Or.inl rfl) rfl h.2.1.2.1 ?_
      refine g_callSN dX5_goesBehind_28 sX8_copySets (c_copySets M n (e + 1) (v + 4) F (by unfold apS; unfold dis at hd; omega) hE h.2.2.2.1) tX8_copySets (List.mem_of_getElem? (i := 14) rfl) rfl rfl (Nat.le_of_ble_eq_true rfl) (Nat.le_of_ble_eq_true rfl) (Nat.le_of_ble_eq_true rfl) (Nat.le_of_ble_eq_true rfl) (Nat.le_of_ble_eq_true rfl) ?_
      intro r9 M1 n9 h9
      obtain ⟨h91, h93, hO1, hG1⟩ := h9
      rw [h91, h93]
      clear h91 h93 r9 n9
      have hO1' : Off M M1 (fV v) := hO1.mono (fun i k q => by unfold fB at q; unfold fV; omega)
      have h1 := h.off hO1
      have hs1 := hs.offV hd hO1'
      have hE1 := hE.offV hd hO1'
      refine g_aload_n dX5_goesBehind_31 rfl ?_
      refine g_getI (f := 0) dX5_goesBehind_32 cl5 hs1.1 (by decide) (Or.inr (List.mem_of_getElem? (i := 28) rfl)) (Or.inl rfl) (Or.inl rfl) ?_
      rw [hs1.2.1]
      refine g_callSN dX5_goesBehind_35 sX8_isCondition (c_isCond M1 n s.1 h19) tX8_isCondition (List.mem_of_getElem? (i := 15) rfl) rfl rfl (Nat.le_of_ble_eq_true rfl) (Nat.le_of_ble_eq_true rfl) (Nat.le_of_ble_eq_true rfl) (Nat.le_of_ble_eq_true rfl) (Nat.le_of_ble_eq_true rfl) ?_
      intro r9 M9 n9 h9
      obtain ⟨h91, h92, h93⟩ := h9
      rw [h91, h92, h93]
      clear h91 h92 h93 r9 M9 n9
      refine g_if_eq (tgt := 57) dX5_goesBehind_38 (by decide) (fun c_38 => ?_) (fun c_38 => ?_)
      · skip
        have t := dF c_38
        refine g_aload_n dX5_goesBehind_57 rfl ?_
        refine g_getR (f := 0) dX5_goesBehind_58 cl6 h1.1 (by decide) (Or.inl (iw_4 23 rfl)) (Or.inl rfl) rfl h1.2.1.1 ?_
        refine g_callV dX5_goesBehind_61 sX0_startAnew (c_anew M1 n (v + 1) h1.2.2.1) cl1 h1.2.2.1.1 iX0_startAnew vX0_startAnew (iw_21 21 rfl) rfl rfl (Nat.le_of_ble_eq_true rfl) (Nat.le_of_ble_eq_true rfl) (Nat.le_of_ble_eq_true rfl) (Nat.le_of_ble_eq_true rfl) (Nat.le_of_ble_eq_true rfl) ?_
        intro r9 M2 n9 h9
        obtain ⟨h91, h93, hO2, hU2⟩ := h9
        rw [h91, h93]
        clear h91 h93 r9 n9
        refine GW.post (fun r M9 n9 h9 => h9) (k_bh57 h hs hv hE hd hF (by omega) (hO1'.trans (hO2.mono (fun i k q => fY_V q))) (hG1.off hO2 (fun i k h1 h2 q => by unfold fY at q; omega)) hU2)
      · skip
        have t := dT c_38
        refine g_aload_n dX5_goesBehind_41 rfl ?_
        refine g_aload_n dX5_goesBehind_42 rfl ?_
        refine g_aload_n dX5_goesBehind_43 rfl ?_
        refine g_getI (f := 0) dX5_goesBehind_44 cl5 hs1.1 (by decide) (Or.inr (List.mem_of_getElem? (i := 28) rfl)) (Or.inl rfl) (Or.inl rfl) ?_
        rw [hs1.2.1]
        refine g_bipush (v := nI 11) dX5_goesBehind_47 rfl ?_
        refine g_isub dX5_goesBehind_49 ?_
        rw [nI_s (by omega)]
        refine g_callS dX5_goesBehind_50 sX5_opposite (c_opp M1 n (s.1 - 11) (by omega)) tX5_opposite (iw_21 18 rfl) rfl rfl (Nat.le_of_ble_eq_true rfl) (Nat.le_of_ble_eq_true rfl) (Nat.le_of_ble_eq_true rfl) (Nat.le_of_ble_eq_true rfl) (Nat.le_of_ble_eq_true rfl) ?_
        intro r9 M9 n9 h9
        obtain ⟨h91, h92, h93⟩ := h9
        rw [h91, h92, h93]
        clear h91 h92 h93 r9 M9 n9
        refine g_callV dX5_goesBehind_53 sX5_sharpen (c_sharpen M1 n v e (notR (s.1 - 11)) s F h1 hs1 hE1 hG1 hd hF (hv.2.1 (by omega)) (hv.2.2.1 (by omega)) (by unfold notR; repeat (first | omega | split))) cl6 h1.1 iX5_sharpen vX5_sharpen (iw_16 12 rfl) rfl rfl (Nat.le_of_ble_eq_true rfl) (Nat.le_of_ble_eq_true rfl) (Nat.le_of_ble_eq_true rfl) (Nat.le_of_ble_eq_true rfl) (Nat.le_of_ble_eq_true rfl) ?_
        intro r9 M2 n9 h9
        obtain ⟨h91, h93, hO2, hZ2⟩ := h9
        rw [h91, h93]
        clear h91 h93 r9 n9
        exact g_iret dX5_goesBehind_56 (Or.inr ⟨rfl, bI_01 _⟩) (Nat.le_of_ble_eq_true rfl) (Nat.le_of_ble_eq_true rfl) (by
          rw [gvn_f t]
          exact ⟨rfl, rfl, hO1'.trans hO2, hZ2⟩)
    · skip
      refine g_iconst (v := nI 0) dX5_goesBehind_18 rfl ?_
      exact g_iret dX5_goesBehind_19 (Or.inr ⟨rfl, by first | exact Or.inl rfl | exact Or.inr rfl⟩) (Nat.le_of_ble_eq_true rfl) (Nat.le_of_ble_eq_true rfl) (by
        have e8 : gvn s F false = none := by
          unfold gvn
          first
            | (rw [nI_inj (by omega) (by omega)] at c_15
               rw [if_pos c_15])
            | (rw [nI_inj (by omega) (by omega)] at c_6
               rw [if_neg (by omega), if_pos c_6]; rfl)
        exact ⟨by rw [e8]; rfl, rfl, Off.rf, fun G hG9 => by rw [e8] at hG9; cases hG9⟩)

def wyO (s : St) (F : Nat → List Sp) : Nat := (if s.1 = 7 ∨ s.1 = 8 then (if hasB (F (pl s.2.2.2)) 0 = true then 1 else 0) else 0) + (if (gvn s F true).isSome = true then 2 else 0) + (if (gvn s F false).isSome = true then 4 else 0) + (if s.1 = 19 then 8 else 0)
theorem nI_i (w z : Nat) : nI w + Int32.ofInt (z : Int) = nI (w + z) := by
  have e : Int32.ofInt (z : Int) = nI z := by rw [nI_iZ]; rfl
  rw [e, nI_add]
set_option maxHeartbeats 4000000 in
set_option maxRecDepth 100000 in
theorem k_wy64 {M M1 : gM} {n v e : Nat} {s : St} {F : Nat → List Sp} (h : sP M v) (hs : sQ M e s) (hv : vS s) (hE : sE M (e + 1) F) (hd : dis e v) (hF : gdF F) (hO : Off M M1 (fV v)) : GW μX5_waysFrom (gRm 5 123 0 0) (gTh (fun r M1 n1 => r = some (.int (nI (wyO s F))) ∧ n1 = n ∧ Off M M1 (fV v)) 0 0) 0 0 64 [some (.ref v), some (.ref e), some (.int (nI ((if s.1 = 19 then 8 else 0) + (if s.1 = 7 ∨ s.1 = 8 then (if hasB (F (pl s.2.2.2)) 0 = true then 1 else 0) else 0) + (if (gvn s F true).isSome = true then 2 else 0))))] [] M1 n := by
  refine g_aload_n dX5_waysFrom_64 rfl ?_
  refine g_aload_n dX5_waysFrom_65 rfl ?_
  refine g_callV dX5_waysFrom_66 sX5_goesBehind (c_behind M1 n v e s F (h.off hO) (hs.offV hd hO) hv (hE.offV hd hO) hd hF) cl6 (h.off hO).1 iX5_goesBehind vX5_goesBehind (iw_34 3 rfl) rfl rfl (Nat.le_of_ble_eq_true rfl) (Nat.le_of_ble_eq_true rfl) (Nat.le_of_ble_eq_true rfl) (Nat.le_of_ble_eq_true rfl) (Nat.le_of_ble_eq_true rfl) ?_
  intro r9 M2 n9 h9
  obtain ⟨h91, h93, hO2, hZ2⟩ := h9
  rw [h91, h93]
  clear h91 h93 r9 n9
  refine g_if_eq (tgt := 75) dX5_waysFrom_69 (by decide) (fun c_69 => ?_) (fun c_69 => ?_)
  · skip
    refine g_iload_n dX5_waysFrom_75 rfl ?_
    exact g_iret dX5_waysFrom_76 (Or.inl rfl) (Nat.le_of_ble_eq_true rfl) (Nat.le_of_ble_eq_true rfl) (by
      rw [bI_eq0] at c_69
      refine ⟨?_, rfl, hO.trans hO2⟩
      congr 3
      unfold wyO
      first
        | (rw [Bool.not_eq_false] at c_69; rw [if_pos c_69]; omega)
        | (rw [if_neg (show ¬ (gvn s F false).isSome = true by rw [c_69]; decide)]; omega))
  · skip
    refine g_iinc dX5_waysFrom_72 rfl (nI_i _ 4) (Nat.le_of_ble_eq_true rfl) ?_
    refine g_iload_n dX5_waysFrom_75 rfl ?_
    exact g_iret dX5_waysFrom_76 (Or.inl rfl) (Nat.le_of_ble_eq_true rfl) (Nat.le_of_ble_eq_true rfl) (by
      rw [bI_eq0] at c_69
      refine ⟨?_, rfl, hO.trans hO2⟩
      congr 3
      unfold wyO
      first
        | (rw [Bool.not_eq_false] at c_69; rw [if_pos c_69]; omega)
        | (rw [if_neg (show ¬ (gvn s F false).isSome = true by rw [c_69]; decide)]; omega))

set_option maxHeartbeats 4000000 in
set_option maxRecDepth 100000 in
theorem k_wy53 {M : gM} {n v e : Nat} {s : St} {F : Nat → List Sp} (h : sP M v) (hs : sQ M e s) (hv : vS s) (hE : sE M (e + 1) F) (hd : dis e v) (hF : gdF F) : GW μX5_waysFrom (gRm 5 123 0 0) (gTh (fun r M1 n1 => r = some (.int (nI (wyO s F))) ∧ n1 = n ∧ Off M M1 (fV v)) 0 0) 0 0 53 [some (.ref v), some (.ref e), some (.int (nI ((if s.1 = 19 then 8 else 0) + (if s.1 = 7 ∨ s.1 = 8 then (if hasB (F (pl s.2.2.2)) 0 = true then 1 else 0) else 0))))] [] M n := by
  refine g_aload_n dX5_waysFrom_53 rfl ?_
  refine g_aload_n dX5_waysFrom_54 rfl ?_
  refine g_callV dX5_waysFrom_55 sX5_goesToNamed (c_toNamed M n v e s F h hs hv hE hd hF) cl6 h.1 iX5_goesToNamed vX5_goesToNamed (iw_34 2 rfl) rfl rfl (Nat.le_of_ble_eq_true rfl) (Nat.le_of_ble_eq_true rfl) (Nat.le_of_ble_eq_true rfl) (Nat.le_of_ble_eq_true rfl) (Nat.le_of_ble_eq_true rfl) ?_
  intro r9 M2 n9 h9
  obtain ⟨h91, h93, hO2, hZ2⟩ := h9
  rw [h91, h93]
  clear h91 h93 r9 n9
  refine g_if_eq (tgt := 64) dX5_waysFrom_58 (by decide) (fun c_58 => ?_) (fun c_58 => ?_)
  · skip
    rw [bI_eq0] at c_58
    first
      | (rw [Bool.not_eq_false] at c_58
         have e9 := k_wy64 (n := n) h hs hv hE hd hF hO2
         rw [if_pos c_58] at e9
         exact e9)
      | (have e9 := k_wy64 (n := n) h hs hv hE hd hF hO2
         rw [if_neg (show ¬ (gvn s F true).isSome = true by rw [c_58]; decide)] at e9
         exact e9)
  · skip
    refine g_iinc dX5_waysFrom_61 rfl (nI_i _ 2) (Nat.le_of_ble_eq_true rfl) ?_
    rw [bI_eq0] at c_58
    first
      | (rw [Bool.not_eq_false] at c_58
         have e9 := k_wy64 (n := n) h hs hv hE hd hF hO2
         rw [if_pos c_58] at e9
         exact e9)
      | (have e9 := k_wy64 (n := n) h hs hv hE hd hF hO2
         rw [if_neg (show ¬ (gvn s F true).isSome = true by rw [c_58]; decide)] at e9
         exact e9)

set_option maxHeartbeats 4000000 in
set_option maxRecDepth 100000 in
theorem k_wy16 {M : gM} {n v e : Nat} {s : St} {F : Nat → List Sp} (h : sP M v) (hs : sQ M e s) (hv : vS s) (hE : sE M (e + 1) F) (hd : dis e v) (hF : gdF F) : GW μX5_waysFrom (gRm 5 123 0 0) (gTh (fun r M1 n1 => r = some (.int (nI (wyO s F))) ∧ n1 = n ∧ Off M M1 (fV v)) 0 0) 0 0 16 [some (.ref v), some (.ref e), some (.int (nI ((if s.1 = 19 then 8 else 0))))] [] M n := by
  have h19 := hv.1
  refine g_aload_n dX5_waysFrom_16 rfl ?_
  refine g_getI (f := 0) dX5_waysFrom_17 cl5 hs.1 (by decide) (Or.inr (List.mem_of_getElem? (i := 28) rfl)) (Or.inl rfl) (Or.inl rfl) ?_
  rw [hs.2.1]
  refine g_bipush (v := nI 7) dX5_waysFrom_20 rfl ?_
  refine g_icmp_eq (tgt := 34) dX5_waysFrom_22 (by decide) (fun c_22 => ?_) (fun c_22 => ?_)
  · skip
    have h78 : s.1 = 7 ∨ s.1 = 8 := by
      first
        | (rw [nI_inj (by omega) (by omega)] at c_31; omega)
        | (rw [nI_inj (by omega) (by omega)] at c_22; omega)
    have hc := hv.2.2.2.1 (by omega)
    have hc8 := hc.lt
    refine g_aload_n dX5_waysFrom_34 rfl ?_
    refine g_getR (f := 4) dX5_waysFrom_35 cl5 hs.1 (by decide) (Or.inr (List.mem_of_getElem? (i := 29) rfl)) (Or.inl rfl) rfl hs.2.2.2.2.2.1 ?_
    refine g_aload_n dX5_waysFrom_38 rfl ?_
    refine g_getI (f := 3) dX5_waysFrom_39 cl5 hs.1 (by decide) (Or.inr (List.mem_of_getElem? (i := 30) rfl)) (Or.inl rfl) (Or.inl rfl) ?_
    rw [hs.2.2.2.2.1]
    refine g_aaloadS dX5_waysFrom_42 (j := pl s.2.2.2) hE.1.1 hE.1.2.1 hc.eq hc8 (by decide) (hE.1.2.2 (pl s.2.2.2) hc8).1 ?_
    refine g_iconst (v := nI 0) dX5_waysFrom_43 rfl ?_
    refine g_callV dX5_waysFrom_44 sX3_has (c_has M n (e + 1 + 1 + pl s.2.2.2) (F (pl s.2.2.2)) (nI 0) (hE.2 _ hc8)) cl4 (hE.2 _ hc8).1 iX3_has vX3_has (iw_33 22 rfl) rfl rfl (Nat.le_of_ble_eq_true rfl) (Nat.le_of_ble_eq_true rfl) (Nat.le_of_ble_eq_true rfl) (Nat.le_of_ble_eq_true rfl) (Nat.le_of_ble_eq_true rfl) ?_
    intro r9 M9 n9 h9
    obtain ⟨h91, h92, h93⟩ := h9
    rw [h91, h92, h93]
    clear h91 h92 h93 r9 M9 n9
    rw [show (nI 0).toInt = 0 from rfl]
    refine g_if_eq (tgt := 53) dX5_waysFrom_47 (by decide) (fun c_47 => ?_) (fun c_47 => ?_)
    · skip
      have e9 := k_wy53 (n := n) h hs hv hE hd hF
      first
        | (have q9 := h78
           rw [if_pos h78] at e9
           rw [bI_eq0] at c_47
           first
             | (rw [Bool.not_eq_false] at c_47
                rw [if_pos c_47] at e9
                exact e9)
             | (rw [if_neg (show ¬ hasB (F (pl s.2.2.2)) 0 = true by rw [c_47]; decide)] at e9
                exact e9))
        | (rw [nI_inj (by omega) (by omega)] at c_31
           rw [if_neg (show ¬ (s.1 = 7 ∨ s.1 = 8) by omega)] at e9
           exact e9)
    · skip
      refine g_iinc dX5_waysFrom_50 rfl (nI_1 _) (Nat.le_of_ble_eq_true rfl) ?_
      have e9 := k_wy53 (n := n) h hs hv hE hd hF
      first
        | (have q9 := h78
           rw [if_pos h78] at e9
           rw [bI_eq0] at c_47
           first
             | (rw [Bool.not_eq_false] at c_47
                rw [if_pos c_47] at e9
                exact e9)
             | (rw [if_neg (show ¬ hasB (F (pl s.2.2.2)) 0 = true by rw [c_47]; decide)] at e9
                exact e9))
        | (rw [nI_inj (by omega) (by omega)] at c_31
           rw [if_neg (show ¬ (s.1 = 7 ∨ s.1 = 8) by omega)] at e9
           exact e9)
  · skip
    rw [nI_inj (by omega) (by omega)] at c_22
    refine g_aload_n dX5_waysFrom_25 rfl ?_
    refine g_getI (f := 0) dX5_waysFrom_26 cl5 hs.1 (by decide) (Or.inr (List.mem_of_getElem? (i := 28) rfl)) (Or.inl rfl) (Or.inl rfl) ?_
    rw [hs.2.1]
    refine g_bipush (v := nI 8) dX5_waysFrom_29 rfl ?_
    refine g_icmp_ne (tgt := 53) dX5_waysFrom_31 (by decide) (fun c_31 => ?_) (fun c_31 => ?_)
    · skip
      have e9 := k_wy53 (n := n) h hs hv hE hd hF
      first
        | (have q9 := h78
           rw [if_pos h78] at e9
           rw [bI_eq0] at c_47
           first
             | (rw [Bool.not_eq_false] at c_47
                rw [if_pos c_47] at e9
                exact e9)
             | (rw [if_neg (show ¬ hasB (F (pl s.2.2.2)) 0 = true by rw [c_47]; decide)] at e9
                exact e9))
        | (rw [nI_inj (by omega) (by omega)] at c_31
           rw [if_neg (show ¬ (s.1 = 7 ∨ s.1 = 8) by omega)] at e9
           exact e9)
    · skip
      have h78 : s.1 = 7 ∨ s.1 = 8 := by
        first
          | (rw [nI_inj (by omega) (by omega)] at c_31; omega)
          | (rw [nI_inj (by omega) (by omega)] at c_22; omega)
      have hc := hv.2.2.2.1 (by omega)
      have hc8 := hc.lt
      refine g_aload_n dX5_waysFrom_34 rfl ?_
      refine g_getR (f := 4) dX5_waysFrom_35 cl5 hs.1 (by decide) (Or.inr (List.mem_of_getElem? (i := 29) rfl)) (Or.inl rfl) rfl hs.2.2.2.2.2.1 ?_
      refine g_aload_n dX5_waysFrom_38 rfl ?_
      refine g_getI (f := 3) dX5_waysFrom_39 cl5 hs.1 (by decide) (Or.inr (List.mem_of_getElem? (i := 30) rfl)) (Or.inl rfl) (Or.inl rfl) ?_
      rw [hs.2.2.2.2.1]
      refine g_aaloadS dX5_waysFrom_42 (j := pl s.2.2.2) hE.1.1 hE.1.2.1 hc.eq hc8 (by decide) (hE.1.2.2 (pl s.2.2.2) hc8).1 ?_
      refine g_iconst (v := nI 0) dX5_waysFrom_43 rfl ?_
      refine g_callV dX5_waysFrom_44 sX3_has (c_has M n (e + 1 + 1 + pl s.2.2.2) (F (pl s.2.2.2)) (nI 0) (hE.2 _ hc8)) cl4 (hE.2 _ hc8).1 iX3_has vX3_has (iw_33 22 rfl) rfl rfl (Nat.le_of_ble_eq_true rfl) (Nat.le_of_ble_eq_true rfl) (Nat.le_of_ble_eq_true rfl) (Nat.le_of_ble_eq_true rfl) (Nat.le_of_ble_eq_true rfl) ?_
      intro r9 M9 n9 h9
      obtain ⟨h91, h92, h93⟩ := h9
      rw [h91, h92, h93]
      clear h91 h92 h93 r9 M9 n9
      rw [show (nI 0).toInt = 0 from rfl]
      refine g_if_eq (tgt := 53) dX5_waysFrom_47 (by decide) (fun c_47 => ?_) (fun c_47 => ?_)
      · skip
        have e9 := k_wy53 (n := n) h hs hv hE hd hF
        first
          | (have q9 := h78
             rw [if_pos h78] at e9
             rw [bI_eq0] at c_47
             first
               | (rw [Bool.not_eq_false] at c_47
                  rw [if_pos c_47] at e9
                  exact e9)
               | (rw [if_neg (show ¬ hasB (F (pl s.2.2.2)) 0 = true by rw [c_47]; decide)] at e9
                  exact e9))
          | (rw [nI_inj (by omega) (by omega)] at c_31
             rw [if_neg (show ¬ (s.1 = 7 ∨ s.1 = 8) by omega)] at e9
             exact e9)
      · skip
        refine g_iinc dX5_waysFrom_50 rfl (nI_1 _) (Nat.le_of_ble_eq_true rfl) ?_
        have e9 := k_wy53 (n := n) h hs hv hE hd hF
        first
          | (have q9 := h78
             rw [if_pos h78] at e9
             rw [bI_eq0] at c_47
             first
               | (rw [Bool.not_eq_false] at c_47
                  rw [if_pos c_47] at e9
                  exact e9)
               | (rw [if_neg (show ¬ hasB (F (pl s.2.2.2)) 0 = true by rw [c_47]; decide)] at e9
                  exact e9))
          | (rw [nI_inj (by omega) (by omega)] at c_31
             rw [if_neg (show ¬ (s.1 = 7 ∨ s.1 = 8) by omega)] at e9
             exact e9)

set_option maxHeartbeats 4000000 in
set_option maxRecDepth 100000 in
theorem c_ways (M : gM) (n v e : Nat) (s : St) (F : Nat → List Sp) (h : sP M v) (hs : sQ M e s) (hv : vS s) (hE : sE M (e + 1) F) (hd : dis e v) (hF : gdF F) : GM μX5_waysFrom 5 123 0 0 [.ref v, .ref e] M n (fun r M1 n1 => r = some (.int (nI (wyO s F))) ∧ n1 = n ∧ Off M M1 (fV v)) := by
  refine GM.ofW (by decide) rfl (Nat.le_of_ble_eq_true rfl) rfl ?_
  have h19 := hv.1
  refine g_aload_n dX5_waysFrom_0 rfl ?_
  refine g_getI (f := 0) dX5_waysFrom_1 cl5 hs.1 (by decide) (Or.inr (List.mem_of_getElem? (i := 28) rfl)) (Or.inl rfl) (Or.inl rfl) ?_
  rw [hs.2.1]
  refine g_bipush (v := nI 19) dX5_waysFrom_4 rfl ?_
  refine g_icmp_ne (tgt := 14) dX5_waysFrom_6 (by decide) (fun c_6 => ?_) (fun c_6 => ?_)
  · skip
    refine g_iconst (v := nI 0) dX5_waysFrom_14 rfl ?_
    refine g_istore_n dX5_waysFrom_15 (Nat.le_of_ble_eq_true rfl) ?_
    have e9 := k_wy16 (n := n) h hs hv hE hd hF
    rw [nI_inj (by omega) (by omega)] at c_6
    first
      | (rw [if_neg c_6] at e9
         exact e9)
      | (rw [if_pos c_6] at e9
         exact e9)
  · skip
    refine g_bipush (v := nI 8) dX5_waysFrom_9 rfl ?_
    refine g_goto (tgt := 15) dX5_waysFrom_11 (by decide) ?_
    refine g_istore_n dX5_waysFrom_15 (Nat.le_of_ble_eq_true rfl) ?_
    have e9 := k_wy16 (n := n) h hs hv hE hd hF
    rw [nI_inj (by omega) (by omega)] at c_6
    first
      | (rw [if_neg c_6] at e9
         exact e9)
      | (rw [if_pos c_6] at e9
         exact e9)

