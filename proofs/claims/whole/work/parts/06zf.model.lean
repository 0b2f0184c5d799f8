/-! the reference: op, its beginning -/
set_option maxHeartbeats 4000000 in
set_option maxRecDepth 100000 in
theorem p_op262 {M M1 : gM} {n m : Nat} {σ : MS} {S : Nat → List Sp} {k a b c : Int32} (hO1 : Off M M1 (fX m)) (hQ1 : rQ M1 m σ S) (h0 : mI M1 m 0 = nI 0) (g1 : ¬ op1 k.toInt a.toInt b.toInt c.toInt) {r : Bool} (hr : r = decide (opR k.toInt a.toInt b.toInt c.toInt)) : GW μX9_op (gRm 2 45 0 0) (gTh (fun r M1 n1 => r = some (.int (nI (opZ σ k a b c).2)) ∧ n1 = n ∧ Off M M1 (fX m) ∧ rM M1 m (opS σ k a b c) ∧ mI M1 m 0 = nI (opZ σ k a b c).1) 0 0) 0 0 262 [some (.ref m), some (.int k), some (.int a), some (.int b), some (.int c), none, none, none, none, some (.int (bI r))] [] M1 n := by
  have hG := hQ1.1
  have hP := hQ1.2.1
  have l40 := hP.2.1
  refine g_iload dX9_op_262 rfl ?_
  refine g_if_ne (tgt := 273) dX9_op_264 (by decide) (fun c_264 => ?_) (fun c_264 => ?_)
  · skip
    rw [bI_eq0, hr, decide_eq_false_iff_not, Classical.not_not] at c_264
    refine g_aload_n dX9_op_273 rfl ?_
    refine g_getI (f := 6) dX9_op_274 cl10 hG.1.1 (by decide) (Or.inl (iw_12 20 rfl)) (Or.inl rfl) (Or.inl rfl) ?_
    rw [hP.1]
    refine g_bipush (v := nI 40) dX9_op_277 rfl ?_
    refine g_icmp_ne (tgt := 288) dX9_op_279 (by decide) (fun c_279 => ?_) (fun c_279 => ?_)
    · skip
      rw [nI_inj (by clear g1 c_264; omega) (by omega)] at c_279
      refine g_msk [true, true, true, true, true, false, false, false, false, false] ?_
      exact p_op288 hO1 hQ1 h0 g1 c_264 c_279
    · skip
      rw [nI_inj (by clear g1 c_264; omega) (by omega)] at c_279
      refine g_aload_n dX9_op_282 rfl ?_
      refine g_iconst (v := nI 3) dX9_op_283 rfl ?_
      refine g_callV dX9_op_284 sX9_fail (m_fail M1 n m (nI 3) hG.1) cl10 hG.1.1 iX9_fail vX9_fail (iw_13 5 rfl) rfl rfl (Nat.le_of_ble_eq_true rfl) (Nat.le_of_ble_eq_true rfl) (Nat.le_of_ble_eq_true rfl) (Nat.le_of_ble_eq_true rfl) (Nat.le_of_ble_eq_true rfl) ?_
      intro r9 M9 n9 h9
      obtain ⟨h91, h92, h93⟩ := h9
      rw [h91, h92, h93]
      clear h91 h92 h93 r9 M9 n9
      exact g_iret dX9_op_287 (Or.inl rfl) (Nat.le_of_ble_eq_true rfl) (Nat.le_of_ble_eq_true rfl) (by
        have e : opZ σ k a b c = (3, 0) := by
          unfold opZ
          rw [if_neg g1, if_neg (fun h => h c_264), if_pos c_279]
        have e2 : opS σ k a b c = σ := by unfold opS; rw [e]; rfl
        exact ⟨by rw [e]; rfl, rfl, hO1.stI ⟨by clear g1 c_264; omega, by clear g1 c_264; omega⟩, by rw [e2]; exact ⟨S, hQ1.thr _⟩, by rw [e, mI_st, if_pos ⟨rfl, rfl⟩]⟩)
  · skip
    rw [bI_eq0, hr, decide_eq_false_iff_not] at c_264
    refine g_aload_n dX9_op_267 rfl ?_
    refine g_iconst (v := nI 2) dX9_op_268 rfl ?_
    refine g_callV dX9_op_269 sX9_fail (m_fail M1 n m (nI 2) hG.1) cl10 hG.1.1 iX9_fail vX9_fail (iw_13 5 rfl) rfl rfl (Nat.le_of_ble_eq_true rfl) (Nat.le_of_ble_eq_true rfl) (Nat.le_of_ble_eq_true rfl) (Nat.le_of_ble_eq_true rfl) (Nat.le_of_ble_eq_true rfl) ?_
    intro r9 M9 n9 h9
    obtain ⟨h91, h92, h93⟩ := h9
    rw [h91, h92, h93]
    clear h91 h92 h93 r9 M9 n9
    exact g_iret dX9_op_272 (Or.inl rfl) (Nat.le_of_ble_eq_true rfl) (Nat.le_of_ble_eq_true rfl) (by
      have e : opZ σ k a b c = (2, 0) := by
        unfold opZ
        rw [if_neg g1, if_pos c_264]
      have e2 : opS σ k a b c = σ := by unfold opS; rw [e]; rfl
      exact ⟨by rw [e]; rfl, rfl, hO1.stI ⟨by clear g1 c_264; omega, by clear g1 c_264; omega⟩, by rw [e2]; exact ⟨S, hQ1.thr _⟩, by rw [e, mI_st, if_pos ⟨rfl, rfl⟩]⟩)

set_option maxHeartbeats 4000000 in
set_option maxRecDepth 100000 in
theorem p_op214 {M M1 : gM} {n m : Nat} {σ : MS} {S : Nat → List Sp} {k a b c : Int32} (hO1 : Off M M1 (fX m)) (hQ1 : rQ M1 m σ S) (h0 : mI M1 m 0 = nI 0) (g1 : ¬ op1 k.toInt a.toInt b.toInt c.toInt) {r tb : Bool} (hr : r = decide (opR1 k.toInt b.toInt c.toInt)) (ht : tb = decide (opT k.toInt)) : GW μX9_op (gRm 2 45 0 0) (gTh (fun r M1 n1 => r = some (.int (nI (opZ σ k a b c).2)) ∧ n1 = n ∧ Off M M1 (fX m) ∧ rM M1 m (opS σ k a b c) ∧ mI M1 m 0 = nI (opZ σ k a b c).1) 0 0) 0 0 214 [some (.ref m), some (.int k), some (.int a), some (.int b), some (.int c), none, some (.int (bI tb)), none, none, some (.int (bI r))] [] M1 n := by
  have kr := i_rng k
  have ar := i_rng a
  have cr := i_rng c
  have hg1 := g1
  clear g1
  refine g_iload dX9_op_214 rfl ?_
  refine g_if_eq (tgt := 259) dX9_op_216 (by decide) (fun c_216 => ?_) (fun c_216 => ?_)
  · skip
    try rw [bI_eq0, hr, decide_eq_false_iff_not] at c_216
    try rw [bI_eq0, decide_eq_false_iff_not] at c_234
    try rw [bI_eq0, decide_eq_false_iff_not] at c_252
    refine g_iconst (v := nI 0) dX9_op_259 rfl ?_
    refine g_istore dX9_op_260 (Nat.le_of_ble_eq_true rfl) ?_
    refine g_msk [true, true, true, true, true, false, false, false, false, true] ?_
    first
      | exact p_op262 (r := true) hO1 hQ1 h0 hg1 (by
          rw [eq_comm, decide_eq_true_eq]
          exact ⟨c_216, by first | exact Or.inl c_221 | exact Or.inr c_234, by first | exact Or.inl c_240 | exact Or.inr c_252⟩)
      | exact p_op262 (r := false) hO1 hQ1 h0 hg1 (by
          rw [eq_comm, decide_eq_false_iff_not]
          first
            | exact fun h => c_216 h.1
            | exact fun h => h.2.1.elim (fun q => q c_221) (fun q => c_234 q)
            | exact fun h => h.2.2.elim (fun q => q c_240) (fun q => c_252 q))
  · skip
    rw [bI_eq0, hr, decide_eq_false_iff_not, Classical.not_not] at c_216
    refine g_iload dX9_op_219 rfl ?_
    refine g_if_eq (tgt := 237) dX9_op_221 (by decide) (fun c_221 => ?_) (fun c_221 => ?_)
    · skip
      try rw [bI_eq0, ht, decide_eq_false_iff_not] at c_221
      try rw [bI_eq0, decide_eq_false_iff_not, Classical.not_not] at c_234
      refine g_iload_n dX9_op_237 rfl ?_
      refine g_bipush (v := iZ 18) dX9_op_238 rfl ?_
      refine g_icmp_ne (tgt := 255) dX9_op_240 (by decide) (fun c_240 => ?_) (fun c_240 => ?_)
      · skip
        try rw [k_lit (by constructor <;> omega)] at c_240
        try rw [bI_eq0, decide_eq_false_iff_not, Classical.not_not] at c_252
        refine g_iconst (v := nI 1) dX9_op_255 rfl ?_
        refine g_goto (tgt := 260) dX9_op_256 (by decide) ?_
        refine g_istore dX9_op_260 (Nat.le_of_ble_eq_true rfl) ?_
        refine g_msk [true, true, true, true, true, false, false, false, false, true] ?_
        first
          | exact p_op262 (r := true) hO1 hQ1 h0 hg1 (by
              rw [eq_comm, decide_eq_true_eq]
              exact ⟨c_216, by first | exact Or.inl c_221 | exact Or.inr c_234, by first | exact Or.inl c_240 | exact Or.inr c_252⟩)
          | exact p_op262 (r := false) hO1 hQ1 h0 hg1 (by
              rw [eq_comm, decide_eq_false_iff_not]
              first
                | exact fun h => c_216 h.1
                | exact fun h => h.2.1.elim (fun q => q c_221) (fun q => c_234 q)
                | exact fun h => h.2.2.elim (fun q => q c_240) (fun q => c_252 q))
      · skip
        rw [k_lit (by constructor <;> omega)] at c_240
        refine g_iload_n dX9_op_243 rfl ?_
        refine g_i2l dX9_op_244 ?_
        rw [i_j]
        refine g_lconst (v := jI 0) dX9_op_245 rfl ?_
        refine g_ldc2 (v := jI (40)) dX9_op_246 (iw_12 19 rfl) ?_
        refine g_callS dX9_op_249 sX9_isIn (m_isInZ M1 n a.toInt 0 40 (by constructor <;> omega) (by constructor <;> omega) (by constructor <;> omega)) tX9_isIn (iw_12 22 rfl) rfl rfl (Nat.le_of_ble_eq_true rfl) (Nat.le_of_ble_eq_true rfl) (Nat.le_of_ble_eq_true rfl) (Nat.le_of_ble_eq_true rfl) (Nat.le_of_ble_eq_true rfl) ?_
        intro r9 M9 n9 h9
        obtain ⟨h91, h92, h93⟩ := h9
        rw [h91, h92, h93]
        clear h91 h92 h93 r9 M9 n9
        refine g_if_eq (tgt := 259) dX9_op_252 (by decide) (fun c_252 => ?_) (fun c_252 => ?_)
        · skip
          try rw [bI_eq0, hr, decide_eq_false_iff_not] at c_216
          try rw [bI_eq0, decide_eq_false_iff_not] at c_234
          try rw [bI_eq0, decide_eq_false_iff_not] at c_252
          refine g_iconst (v := nI 0) dX9_op_259 rfl ?_
          refine g_istore dX9_op_260 (Nat.le_of_ble_eq_true rfl) ?_
          refine g_msk [true, true, true, true, true, false, false, false, false, true] ?_
          first
            | exact p_op262 (r := true) hO1 hQ1 h0 hg1 (by
                rw [eq_comm, decide_eq_true_eq]
                exact ⟨c_216, by first | exact Or.inl c_221 | exact Or.inr c_234, by first | exact Or.inl c_240 | exact Or.inr c_252⟩)
            | exact p_op262 (r := false) hO1 hQ1 h0 hg1 (by
                rw [eq_comm, decide_eq_false_iff_not]
                first
                  | exact fun h => c_216 h.1
                  | exact fun h => h.2.1.elim (fun q => q c_221) (fun q => c_234 q)
                  | exact fun h => h.2.2.elim (fun q => q c_240) (fun q => c_252 q))
        · skip
          try rw [k_lit (by constructor <;> omega)] at c_240
          try rw [bI_eq0, decide_eq_false_iff_not, Classical.not_not] at c_252
          refine g_iconst (v := nI 1) dX9_op_255 rfl ?_
          refine g_goto (tgt := 260) dX9_op_256 (by decide) ?_
          refine g_istore dX9_op_260 (Nat.le_of_ble_eq_true rfl) ?_
          refine g_msk [true, true, true, true, true, false, false, false, false, true] ?_
          first
            | exact p_op262 (r := true) hO1 hQ1 h0 hg1 (by
                rw [eq_comm, decide_eq_true_eq]
                exact ⟨c_216, by first | exact Or.inl c_221 | exact Or.inr c_234, by first | exact Or.inl c_240 | exact Or.inr c_252⟩)
            | exact p_op262 (r := false) hO1 hQ1 h0 hg1 (by
                rw [eq_comm, decide_eq_false_iff_not]
                first
                  | exact fun h => c_216 h.1
                  | exact fun h => h.2.1.elim (fun q => q c_221) (fun q => c_234 q)
                  | exact fun h => h.2.2.elim (fun q => q c_240) (fun q => c_252 q))
    · skip
      rw [bI_eq0, ht, decide_eq_false_iff_not, Classical.not_not] at c_221
      refine g_iload dX9_op_224 rfl ?_
      refine g_i2l dX9_op_226 ?_
      rw [i_j]
      refine g_lconst (v := jI 0) dX9_op_227 rfl ?_
      refine g_ldc2 (v := jI (40)) dX9_op_228 (iw_12 19 rfl) ?_
      refine g_callS dX9_op_231 sX9_isIn (m_isInZ M1 n c.toInt 0 40 (by constructor <;> omega) (by constructor <;> omega) (by constructor <;> omega)) tX9_isIn (iw_12 22 rfl) rfl rfl (Nat.le_of_ble_eq_true rfl) (Nat.le_of_ble_eq_true rfl) (Nat.le_of_ble_eq_true rfl) (Nat.le_of_ble_eq_true rfl) (Nat.le_of_ble_eq_true rfl) ?_
      intro r9 M9 n9 h9
      obtain ⟨h91, h92, h93⟩ := h9
      rw [h91, h92, h93]
      clear h91 h92 h93 r9 M9 n9
      refine g_if_eq (tgt := 259) dX9_op_234 (by decide) (fun c_234 => ?_) (fun c_234 => ?_)
      · skip
        try rw [bI_eq0, hr, decide_eq_false_iff_not] at c_216
        try rw [bI_eq0, decide_eq_false_iff_not] at c_234
        try rw [bI_eq0, decide_eq_false_iff_not] at c_252
        refine g_iconst (v := nI 0) dX9_op_259 rfl ?_
        refine g_istore dX9_op_260 (Nat.le_of_ble_eq_true rfl) ?_
        refine g_msk [true, true, true, true, true, false, false, false, false, true] ?_
        first
          | exact p_op262 (r := true) hO1 hQ1 h0 hg1 (by
              rw [eq_comm, decide_eq_true_eq]
              exact ⟨c_216, by first | exact Or.inl c_221 | exact Or.inr c_234, by first | exact Or.inl c_240 | exact Or.inr c_252⟩)
          | exact p_op262 (r := false) hO1 hQ1 h0 hg1 (by
              rw [eq_comm, decide_eq_false_iff_not]
              first
                | exact fun h => c_216 h.1
                | exact fun h => h.2.1.elim (fun q => q c_221) (fun q => c_234 q)
                | exact fun h => h.2.2.elim (fun q => q c_240) (fun q => c_252 q))
      · skip
        try rw [bI_eq0, ht, decide_eq_false_iff_not] at c_221
        try rw [bI_eq0, decide_eq_false_iff_not, Classical.not_not] at c_234
        refine g_iload_n dX9_op_237 rfl ?_
        refine g_bipush (v := iZ 18) dX9_op_238 rfl ?_
        refine g_icmp_ne (tgt := 255) dX9_op_240 (by decide) (fun c_240 => ?_) (fun c_240 => ?_)
        · skip
          try rw [k_lit (by constructor <;> omega)] at c_240
          try rw [bI_eq0, decide_eq_false_iff_not, Classical.not_not] at c_252
          refine g_iconst (v := nI 1) dX9_op_255 rfl ?_
          refine g_goto (tgt := 260) dX9_op_256 (by decide) ?_
          refine g_istore dX9_op_260 (Nat.le_of_ble_eq_true rfl) ?_
          refine g_msk [true, true, true, true, true, false, false, false, false, true] ?_
          first
            | exact p_op262 (r := true) hO1 hQ1 h0 hg1 (by
                rw [eq_comm, decide_eq_true_eq]
                exact ⟨c_216, by first | exact Or.inl c_221 | exact Or.inr c_234, by first | exact Or.inl c_240 | exact Or.inr c_252⟩)
            | exact p_op262 (r := false) hO1 hQ1 h0 hg1 (by
                rw [eq_comm, decide_eq_false_iff_not]
                first
                  | exact fun h => c_216 h.1
                  | exact fun h => h.2.1.elim (fun q => q c_221) (fun q => c_234 q)
                  | exact fun h => h.2.2.elim (fun q => q c_240) (fun q => c_252 q))
        · skip
          rw [k_lit (by constructor <;> omega)] at c_240
          refine g_iload_n dX9_op_243 rfl ?_
          refine g_i2l dX9_op_244 ?_
          rw [i_j]
          refine g_lconst (v := jI 0) dX9_op_245 rfl ?_
          refine g_ldc2 (v := jI (40)) dX9_op_246 (iw_12 19 rfl) ?_
          refine g_callS dX9_op_249 sX9_isIn (m_isInZ M1 n a.toInt 0 40 (by constructor <;> omega) (by constructor <;> omega) (by constructor <;> omega)) tX9_isIn (iw_12 22 rfl) rfl rfl (Nat.le_of_ble_eq_true rfl) (Nat.le_of_ble_eq_true rfl) (Nat.le_of_ble_eq_true rfl) (Nat.le_of_ble_eq_true rfl) (Nat.le_of_ble_eq_true rfl) ?_
          intro r9 M9 n9 h9
          obtain ⟨h91, h92, h93⟩ := h9
          rw [h91, h92, h93]
          clear h91 h92 h93 r9 M9 n9
          refine g_if_eq (tgt := 259) dX9_op_252 (by decide) (fun c_252 => ?_) (fun c_252 => ?_)
          · skip
            try rw [bI_eq0, hr, decide_eq_false_iff_not] at c_216
            try rw [bI_eq0, decide_eq_false_iff_not] at c_234
            try rw [bI_eq0, decide_eq_false_iff_not] at c_252
            refine g_iconst (v := nI 0) dX9_op_259 rfl ?_
            refine g_istore dX9_op_260 (Nat.le_of_ble_eq_true rfl) ?_
            refine g_msk [true, true, true, true, true, false, false, false, false, true] ?_
            first
              | exact p_op262 (r := true) hO1 hQ1 h0 hg1 (by
                  rw [eq_comm, decide_eq_true_eq]
                  exact ⟨c_216, by first | exact Or.inl c_221 | exact Or.inr c_234, by first | exact Or.inl c_240 | exact Or.inr c_252⟩)
              | exact p_op262 (r := false) hO1 hQ1 h0 hg1 (by
                  rw [eq_comm, decide_eq_false_iff_not]
                  first
                    | exact fun h => c_216 h.1
                    | exact fun h => h.2.1.elim (fun q => q c_221) (fun q => c_234 q)
                    | exact fun h => h.2.2.elim (fun q => q c_240) (fun q => c_252 q))
          · skip
            try rw [k_lit (by constructor <;> omega)] at c_240
            try rw [bI_eq0, decide_eq_false_iff_not, Classical.not_not] at c_252
            refine g_iconst (v := nI 1) dX9_op_255 rfl ?_
            refine g_goto (tgt := 260) dX9_op_256 (by decide) ?_
            refine g_istore dX9_op_260 (Nat.le_of_ble_eq_true rfl) ?_
            refine g_msk [true, true, true, true, true, false, false, false, false, true] ?_
            first
              | exact p_op262 (r := true) hO1 hQ1 h0 hg1 (by
                  rw [eq_comm, decide_eq_true_eq]
                  exact ⟨c_216, by first | exact Or.inl c_221 | exact Or.inr c_234, by first | exact Or.inl c_240 | exact Or.inr c_252⟩)
              | exact p_op262 (r := false) hO1 hQ1 h0 hg1 (by
                  rw [eq_comm, decide_eq_false_iff_not]
                  first
                    | exact fun h => c_216 h.1
                    | exact fun h => h.2.1.elim (fun q => q c_221) (fun q => c_234 q)
                    | exact fun h => h.2.2.elim (fun q => q c_240) (fun q => c_252 q))

set_option maxHeartbeats 4000000 in
set_option maxRecDepth 100000 in
theorem p_op135 {M M1 : gM} {n m : Nat} {σ : MS} {S : Nat → List Sp} {k a b c : Int32} (hO1 : Off M M1 (fX m)) (hQ1 : rQ M1 m σ S) (h0 : mI M1 m 0 = nI 0) (g1 : ¬ op1 k.toInt a.toInt b.toInt c.toInt) {tb : Bool} (ht : tb = decide (opT k.toInt)) : GW μX9_op (gRm 2 45 0 0) (gTh (fun r M1 n1 => r = some (.int (nI (opZ σ k a b c).2)) ∧ n1 = n ∧ Off M M1 (fX m) ∧ rM M1 m (opS σ k a b c) ∧ mI M1 m 0 = nI (opZ σ k a b c).1) 0 0) 0 0 135 [some (.ref m), some (.int k), some (.int a), some (.int b), some (.int c), none, some (.int (bI tb)), none, none, none] [] M1 n := by
  have kr := i_rng k
  have ar := i_rng a
  have cr := i_rng c
  have hg1 := g1
  clear g1
  refine g_iload_n dX9_op_135 rfl ?_
  refine g_i2l dX9_op_136 ?_
  rw [i_j]
  refine g_lconst (v := jI 0) dX9_op_137 rfl ?_
  refine g_ldc2 (v := jI (19)) dX9_op_138 (iw_12 16 rfl) ?_
  refine g_callS dX9_op_141 sX9_isIn (m_isInZ M1 n k.toInt 0 19 (by constructor <;> omega) (by constructor <;> omega) (by constructor <;> omega)) tX9_isIn (iw_12 22 rfl) rfl rfl (Nat.le_of_ble_eq_true rfl) (Nat.le_of_ble_eq_true rfl) (Nat.le_of_ble_eq_true rfl) (Nat.le_of_ble_eq_true rfl) (Nat.le_of_ble_eq_true rfl) ?_
  intro r9 M9 n9 h9
  obtain ⟨h91, h92, h93⟩ := h9
  rw [h91, h92, h93]
  clear h91 h92 h93 r9 M9 n9
  refine g_if_eq (tgt := 211) dX9_op_144 (by decide) (fun c_144 => ?_) (fun c_144 => ?_)
  · skip
    try rw [bI_eq0, decide_eq_false_iff_not] at c_144
    try rw [Int32.lt_iff_toInt_lt] at c_154
    try rw [bI_eq0, decide_eq_false_iff_not] at c_173
    try rw [bI_eq0, decide_eq_false_iff_not] at c_192
    try rw [Int32.lt_iff_toInt_lt] at c_204
    refine g_iconst (v := nI 0) dX9_op_211 rfl ?_
    refine g_istore dX9_op_212 (Nat.le_of_ble_eq_true rfl) ?_
    have z32 : (0 : Int32).toInt = 0 := rfl
    first
      | exact p_op214 (r := true) hO1 hQ1 h0 hg1 (by
          clear hg1
          rw [eq_comm, decide_eq_true_eq]
          exact ⟨c_144, by first | exact Or.inl c_149 | exact Or.inr (by omega), by first | exact Or.inl c_160 | exact Or.inr c_173, by first | exact Or.inl c_179 | exact Or.inr c_192, by first | exact Or.inl c_198 | exact Or.inr (by omega)⟩) ht
      | exact p_op214 (r := false) hO1 hQ1 h0 hg1 (by
          clear hg1
          rw [eq_comm, decide_eq_false_iff_not]
          intro h
          first
            | exact c_144 h.1
            | exact h.2.1.elim (fun q => q c_149) (fun q => by omega)
            | exact h.2.2.1.elim (fun q => q c_160) (fun q => c_173 q)
            | exact h.2.2.2.1.elim (fun q => q c_179) (fun q => c_192 q)
            | exact h.2.2.2.2.elim (fun q => q c_198) (fun q => by omega)) ht
  · skip
    rw [bI_eq0, decide_eq_false_iff_not, Classical.not_not] at c_144
    refine g_iload_n dX9_op_147 rfl ?_
    refine g_iconst (v := iZ 5) dX9_op_148 rfl ?_
    refine g_icmp_ne (tgt := 157) dX9_op_149 (by decide) (fun c_149 => ?_) (fun c_149 => ?_)
    · skip
      try rw [k_lit (by constructor <;> omega)] at c_149
      try rw [Int32.lt_iff_toInt_lt] at c_154
      refine g_iload_n dX9_op_157 rfl ?_
      refine g_bipush (v := iZ 6) dX9_op_158 rfl ?_
      refine g_icmp_ne (tgt := 176) dX9_op_160 (by decide) (fun c_160 => ?_) (fun c_160 => ?_)
      · skip
        try rw [k_lit (by constructor <;> omega)] at c_160
        try rw [bI_eq0, decide_eq_false_iff_not, Classical.not_not] at c_173
        refine g_iload_n dX9_op_176 rfl ?_
        refine g_bipush (v := iZ 9) dX9_op_177 rfl ?_
        refine g_icmp_ne (tgt := 195) dX9_op_179 (by decide) (fun c_179 => ?_) (fun c_179 => ?_)
        · skip
          try rw [k_lit (by constructor <;> omega)] at c_179
          try rw [bI_eq0, decide_eq_false_iff_not, Classical.not_not] at c_192
          refine g_iload_n dX9_op_195 rfl ?_
          refine g_bipush (v := iZ 10) dX9_op_196 rfl ?_
          refine g_icmp_ne (tgt := 207) dX9_op_198 (by decide) (fun c_198 => ?_) (fun c_198 => ?_)
          · skip
            try rw [k_lit (by constructor <;> omega)] at c_198
            try rw [Int32.lt_iff_toInt_lt] at c_204
            refine g_iconst (v := nI 1) dX9_op_207 rfl ?_
            refine g_goto (tgt := 212) dX9_op_208 (by decide) ?_
            refine g_istore dX9_op_212 (Nat.le_of_ble_eq_true rfl) ?_
            have z32 : (0 : Int32).toInt = 0 := rfl
            first
              | exact p_op214 (r := true) hO1 hQ1 h0 hg1 (by
                  clear hg1
                  rw [eq_comm, decide_eq_true_eq]
                  exact ⟨c_144, by first | exact Or.inl c_149 | exact Or.inr (by omega), by first | exact Or.inl c_160 | exact Or.inr c_173, by first | exact Or.inl c_179 | exact Or.inr c_192, by first | exact Or.inl c_198 | exact Or.inr (by omega)⟩) ht
              | exact p_op214 (r := false) hO1 hQ1 h0 hg1 (by
                  clear hg1
                  rw [eq_comm, decide_eq_false_iff_not]
                  intro h
                  first
                    | exact c_144 h.1
                    | exact h.2.1.elim (fun q => q c_149) (fun q => by omega)
                    | exact h.2.2.1.elim (fun q => q c_160) (fun q => c_173 q)
                    | exact h.2.2.2.1.elim (fun q => q c_179) (fun q => c_192 q)
                    | exact h.2.2.2.2.elim (fun q => q c_198) (fun q => by omega)) ht
          · skip
            rw [k_lit (by constructor <;> omega)] at c_198
            refine g_iload_n dX9_op_201 rfl ?_
            refine g_iload dX9_op_202 rfl ?_
            refine g_icmp_gt (tgt := 211) dX9_op_204 (by decide) (fun c_204 => ?_) (fun c_204 => ?_)
            · skip
              try rw [bI_eq0, decide_eq_false_iff_not] at c_144
              try rw [Int32.lt_iff_toInt_lt] at c_154
              try rw [bI_eq0, decide_eq_false_iff_not] at c_173
              try rw [bI_eq0, decide_eq_false_iff_not] at c_192
              try rw [Int32.lt_iff_toInt_lt] at c_204
              refine g_iconst (v := nI 0) dX9_op_211 rfl ?_
              refine g_istore dX9_op_212 (Nat.le_of_ble_eq_true rfl) ?_
              have z32 : (0 : Int32).toInt = 0 := rfl
              first
                | exact p_op214 (r := true) hO1 hQ1 h0 hg1 (by
                    clear hg1
                    rw [eq_comm, decide_eq_true_eq]
                    exact ⟨c_144, by first | exact Or.inl c_149 | exact Or.inr (by omega), by first | exact Or.inl c_160 | exact Or.inr c_173, by first | exact Or.inl c_179 | exact Or.inr c_192, by first | exact Or.inl c_198 | exact Or.inr (by omega)⟩) ht
                | exact p_op214 (r := false) hO1 hQ1 h0 hg1 (by
                    clear hg1
                    rw [eq_comm, decide_eq_false_iff_not]
                    intro h
                    first
                      | exact c_144 h.1
                      | exact h.2.1.elim (fun q => q c_149) (fun q => by omega)
                      | exact h.2.2.1.elim (fun q => q c_160) (fun q => c_173 q)
                      | exact h.2.2.2.1.elim (fun q => q c_179) (fun q => c_192 q)
                      | exact h.2.2.2.2.elim (fun q => q c_198) (fun q => by omega)) ht
            · skip
              try rw [k_lit (by constructor <;> omega)] at c_198
              try rw [Int32.lt_iff_toInt_lt] at c_204
              refine g_iconst (v := nI 1) dX9_op_207 rfl ?_
              refine g_goto (tgt := 212) dX9_op_208 (by decide) ?_
              refine g_istore dX9_op_212 (Nat.le_of_ble_eq_true rfl) ?_
              have z32 : (0 : Int32).toInt = 0 := rfl
              first
                | exact p_op214 (r := true) hO1 hQ1 h0 hg1 (by
                    clear hg1
                    rw [eq_comm, decide_eq_true_eq]
                    exact ⟨c_144, by first | exact Or.inl c_149 | exact Or.inr (by omega), by first | exact Or.inl c_160 | exact Or.inr c_173, by first | exact Or.inl c_179 | exact Or.inr c_192, by first | exact Or.inl c_198 | exact Or.inr (by omega)⟩) ht
                | exact p_op214 (r := false) hO1 hQ1 h0 hg1 (by
                    clear hg1
                    rw [eq_comm, decide_eq_false_iff_not]
                    intro h
                    first
                      | exact c_144 h.1
                      | exact h.2.1.elim (fun q => q c_149) (fun q => by omega)
                      | exact h.2.2.1.elim (fun q => q c_160) (fun q => c_173 q)
                      | exact h.2.2.2.1.elim (fun q => q c_179) (fun q => c_192 q)
                      | exact h.2.2.2.2.elim (fun q => q c_198) (fun q => by omega)) ht
        · skip
          rw [k_lit (by constructor <;> omega)] at c_179
          refine g_iload dX9_op_182 rfl ?_
          refine g_i2l dX9_op_184 ?_
          rw [i_j]
          refine g_lconst (v := jI 0) dX9_op_185 rfl ?_
          refine g_ldc2 (v := jI (2)) dX9_op_186 (iw_12 18 rfl) ?_
          refine g_callS dX9_op_189 sX9_isIn (m_isInZ M1 n c.toInt 0 2 (by constructor <;> omega) (by constructor <;> omega) (by constructor <;> omega)) tX9_isIn (iw_12 22 rfl) rfl rfl (Nat.le_of_ble_eq_true rfl) (Nat.le_of_ble_eq_true rfl) (Nat.le_of_ble_eq_true rfl) (Nat.le_of_ble_eq_true rfl) (Nat.le_of_ble_eq_true rfl) ?_
          intro r9 M9 n9 h9
          obtain ⟨h91, h92, h93⟩ := h9
          rw [h91, h92, h93]
          clear h91 h92 h93 r9 M9 n9
          refine g_if_eq (tgt := 211) dX9_op_192 (by decide) (fun c_192 => ?_) (fun c_192 => ?_)
          · skip
            try rw [bI_eq0, decide_eq_false_iff_not] at c_144
            try rw [Int32.lt_iff_toInt_lt] at c_154
            try rw [bI_eq0, decide_eq_false_iff_not] at c_173
            try rw [bI_eq0, decide_eq_false_iff_not] at c_192
            try rw [Int32.lt_iff_toInt_lt] at c_204
            refine g_iconst (v := nI 0) dX9_op_211 rfl ?_
            refine g_istore dX9_op_212 (Nat.le_of_ble_eq_true rfl) ?_
            have z32 : (0 : Int32).toInt = 0 := rfl
            first
              | exact p_op214 (r := true) hO1 hQ1 h0 hg1 (by
                  clear hg1
                  rw [eq_comm, decide_eq_true_eq]
                  exact ⟨c_144, by first | exact Or.inl c_149 | exact Or.inr (by omega), by first | exact Or.inl c_160 | exact Or.inr c_173, by first | exact Or.inl c_179 | exact Or.inr c_192, by first | exact Or.inl c_198 | exact Or.inr (by omega)⟩) ht
              | exact p_op214 (r := false) hO1 hQ1 h0 hg1 (by
                  clear hg1
                  rw [eq_comm, decide_eq_false_iff_not]
                  intro h
                  first
                    | exact c_144 h.1
                    | exact h.2.1.elim (fun q => q c_149) (fun q => by omega)
                    | exact h.2.2.1.elim (fun q => q c_160) (fun q => c_173 q)
                    | exact h.2.2.2.1.elim (fun q => q c_179) (fun q => c_192 q)
                    | exact h.2.2.2.2.elim (fun q => q c_198) (fun q => by omega)) ht
          · skip
            try rw [k_lit (by constructor <;> omega)] at c_179
            try rw [bI_eq0, decide_eq_false_iff_not, Classical.not_not] at c_192
            refine g_iload_n dX9_op_195 rfl ?_
            refine g_bipush (v := iZ 10) dX9_op_196 rfl ?_
            refine g_icmp_ne (tgt := 207) dX9_op_198 (by decide) (fun c_198 => ?_) (fun c_198 => ?_)
            · skip
              try rw [k_lit (by constructor <;> omega)] at c_198
              try rw [Int32.lt_iff_toInt_lt] at c_204
              refine g_iconst (v := nI 1) dX9_op_207 rfl ?_
              refine g_goto (tgt := 212) dX9_op_208 (by decide) ?_
              refine g_istore dX9_op_212 (Nat.le_of_ble_eq_true rfl) ?_
              have z32 : (0 : Int32).toInt = 0 := rfl
              first
                | exact p_op214 (r := true) hO1 hQ1 h0 hg1 (by
                    clear hg1
                    rw [eq_comm, decide_eq_true_eq]
                    exact ⟨c_144, by first | exact Or.inl c_149 | exact Or.inr (by omega), by first | exact Or.inl c_160 | exact Or.inr c_173, by first | exact Or.inl c_179 | exact Or.inr c_192, by first | exact Or.inl c_198 | exact Or.inr (by omega)⟩) ht
                | exact p_op214 (r := false) hO1 hQ1 h0 hg1 (by
                    clear hg1
                    rw [eq_comm, decide_eq_false_iff_not]
                    intro h
                    first
                      | exact c_144 h.1
                      | exact h.2.1.elim (fun q => q c_149) (fun q => by omega)
                      | exact h.2.2.1.elim (fun q => q c_160) (fun q => c_173 q)
                      | exact h.2.2.2.1.elim (fun q => q c_179) (fun q => c_192 q)
                      | exact h.2.2.2.2.elim (fun q => q c_198) (fun q => by omega)) ht
            · skip
              rw [k_lit (by constructor <;> omega)] at c_198
              refine g_iload_n dX9_op_201 rfl ?_
              refine g_iload dX9_op_202 rfl ?_
              refine g_icmp_gt (tgt := 211) dX9_op_204 (by decide) (fun c_204 => ?_) (fun c_204 => ?_)
              · skip
                try rw [bI_eq0, decide_eq_false_iff_not] at c_144
                try rw [Int32.lt_iff_toInt_lt] at c_154
                try rw [bI_eq0, decide_eq_false_iff_not] at c_173
                try rw [bI_eq0, decide_eq_false_iff_not] at c_192
                try rw [Int32.lt_iff_toInt_lt] at c_204
                refine g_iconst (v := nI 0) dX9_op_211 rfl ?_
                refine g_istore dX9_op_212 (Nat.le_of_ble_eq_true rfl) ?_
                have z32 : (0 : Int32).toInt = 0 := rfl
                first
                  | exact p_op214 (r := true) hO1 hQ1 h0 hg1 (by
                      clear hg1
                      rw [eq_comm, decide_eq_true_eq]
                      exact ⟨c_144, by first | exact Or.inl c_149 | exact Or.inr (by omega), by first | exact Or.inl c_160 | exact Or.inr c_173, by first | exact Or.inl c_179 | exact Or.inr c_192, by first | exact Or.inl c_198 | exact Or.inr (by omega)⟩) ht
                  | exact p_op214 (r := false) hO1 hQ1 h0 hg1 (by
                      clear hg1
                      rw [eq_comm, decide_eq_false_iff_not]
                      intro h
                      first
                        | exact c_144 h.1
                        | exact h.2.1.elim (fun q => q c_149) (fun q => by omega)
                        | exact h.2.2.1.elim (fun q => q c_160) (fun q => c_173 q)
                        | exact h.2.2.2.1.elim (fun q => q c_179) (fun q => c_192 q)
                        | exact h.2.2.2.2.elim (fun q => q c_198) (fun q => by omega)) ht
              · skip
                try rw [k_lit (by constructor <;> omega)] at c_198
                try rw [Int32.lt_iff_toInt_lt] at c_204
                refine g_iconst (v := nI 1) dX9_op_207 rfl ?_
                refine g_goto (tgt := 212) dX9_op_208 (by decide) ?_
                refine g_istore dX9_op_212 (Nat.le_of_ble_eq_true rfl) ?_
                have z32 : (0 : Int32).toInt = 0 := rfl
                first
                  | exact p_op214 (r := true) hO1 hQ1 h0 hg1 (by
                      clear hg1
                      rw [eq_comm, decide_eq_true_eq]
                      exact ⟨c_144, by first | exact Or.inl c_149 | exact Or.inr (by omega), by first | exact Or.inl c_160 | exact Or.inr c_173, by first | exact Or.inl c_179 | exact Or.inr c_192, by first | exact Or.inl c_198 | exact Or.inr (by omega)⟩) ht
                  | exact p_op214 (r := false) hO1 hQ1 h0 hg1 (by
                      clear hg1
                      rw [eq_comm, decide_eq_false_iff_not]
                      intro h
                      first
                        | exact c_144 h.1
                        | exact h.2.1.elim (fun q => q c_149) (fun q => by omega)
                        | exact h.2.2.1.elim (fun q => q c_160) (fun q => c_173 q)
                        | exact h.2.2.2.1.elim (fun q => q c_179) (fun q => c_192 q)
                        | exact h.2.2.2.2.elim (fun q => q c_198) (fun q => by omega)) ht
      · skip
        rw [k_lit (by constructor <;> omega)] at c_160
        refine g_iload dX9_op_163 rfl ?_
        refine g_i2l dX9_op_165 ?_
        rw [i_j]
        refine g_lconst (v := jI 0) dX9_op_166 rfl ?_
        refine g_ldc2 (v := jI (31)) dX9_op_167 (iw_12 17 rfl) ?_
        refine g_callS dX9_op_170 sX9_isIn (m_isInZ M1 n c.toInt 0 31 (by constructor <;> omega) (by constructor <;> omega) (by constructor <;> omega)) tX9_isIn (iw_12 22 rfl) rfl rfl (Nat.le_of_ble_eq_true rfl) (Nat.le_of_ble_eq_true rfl) (Nat.le_of_ble_eq_true rfl) (Nat.le_of_ble_eq_true rfl) (Nat.le_of_ble_eq_true rfl) ?_
        intro r9 M9 n9 h9
        obtain ⟨h91, h92, h93⟩ := h9
        rw [h91, h92, h93]
        clear h91 h92 h93 r9 M9 n9
        refine g_if_eq (tgt := 211) dX9_op_173 (by decide) (fun c_173 => ?_) (fun c_173 => ?_)
        · skip
          try rw [bI_eq0, decide_eq_false_iff_not] at c_144
          try rw [Int32.lt_iff_toInt_lt] at c_154
          try rw [bI_eq0, decide_eq_false_iff_not] at c_173
          try rw [bI_eq0, decide_eq_false_iff_not] at c_192
          try rw [Int32.lt_iff_toInt_lt] at c_204
          refine g_iconst (v := nI 0) dX9_op_211 rfl ?_
          refine g_istore dX9_op_212 (Nat.le_of_ble_eq_true rfl) ?_
          have z32 : (0 : Int32).toInt = 0 := rfl
          first
            | exact p_op214 (r := true) hO1 hQ1 h0 hg1 (by
                clear hg1
                rw [eq_comm, decide_eq_true_eq]
                exact ⟨c_144, by first | exact Or.inl c_149 | exact Or.inr (by omega), by first | exact Or.inl c_160 | exact Or.inr c_173, by first | exact Or.inl c_179 | exact Or.inr c_192, by first | exact Or.inl c_198 | exact Or.inr (by omega)⟩) ht
            | exact p_op214 (r := false) hO1 hQ1 h0 hg1 (by
                clear hg1
                rw [eq_comm, decide_eq_false_iff_not]
                intro h
                first
                  | exact c_144 h.1
                  | exact h.2.1.elim (fun q => q c_149) (fun q => by omega)
                  | exact h.2.2.1.elim (fun q => q c_160) (fun q => c_173 q)
                  | exact h.2.2.2.1.elim (fun q => q c_179) (fun q => c_192 q)
                  | exact h.2.2.2.2.elim (fun q => q c_198) (fun q => by omega)) ht
        · skip
          try rw [k_lit (by constructor <;> omega)] at c_160
          try rw [bI_eq0, decide_eq_false_iff_not, Classical.not_not] at c_173
          refine g_iload_n dX9_op_176 rfl ?_
          refine g_bipush (v := iZ 9) dX9_op_177 rfl ?_
          refine g_icmp_ne (tgt := 195) dX9_op_179 (by decide) (fun c_179 => ?_) (fun c_179 => ?_)
          · skip
            try rw [k_lit (by constructor <;> omega)] at c_179
            try rw [bI_eq0, decide_eq_false_iff_not, Classical.not_not] at c_192
            refine g_iload_n dX9_op_195 rfl ?_
            refine g_bipush (v := iZ 10) dX9_op_196 rfl ?_
            refine g_icmp_ne (tgt := 207) dX9_op_198 (by decide) (fun c_198 => ?_) (fun c_198 => ?_)
            · skip
              try rw [k_lit (by constructor <;> omega)] at c_198
              try rw [Int32.lt_iff_toInt_lt] at c_204
              refine g_iconst (v := nI 1) dX9_op_207 rfl ?_
              refine g_goto (tgt := 212) dX9_op_208 (by decide) ?_
              refine g_istore dX9_op_212 (Nat.le_of_ble_eq_true rfl) ?_
              have z32 : (0 : Int32).toInt = 0 := rfl
              first
                | exact p_op214 (r := true) hO1 hQ1 h0 hg1 (by
                    clear hg1
                    rw [eq_comm, decide_eq_true_eq]
                    exact ⟨c_144, by first | exact Or.inl c_149 | exact Or.inr (by omega), by first | exact Or.inl c_160 | exact Or.inr c_173, by first | exact Or.inl c_179 | exact Or.inr c_192, by first | exact Or.inl c_198 | exact Or.inr (by omega)⟩) ht
                | exact p_op214 (r := false) hO1 hQ1 h0 hg1 (by
                    clear hg1
                    rw [eq_comm, decide_eq_false_iff_not]
                    intro h
                    first
                      | exact c_144 h.1
                      | exact h.2.1.elim (fun q => q c_149) (fun q => by omega)
                      | exact h.2.2.1.elim (fun q => q c_160) (fun q => c_173 q)
                      | exact h.2.2.2.1.elim (fun q => q c_179) (fun q => c_192 q)
                      | exact h.2.2.2.2.elim (fun q => q c_198) (fun q => by omega)) ht
            · skip
              rw [k_lit (by constructor <;> omega)] at c_198
              refine g_iload_n dX9_op_201 rfl ?_
              refine g_iload dX9_op_202 rfl ?_
              refine g_icmp_gt (tgt := 211) dX9_op_204 (by decide) (fun c_204 => ?_) (fun c_204 => ?_)
              · skip
                try rw [bI_eq0, decide_eq_false_iff_not] at c_144
                try rw [Int32.lt_iff_toInt_lt] at c_154
                try rw [bI_eq0, decide_eq_false_iff_not] at c_173
                try rw [bI_eq0, decide_eq_false_iff_not] at c_192
                try rw [Int32.lt_iff_toInt_lt] at c_204
                refine g_iconst (v := nI 0) dX9_op_211 rfl ?_
                refine g_istore dX9_op_212 (Nat.le_of_ble_eq_true rfl) ?_
                have z32 : (0 : Int32).toInt = 0 := rfl
                first
                  | exact p_op214 (r := true) hO1 hQ1 h0 hg1 (by
                      clear hg1
                      rw [eq_comm, decide_eq_true_eq]
                      exact ⟨c_144, by first | exact Or.inl c_149 | exact Or.inr (by omega), by first | exact Or.inl c_160 | exact Or.inr c_173, by first | exact Or.inl c_179 | exact Or.inr c_192, by first | exact Or.inl c_198 | exact Or.inr (by omega)⟩) ht
                  | exact p_op214 (r := false) hO1 hQ1 h0 hg1 (by
                      clear hg1
                      rw [eq_comm, decide_eq_false_iff_not]
                      intro h
                      first
                        | exact c_144 h.1
                        | exact h.2.1.elim (fun q => q c_149) (fun q => by omega)
                        | exact h.2.2.1.elim (fun q => q c_160) (fun q => c_173 q)
                        | exact h.2.2.2.1.elim (fun q => q c_179) (fun q => c_192 q)
                        | exact h.2.2.2.2.elim (fun q => q c_198) (fun q => by omega)) ht
              · skip
                try rw [k_lit (by constructor <;> omega)] at c_198
                try rw [Int32.lt_iff_toInt_lt] at c_204
                refine g_iconst (v := nI 1) dX9_op_207 rfl ?_
                refine g_goto (tgt := 212) dX9_op_208 (by decide) ?_
                refine g_istore dX9_op_212 (Nat.le_of_ble_eq_true rfl) ?_
                have z32 : (0 : Int32).toInt = 0 := rfl
                first
                  | exact p_op214 (r := true) hO1 hQ1 h0 hg1 (by
                      clear hg1
                      rw [eq_comm, decide_eq_true_eq]
                      exact ⟨c_144, by first | exact Or.inl c_149 | exact Or.inr (by omega), by first | exact Or.inl c_160 | exact Or.inr c_173, by first | exact Or.inl c_179 | exact Or.inr c_192, by first | exact Or.inl c_198 | exact Or.inr (by omega)⟩) ht
                  | exact p_op214 (r := false) hO1 hQ1 h0 hg1 (by
                      clear hg1
                      rw [eq_comm, decide_eq_false_iff_not]
                      intro h
                      first
                        | exact c_144 h.1
                        | exact h.2.1.elim (fun q => q c_149) (fun q => by omega)
                        | exact h.2.2.1.elim (fun q => q c_160) (fun q => c_173 q)
                        | exact h.2.2.2.1.elim (fun q => q c_179) (fun q => c_192 q)
                        | exact h.2.2.2.2.elim (fun q => q c_198) (fun q => by omega)) ht
          · skip
            rw [k_lit (by constructor <;> omega)] at c_179
            refine g_iload dX9_op_182 rfl ?_
            refine g_i2l dX9_op_184 ?_
            rw [i_j]
            refine g_lconst (v := jI 0) dX9_op_185 rfl ?_
            refine g_ldc2 (v := jI (2)) dX9_op_186 (iw_12 18 rfl) ?_
            refine g_callS dX9_op_189 sX9_isIn (m_isInZ M1 n c.toInt 0 2 (by constructor <;> omega) (by constructor <;> omega) (by constructor <;> omega)) tX9_isIn (iw_12 22 rfl) rfl rfl (Nat.le_of_ble_eq_true rfl) (Nat.le_of_ble_eq_true rfl) (Nat.le_of_ble_eq_true rfl) (Nat.le_of_ble_eq_true rfl) (Nat.le_of_ble_eq_true rfl) ?_
            intro r9 M9 n9 h9
            obtain ⟨h91, h92, h93⟩ := h9
            rw [h91, h92, h93]
            clear h91 h92 h93 r9 M9 n9
            refine g_if_eq (tgt := 211) dX9_op_192 (by decide) (fun c_192 => ?_) (fun c_192 => ?_)
            · skip
              try rw [bI_eq0, decide_eq_false_iff_not] at c_144
              try rw [Int32.lt_iff_toInt_lt] at c_154
              try rw [bI_eq0, decide_eq_false_iff_not] at c_173
              try rw [bI_eq0, decide_eq_false_iff_not] at c_192
              try rw [Int32.lt_iff_toInt_lt] at c_204
              refine g_iconst (v := nI 0) dX9_op_211 rfl ?_
              refine g_istore dX9_op_212 (Nat.le_of_ble_eq_true rfl) ?_
              have z32 : (0 : Int32).toInt = 0 := rfl
              first
                | exact p_op214 (r := true) hO1 hQ1 h0 hg1 (by
                    clear hg1
                    rw [eq_comm, decide_eq_true_eq]
                    exact ⟨c_144, by first | exact Or.inl c_149 | exact Or.inr (by omega), by first | exact Or.inl c_160 | exact Or.inr c_173, by first | exact Or.inl c_179 | exact Or.inr c_192, by first | exact Or.inl c_198 | exact Or.inr (by omega)⟩) ht
                | exact p_op214 (r := false) hO1 hQ1 h0 hg1 (by
                    clear hg1
                    rw [eq_comm, decide_eq_false_iff_not]
                    intro h
                    first
                      | exact c_144 h.1
                      | exact h.2.1.elim (fun q => q c_149) (fun q => by omega)
                      | exact h.2.2.1.elim (fun q => q c_160) (fun q => c_173 q)
                      | exact h.2.2.2.1.elim (fun q => q c_179) (fun q => c_192 q)
                      | exact h.2.2.2.2.elim (fun q => q c_198) (fun q => by omega)) ht
            · skip
              try rw [k_lit (by constructor <;> omega)] at c_179
              try rw [bI_eq0, decide_eq_false_iff_not, Classical.not_not] at c_192
              refine g_iload_n dX9_op_195 rfl ?_
              refine g_bipush (v := iZ 10) dX9_op_196 rfl ?_
              refine g_icmp_ne (tgt := 207) dX9_op_198 (by decide) (fun c_198 => ?_) (fun c_198 => ?_)
              · skip
                try rw [k_lit (by constructor <;> omega)] at c_198
                try rw [Int32.lt_iff_toInt_lt] at c_204
                refine g_iconst (v := nI 1) dX9_op_207 rfl ?_
                refine g_goto (tgt := 212) dX9_op_208 (by decide) ?_
                refine g_istore dX9_op_212 (Nat.le_of_ble_eq_true rfl) ?_
                have z32 : (0 : Int32).toInt = 0 := rfl
                first
                  | exact p_op214 (r := true) hO1 hQ1 h0 hg1 (by
                      clear hg1
                      rw [eq_comm, decide_eq_true_eq]
                      exact ⟨c_144, by first | exact Or.inl c_149 | exact Or.inr (by omega), by first | exact Or.inl c_160 | exact Or.inr c_173, by first | exact Or.inl c_179 | exact Or.inr c_192, by first | exact Or.inl c_198 | exact Or.inr (by omega)⟩) ht
                  | exact p_op214 (r := false) hO1 hQ1 h0 hg1 (by
                      clear hg1
                      rw [eq_comm, decide_eq_false_iff_not]
                      intro h
                      first
                        | exact c_144 h.1
                        | exact h.2.1.elim (fun q => q c_149) (fun q => by omega)
                        | exact h.2.2.1.elim (fun q => q c_160) (fun q => c_173 q)
                        | exact h.2.2.2.1.elim (fun q => q c_179) (fun q => c_192 q)
                        | exact h.2.2.2.2.elim (fun q => q c_198) (fun q => by omega)) ht
              · skip
                rw [k_lit (by constructor <;> omega)] at c_198
                refine g_iload_n dX9_op_201 rfl ?_
                refine g_iload dX9_op_202 rfl ?_
                refine g_icmp_gt (tgt := 211) dX9_op_204 (by decide) (fun c_204 => ?_) (fun c_204 => ?_)
                · skip
                  try rw [bI_eq0, decide_eq_false_iff_not] at c_144
                  try rw [Int32.lt_iff_toInt_lt] at c_154
                  try rw [bI_eq0, decide_eq_false_iff_not] at c_173
                  try rw [bI_eq0, decide_eq_false_iff_not] at c_192
                  try rw [Int32.lt_iff_toInt_lt] at c_204
                  refine g_iconst (v := nI 0) dX9_op_211 rfl ?_
                  refine g_istore dX9_op_212 (Nat.le_of_ble_eq_true rfl) ?_
                  have z32 : (0 : Int32).toInt = 0 := rfl
                  first
                    | exact p_op214 (r := true) hO1 hQ1 h0 hg1 (by
                        clear hg1
                        rw [eq_comm, decide_eq_true_eq]
                        exact ⟨c_144, by first | exact Or.inl c_149 | exact Or.inr (by omega), by first | exact Or.inl c_160 | exact Or.inr c_173, by first | exact Or.inl c_179 | exact Or.inr c_192, by first | exact Or.inl c_198 | exact Or.inr (by omega)⟩) ht
                    | exact p_op214 (r := false) hO1 hQ1 h0 hg1 (by
                        clear hg1
                        rw [eq_comm, decide_eq_false_iff_not]
                        intro h
                        first
                          | exact c_144 h.1
                          | exact h.2.1.elim (fun q => q c_149) (fun q => by omega)
                          | exact h.2.2.1.elim (fun q => q c_160) (fun q => c_173 q)
                          | exact h.2.2.2.1.elim (fun q => q c_179) (fun q => c_192 q)
                          | exact h.2.2.2.2.elim (fun q => q c_198) (fun q => by omega)) ht
                · skip
                  try rw [k_lit (by constructor <;> omega)] at c_198
                  try rw [Int32.lt_iff_toInt_lt] at c_204
                  refine g_iconst (v := nI 1) dX9_op_207 rfl ?_
                  refine g_goto (tgt := 212) dX9_op_208 (by decide) ?_
                  refine g_istore dX9_op_212 (Nat.le_of_ble_eq_true rfl) ?_
                  have z32 : (0 : Int32).toInt = 0 := rfl
                  first
                    | exact p_op214 (r := true) hO1 hQ1 h0 hg1 (by
                        clear hg1
                        rw [eq_comm, decide_eq_true_eq]
                        exact ⟨c_144, by first | exact Or.inl c_149 | exact Or.inr (by omega), by first | exact Or.inl c_160 | exact Or.inr c_173, by first | exact Or.inl c_179 | exact Or.inr c_192, by first | exact Or.inl c_198 | exact Or.inr (by omega)⟩) ht
                    | exact p_op214 (r := false) hO1 hQ1 h0 hg1 (by
                        clear hg1
                        rw [eq_comm, decide_eq_false_iff_not]
                        intro h
                        first
                          | exact c_144 h.1
                          | exact h.2.1.elim (fun q => q c_149) (fun q => by omega)
                          | exact h.2.2.1.elim (fun q => q c_160) (fun q => c_173 q)
                          | exact h.2.2.2.1.elim (fun q => q c_179) (fun q => c_192 q)
                          | exact h.2.2.2.2.elim (fun q => q c_198) (fun q => by omega)) ht
    · skip
      rw [k_lit (by constructor <;> omega)] at c_149
      refine g_iload dX9_op_152 rfl ?_
      refine g_if_lt (tgt := 211) dX9_op_154 (by decide) (fun c_154 => ?_) (fun c_154 => ?_)
      · skip
        try rw [bI_eq0, decide_eq_false_iff_not] at c_144
        try rw [Int32.lt_iff_toInt_lt] at c_154
        try rw [bI_eq0, decide_eq_false_iff_not] at c_173
        try rw [bI_eq0, decide_eq_false_iff_not] at c_192
        try rw [Int32.lt_iff_toInt_lt] at c_204
        refine g_iconst (v := nI 0) dX9_op_211 rfl ?_
        refine g_istore dX9_op_212 (Nat.le_of_ble_eq_true rfl) ?_
        have z32 : (0 : Int32).toInt = 0 := rfl
        first
          | exact p_op214 (r := true) hO1 hQ1 h0 hg1 (by
              clear hg1
              rw [eq_comm, decide_eq_true_eq]
              exact ⟨c_144, by first | exact Or.inl c_149 | exact Or.inr (by omega), by first | exact Or.inl c_160 | exact Or.inr c_173, by first | exact Or.inl c_179 | exact Or.inr c_192, by first | exact Or.inl c_198 | exact Or.inr (by omega)⟩) ht
          | exact p_op214 (r := false) hO1 hQ1 h0 hg1 (by
              clear hg1
              rw [eq_comm, decide_eq_false_iff_not]
              intro h
              first
                | exact c_144 h.1
                | exact h.2.1.elim (fun q => q c_149) (fun q => by omega)
                | exact h.2.2.1.elim (fun q => q c_160) (fun q => c_173 q)
                | exact h.2.2.2.1.elim (fun q => q c_179) (fun q => c_192 q)
                | exact h.2.2.2.2.elim (fun q => q c_198) (fun q => by omega)) ht
      · skip
        try rw [k_lit (by constructor <;> omega)] at c_149
        try rw [Int32.lt_iff_toInt_lt] at c_154
        refine g_iload_n dX9_op_157 rfl ?_
        refine g_bipush (v := iZ 6) dX9_op_158 rfl ?_
        refine g_icmp_ne (tgt := 176) dX9_op_160 (by decide) (fun c_160 => ?_) (fun c_160 => ?_)
        · skip
          try rw [k_lit (by constructor <;> omega)] at c_160
          try rw [bI_eq0, decide_eq_false_iff_not, Classical.not_not] at c_173
          refine g_iload_n dX9_op_176 rfl ?_
          refine g_bipush (v := iZ 9) dX9_op_177 rfl ?_
          refine g_icmp_ne (tgt := 195) dX9_op_179 (by decide) (fun c_179 => ?_) (fun c_179 => ?_)
          · skip
            try rw [k_lit (by constructor <;> omega)] at c_179
            try rw [bI_eq0, decide_eq_false_iff_not, Classical.not_not] at c_192
            refine g_iload_n dX9_op_195 rfl ?_
            refine g_bipush (v := iZ 10) dX9_op_196 rfl ?_
            refine g_icmp_ne (tgt := 207) dX9_op_198 (by decide) (fun c_198 => ?_) (fun c_198 => ?_)
            · skip
              try rw [k_lit (by constructor <;> omega)] at c_198
              try rw [Int32.lt_iff_toInt_lt] at c_204
              refine g_iconst (v := nI 1) dX9_op_207 rfl ?_
              refine g_goto (tgt := 212) dX9_op_208 (by decide) ?_
              refine g_istore dX9_op_212 (Nat.le_of_ble_eq_true rfl) ?_
              have z32 : (0 : Int32).toInt = 0 := rfl
              first
                | exact p_op214 (r := true) hO1 hQ1 h0 hg1 (by
                    clear hg1
                    rw [eq_comm, decide_eq_true_eq]
                    exact ⟨c_144, by first | exact Or.inl c_149 | exact Or.inr (by omega), by first | exact Or.inl c_160 | exact Or.inr c_173, by first | exact Or.inl c_179 | exact Or.inr c_192, by first | exact Or.inl c_198 | exact Or.inr (by omega)⟩) ht
                | exact p_op214 (r := false) hO1 hQ1 h0 hg1 (by
                    clear hg1
                    rw [eq_comm, decide_eq_false_iff_not]
                    intro h
                    first
                      | exact c_144 h.1
                      | exact h.2.1.elim (fun q => q c_149) (fun q => by omega)
                      | exact h.2.2.1.elim (fun q => q c_160) (fun q => c_173 q)
                      | exact h.2.2.2.1.elim (fun q => q c_179) (fun q => c_192 q)
                      | exact h.2.2.2.2.elim (fun q => q c_198) (fun q => by omega)) ht
            · skip
              rw [k_lit (by constructor <;> omega)] at c_198
              refine g_iload_n dX9_op_201 rfl ?_
              refine g_iload dX9_op_202 rfl ?_
              refine g_icmp_gt (tgt := 211) dX9_op_204 (by decide) (fun c_204 => ?_) (fun c_204 => ?_)
              · skip
                try rw [bI_eq0, decide_eq_false_iff_not] at c_144
                try rw [Int32.lt_iff_toInt_lt] at c_154
                try rw [bI_eq0, decide_eq_false_iff_not] at c_173
                try rw [bI_eq0, decide_eq_false_iff_not] at c_192
                try rw [Int32.lt_iff_toInt_lt] at c_204
                refine g_iconst (v := nI 0) dX9_op_211 rfl ?_
                refine g_istore dX9_op_212 (Nat.le_of_ble_eq_true rfl) ?_
                have z32 : (0 : Int32).toInt = 0 := rfl
                first
                  | exact p_op214 (r := true) hO1 hQ1 h0 hg1 (by
                      clear hg1
                      rw [eq_comm, decide_eq_true_eq]
                      exact ⟨c_144, by first | exact Or.inl c_149 | exact Or.inr (by omega), by first | exact Or.inl c_160 | exact Or.inr c_173, by first | exact Or.inl c_179 | exact Or.inr c_192, by first | exact Or.inl c_198 | exact Or.inr (by omega)⟩) ht
                  | exact p_op214 (r := false) hO1 hQ1 h0 hg1 (by
                      clear hg1
                      rw [eq_comm, decide_eq_false_iff_not]
                      intro h
                      first
                        | exact c_144 h.1
                        | exact h.2.1.elim (fun q => q c_149) (fun q => by omega)
                        | exact h.2.2.1.elim (fun q => q c_160) (fun q => c_173 q)
                        | exact h.2.2.2.1.elim (fun q => q c_179) (fun q => c_192 q)
                        | exact h.2.2.2.2.elim (fun q => q c_198) (fun q => by omega)) ht
              · skip
                try rw [k_lit (by constructor <;> omega)] at c_198
                try rw [Int32.lt_iff_toInt_lt] at c_204
                refine g_iconst (v := nI 1) dX9_op_207 rfl ?_
                refine g_goto (tgt := 212) dX9_op_208 (by decide) ?_
                refine g_istore dX9_op_212 (Nat.le_of_ble_eq_true rfl) ?_
                have z32 : (0 : Int32).toInt = 0 := rfl
                first
                  | exact p_op214 (r := true) hO1 hQ1 h0 hg1 (by
                      clear hg1
                      rw [eq_comm, decide_eq_true_eq]
                      exact ⟨c_144, by first | exact Or.inl c_149 | exact Or.inr (by omega), by first | exact Or.inl c_160 | exact Or.inr c_173, by first | exact Or.inl c_179 | exact Or.inr c_192, by first | exact Or.inl c_198 | exact Or.inr (by omega)⟩) ht
                  | exact p_op214 (r := false) hO1 hQ1 h0 hg1 (by
                      clear hg1
                      rw [eq_comm, decide_eq_false_iff_not]
                      intro h
                      first
                        | exact c_144 h.1
                        | exact h.2.1.elim (fun q => q c_149) (fun q => by omega)
                        | exact h.2.2.1.elim (fun q => q c_160) (fun q => c_173 q)
                        | exact h.2.2.2.1.elim (fun q => q c_179) (fun q => c_192 q)
                        | exact h.2.2.2.2.elim (fun q => q c_198) (fun q => by omega)) ht
          · skip
            rw [k_lit (by constructor <;> omega)] at c_179
            refine g_iload dX9_op_182 rfl ?_
            refine g_i2l dX9_op_184 ?_
            rw [i_j]
            refine g_lconst (v := jI 0) dX9_op_185 rfl ?_
            refine g_ldc2 (v := jI (2)) dX9_op_186 (iw_12 18 rfl) ?_
            refine g_callS dX9_op_189 sX9_isIn (m_isInZ M1 n c.toInt 0 2 (by constructor <;> omega) (by constructor <;> omega) (by constructor <;> omega)) tX9_isIn (iw_12 22 rfl) rfl rfl (Nat.le_of_ble_eq_true rfl) (Nat.le_of_ble_eq_true rfl) (Nat.le_of_ble_eq_true rfl) (Nat.le_of_ble_eq_true rfl) (Nat.le_of_ble_eq_true rfl) ?_
            intro r9 M9 n9 h9
            obtain ⟨h91, h92, h93⟩ := h9
            rw [h91, h92, h93]
            clear h91 h92 h93 r9 M9 n9
            refine g_if_eq (tgt := 211) dX9_op_192 (by decide) (fun c_192 => ?_) (fun c_192 => ?_)
            · skip
              try rw [bI_eq0, decide_eq_false_iff_not] at c_144
              try rw [Int32.lt_iff_toInt_lt] at c_154
              try rw [bI_eq0, decide_eq_false_iff_not] at c_173
              try rw [bI_eq0, decide_eq_false_iff_not] at c_192
              try rw [Int32.lt_iff_toInt_lt] at c_204
              refine g_iconst (v := nI 0) dX9_op_211 rfl ?_
              refine g_istore dX9_op_212 (Nat.le_of_ble_eq_true rfl) ?_
              have z32 : (0 : Int32).toInt = 0 := rfl
              first
                | exact p_op214 (r := true) hO1 hQ1 h0 hg1 (by
                    clear hg1
                    rw [eq_comm, decide_eq_true_eq]
                    exact ⟨c_144, by first | exact Or.inl c_149 | exact Or.inr (by omega), by first | exact Or.inl c_160 | exact Or.inr c_173, by first | exact Or.inl c_179 | exact Or.inr c_192, by first | exact Or.inl c_198 | exact Or.inr (by omega)⟩) ht
                | exact p_op214 (r := false) hO1 hQ1 h0 hg1 (by
                    clear hg1
                    rw [eq_comm, decide_eq_false_iff_not]
                    intro h
                    first
                      | exact c_144 h.1
                      | exact h.2.1.elim (fun q => q c_149) (fun q => by omega)
                      | exact h.2.2.1.elim (fun q => q c_160) (fun q => c_173 q)
                      | exact h.2.2.2.1.elim (fun q => q c_179) (fun q => c_192 q)
                      | exact h.2.2.2.2.elim (fun q => q c_198) (fun q => by omega)) ht
            · skip
              try rw [k_lit (by constructor <;> omega)] at c_179
              try rw [bI_eq0, decide_eq_false_iff_not, Classical.not_not] at c_192
              refine g_iload_n dX9_op_195 rfl ?_
              refine g_bipush (v := iZ 10) dX9_op_196 rfl ?_
              refine g_icmp_ne (tgt := 207) dX9_op_198 (by decide) (fun c_198 => ?_) (fun c_198 => ?_)
              · skip
                try rw [k_lit (by constructor <;> omega)] at c_198
                try rw [Int32.lt_iff_toInt_lt] at c_204
                refine g_iconst (v := nI 1) dX9_op_207 rfl ?_
                refine g_goto (tgt := 212) dX9_op_208 (by decide) ?_
                refine g_istore dX9_op_212 (Nat.le_of_ble_eq_true rfl) ?_
                have z32 : (0 : Int32).toInt = 0 := rfl
                first
                  | exact p_op214 (r := true) hO1 hQ1 h0 hg1 (by
                      clear hg1
                      rw [eq_comm, decide_eq_true_eq]
                      exact ⟨c_144, by first | exact Or.inl c_149 | exact Or.inr (by omega), by first | exact Or.inl c_160 | exact Or.inr c_173, by first | exact Or.inl c_179 | exact Or.inr c_192, by first | exact Or.inl c_198 | exact Or.inr (by omega)⟩) ht
                  | exact p_op214 (r := false) hO1 hQ1 h0 hg1 (by
                      clear hg1
                      rw [eq_comm, decide_eq_false_iff_not]
                      intro h
                      first
                        | exact c_144 h.1
                        | exact h.2.1.elim (fun q => q c_149) (fun q => by omega)
                        | exact h.2.2.1.elim (fun q => q c_160) (fun q => c_173 q)
                        | exact h.2.2.2.1.elim (fun q => q c_179) (fun q => c_192 q)
                        | exact h.2.2.2.2.elim (fun q => q c_198) (fun q => by omega)) ht
              · skip
                rw [k_lit (by constructor <;> omega)] at c_198
                refine g_iload_n dX9_op_201 rfl ?_
                refine g_iload dX9_op_202 rfl ?_
                refine g_icmp_gt (tgt := 211) dX9_op_204 (by decide) (fun c_204 => ?_) (fun c_204 => ?_)
                · skip
                  try rw [bI_eq0, decide_eq_false_iff_not] at c_144
                  try rw [Int32.lt_iff_toInt_lt] at c_154
                  try rw [bI_eq0, decide_eq_false_iff_not] at c_173
                  try rw [bI_eq0, decide_eq_false_iff_not] at c_192
                  try rw [Int32.lt_iff_toInt_lt] at c_204
                  refine g_iconst (v := nI 0) dX9_op_211 rfl ?_
                  refine g_istore dX9_op_212 (Nat.le_of_ble_eq_true rfl) ?_
                  have z32 : (0 : Int32).toInt = 0 := rfl
                  first
                    | exact p_op214 (r := true) hO1 hQ1 h0 hg1 (by
                        clear hg1
                        rw [eq_comm, decide_eq_true_eq]
                        exact ⟨c_144, by first | exact Or.inl c_149 | exact Or.inr (by omega), by first | exact Or.inl c_160 | exact Or.inr c_173, by first | exact Or.inl c_179 | exact Or.inr c_192, by first | exact Or.inl c_198 | exact Or.inr (by omega)⟩) ht
                    | exact p_op214 (r := false) hO1 hQ1 h0 hg1 (by
                        clear hg1
                        rw [eq_comm, decide_eq_false_iff_not]
                        intro h
                        first
                          | exact c_144 h.1
                          | exact h.2.1.elim (fun q => q c_149) (fun q => by omega)
                          | exact h.2.2.1.elim (fun q => q c_160) (fun q => c_173 q)
                          | exact h.2.2.2.1.elim (fun q => q c_179) (fun q => c_192 q)
                          | exact h.2.2.2.2.elim (fun q => q c_198) (fun q => by omega)) ht
                · skip
                  try rw [k_lit (by constructor <;> omega)] at c_198
                  try rw [Int32.lt_iff_toInt_lt] at c_204
                  refine g_iconst (v := nI 1) dX9_op_207 rfl ?_
                  refine g_goto (tgt := 212) dX9_op_208 (by decide) ?_
                  refine g_istore dX9_op_212 (Nat.le_of_ble_eq_true rfl) ?_
                  have z32 : (0 : Int32).toInt = 0 := rfl
                  first
                    | exact p_op214 (r := true) hO1 hQ1 h0 hg1 (by
                        clear hg1
                        rw [eq_comm, decide_eq_true_eq]
                        exact ⟨c_144, by first | exact Or.inl c_149 | exact Or.inr (by omega), by first | exact Or.inl c_160 | exact Or.inr c_173, by first | exact Or.inl c_179 | exact Or.inr c_192, by first | exact Or.inl c_198 | exact Or.inr (by omega)⟩) ht
                    | exact p_op214 (r := false) hO1 hQ1 h0 hg1 (by
                        clear hg1
                        rw [eq_comm, decide_eq_false_iff_not]
                        intro h
                        first
                          | exact c_144 h.1
                          | exact h.2.1.elim (fun q => q c_149) (fun q => by omega)
                          | exact h.2.2.1.elim (fun q => q c_160) (fun q => c_173 q)
                          | exact h.2.2.2.1.elim (fun q => q c_179) (fun q => c_192 q)
                          | exact h.2.2.2.2.elim (fun q => q c_198) (fun q => by omega)) ht
        · skip
          rw [k_lit (by constructor <;> omega)] at c_160
          refine g_iload dX9_op_163 rfl ?_
          refine g_i2l dX9_op_165 ?_
          rw [i_j]
          refine g_lconst (v := jI 0) dX9_op_166 rfl ?_
          refine g_ldc2 (v := jI (31)) dX9_op_167 (iw_12 17 rfl) ?_
          refine g_callS dX9_op_170 sX9_isIn (m_isInZ M1 n c.toInt 0 31 (by constructor <;> omega) (by constructor <;> omega) (by constructor <;> omega)) tX9_isIn (iw_12 22 rfl) rfl rfl (Nat.le_of_ble_eq_true rfl) (Nat.le_of_ble_eq_true rfl) (Nat.le_of_ble_eq_true rfl) (Nat.le_of_ble_eq_true rfl) (Nat.le_of_ble_eq_true rfl) ?_
          intro r9 M9 n9 h9
          obtain ⟨h91, h92, h93⟩ := h9
          rw [h91, h92, h93]
          clear h91 h92 h93 r9 M9 n9
          refine g_if_eq (tgt := 211) dX9_op_173 (by decide) (fun c_173 => ?_) (fun c_173 => ?_)
          · skip
            try rw [bI_eq0, decide_eq_false_iff_not] at c_144
            try rw [Int32.lt_iff_toInt_lt] at c_154
            try rw [bI_eq0, decide_eq_false_iff_not] at c_173
            try rw [bI_eq0, decide_eq_false_iff_not] at c_192
            try rw [Int32.lt_iff_toInt_lt] at c_204
            refine g_iconst (v := nI 0) dX9_op_211 rfl ?_
            refine g_istore dX9_op_212 (Nat.le_of_ble_eq_true rfl) ?_
            have z32 : (0 : Int32).toInt = 0 := rfl
            first
              | exact p_op214 (r := true) hO1 hQ1 h0 hg1 (by
                  clear hg1
                  rw [eq_comm, decide_eq_true_eq]
                  exact ⟨c_144, by first | exact Or.inl c_149 | exact Or.inr (by omega), by first | exact Or.inl c_160 | exact Or.inr c_173, by first | exact Or.inl c_179 | exact Or.inr c_192, by first | exact Or.inl c_198 | exact Or.inr (by omega)⟩) ht
              | exact p_op214 (r := false) hO1 hQ1 h0 hg1 (by
                  clear hg1
                  rw [eq_comm, decide_eq_false_iff_not]
                  intro h
                  first
                    | exact c_144 h.1
                    | exact h.2.1.elim (fun q => q c_149) (fun q => by omega)
                    | exact h.2.2.1.elim (fun q => q c_160) (fun q => c_173 q)
                    | exact h.2.2.2.1.elim (fun q => q c_179) (fun q => c_192 q)
                    | exact h.2.2.2.2.elim (fun q => q c_198) (fun q => by omega)) ht
          · skip
            try rw [k_lit (by constructor <;> omega)] at c_160
            try rw [bI_eq0, decide_eq_false_iff_not, Classical.not_not] at c_173
            refine g_iload_n dX9_op_176 rfl ?_
            refine g_bipush (v := iZ 9) dX9_op_177 rfl ?_
            refine g_icmp_ne (tgt := 195) dX9_op_179 (by decide) (fun c_179 => ?_) (fun c_179 => ?_)
            · skip
              try rw [k_lit (by constructor <;> omega)] at c_179
              try rw [bI_eq0, decide_eq_false_iff_not, Classical.not_not] at c_192
              refine g_iload_n dX9_op_195 rfl ?_
              refine g_bipush (v := iZ 10) dX9_op_196 rfl ?_
              refine g_icmp_ne (tgt := 207) dX9_op_198 (by decide) (fun c_198 => ?_) (fun c_198 => ?_)
              · skip
                try rw [k_lit (by constructor <;> omega)] at c_198
                try rw [Int32.lt_iff_toInt_lt] at c_204
                refine g_iconst (v := nI 1) dX9_op_207 rfl ?_
                refine g_goto (tgt := 212) dX9_op_208 (by decide) ?_
                refine g_istore dX9_op_212 (Nat.le_of_ble_eq_true rfl) ?_
                have z32 : (0 : Int32).toInt = 0 := rfl
                first
                  | exact p_op214 (r := true) hO1 hQ1 h0 hg1 (by
                      clear hg1
                      rw [eq_comm, decide_eq_true_eq]
                      exact ⟨c_144, by first | exact Or.inl c_149 | exact Or.inr (by omega), by first | exact Or.inl c_160 | exact Or.inr c_173, by first | exact Or.inl c_179 | exact Or.inr c_192, by first | exact Or.inl c_198 | exact Or.inr (by omega)⟩) ht
                  | exact p_op214 (r := false) hO1 hQ1 h0 hg1 (by
                      clear hg1
                      rw [eq_comm, decide_eq_false_iff_not]
                      intro h
                      first
                        | exact c_144 h.1
                        | exact h.2.1.elim (fun q => q c_149) (fun q => by omega)
                        | exact h.2.2.1.elim (fun q => q c_160) (fun q => c_173 q)
                        | exact h.2.2.2.1.elim (fun q => q c_179) (fun q => c_192 q)
                        | exact h.2.2.2.2.elim (fun q => q c_198) (fun q => by omega)) ht
              · skip
                rw [k_lit (by constructor <;> omega)] at c_198
                refine g_iload_n dX9_op_201 rfl ?_
                refine g_iload dX9_op_202 rfl ?_
                refine g_icmp_gt (tgt := 211) dX9_op_204 (by decide) (fun c_204 => ?_) (fun c_204 => ?_)
                · skip
                  try rw [bI_eq0, decide_eq_false_iff_not] at c_144
                  try rw [Int32.lt_iff_toInt_lt] at c_154
                  try rw [bI_eq0, decide_eq_false_iff_not] at c_173
                  try rw [bI_eq0, decide_eq_false_iff_not] at c_192
                  try rw [Int32.lt_iff_toInt_lt] at c_204
                  refine g_iconst (v := nI 0) dX9_op_211 rfl ?_
                  refine g_istore dX9_op_212 (Nat.le_of_ble_eq_true rfl) ?_
                  have z32 : (0 : Int32).toInt = 0 := rfl
                  first
                    | exact p_op214 (r := true) hO1 hQ1 h0 hg1 (by
                        clear hg1
                        rw [eq_comm, decide_eq_true_eq]
                        exact ⟨c_144, by first | exact Or.inl c_149 | exact Or.inr (by omega), by first | exact Or.inl c_160 | exact Or.inr c_173, by first | exact Or.inl c_179 | exact Or.inr c_192, by first | exact Or.inl c_198 | exact Or.inr (by omega)⟩) ht
                    | exact p_op214 (r := false) hO1 hQ1 h0 hg1 (by
                        clear hg1
                        rw [eq_comm, decide_eq_false_iff_not]
                        intro h
                        first
                          | exact c_144 h.1
                          | exact h.2.1.elim (fun q => q c_149) (fun q => by omega)
                          | exact h.2.2.1.elim (fun q => q c_160) (fun q => c_173 q)
                          | exact h.2.2.2.1.elim (fun q => q c_179) (fun q => c_192 q)
                          | exact h.2.2.2.2.elim (fun q => q c_198) (fun q => by omega)) ht
                · skip
                  try rw [k_lit (by constructor <;> omega)] at c_198
                  try rw [Int32.lt_iff_toInt_lt] at c_204
                  refine g_iconst (v := nI 1) dX9_op_207 rfl ?_
                  refine g_goto (tgt := 212) dX9_op_208 (by decide) ?_
                  refine g_istore dX9_op_212 (Nat.le_of_ble_eq_true rfl) ?_
                  have z32 : (0 : Int32).toInt = 0 := rfl
                  first
                    | exact p_op214 (r := true) hO1 hQ1 h0 hg1 (by
                        clear hg1
                        rw [eq_comm, decide_eq_true_eq]
                        exact ⟨c_144, by first | exact Or.inl c_149 | exact Or.inr (by omega), by first | exact Or.inl c_160 | exact Or.inr c_173, by first | exact Or.inl c_179 | exact Or.inr c_192, by first | exact Or.inl c_198 | exact Or.inr (by omega)⟩) ht
                    | exact p_op214 (r := false) hO1 hQ1 h0 hg1 (by
                        clear hg1
                        rw [eq_comm, decide_eq_false_iff_not]
                        intro h
                        first
                          | exact c_144 h.1
                          | exact h.2.1.elim (fun q => q c_149) (fun q => by omega)
                          | exact h.2.2.1.elim (fun q => q c_160) (fun q => c_173 q)
                          | exact h.2.2.2.1.elim (fun q => q c_179) (fun q => c_192 q)
                          | exact h.2.2.2.2.elim (fun q => q c_198) (fun q => by omega)) ht
            · skip
              rw [k_lit (by constructor <;> omega)] at c_179
              refine g_iload dX9_op_182 rfl ?_
              refine g_i2l dX9_op_184 ?_
              rw [i_j]
              refine g_lconst (v := jI 0) dX9_op_185 rfl ?_
              refine g_ldc2 (v := jI (2)) dX9_op_186 (iw_12 18 rfl) ?_
              refine g_callS dX9_op_189 sX9_isIn (m_isInZ M1 n c.toInt 0 2 (by constructor <;> omega) (by constructor <;> omega) (by constructor <;> omega)) tX9_isIn (iw_12 22 rfl) rfl rfl (Nat.le_of_ble_eq_true rfl) (Nat.le_of_ble_eq_true rfl) (Nat.le_of_ble_eq_true rfl) (Nat.le_of_ble_eq_true rfl) (Nat.le_of_ble_eq_true rfl) ?_
              intro r9 M9 n9 h9
              obtain ⟨h91, h92, h93⟩ := h9
              rw [h91, h92, h93]
              clear h91 h92 h93 r9 M9 n9
              refine g_if_eq (tgt := 211) dX9_op_192 (by decide) (fun c_192 => ?_) (fun c_192 => ?_)
              · skip
                try rw [bI_eq0, decide_eq_false_iff_not] at c_144
                try rw [Int32.lt_iff_toInt_lt] at c_154
                try rw [bI_eq0, decide_eq_false_iff_not] at c_173
                try rw [bI_eq0, decide_eq_false_iff_not] at c_192
                try rw [Int32.lt_iff_toInt_lt] at c_204
                refine g_iconst (v := nI 0) dX9_op_211 rfl ?_
                refine g_istore dX9_op_212 (Nat.le_of_ble_eq_true rfl) ?_
                have z32 : (0 : Int32).toInt = 0 := rfl
                first
                  | exact p_op214 (r := true) hO1 hQ1 h0 hg1 (by
                      clear hg1
                      rw [eq_comm, decide_eq_true_eq]
                      exact ⟨c_144, by first | exact Or.inl c_149 | exact Or.inr (by omega), by first | exact Or.inl c_160 | exact Or.inr c_173, by first | exact Or.inl c_179 | exact Or.inr c_192, by first | exact Or.inl c_198 | exact Or.inr (by omega)⟩) ht
                  | exact p_op214 (r := false) hO1 hQ1 h0 hg1 (by
                      clear hg1
                      rw [eq_comm, decide_eq_false_iff_not]
                      intro h
                      first
                        | exact c_144 h.1
                        | exact h.2.1.elim (fun q => q c_149) (fun q => by omega)
                        | exact h.2.2.1.elim (fun q => q c_160) (fun q => c_173 q)
                        | exact h.2.2.2.1.elim (fun q => q c_179) (fun q => c_192 q)
                        | exact h.2.2.2.2.elim (fun q => q c_198) (fun q => by omega)) ht
              · skip
                try rw [k_lit (by constructor <;> omega)] at c_179
                try rw [bI_eq0, decide_eq_false_iff_not, Classical.not_not] at c_192
                refine g_iload_n dX9_op_195 rfl ?_
                refine g_bipush (v := iZ 10) dX9_op_196 rfl ?_
                refine g_icmp_ne (tgt := 207) dX9_op_198 (by decide) (fun c_198 => ?_) (fun c_198 => ?_)
                · skip
                  try rw [k_lit (by constructor <;> omega)] at c_198
                  try rw [Int32.lt_iff_toInt_lt] at c_204
                  refine g_iconst (v := nI 1) dX9_op_207 rfl ?_
                  refine g_goto (tgt := 212) dX9_op_208 (by decide) ?_
                  refine g_istore dX9_op_212 (Nat.le_of_ble_eq_true rfl) ?_
                  have z32 : (0 : Int32).toInt = 0 := rfl
                  first
                    | exact p_op214 (r := true) hO1 hQ1 h0 hg1 (by
                        clear hg1
                        rw [eq_comm, decide_eq_true_eq]
                        exact ⟨c_144, by first | exact Or.inl c_149 | exact Or.inr (by omega), by first | exact Or.inl c_160 | exact Or.inr c_173, by first | exact Or.inl c_179 | exact Or.inr c_192, by first | exact Or.inl c_198 | exact Or.inr (by omega)⟩) ht
                    | exact p_op214 (r := false) hO1 hQ1 h0 hg1 (by
                        clear hg1
                        rw [eq_comm, decide_eq_false_iff_not]
                        intro h
                        first
                          | exact c_144 h.1
                          | exact h.2.1.elim (fun q => q c_149) (fun q => by omega)
                          | exact h.2.2.1.elim (fun q => q c_160) (fun q => c_173 q)
                          | exact h.2.2.2.1.elim (fun q => q c_179) (fun q => c_192 q)
                          | exact h.2.2.2.2.elim (fun q => q c_198) (fun q => by omega)) ht
                · skip
                  rw [k_lit (by constructor <;> omega)] at c_198
                  refine g_iload_n dX9_op_201 rfl ?_
                  refine g_iload dX9_op_202 rfl ?_
                  refine g_icmp_gt (tgt := 211) dX9_op_204 (by decide) (fun c_204 => ?_) (fun c_204 => ?_)
                  · skip
                    try rw [bI_eq0, decide_eq_false_iff_not] at c_144
                    try rw [Int32.lt_iff_toInt_lt] at c_154
                    try rw [bI_eq0, decide_eq_false_iff_not] at c_173
                    try rw [bI_eq0, decide_eq_false_iff_not] at c_192
                    try rw [Int32.lt_iff_toInt_lt] at c_204
                    refine g_iconst (v := nI 0) dX9_op_211 rfl ?_
                    refine g_istore dX9_op_212 (Nat.le_of_ble_eq_true rfl) ?_
                    have z32 : (0 : Int32).toInt = 0 := rfl
                    first
                      | exact p_op214 (r := true) hO1 hQ1 h0 hg1 (by
                          clear hg1
                          rw [eq_comm, decide_eq_true_eq]
                          exact ⟨c_144, by first | exact Or.inl c_149 | exact Or.inr (by omega), by first | exact Or.inl c_160 | exact Or.inr c_173, by first | exact Or.inl c_179 | exact Or.inr c_192, by first | exact Or.inl c_198 | exact Or.inr (by omega)⟩) ht
                      | exact p_op214 (r := false) hO1 hQ1 h0 hg1 (by
                          clear hg1
                          rw [eq_comm, decide_eq_false_iff_not]
                          intro h
                          first
                            | exact c_144 h.1
                            | exact h.2.1.elim (fun q => q c_149) (fun q => by omega)
                            | exact h.2.2.1.elim (fun q => q c_160) (fun q => c_173 q)
                            | exact h.2.2.2.1.elim (fun q => q c_179) (fun q => c_192 q)
                            | exact h.2.2.2.2.elim (fun q => q c_198) (fun q => by omega)) ht
                  · skip
                    try rw [k_lit (by constructor <;> omega)] at c_198
                    try rw [Int32.lt_iff_toInt_lt] at c_204
                    refine g_iconst (v := nI 1) dX9_op_207 rfl ?_
                    refine g_goto (tgt := 212) dX9_op_208 (by decide) ?_
                    refine g_istore dX9_op_212 (Nat.le_of_ble_eq_true rfl) ?_
                    have z32 : (0 : Int32).toInt = 0 := rfl
                    first
                      | exact p_op214 (r := true) hO1 hQ1 h0 hg1 (by
                          clear hg1
                          rw [eq_comm, decide_eq_true_eq]
                          exact ⟨c_144, by first | exact Or.inl c_149 | exact Or.inr (by omega), by first | exact Or.inl c_160 | exact Or.inr c_173, by first | exact Or.inl c_179 | exact Or.inr c_192, by first | exact Or.inl c_198 | exact Or.inr (by omega)⟩) ht
                      | exact p_op214 (r := false) hO1 hQ1 h0 hg1 (by
                          clear hg1
                          rw [eq_comm, decide_eq_false_iff_not]
                          intro h
                          first
                            | exact c_144 h.1
                            | exact h.2.1.elim (fun q => q c_149) (fun q => by omega)
                            | exact h.2.2.1.elim (fun q => q c_160) (fun q => c_173 q)
                            | exact h.2.2.2.1.elim (fun q => q c_179) (fun q => c_192 q)
                            | exact h.2.2.2.2.elim (fun q => q c_198) (fun q => by omega)) ht

set_option maxHeartbeats 4000000 in
set_option maxRecDepth 100000 in
theorem p_op87 {M M1 : gM} {n m : Nat} {σ : MS} {S : Nat → List Sp} {k a b c : Int32} (hO1 : Off M M1 (fX m)) (hQ1 : rQ M1 m σ S) (h0 : mI M1 m 0 = nI 0) {wb tb rb hb : Bool} (hw : wb = decide (opW k.toInt)) (ht : tb = decide (opT k.toInt)) (hrd : rb = decide (opD k.toInt)) (h3 : hb = decide (op3 k.toInt)) : GW μX9_op (gRm 2 45 0 0) (gTh (fun r M1 n1 => r = some (.int (nI (opZ σ k a b c).2)) ∧ n1 = n ∧ Off M M1 (fX m) ∧ rM M1 m (opS σ k a b c) ∧ mI M1 m 0 = nI (opZ σ k a b c).1) 0 0) 0 0 87 [some (.ref m), some (.int k), some (.int a), some (.int b), some (.int c), some (.int (bI wb)), some (.int (bI tb)), some (.int (bI rb)), some (.int (bI hb)), none] [] M1 n := by
  have hG := hQ1.1
  refine g_iload dX9_op_87 rfl ?_
  refine g_if_ne (tgt := 97) dX9_op_89 (by decide) (fun c_89 => ?_) (fun c_89 => ?_)
  · skip
    try rw [bI_eq0, hw, decide_eq_false_iff_not, Classical.not_not] at c_89
    try rw [bI_eq0, ht, decide_eq_false_iff_not, Classical.not_not] at c_94
    refine g_iload_n dX9_op_97 rfl ?_
    refine g_callS dX9_op_98 sX9_isPlace (m_isPlace M1 n a) tX9_isPlace (iw_13 1 rfl) rfl rfl (Nat.le_of_ble_eq_true rfl) (Nat.le_of_ble_eq_true rfl) (Nat.le_of_ble_eq_true rfl) (Nat.le_of_ble_eq_true rfl) (Nat.le_of_ble_eq_true rfl) ?_
    intro r9 M9 n9 h9
    obtain ⟨h91, h92, h93⟩ := h9
    rw [h91, h92, h93]
    clear h91 h92 h93 r9 M9 n9
    refine g_if_eq (tgt := 129) dX9_op_101 (by decide) (fun c_101 => ?_) (fun c_101 => ?_)
    · skip
      try rw [bI_eq0, decide_eq_false_iff_not] at c_101
      try rw [bI_eq0, decide_eq_false_iff_not] at c_113
      try rw [bI_eq0, decide_eq_false_iff_not] at c_126
      refine g_aload_n dX9_op_129 rfl ?_
      refine g_iconst (v := nI 1) dX9_op_130 rfl ?_
      refine g_callV dX9_op_131 sX9_fail (m_fail M1 n m (nI 1) hG.1) cl10 hG.1.1 iX9_fail vX9_fail (iw_13 5 rfl) rfl rfl (Nat.le_of_ble_eq_true rfl) (Nat.le_of_ble_eq_true rfl) (Nat.le_of_ble_eq_true rfl) (Nat.le_of_ble_eq_true rfl) (Nat.le_of_ble_eq_true rfl) ?_
      intro r9 M9 n9 h9
      obtain ⟨h91, h92, h93⟩ := h9
      rw [h91, h92, h93]
      clear h91 h92 h93 r9 M9 n9
      exact g_iret dX9_op_134 (Or.inl rfl) (Nat.le_of_ble_eq_true rfl) (Nat.le_of_ble_eq_true rfl) (by
        have e : opZ σ k a b c = (1, 0) := by
          unfold opZ
          rw [if_pos (by
            first
              | exact Or.inl ⟨Or.inl c_89, c_101⟩
              | exact Or.inl ⟨Or.inr c_94, c_101⟩
              | exact Or.inr (Or.inl ⟨c_106, c_113⟩)
              | exact Or.inr (Or.inr ⟨c_118, c_126⟩))]
        have e2 : opS σ k a b c = σ := by unfold opS; rw [e]; rfl
        exact ⟨by rw [e]; rfl, rfl, hO1.stI ⟨Nat.le_refl _, Nat.le_add_right _ _⟩, by rw [e2]; exact ⟨S, hQ1.thr _⟩, by rw [e, mI_st, if_pos ⟨rfl, rfl⟩]⟩)
    · skip
      try rw [bI_eq0, hw, decide_eq_false_iff_not] at c_89
      try rw [bI_eq0, ht, decide_eq_false_iff_not] at c_94
      try rw [bI_eq0, decide_eq_false_iff_not, Classical.not_not] at c_101
      refine g_iload dX9_op_104 rfl ?_
      refine g_if_eq (tgt := 116) dX9_op_106 (by decide) (fun c_106 => ?_) (fun c_106 => ?_)
      · skip
        try rw [bI_eq0, hrd, decide_eq_false_iff_not] at c_106
        try rw [bI_eq0, decide_eq_false_iff_not, Classical.not_not] at c_113
        refine g_iload dX9_op_116 rfl ?_
        refine g_if_eq (tgt := 135) dX9_op_118 (by decide) (fun c_118 => ?_) (fun c_118 => ?_)
        · skip
          try rw [bI_eq0, h3, decide_eq_false_iff_not] at c_118
          try rw [bI_eq0, decide_eq_false_iff_not, Classical.not_not] at c_126
          refine g_msk [true, true, true, true, true, false, true, false, false, false] ?_
          refine p_op135 hO1 hQ1 h0 (fun h => ?_) ht
          rcases h with ⟨h1, h2⟩ | ⟨h1, h2⟩ | ⟨h1, h2⟩
          · first
              | exact h2 c_101
              | exact h1.elim c_89 c_94
          · first
              | exact h2 c_113
              | exact c_106 h1
          · first
              | exact h2 c_126
              | exact c_118 h1
        · skip
          rw [bI_eq0, h3, decide_eq_false_iff_not, Classical.not_not] at c_118
          refine g_iload dX9_op_121 rfl ?_
          refine g_callS dX9_op_123 sX9_isPlace (m_isPlace M1 n c) tX9_isPlace (iw_13 1 rfl) rfl rfl (Nat.le_of_ble_eq_true rfl) (Nat.le_of_ble_eq_true rfl) (Nat.le_of_ble_eq_true rfl) (Nat.le_of_ble_eq_true rfl) (Nat.le_of_ble_eq_true rfl) ?_
          intro r9 M9 n9 h9
          obtain ⟨h91, h92, h93⟩ := h9
          rw [h91, h92, h93]
          clear h91 h92 h93 r9 M9 n9
          refine g_if_ne (tgt := 135) dX9_op_126 (by decide) (fun c_126 => ?_) (fun c_126 => ?_)
          · skip
            try rw [bI_eq0, h3, decide_eq_false_iff_not] at c_118
            try rw [bI_eq0, decide_eq_false_iff_not, Classical.not_not] at c_126
            refine g_msk [true, true, true, true, true, false, true, false, false, false] ?_
            refine p_op135 hO1 hQ1 h0 (fun h => ?_) ht
            rcases h with ⟨h1, h2⟩ | ⟨h1, h2⟩ | ⟨h1, h2⟩
            · first
                | exact h2 c_101
                | exact h1.elim c_89 c_94
            · first
                | exact h2 c_113
                | exact c_106 h1
            · first
                | exact h2 c_126
                | exact c_118 h1
          · skip
            try rw [bI_eq0, decide_eq_false_iff_not] at c_101
            try rw [bI_eq0, decide_eq_false_iff_not] at c_113
            try rw [bI_eq0, decide_eq_false_iff_not] at c_126
            refine g_aload_n dX9_op_129 rfl ?_
            refine g_iconst (v := nI 1) dX9_op_130 rfl ?_
            refine g_callV dX9_op_131 sX9_fail (m_fail M1 n m (nI 1) hG.1) cl10 hG.1.1 iX9_fail vX9_fail (iw_13 5 rfl) rfl rfl (Nat.le_of_ble_eq_true rfl) (Nat.le_of_ble_eq_true rfl) (Nat.le_of_ble_eq_true rfl) (Nat.le_of_ble_eq_true rfl) (Nat.le_of_ble_eq_true rfl) ?_
            intro r9 M9 n9 h9
            obtain ⟨h91, h92, h93⟩ := h9
            rw [h91, h92, h93]
            clear h91 h92 h93 r9 M9 n9
            exact g_iret dX9_op_134 (Or.inl rfl) (Nat.le_of_ble_eq_true rfl) (Nat.le_of_ble_eq_true rfl) (by
              have e : opZ σ k a b c = (1, 0) := by
                unfold opZ
                rw [if_pos (by
                  first
                    | exact Or.inl ⟨Or.inl c_89, c_101⟩
                    | exact Or.inl ⟨Or.inr c_94, c_101⟩
                    | exact Or.inr (Or.inl ⟨c_106, c_113⟩)
                    | exact Or.inr (Or.inr ⟨c_118, c_126⟩))]
              have e2 : opS σ k a b c = σ := by unfold opS; rw [e]; rfl
              exact ⟨by rw [e]; rfl, rfl, hO1.stI ⟨Nat.le_refl _, Nat.le_add_right _ _⟩, by rw [e2]; exact ⟨S, hQ1.thr _⟩, by rw [e, mI_st, if_pos ⟨rfl, rfl⟩]⟩)
      · skip
        rw [bI_eq0, hrd, decide_eq_false_iff_not, Classical.not_not] at c_106
        refine g_iload_n dX9_op_109 rfl ?_
        refine g_callS dX9_op_110 sX9_isPlace (m_isPlace M1 n b) tX9_isPlace (iw_13 1 rfl) rfl rfl (Nat.le_of_ble_eq_true rfl) (Nat.le_of_ble_eq_true rfl) (Nat.le_of_ble_eq_true rfl) (Nat.le_of_ble_eq_true rfl) (Nat.le_of_ble_eq_true rfl) ?_
        intro r9 M9 n9 h9
        obtain ⟨h91, h92, h93⟩ := h9
        rw [h91, h92, h93]
        clear h91 h92 h93 r9 M9 n9
        refine g_if_eq (tgt := 129) dX9_op_113 (by decide) (fun c_113 => ?_) (fun c_113 => ?_)
        · skip
          try rw [bI_eq0, decide_eq_false_iff_not] at c_101
          try rw [bI_eq0, decide_eq_false_iff_not] at c_113
          try rw [bI_eq0, decide_eq_false_iff_not] at c_126
          refine g_aload_n dX9_op_129 rfl ?_
          refine g_iconst (v := nI 1) dX9_op_130 rfl ?_
          refine g_callV dX9_op_131 sX9_fail (m_fail M1 n m (nI 1) hG.1) cl10 hG.1.1 iX9_fail vX9_fail (iw_13 5 rfl) rfl rfl (Nat.le_of_ble_eq_true rfl) (Nat.le_of_ble_eq_true rfl) (Nat.le_of_ble_eq_true rfl) (Nat.le_of_ble_eq_true rfl) (Nat.le_of_ble_eq_true rfl) ?_
          intro r9 M9 n9 h9
          obtain ⟨h91, h92, h93⟩ := h9
          rw [h91, h92, h93]
          clear h91 h92 h93 r9 M9 n9
          exact g_iret dX9_op_134 (Or.inl rfl) (Nat.le_of_ble_eq_true rfl) (Nat.le_of_ble_eq_true rfl) (by
            have e : opZ σ k a b c = (1, 0) := by
              unfold opZ
              rw [if_pos (by
                first
                  | exact Or.inl ⟨Or.inl c_89, c_101⟩
                  | exact Or.inl ⟨Or.inr c_94, c_101⟩
                  | exact Or.inr (Or.inl ⟨c_106, c_113⟩)
                  | exact Or.inr (Or.inr ⟨c_118, c_126⟩))]
            have e2 : opS σ k a b c = σ := by unfold opS; rw [e]; rfl
            exact ⟨by rw [e]; rfl, rfl, hO1.stI ⟨Nat.le_refl _, Nat.le_add_right _ _⟩, by rw [e2]; exact ⟨S, hQ1.thr _⟩, by rw [e, mI_st, if_pos ⟨rfl, rfl⟩]⟩)
        · skip
          try rw [bI_eq0, hrd, decide_eq_false_iff_not] at c_106
          try rw [bI_eq0, decide_eq_false_iff_not, Classical.not_not] at c_113
          refine g_iload dX9_op_116 rfl ?_
          refine g_if_eq (tgt := 135) dX9_op_118 (by decide) (fun c_118 => ?_) (fun c_118 => ?_)
          · skip
            try rw [bI_eq0, h3, decide_eq_false_iff_not] at c_118
            try rw [bI_eq0, decide_eq_false_iff_not, Classical.not_not] at c_126
            refine g_msk [true, true, true, true, true, false, true, false, false, false] ?_
            refine p_op135 hO1 hQ1 h0 (fun h => ?_) ht
            rcases h with ⟨h1, h2⟩ | ⟨h1, h2⟩ | ⟨h1, h2⟩
            · first
                | exact h2 c_101
                | exact h1.elim c_89 c_94
            · first
                | exact h2 c_113
                | exact c_106 h1
            · first
                | exact h2 c_126
                | exact c_118 h1
          · skip
            rw [bI_eq0, h3, decide_eq_false_iff_not, Classical.not_not] at c_118
            refine g_iload dX9_op_121 rfl ?_
            refine g_callS dX9_op_123 sX9_isPlace (m_isPlace M1 n c) tX9_isPlace (iw_13 1 rfl) rfl rfl (Nat.le_of_ble_eq_true rfl) (Nat.le_of_ble_eq_true rfl) (Nat.le_of_ble_eq_true rfl) (Nat.le_of_ble_eq_true rfl) (Nat.le_of_ble_eq_true rfl) ?_
            intro r9 M9 n9 h9
            obtain ⟨h91, h92, h93⟩ := h9
            rw [h91, h92, h93]
            clear h91 h92 h93 r9 M9 n9
            refine g_if_ne (tgt := 135) dX9_op_126 (by decide) (fun c_126 => ?_) (fun c_126 => ?_)
            · skip
              try rw [bI_eq0, h3, decide_eq_false_iff_not] at c_118
              try rw [bI_eq0, decide_eq_false_iff_not, Classical.not_not] at c_126
              refine g_msk [true, true, true, true, true, false, true, false, false, false] ?_
              refine p_op135 hO1 hQ1 h0 (fun h => ?_) ht
              rcases h with ⟨h1, h2⟩ | ⟨h1, h2⟩ | ⟨h1, h2⟩
              · first
                  | exact h2 c_101
                  | exact h1.elim c_89 c_94
              · first
                  | exact h2 c_113
                  | exact c_106 h1
              · first
                  | exact h2 c_126
                  | exact c_118 h1
            · skip
              try rw [bI_eq0, decide_eq_false_iff_not] at c_101
              try rw [bI_eq0, decide_eq_false_iff_not] at c_113
              try rw [bI_eq0, decide_eq_false_iff_not] at c_126
              refine g_aload_n dX9_op_129 rfl ?_
              refine g_iconst (v := nI 1) dX9_op_130 rfl ?_
              refine g_callV dX9_op_131 sX9_fail (m_fail M1 n m (nI 1) hG.1) cl10 hG.1.1 iX9_fail vX9_fail (iw_13 5 rfl) rfl rfl (Nat.le_of_ble_eq_true rfl) (Nat.le_of_ble_eq_true rfl) (Nat.le_of_ble_eq_true rfl) (Nat.le_of_ble_eq_true rfl) (Nat.le_of_ble_eq_true rfl) ?_
              intro r9 M9 n9 h9
              obtain ⟨h91, h92, h93⟩ := h9
              rw [h91, h92, h93]
              clear h91 h92 h93 r9 M9 n9
              exact g_iret dX9_op_134 (Or.inl rfl) (Nat.le_of_ble_eq_true rfl) (Nat.le_of_ble_eq_true rfl) (by
                have e : opZ σ k a b c = (1, 0) := by
                  unfold opZ
                  rw [if_pos (by
                    first
                      | exact Or.inl ⟨Or.inl c_89, c_101⟩
                      | exact Or.inl ⟨Or.inr c_94, c_101⟩
                      | exact Or.inr (Or.inl ⟨c_106, c_113⟩)
                      | exact Or.inr (Or.inr ⟨c_118, c_126⟩))]
                have e2 : opS σ k a b c = σ := by unfold opS; rw [e]; rfl
                exact ⟨by rw [e]; rfl, rfl, hO1.stI ⟨Nat.le_refl _, Nat.le_add_right _ _⟩, by rw [e2]; exact ⟨S, hQ1.thr _⟩, by rw [e, mI_st, if_pos ⟨rfl, rfl⟩]⟩)
  · skip
    refine g_iload dX9_op_92 rfl ?_
    refine g_if_eq (tgt := 104) dX9_op_94 (by decide) (fun c_94 => ?_) (fun c_94 => ?_)
    · skip
      try rw [bI_eq0, hw, decide_eq_false_iff_not] at c_89
      try rw [bI_eq0, ht, decide_eq_false_iff_not] at c_94
      try rw [bI_eq0, decide_eq_false_iff_not, Classical.not_not] at c_101
      refine g_iload dX9_op_104 rfl ?_
      refine g_if_eq (tgt := 116) dX9_op_106 (by decide) (fun c_106 => ?_) (fun c_106 => ?_)
      · skip
        try rw [bI_eq0, hrd, decide_eq_false_iff_not] at c_106
        try rw [bI_eq0, decide_eq_false_iff_not, Classical.not_not] at c_113
        refine g_iload dX9_op_116 rfl ?_
        refine g_if_eq (tgt := 135) dX9_op_118 (by decide) (fun c_118 => ?_) (fun c_118 => ?_)
        · skip
          try rw [bI_eq0, h3, decide_eq_false_iff_not] at c_118
          try rw [bI_eq0, decide_eq_false_iff_not, Classical.not_not] at c_126
          refine g_msk [true, true, true, true, true, false, true, false, false, false] ?_
          refine p_op135 hO1 hQ1 h0 (fun h => ?_) ht
          rcases h with ⟨h1, h2⟩ | ⟨h1, h2⟩ | ⟨h1, h2⟩
          · first
              | exact h2 c_101
              | exact h1.elim c_89 c_94
          · first
              | exact h2 c_113
              | exact c_106 h1
          · first
              | exact h2 c_126
              | exact c_118 h1
        · skip
          rw [bI_eq0, h3, decide_eq_false_iff_not, Classical.not_not] at c_118
          refine g_iload dX9_op_121 rfl ?_
          refine g_callS dX9_op_123 sX9_isPlace (m_isPlace M1 n c) tX9_isPlace (iw_13 1 rfl) rfl rfl (Nat.le_of_ble_eq_true rfl) (Nat.le_of_ble_eq_true rfl) (Nat.le_of_ble_eq_true rfl) (Nat.le_of_ble_eq_true rfl) (Nat.le_of_ble_eq_true rfl) ?_
          intro r9 M9 n9 h9
          obtain ⟨h91, h92, h93⟩ := h9
          rw [h91, h92, h93]
          clear h91 h92 h93 r9 M9 n9
          refine g_if_ne (tgt := 135) dX9_op_126 (by decide) (fun c_126 => ?_) (fun c_126 => ?_)
          · skip
            try rw [bI_eq0, h3, decide_eq_false_iff_not] at c_118
            try rw [bI_eq0, decide_eq_false_iff_not, Classical.not_not] at c_126
            refine g_msk [true, true, true, true, true, false, true, false, false, false] ?_
            refine p_op135 hO1 hQ1 h0 (fun h => ?_) ht
            rcases h with ⟨h1, h2⟩ | ⟨h1, h2⟩ | ⟨h1, h2⟩
            · first
                | exact h2 c_101
                | exact h1.elim c_89 c_94
            · first
                | exact h2 c_113
                | exact c_106 h1
            · first
                | exact h2 c_126
                | exact c_118 h1
          · skip
            try rw [bI_eq0, decide_eq_false_iff_not] at c_101
            try rw [bI_eq0, decide_eq_false_iff_not] at c_113
            try rw [bI_eq0, decide_eq_false_iff_not] at c_126
            refine g_aload_n dX9_op_129 rfl ?_
            refine g_iconst (v := nI 1) dX9_op_130 rfl ?_
            refine g_callV dX9_op_131 sX9_fail (m_fail M1 n m (nI 1) hG.1) cl10 hG.1.1 iX9_fail vX9_fail (iw_13 5 rfl) rfl rfl (Nat.le_of_ble_eq_true rfl) (Nat.le_of_ble_eq_true rfl) (Nat.le_of_ble_eq_true rfl) (Nat.le_of_ble_eq_true rfl) (Nat.le_of_ble_eq_true rfl) ?_
            intro r9 M9 n9 h9
            obtain ⟨h91, h92, h93⟩ := h9
            rw [h91, h92, h93]
            clear h91 h92 h93 r9 M9 n9
            exact g_iret dX9_op_134 (Or.inl rfl) (Nat.le_of_ble_eq_true rfl) (Nat.le_of_ble_eq_true rfl) (by
              have e : opZ σ k a b c = (1, 0) := by
                unfold opZ
                rw [if_pos (by
                  first
                    | exact Or.inl ⟨Or.inl c_89, c_101⟩
                    | exact Or.inl ⟨Or.inr c_94, c_101⟩
                    | exact Or.inr (Or.inl ⟨c_106, c_113⟩)
                    | exact Or.inr (Or.inr ⟨c_118, c_126⟩))]
              have e2 : opS σ k a b c = σ := by unfold opS; rw [e]; rfl
              exact ⟨by rw [e]; rfl, rfl, hO1.stI ⟨Nat.le_refl _, Nat.le_add_right _ _⟩, by rw [e2]; exact ⟨S, hQ1.thr _⟩, by rw [e, mI_st, if_pos ⟨rfl, rfl⟩]⟩)
      · skip
        rw [bI_eq0, hrd, decide_eq_false_iff_not, Classical.not_not] at c_106
        refine g_iload_n dX9_op_109 rfl ?_
        refine g_callS dX9_op_110 sX9_isPlace (m_isPlace M1 n b) tX9_isPlace (iw_13 1 rfl) rfl rfl (Nat.le_of_ble_eq_true rfl) (Nat.le_of_ble_eq_true rfl) (Nat.le_of_ble_eq_true rfl) (Nat.le_of_ble_eq_true rfl) (Nat.le_of_ble_eq_true rfl) ?_
        intro r9 M9 n9 h9
        obtain ⟨h91, h92, h93⟩ := h9
        rw [h91, h92, h93]
        clear h91 h92 h93 r9 M9 n9
        refine g_if_eq (tgt := 129) dX9_op_113 (by decide) (fun c_113 => ?_) (fun c_113 => ?_)
        · skip
          try rw [bI_eq0, decide_eq_false_iff_not] at c_101
          try rw [bI_eq0, decide_eq_false_iff_not] at c_113
          try rw [bI_eq0, decide_eq_false_iff_not] at c_126
          refine g_aload_n dX9_op_129 rfl ?_
          refine g_iconst (v := nI 1) dX9_op_130 rfl ?_
          refine g_callV dX9_op_131 sX9_fail (m_fail M1 n m (nI 1) hG.1) cl10 hG.1.1 iX9_fail vX9_fail (iw_13 5 rfl) rfl rfl (Nat.le_of_ble_eq_true rfl) (Nat.le_of_ble_eq_true rfl) (Nat.le_of_ble_eq_true rfl) (Nat.le_of_ble_eq_true rfl) (Nat.le_of_ble_eq_true rfl) ?_
          intro r9 M9 n9 h9
          obtain ⟨h91, h92, h93⟩ := h9
          rw [h91, h92, h93]
          clear h91 h92 h93 r9 M9 n9
          exact g_iret dX9_op_134 (Or.inl rfl) (Nat.le_of_ble_eq_true rfl) (Nat.le_of_ble_eq_true rfl) (by
            have e : opZ σ k a b c = (1, 0) := by
              unfold opZ
              rw [if_pos (by
                first
                  | exact Or.inl ⟨Or.inl c_89, c_101⟩
                  | exact Or.inl ⟨Or.inr c_94, c_101⟩
                  | exact Or.inr (Or.inl ⟨c_106, c_113⟩)
                  | exact Or.inr (Or.inr ⟨c_118, c_126⟩))]
            have e2 : opS σ k a b c = σ := by unfold opS; rw [e]; rfl
            exact ⟨by rw [e]; rfl, rfl, hO1.stI ⟨Nat.le_refl _, Nat.le_add_right _ _⟩, by rw [e2]; exact ⟨S, hQ1.thr _⟩, by rw [e, mI_st, if_pos ⟨rfl, rfl⟩]⟩)
        · skip
          try rw [bI_eq0, hrd, decide_eq_false_iff_not] at c_106
          try rw [bI_eq0, decide_eq_false_iff_not, Classical.not_not] at c_113
          refine g_iload dX9_op_116 rfl ?_
          refine g_if_eq (tgt := 135) dX9_op_118 (by decide) (fun c_118 => ?_) (fun c_118 => ?_)
          · skip
            try rw [bI_eq0, h3, decide_eq_false_iff_not] at c_118
            try rw [bI_eq0, decide_eq_false_iff_not, Classical.not_not] at c_126
            refine g_msk [true, true, true, true, true, false, true, false, false, false] ?_
            refine p_op135 hO1 hQ1 h0 (fun h => ?_) ht
            rcases h with ⟨h1, h2⟩ | ⟨h1, h2⟩ | ⟨h1, h2⟩
            · first
                | exact h2 c_101
                | exact h1.elim c_89 c_94
            · first
                | exact h2 c_113
                | exact c_106 h1
            · first
                | exact h2 c_126
                | exact c_118 h1
          · skip
            rw [bI_eq0, h3, decide_eq_false_iff_not, Classical.not_not] at c_118
            refine g_iload dX9_op_121 rfl ?_
            refine g_callS dX9_op_123 sX9_isPlace (m_isPlace M1 n c) tX9_isPlace (iw_13 1 rfl) rfl rfl (Nat.le_of_ble_eq_true rfl) (Nat.le_of_ble_eq_true rfl) (Nat.le_of_ble_eq_true rfl) (Nat.le_of_ble_eq_true rfl) (Nat.le_of_ble_eq_true rfl) ?_
            intro r9 M9 n9 h9
            obtain ⟨h91, h92, h93⟩ := h9
            rw [h91, h92, h93]
            clear h91 h92 h93 r9 M9 n9
            refine g_if_ne (tgt := 135) dX9_op_126 (by decide) (fun c_126 => ?_) (fun c_126 => ?_)
            · skip
              try rw [bI_eq0, h3, decide_eq_false_iff_not] at c_118
              try rw [bI_eq0, decide_eq_false_iff_not, Classical.not_not] at c_126
              refine g_msk [true, true, true, true, true, false, true, false, false, false] ?_
              refine p_op135 hO1 hQ1 h0 (fun h => ?_) ht
              rcases h with ⟨h1, h2⟩ | ⟨h1, h2⟩ | ⟨h1, h2⟩
              · first
                  | exact h2 c_101
                  | exact h1.elim c_89 c_94
              · first
                  | exact h2 c_113
                  | exact c_106 h1
              · first
                  | exact h2 c_126
                  | exact c_118 h1
            · skip
              try rw [bI_eq0, decide_eq_false_iff_not] at c_101
              try rw [bI_eq0, decide_eq_false_iff_not] at c_113
              try rw [bI_eq0, decide_eq_false_iff_not] at c_126
              refine g_aload_n dX9_op_129 rfl ?_
              refine g_iconst (v := nI 1) dX9_op_130 rfl ?_
              refine g_callV dX9_op_131 sX9_fail (m_fail M1 n m (nI 1) hG.1) cl10 hG.1.1 iX9_fail vX9_fail (iw_13 5 rfl) rfl rfl (Nat.le_of_ble_eq_true rfl) (Nat.le_of_ble_eq_true rfl) (Nat.le_of_ble_eq_true rfl) (Nat.le_of_ble_eq_true rfl) (Nat.le_of_ble_eq_true rfl) ?_
              intro r9 M9 n9 h9
              obtain ⟨h91, h92, h93⟩ := h9
              rw [h91, h92, h93]
              clear h91 h92 h93 r9 M9 n9
              exact g_iret dX9_op_134 (Or.inl rfl) (Nat.le_of_ble_eq_true rfl) (Nat.le_of_ble_eq_true rfl) (by
                have e : opZ σ k a b c = (1, 0) := by
                  unfold opZ
                  rw [if_pos (by
                    first
                      | exact Or.inl ⟨Or.inl c_89, c_101⟩
                      | exact Or.inl ⟨Or.inr c_94, c_101⟩
                      | exact Or.inr (Or.inl ⟨c_106, c_113⟩)
                      | exact Or.inr (Or.inr ⟨c_118, c_126⟩))]
                have e2 : opS σ k a b c = σ := by unfold opS; rw [e]; rfl
                exact ⟨by rw [e]; rfl, rfl, hO1.stI ⟨Nat.le_refl _, Nat.le_add_right _ _⟩, by rw [e2]; exact ⟨S, hQ1.thr _⟩, by rw [e, mI_st, if_pos ⟨rfl, rfl⟩]⟩)
    · skip
      try rw [bI_eq0, hw, decide_eq_false_iff_not, Classical.not_not] at c_89
      try rw [bI_eq0, ht, decide_eq_false_iff_not, Classical.not_not] at c_94
      refine g_iload_n dX9_op_97 rfl ?_
      refine g_callS dX9_op_98 sX9_isPlace (m_isPlace M1 n a) tX9_isPlace (iw_13 1 rfl) rfl rfl (Nat.le_of_ble_eq_true rfl) (Nat.le_of_ble_eq_true rfl) (Nat.le_of_ble_eq_true rfl) (Nat.le_of_ble_eq_true rfl) (Nat.le_of_ble_eq_true rfl) ?_
      intro r9 M9 n9 h9
      obtain ⟨h91, h92, h93⟩ := h9
      rw [h91, h92, h93]
      clear h91 h92 h93 r9 M9 n9
      refine g_if_eq (tgt := 129) dX9_op_101 (by decide) (fun c_101 => ?_) (fun c_101 => ?_)
      · skip
        try rw [bI_eq0, decide_eq_false_iff_not] at c_101
        try rw [bI_eq0, decide_eq_false_iff_not] at c_113
        try rw [bI_eq0, decide_eq_false_iff_not] at c_126
        refine g_aload_n dX9_op_129 rfl ?_
        refine g_iconst (v := nI 1) dX9_op_130 rfl ?_
        refine g_callV dX9_op_131 sX9_fail (m_fail M1 n m (nI 1) hG.1) cl10 hG.1.1 iX9_fail vX9_fail (iw_13 5 rfl) rfl rfl (Nat.le_of_ble_eq_true rfl) (Nat.le_of_ble_eq_true rfl) (Nat.le_of_ble_eq_true rfl) (Nat.le_of_ble_eq_true rfl) (Nat.le_of_ble_eq_true rfl) ?_
        intro r9 M9 n9 h9
        obtain ⟨h91, h92, h93⟩ := h9
        rw [h91, h92, h93]
        clear h91 h92 h93 r9 M9 n9
        exact g_iret dX9_op_134 (Or.inl rfl) (Nat.le_of_ble_eq_true rfl) (Nat.le_of_ble_eq_true rfl) (by
          have e : opZ σ k a b c = (1, 0) := by
            unfold opZ
            rw [if_pos (by
              first
                | exact Or.inl ⟨Or.inl c_89, c_101⟩
                | exact Or.inl ⟨Or.inr c_94, c_101⟩
                | exact Or.inr (Or.inl ⟨c_106, c_113⟩)
                | exact Or.inr (Or.inr ⟨c_118, c_126⟩))]
          have e2 : opS σ k a b c = σ := by unfold opS; rw [e]; rfl
          exact ⟨by rw [e]; rfl, rfl, hO1.stI ⟨Nat.le_refl _, Nat.le_add_right _ _⟩, by rw [e2]; exact ⟨S, hQ1.thr _⟩, by rw [e, mI_st, if_pos ⟨rfl, rfl⟩]⟩)
      · skip
        try rw [bI_eq0, hw, decide_eq_false_iff_not] at c_89
        try rw [bI_eq0, ht, decide_eq_false_iff_not] at c_94
        try rw [bI_eq0, decide_eq_false_iff_not, Classical.not_not] at c_101
        refine g_iload dX9_op_104 rfl ?_
        refine g_if_eq (tgt := 116) dX9_op_106 (by decide) (fun c_106 => ?_) (fun c_106 => ?_)
        · skip
          try rw [bI_eq0, hrd, decide_eq_false_iff_not] at c_106
          try rw [bI_eq0, decide_eq_false_iff_not, Classical.not_not] at c_113
          refine g_iload dX9_op_116 rfl ?_
          refine g_if_eq (tgt := 135) dX9_op_118 (by decide) (fun c_118 => ?_) (fun c_118 => ?_)
          · skip
            try rw [bI_eq0, h3, decide_eq_false_iff_not] at c_118
            try rw [bI_eq0, decide_eq_false_iff_not, Classical.not_not] at c_126
            refine g_msk [true, true, true, true, true, false, true, false, false, false] ?_
            refine p_op135 hO1 hQ1 h0 (fun h => ?_) ht
            rcases h with ⟨h1, h2⟩ | ⟨h1, h2⟩ | ⟨h1, h2⟩
            · first
                | exact h2 c_101
                | exact h1.elim c_89 c_94
            · first
                | exact h2 c_113
                | exact c_106 h1
            · first
                | exact h2 c_126
                | exact c_118 h1
          · skip
            rw [bI_eq0, h3, decide_eq_false_iff_not, Classical.not_not] at c_118
            refine g_iload dX9_op_121 rfl ?_
            refine g_callS dX9_op_123 sX9_isPlace (m_isPlace M1 n c) tX9_isPlace (iw_13 1 rfl) rfl rfl (Nat.le_of_ble_eq_true rfl) (Nat.le_of_ble_eq_true rfl) (Nat.le_of_ble_eq_true rfl) (Nat.le_of_ble_eq_true rfl) (Nat.le_of_ble_eq_true rfl) ?_
            intro r9 M9 n9 h9
            obtain ⟨h91, h92, h93⟩ := h9
            rw [h91, h92, h93]
            clear h91 h92 h93 r9 M9 n9
            refine g_if_ne (tgt := 135) dX9_op_126 (by decide) (fun c_126 => ?_) (fun c_126 => ?_)
            · skip
              try rw [bI_eq0, h3, decide_eq_false_iff_not] at c_118
              try rw [bI_eq0, decide_eq_false_iff_not, Classical.not_not] at c_126
              refine g_msk [true, true, true, true, true, false, true, false, false, false] ?_
              refine p_op135 hO1 hQ1 h0 (fun h => ?_) ht
              rcases h with ⟨h1, h2⟩ | ⟨h1, h2⟩ | ⟨h1, h2⟩
              · first
                  | exact h2 c_101
                  | exact h1.elim c_89 c_94
              · first
                  | exact h2 c_113
                  | exact c_106 h1
              · first
                  | exact h2 c_126
                  | exact c_118 h1
            · skip
              try rw [bI_eq0, decide_eq_false_iff_not] at c_101
              try rw [bI_eq0, decide_eq_false_iff_not] at c_113
              try rw [bI_eq0, decide_eq_false_iff_not] at c_126
              refine g_aload_n dX9_op_129 rfl ?_
              refine g_iconst (v := nI 1) dX9_op_130 rfl ?_
              refine g_callV dX9_op_131 sX9_fail (m_fail M1 n m (nI 1) hG.1) cl10 hG.1.1 iX9_fail vX9_fail (iw_13 5 rfl) rfl rfl (Nat.le_of_ble_eq_true rfl) (Nat.le_of_ble_eq_true rfl) (Nat.le_of_ble_eq_true rfl) (Nat.le_of_ble_eq_true rfl) (Nat.le_of_ble_eq_true rfl) ?_
              intro r9 M9 n9 h9
              obtain ⟨h91, h92, h93⟩ := h9
              rw [h91, h92, h93]
              clear h91 h92 h93 r9 M9 n9
              exact g_iret dX9_op_134 (Or.inl rfl) (Nat.le_of_ble_eq_true rfl) (Nat.le_of_ble_eq_true rfl) (by
                have e : opZ σ k a b c = (1, 0) := by
                  unfold opZ
                  rw [if_pos (by
                    first
                      | exact Or.inl ⟨Or.inl c_89, c_101⟩
                      | exact Or.inl ⟨Or.inr c_94, c_101⟩
                      | exact Or.inr (Or.inl ⟨c_106, c_113⟩)
                      | exact Or.inr (Or.inr ⟨c_118, c_126⟩))]
                have e2 : opS σ k a b c = σ := by unfold opS; rw [e]; rfl
                exact ⟨by rw [e]; rfl, rfl, hO1.stI ⟨Nat.le_refl _, Nat.le_add_right _ _⟩, by rw [e2]; exact ⟨S, hQ1.thr _⟩, by rw [e, mI_st, if_pos ⟨rfl, rfl⟩]⟩)
        · skip
          rw [bI_eq0, hrd, decide_eq_false_iff_not, Classical.not_not] at c_106
          refine g_iload_n dX9_op_109 rfl ?_
          refine g_callS dX9_op_110 sX9_isPlace (m_isPlace M1 n b) tX9_isPlace (iw_13 1 rfl) rfl rfl (Nat.le_of_ble_eq_true rfl) (Nat.le_of_ble_eq_true rfl) (Nat.le_of_ble_eq_true rfl) (Nat.le_of_ble_eq_true rfl) (Nat.le_of_ble_eq_true rfl) ?_
          intro r9 M9 n9 h9
          obtain ⟨h91, h92, h93⟩ := h9
          rw [h91, h92, h93]
          clear h91 h92 h93 r9 M9 n9
          refine g_if_eq (tgt := 129) dX9_op_113 (by decide) (fun c_113 => ?_) (fun c_113 => ?_)
          · skip
            try rw [bI_eq0, decide_eq_false_iff_not] at c_101
            try rw [bI_eq0, decide_eq_false_iff_not] at c_113
            try rw [bI_eq0, decide_eq_false_iff_not] at c_126
            refine g_aload_n dX9_op_129 rfl ?_
            refine g_iconst (v := nI 1) dX9_op_130 rfl ?_
            refine g_callV dX9_op_131 sX9_fail (m_fail M1 n m (nI 1) hG.1) cl10 hG.1.1 iX9_fail vX9_fail (iw_13 5 rfl) rfl rfl (Nat.le_of_ble_eq_true rfl) (Nat.le_of_ble_eq_true rfl) (Nat.le_of_ble_eq_true rfl) (Nat.le_of_ble_eq_true rfl) (Nat.le_of_ble_eq_true rfl) ?_
            intro r9 M9 n9 h9
            obtain ⟨h91, h92, h93⟩ := h9
            rw [h91, h92, h93]
            clear h91 h92 h93 r9 M9 n9
            exact g_iret dX9_op_134 (Or.inl rfl) (Nat.le_of_ble_eq_true rfl) (Nat.le_of_ble_eq_true rfl) (by
              have e : opZ σ k a b c = (1, 0) := by
                unfold opZ
                rw [if_pos (by
                  first
                    | exact Or.inl ⟨Or.inl c_89, c_101⟩
                    | exact Or.inl ⟨Or.inr c_94, c_101⟩
                    | exact Or.inr (Or.inl ⟨c_106, c_113⟩)
                    | exact Or.inr (Or.inr ⟨c_118, c_126⟩))]
              have e2 : opS σ k a b c = σ := by unfold opS; rw [e]; rfl
              exact ⟨by rw [e]; rfl, rfl, hO1.stI ⟨Nat.le_refl _, Nat.le_add_right _ _⟩, by rw [e2]; exact ⟨S, hQ1.thr _⟩, by rw [e, mI_st, if_pos ⟨rfl, rfl⟩]⟩)
          · skip
            try rw [bI_eq0, hrd, decide_eq_false_iff_not] at c_106
            try rw [bI_eq0, decide_eq_false_iff_not, Classical.not_not] at c_113
            refine g_iload dX9_op_116 rfl ?_
            refine g_if_eq (tgt := 135) dX9_op_118 (by decide) (fun c_118 => ?_) (fun c_118 => ?_)
            · skip
              try rw [bI_eq0, h3, decide_eq_false_iff_not] at c_118
              try rw [bI_eq0, decide_eq_false_iff_not, Classical.not_not] at c_126
              refine g_msk [true, true, true, true, true, false, true, false, false, false] ?_
              refine p_op135 hO1 hQ1 h0 (fun h => ?_) ht
              rcases h with ⟨h1, h2⟩ | ⟨h1, h2⟩ | ⟨h1, h2⟩
              · first
                  | exact h2 c_101
                  | exact h1.elim c_89 c_94
              · first
                  | exact h2 c_113
                  | exact c_106 h1
              · first
                  | exact h2 c_126
                  | exact c_118 h1
            · skip
              rw [bI_eq0, h3, decide_eq_false_iff_not, Classical.not_not] at c_118
              refine g_iload dX9_op_121 rfl ?_
              refine g_callS dX9_op_123 sX9_isPlace (m_isPlace M1 n c) tX9_isPlace (iw_13 1 rfl) rfl rfl (Nat.le_of_ble_eq_true rfl) (Nat.le_of_ble_eq_true rfl) (Nat.le_of_ble_eq_true rfl) (Nat.le_of_ble_eq_true rfl) (Nat.le_of_ble_eq_true rfl) ?_
              intro r9 M9 n9 h9
              obtain ⟨h91, h92, h93⟩ := h9
              rw [h91, h92, h93]
              clear h91 h92 h93 r9 M9 n9
              refine g_if_ne (tgt := 135) dX9_op_126 (by decide) (fun c_126 => ?_) (fun c_126 => ?_)
              · skip
                try rw [bI_eq0, h3, decide_eq_false_iff_not] at c_118
                try rw [bI_eq0, decide_eq_false_iff_not, Classical.not_not] at c_126
                refine g_msk [true, true, true, true, true, false, true, false, false, false] ?_
                refine p_op135 hO1 hQ1 h0 (fun h => ?_) ht
                rcases h with ⟨h1, h2⟩ | ⟨h1, h2⟩ | ⟨h1, h2⟩
                · first
                    | exact h2 c_101
                    | exact h1.elim c_89 c_94
                · first
                    | exact h2 c_113
                    | exact c_106 h1
                · first
                    | exact h2 c_126
                    | exact c_118 h1
              · skip
                try rw [bI_eq0, decide_eq_false_iff_not] at c_101
                try rw [bI_eq0, decide_eq_false_iff_not] at c_113
                try rw [bI_eq0, decide_eq_false_iff_not] at c_126
                refine g_aload_n dX9_op_129 rfl ?_
                refine g_iconst (v := nI 1) dX9_op_130 rfl ?_
                refine g_callV dX9_op_131 sX9_fail (m_fail M1 n m (nI 1) hG.1) cl10 hG.1.1 iX9_fail vX9_fail (iw_13 5 rfl) rfl rfl (Nat.le_of_ble_eq_true rfl) (Nat.le_of_ble_eq_true rfl) (Nat.le_of_ble_eq_true rfl) (Nat.le_of_ble_eq_true rfl) (Nat.le_of_ble_eq_true rfl) ?_
                intro r9 M9 n9 h9
                obtain ⟨h91, h92, h93⟩ := h9
                rw [h91, h92, h93]
                clear h91 h92 h93 r9 M9 n9
                exact g_iret dX9_op_134 (Or.inl rfl) (Nat.le_of_ble_eq_true rfl) (Nat.le_of_ble_eq_true rfl) (by
                  have e : opZ σ k a b c = (1, 0) := by
                    unfold opZ
                    rw [if_pos (by
                      first
                        | exact Or.inl ⟨Or.inl c_89, c_101⟩
                        | exact Or.inl ⟨Or.inr c_94, c_101⟩
                        | exact Or.inr (Or.inl ⟨c_106, c_113⟩)
                        | exact Or.inr (Or.inr ⟨c_118, c_126⟩))]
                  have e2 : opS σ k a b c = σ := by unfold opS; rw [e]; rfl
                  exact ⟨by rw [e]; rfl, rfl, hO1.stI ⟨Nat.le_refl _, Nat.le_add_right _ _⟩, by rw [e2]; exact ⟨S, hQ1.thr _⟩, by rw [e, mI_st, if_pos ⟨rfl, rfl⟩]⟩)

set_option maxHeartbeats 4000000 in
set_option maxRecDepth 100000 in
theorem p_op53 {M M1 : gM} {n m : Nat} {σ : MS} {S : Nat → List Sp} {k a b c : Int32} (hO1 : Off M M1 (fX m)) (hQ1 : rQ M1 m σ S) (h0 : mI M1 m 0 = nI 0) {wb tb rb : Bool} (hw : wb = decide (opW k.toInt)) (ht : tb = decide (opT k.toInt)) (hrd : rb = decide (opD k.toInt)) : GW μX9_op (gRm 2 45 0 0) (gTh (fun r M1 n1 => r = some (.int (nI (opZ σ k a b c).2)) ∧ n1 = n ∧ Off M M1 (fX m) ∧ rM M1 m (opS σ k a b c) ∧ mI M1 m 0 = nI (opZ σ k a b c).1) 0 0) 0 0 53 [some (.ref m), some (.int k), some (.int a), some (.int b), some (.int c), some (.int (bI wb)), some (.int (bI tb)), some (.int (bI rb)), none, none] [] M1 n := by
  refine g_iload_n dX9_op_53 rfl ?_
  refine g_iconst (v := iZ 2) dX9_op_54 rfl ?_
  refine g_icmp_eq (tgt := 80) dX9_op_55 (by decide) (fun c_55 => ?_) (fun c_55 => ?_)
  · skip
    refine g_iconst (v := nI 1) dX9_op_80 rfl ?_
    refine g_goto (tgt := 85) dX9_op_81 (by decide) ?_
    refine g_istore dX9_op_85 (Nat.le_of_ble_eq_true rfl) ?_
    try rw [k_lit (by constructor <;> omega)] at c_55
    try rw [k_lit (by constructor <;> omega)] at c_60
    try rw [k_lit (by constructor <;> omega)] at c_65
    try rw [k_lit (by constructor <;> omega)] at c_71
    try rw [k_lit (by constructor <;> omega)] at c_77
    first
      | exact p_op87 (hb := true) hO1 hQ1 h0 hw ht hrd (by clear hw ht hrd; rw [eq_comm, decide_eq_true_eq]; omega)
      | exact p_op87 (hb := false) hO1 hQ1 h0 hw ht hrd (by clear hw ht hrd; rw [eq_comm, decide_eq_false_iff_not]; omega)
  · skip
    refine g_iload_n dX9_op_58 rfl ?_
    refine g_iconst (v := iZ 3) dX9_op_59 rfl ?_
    refine g_icmp_eq (tgt := 80) dX9_op_60 (by decide) (fun c_60 => ?_) (fun c_60 => ?_)
    · skip
      refine g_iconst (v := nI 1) dX9_op_80 rfl ?_
      refine g_goto (tgt := 85) dX9_op_81 (by decide) ?_
      refine g_istore dX9_op_85 (Nat.le_of_ble_eq_true rfl) ?_
      try rw [k_lit (by constructor <;> omega)] at c_55
      try rw [k_lit (by constructor <;> omega)] at c_60
      try rw [k_lit (by constructor <;> omega)] at c_65
      try rw [k_lit (by constructor <;> omega)] at c_71
      try rw [k_lit (by constructor <;> omega)] at c_77
      first
        | exact p_op87 (hb := true) hO1 hQ1 h0 hw ht hrd (by clear hw ht hrd; rw [eq_comm, decide_eq_true_eq]; omega)
        | exact p_op87 (hb := false) hO1 hQ1 h0 hw ht hrd (by clear hw ht hrd; rw [eq_comm, decide_eq_false_iff_not]; omega)
    · skip
      refine g_iload_n dX9_op_63 rfl ?_
      refine g_iconst (v := iZ 4) dX9_op_64 rfl ?_
      refine g_icmp_eq (tgt := 80) dX9_op_65 (by decide) (fun c_65 => ?_) (fun c_65 => ?_)
      · skip
        refine g_iconst (v := nI 1) dX9_op_80 rfl ?_
        refine g_goto (tgt := 85) dX9_op_81 (by decide) ?_
        refine g_istore dX9_op_85 (Nat.le_of_ble_eq_true rfl) ?_
        try rw [k_lit (by constructor <;> omega)] at c_55
        try rw [k_lit (by constructor <;> omega)] at c_60
        try rw [k_lit (by constructor <;> omega)] at c_65
        try rw [k_lit (by constructor <;> omega)] at c_71
        try rw [k_lit (by constructor <;> omega)] at c_77
        first
          | exact p_op87 (hb := true) hO1 hQ1 h0 hw ht hrd (by clear hw ht hrd; rw [eq_comm, decide_eq_true_eq]; omega)
          | exact p_op87 (hb := false) hO1 hQ1 h0 hw ht hrd (by clear hw ht hrd; rw [eq_comm, decide_eq_false_iff_not]; omega)
      · skip
        refine g_iload_n dX9_op_68 rfl ?_
        refine g_bipush (v := iZ 7) dX9_op_69 rfl ?_
        refine g_icmp_eq (tgt := 80) dX9_op_71 (by decide) (fun c_71 => ?_) (fun c_71 => ?_)
        · skip
          refine g_iconst (v := nI 1) dX9_op_80 rfl ?_
          refine g_goto (tgt := 85) dX9_op_81 (by decide) ?_
          refine g_istore dX9_op_85 (Nat.le_of_ble_eq_true rfl) ?_
          try rw [k_lit (by constructor <;> omega)] at c_55
          try rw [k_lit (by constructor <;> omega)] at c_60
          try rw [k_lit (by constructor <;> omega)] at c_65
          try rw [k_lit (by constructor <;> omega)] at c_71
          try rw [k_lit (by constructor <;> omega)] at c_77
          first
            | exact p_op87 (hb := true) hO1 hQ1 h0 hw ht hrd (by clear hw ht hrd; rw [eq_comm, decide_eq_true_eq]; omega)
            | exact p_op87 (hb := false) hO1 hQ1 h0 hw ht hrd (by clear hw ht hrd; rw [eq_comm, decide_eq_false_iff_not]; omega)
        · skip
          refine g_iload_n dX9_op_74 rfl ?_
          refine g_bipush (v := iZ 8) dX9_op_75 rfl ?_
          refine g_icmp_ne (tgt := 84) dX9_op_77 (by decide) (fun c_77 => ?_) (fun c_77 => ?_)
          · skip
            refine g_iconst (v := nI 0) dX9_op_84 rfl ?_
            refine g_istore dX9_op_85 (Nat.le_of_ble_eq_true rfl) ?_
            try rw [k_lit (by constructor <;> omega)] at c_55
            try rw [k_lit (by constructor <;> omega)] at c_60
            try rw [k_lit (by constructor <;> omega)] at c_65
            try rw [k_lit (by constructor <;> omega)] at c_71
            try rw [k_lit (by constructor <;> omega)] at c_77
            first
              | exact p_op87 (hb := true) hO1 hQ1 h0 hw ht hrd (by clear hw ht hrd; rw [eq_comm, decide_eq_true_eq]; omega)
              | exact p_op87 (hb := false) hO1 hQ1 h0 hw ht hrd (by clear hw ht hrd; rw [eq_comm, decide_eq_false_iff_not]; omega)
          · skip
            refine g_iconst (v := nI 1) dX9_op_80 rfl ?_
            refine g_goto (tgt := 85) dX9_op_81 (by decide) ?_
            refine g_istore dX9_op_85 (Nat.le_of_ble_eq_true rfl) ?_
            try rw [k_lit (by constructor <;> omega)] at c_55
            try rw [k_lit (by constructor <;> omega)] at c_60
            try rw [k_lit (by constructor <;> omega)] at c_65
            try rw [k_lit (by constructor <;> omega)] at c_71
            try rw [k_lit (by constructor <;> omega)] at c_77
            first
              | exact p_op87 (hb := true) hO1 hQ1 h0 hw ht hrd (by clear hw ht hrd; rw [eq_comm, decide_eq_true_eq]; omega)
              | exact p_op87 (hb := false) hO1 hQ1 h0 hw ht hrd (by clear hw ht hrd; rw [eq_comm, decide_eq_false_iff_not]; omega)

set_option maxHeartbeats 4000000 in
set_option maxRecDepth 100000 in
theorem s_op (M : gM) (n m : Nat) (σ : MS) (k a b c : Int32) (hQ : rM M m σ) : GM μX9_op 2 45 0 0 [.ref m, .int k, .int a, .int b, .int c] M n (fun r M1 n1 => r = some (.int (nI (opZ σ k a b c).2)) ∧ n1 = n ∧ Off M M1 (fX m) ∧ rM M1 m (opS σ k a b c) ∧ mI M1 m 0 = nI (opZ σ k a b c).1) := by
  refine GM.ofW (by decide) rfl (Nat.le_of_ble_eq_true rfl) rfl ?_
  obtain ⟨S, hQ⟩ := hQ
  have l40 := hQ.2.1.2.1
  have kr := i_rng k
  refine g_aload_n dX9_op_0 rfl ?_
  refine g_iconst (v := nI 0) dX9_op_1 rfl ?_
  refine g_putI (f := 0) dX9_op_2 cl10 hQ.1.1.1 (by decide) (Or.inl (iw_12 11 rfl)) (Or.inl rfl) (Or.inl rfl) (Or.inl rfl) ?_
  have hO1 : Off M (stI M m 0 (nI 0)) (fX m) := Off.rf.stI ⟨by omega, by omega⟩
  have hQ1 := hQ.thr (nI 0)
  have h0 : mI (stI M m 0 (nI 0)) m 0 = nI 0 := by rw [mI_st, if_pos ⟨rfl, rfl⟩]
  generalize stI M m 0 (nI 0) = M1 at hO1 hQ1 h0 ⊢
  have hG := hQ1.1
  have hP := hQ1.2.1
  refine g_iload_n dX9_op_5 rfl ?_
  refine g_i2l dX9_op_6 ?_
  rw [i_j]
  refine g_lconst (v := jI 0) dX9_op_7 rfl ?_
  refine g_ldc2 (v := jI (10)) dX9_op_8 (iw_12 12 rfl) ?_
  refine g_callS dX9_op_11 sX9_isIn (m_isInZ M1 n k.toInt 0 10 (by constructor <;> omega) (by constructor <;> omega) (by constructor <;> omega)) tX9_isIn (iw_12 22 rfl) rfl rfl (Nat.le_of_ble_eq_true rfl) (Nat.le_of_ble_eq_true rfl) (Nat.le_of_ble_eq_true rfl) (Nat.le_of_ble_eq_true rfl) (Nat.le_of_ble_eq_true rfl) ?_
  intro r9 M9 n9 h9
  obtain ⟨h91, h92, h93⟩ := h9
  rw [h91, h92, h93]
  clear h91 h92 h93 r9 M9 n9
  refine g_istore dX9_op_14 (Nat.le_of_ble_eq_true rfl) ?_
  refine g_iload_n dX9_op_16 rfl ?_
  refine g_i2l dX9_op_17 ?_
  rw [i_j]
  refine g_ldc2 (v := jI (11)) dX9_op_18 (iw_12 13 rfl) ?_
  refine g_ldc2 (v := jI (17)) dX9_op_21 (iw_12 14 rfl) ?_
  refine g_callS dX9_op_24 sX9_isIn (m_isInZ M1 n k.toInt 11 17 (by constructor <;> omega) (by constructor <;> omega) (by constructor <;> omega)) tX9_isIn (iw_12 22 rfl) rfl rfl (Nat.le_of_ble_eq_true rfl) (Nat.le_of_ble_eq_true rfl) (Nat.le_of_ble_eq_true rfl) (Nat.le_of_ble_eq_true rfl) (Nat.le_of_ble_eq_true rfl) ?_
  intro r9 M9 n9 h9
  obtain ⟨h91, h92, h93⟩ := h9
  rw [h91, h92, h93]
  clear h91 h92 h93 r9 M9 n9
  refine g_istore dX9_op_27 (Nat.le_of_ble_eq_true rfl) ?_
  refine g_iload_n dX9_op_29 rfl ?_
  refine g_i2l dX9_op_30 ?_
  rw [i_j]
  refine g_lconst (v := jI 1) dX9_op_31 rfl ?_
  refine g_ldc2 (v := jI (9)) dX9_op_32 (iw_12 15 rfl) ?_
  refine g_callS dX9_op_35 sX9_isIn (m_isInZ M1 n k.toInt 1 9 (by constructor <;> omega) (by constructor <;> omega) (by constructor <;> omega)) tX9_isIn (iw_12 22 rfl) rfl rfl (Nat.le_of_ble_eq_true rfl) (Nat.le_of_ble_eq_true rfl) (Nat.le_of_ble_eq_true rfl) (Nat.le_of_ble_eq_true rfl) (Nat.le_of_ble_eq_true rfl) ?_
  intro r9 M9 n9 h9
  obtain ⟨h91, h92, h93⟩ := h9
  rw [h91, h92, h93]
  clear h91 h92 h93 r9 M9 n9
  refine g_if_ne (tgt := 46) dX9_op_38 (by decide) (fun c_38 => ?_) (fun c_38 => ?_)
  · skip
    try rw [bI_eq0, decide_eq_false_iff_not, Classical.not_not] at c_38
    try rw [bI_eq0, decide_eq_false_iff_not, Classical.not_not] at c_43
    refine g_iconst (v := nI 1) dX9_op_46 rfl ?_
    refine g_goto (tgt := 51) dX9_op_47 (by decide) ?_
    refine g_istore dX9_op_51 (Nat.le_of_ble_eq_true rfl) ?_
    first
      | exact p_op53 (rb := true) hO1 hQ1 h0 rfl rfl (by rw [eq_comm, decide_eq_true_eq]; first | exact Or.inl c_38 | exact Or.inr c_43)
      | exact p_op53 (rb := false) hO1 hQ1 h0 rfl rfl (by rw [eq_comm, decide_eq_false_iff_not]; exact fun h => h.elim c_38 c_43)
  · skip
    rw [bI_eq0, decide_eq_false_iff_not] at c_38
    refine g_iload dX9_op_41 rfl ?_
    refine g_if_eq (tgt := 50) dX9_op_43 (by decide) (fun c_43 => ?_) (fun c_43 => ?_)
    · skip
      rw [bI_eq0, decide_eq_false_iff_not] at c_43
      refine g_iconst (v := nI 0) dX9_op_50 rfl ?_
      refine g_istore dX9_op_51 (Nat.le_of_ble_eq_true rfl) ?_
      first
        | exact p_op53 (rb := true) hO1 hQ1 h0 rfl rfl (by rw [eq_comm, decide_eq_true_eq]; first | exact Or.inl c_38 | exact Or.inr c_43)
        | exact p_op53 (rb := false) hO1 hQ1 h0 rfl rfl (by rw [eq_comm, decide_eq_false_iff_not]; exact fun h => h.elim c_38 c_43)
    · skip
      try rw [bI_eq0, decide_eq_false_iff_not, Classical.not_not] at c_38
      try rw [bI_eq0, decide_eq_false_iff_not, Classical.not_not] at c_43
      refine g_iconst (v := nI 1) dX9_op_46 rfl ?_
      refine g_goto (tgt := 51) dX9_op_47 (by decide) ?_
      refine g_istore dX9_op_51 (Nat.le_of_ble_eq_true rfl) ?_
      first
        | exact p_op53 (rb := true) hO1 hQ1 h0 rfl rfl (by rw [eq_comm, decide_eq_true_eq]; first | exact Or.inl c_38 | exact Or.inr c_43)
        | exact p_op53 (rb := false) hO1 hQ1 h0 rfl rfl (by rw [eq_comm, decide_eq_false_iff_not]; exact fun h => h.elim c_38 c_43)

