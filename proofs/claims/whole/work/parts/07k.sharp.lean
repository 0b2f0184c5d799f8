/-! the class: conditions sharpen -/
theorem nI_ltI' {a c : Nat} (ha : a < 2147483648) (hc : c < 2147483648) : nI a < nI c ↔ a < c := by
  rw [nI_iZ, nI_iZ, iZ_lt (by constructor <;> omega) (by constructor <;> omega)]; omega
theorem up1_comm {α : Type} (f : Nat → α) {a b : Nat} (x y : α) (h : a ≠ b) : up1 (up1 f a x) b y = up1 (up1 f b y) a x := by
  funext p
  unfold up1
  by_cases c : p = b
  · rw [if_pos c, if_neg (by omega), if_pos c]
  · rw [if_neg c]
    by_cases d : p = a
    · rw [if_pos d, if_pos d]
    · rw [if_neg d, if_neg d, if_neg c]
theorem sE.up {M M1 : gM} {b p : Nat} {F : Nat → List Sp} {X : List Sp} {S : Nat → Nat → Prop} (h : sE M b F) (ho : Off M M1 S) (hs : ∀ i k, S i k → b + 1 ≤ i → i ≤ b + 8 → i = b + 1 + p) (hX : cS M1 (b + 1 + p) X) : sE M1 b (up1 F p X) := by
  refine ⟨h.1.off ho, fun q hq => ?_⟩
  by_cases e : q = p
  · subst e; rw [up1_eq]; exact hX
  · rw [up1_ne _ _ e]
    exact (h.2 q hq).off ho (fun k z => by have := hs _ k z (by omega) (by omega); omega)
theorem sE.to {M : gM} {b : Nat} {F G : Nat → List Sp} (h : sE M b F) (e : ∀ p, p < 8 → G p = F p) : sE M b G := ⟨h.1, fun p hp => by rw [e p hp]; exact h.2 p hp⟩
/-- a Statement at e -/
def sQ (M : gM) (e : Nat) (s : St) : Prop := mK M e = 5 ∧ mI M e 0 = nI s.1 ∧ mI M e 1 = s.2.1 ∧ mI M e 2 = s.2.2.1 ∧ mI M e 3 = s.2.2.2 ∧ mR M e 4 = some (e + 1) ∧ sA M (e + 1)
theorem sQ.off {M M1 : gM} {e : Nat} {s : St} {S : Nat → Nat → Prop} (h : sQ M e s) (ho : Off M M1 S) (hs : ∀ k, k < 4 → ¬ S e k) : sQ M1 e s := by
  obtain ⟨h1, h2, h3, h4, h5, h6, h7⟩ := h
  exact ⟨by rw [ho.1]; exact h1, (ho.i (hs 0 (by omega))).trans h2, (ho.i (hs 1 (by omega))).trans h3, (ho.i (hs 2 (by omega))).trans h4, (ho.i (hs 3 (by omega))).trans h5, by rw [ho.2.2.1]; exact h6, h7.off ho⟩
def dis (e v : Nat) : Prop := e + 9 < v ∨ v + 14 < e
theorem sQ.offV {M M1 : gM} {e v : Nat} {s : St} (h : sQ M e s) (hd : dis e v) (ho : Off M M1 (fV v)) : sQ M1 e s := h.off ho (fun k _ => by unfold fV; unfold dis at hd; omega)
theorem sE.offV {M M1 : gM} {e v : Nat} {F : Nat → List Sp} (h : sE M (e + 1) F) (hd : dis e v) (ho : Off M M1 (fV v)) : sE M1 (e + 1) F := h.off ho (fun i k h1 h2 => by unfold fV; unfold dis at hd; omega)
def otP (X Y : List Sp) : List Sp := if aloB Y = true then losL X (lo1 Y) else X
theorem alo_ne {Y : List Sp} (h : aloB Y = true) : Y ≠ [] := by
  intro e
  rw [e] at h
  simp [aloB] at h
set_option maxHeartbeats 4000000 in
set_option maxRecDepth 100000 in
theorem k_oth21 {M M1 : gM} {n v x y a b : Nat} {X Y : List Sp} {F : Nat → List Sp} (h : sP M v) (hX : cS M x X) (hY : cS M y Y) (hG : sE M (v + 4) F) (hx : x ≤ v ∨ v + 14 < x) (hy : y ≤ v ∨ v + 14 < y) (ha8 : a < 8) (hb8 : b < 8) (hab : a ≠ b) (hFa : F a = X) (hFb : F b = Y) (hO1 : Off M M1 (fV v)) (hG1 : sE M1 (v + 4) (up1 F a (otP X Y))) : GW μX5_sharpenOther (gRm 2 49 0 0) (gTh (fun r M1 n1 => r = none ∧ n1 = n ∧ Off M M1 (fV v) ∧ sE M1 (v + 4) (up1 (up1 F a (otP X Y)) b (otP Y X))) 0 0) 0 0 21 [some (.ref v), some (.ref x), some (.ref y), some (.int (nI a)), some (.int (nI b))] [] M1 n := by
  have hX1 := hX.off hO1 (fun k q => by unfold fV at q; omega)
  have hY1 := hY.off hO1 (fun k q => by unfold fV at q; omega)
  have h1 := h.off hO1
  refine g_aload_n dX5_sharpenOther_21 rfl ?_
  refine g_callV dX5_sharpenOther_22 sX3_isOneNumber (c_isOne M1 n x X hX1) cl4 hX1.1 iX3_isOneNumber vX3_isOneNumber (iw_19 17 rfl) rfl rfl (Nat.le_of_ble_eq_true rfl) (Nat.le_of_ble_eq_true rfl) (Nat.le_of_ble_eq_true rfl) (Nat.le_of_ble_eq_true rfl) (Nat.le_of_ble_eq_true rfl) ?_
  intro r9 M9 n9 h9
  obtain ⟨h91, h92, h93⟩ := h9
  rw [h91, h92, h93]
  clear h91 h92 h93 r9 M9 n9
  refine g_if_eq (tgt := 43) dX5_sharpenOther_25 (by decide) (fun c_25 => ?_) (fun c_25 => ?_)
  · skip
    exact g_vret dX5_sharpenOther_43 rfl (Nat.le_of_ble_eq_true rfl) (Nat.le_of_ble_eq_true rfl) (by
      refine ⟨rfl, rfl, ?_⟩
      first
        | (have q9 := hO2
           exact ⟨hO1.trans (hO2.mono (fun i k q => by unfold fO at q; unfold fV; omega)), hG1.up hO2 (fun i k q _ _ => q) (by rw [xe]; exact hI2)⟩)
        | (refine ⟨hO1, ?_⟩
           have x1 : aloB X = false := by rw [bI_eq0] at c_25; exact c_25
           have xe : otP Y X = up1 F a (otP X Y) b := by unfold otP; rw [if_neg (by rw [x1]; decide), up1_ne _ _ (by omega), hFb]
           rw [xe, up1_self]; exact hG1))
  · skip
    have x1 : aloB X = true := by rw [bI_eq0, Bool.not_eq_false] at c_25; exact c_25
    have x0 := alo_ne x1
    have xe : otP Y X = losL Y (lo1 X) := by unfold otP; rw [if_pos x1]
    refine g_aload_n dX5_sharpenOther_28 rfl ?_
    refine g_getR (f := 1) dX5_sharpenOther_29 cl6 h1.1 (by decide) (Or.inl (iw_5 0 rfl)) (Or.inl rfl) rfl h1.2.1.2.1 ?_
    refine g_iload dX5_sharpenOther_32 rfl ?_
    refine g_aaloadS dX5_sharpenOther_34 (j := b) h1.2.2.2.1.1 h1.2.2.2.1.2.1 rfl hb8 (by decide) (h1.2.2.2.1.2.2 b hb8).1 ?_
    refine g_aload_n dX5_sharpenOther_35 rfl ?_
    refine g_aload_n dX5_sharpenOther_36 rfl ?_
    refine g_callV dX5_sharpenOther_37 sX3_least (c_least M1 n x X hX1 x0) cl4 hX1.1 iX3_least vX3_least (iw_18 0 rfl) rfl rfl (Nat.le_of_ble_eq_true rfl) (Nat.le_of_ble_eq_true rfl) (Nat.le_of_ble_eq_true rfl) (Nat.le_of_ble_eq_true rfl) (Nat.le_of_ble_eq_true rfl) ?_
    intro r9 M9 n9 h9
    obtain ⟨h91, h92, h93⟩ := h9
    rw [h91, h92, h93]
    clear h91 h92 h93 r9 M9 n9
    refine g_callV dX5_sharpenOther_40 sX3_becomeWithoutEnd (c_without M1 n (v + 4 + 1 + b) y Y (lo1 X) (by omega) (h1.2.2.2.1.2.2 b hb8).2 hY1 (lo1_r hX.2.1 x0)) cl4 (h1.2.2.2.1.2.2 b hb8).2 iX3_becomeWithoutEnd vX3_becomeWithoutEnd (iw_19 21 rfl) rfl rfl (Nat.le_of_ble_eq_true rfl) (Nat.le_of_ble_eq_true rfl) (Nat.le_of_ble_eq_true rfl) (Nat.le_of_ble_eq_true rfl) (Nat.le_of_ble_eq_true rfl) ?_
    intro r9 M2 n9 h9
    obtain ⟨h91, h93, hO2, hI2⟩ := h9
    rw [h91, h93]
    clear h91 h93 r9 n9
    exact g_vret dX5_sharpenOther_43 rfl (Nat.le_of_ble_eq_true rfl) (Nat.le_of_ble_eq_true rfl) (by
      refine ⟨rfl, rfl, ?_⟩
      first
        | (have q9 := hO2
           exact ⟨hO1.trans (hO2.mono (fun i k q => by unfold fO at q; unfold fV; omega)), hG1.up hO2 (fun i k q _ _ => q) (by rw [xe]; exact hI2)⟩)
        | (refine ⟨hO1, ?_⟩
           have x1 : aloB X = false := by rw [bI_eq0] at c_25; exact c_25
           have xe : otP Y X = up1 F a (otP X Y) b := by unfold otP; rw [if_neg (by rw [x1]; decide), up1_ne _ _ (by omega), hFb]
           rw [xe, up1_self]; exact hG1))

set_option maxHeartbeats 4000000 in
set_option maxRecDepth 100000 in
theorem c_other (M : gM) (n v x y a b : Nat) (X Y : List Sp) (F : Nat → List Sp) (h : sP M v) (hX : cS M x X) (hY : cS M y Y) (hG : sE M (v + 4) F) (hx : x ≤ v ∨ v + 14 < x) (hy : y ≤ v ∨ v + 14 < y) (ha8 : a < 8) (hb8 : b < 8) (hab : a ≠ b) (hFa : F a = X) (hFb : F b = Y) : GM μX5_sharpenOther 2 49 0 0 [.ref v, .ref x, .ref y, .int (nI a), .int (nI b)] M n (fun r M1 n1 => r = none ∧ n1 = n ∧ Off M M1 (fV v) ∧ sE M1 (v + 4) (up1 (up1 F a (otP X Y)) b (otP Y X))) := by
  refine GM.ofW (by decide) rfl (Nat.le_of_ble_eq_true rfl) rfl ?_
  refine g_aload_n dX5_sharpenOther_0 rfl ?_
  refine g_callV dX5_sharpenOther_1 sX3_isOneNumber (c_isOne M n y Y hY) cl4 hY.1 iX3_isOneNumber vX3_isOneNumber (iw_19 17 rfl) rfl rfl (Nat.le_of_ble_eq_true rfl) (Nat.le_of_ble_eq_true rfl) (Nat.le_of_ble_eq_true rfl) (Nat.le_of_ble_eq_true rfl) (Nat.le_of_ble_eq_true rfl) ?_
  intro r9 M9 n9 h9
  obtain ⟨h91, h92, h93⟩ := h9
  rw [h91, h92, h93]
  clear h91 h92 h93 r9 M9 n9
  refine g_if_eq (tgt := 21) dX5_sharpenOther_4 (by decide) (fun c_4 => ?_) (fun c_4 => ?_)
  · skip
    first
      | (have q9 := hO1
         exact k_oth21 h hX hY hG hx hy ha8 hb8 hab hFa hFb (hO1.mono (fun i k q => by unfold fO at q; unfold fV; omega)) (hG.up hO1 (fun i k q _ _ => q) (by rw [ye]; exact hI1)))
      | (have y1 : aloB Y = false := by rw [bI_eq0] at c_4; exact c_4
         have ye : otP X Y = F a := by unfold otP; rw [if_neg (by rw [y1]; decide), hFa]
         exact k_oth21 h hX hY hG hx hy ha8 hb8 hab hFa hFb Off.rf (by rw [ye, up1_self]; exact hG))
  · skip
    have y1 : aloB Y = true := by rw [bI_eq0, Bool.not_eq_false] at c_4; exact c_4
    have y0 := alo_ne y1
    have ye : otP X Y = losL X (lo1 Y) := by unfold otP; rw [if_pos y1]
    refine g_aload_n dX5_sharpenOther_7 rfl ?_
    refine g_getR (f := 1) dX5_sharpenOther_8 cl6 h.1 (by decide) (Or.inl (iw_5 0 rfl)) (Or.inl rfl) rfl h.2.1.2.1 ?_
    refine g_iload_n dX5_sharpenOther_11 rfl ?_
    refine g_aaloadS dX5_sharpenOther_12 (j := a) h.2.2.2.1.1 h.2.2.2.1.2.1 rfl ha8 (by decide) (h.2.2.2.1.2.2 a ha8).1 ?_
    refine g_aload_n dX5_sharpenOther_13 rfl ?_
    refine g_aload_n dX5_sharpenOther_14 rfl ?_
    refine g_callV dX5_sharpenOther_15 sX3_least (c_least M n y Y hY y0) cl4 hY.1 iX3_least vX3_least (iw_18 0 rfl) rfl rfl (Nat.le_of_ble_eq_true rfl) (Nat.le_of_ble_eq_true rfl) (Nat.le_of_ble_eq_true rfl) (Nat.le_of_ble_eq_true rfl) (Nat.le_of_ble_eq_true rfl) ?_
    intro r9 M9 n9 h9
    obtain ⟨h91, h92, h93⟩ := h9
    rw [h91, h92, h93]
    clear h91 h92 h93 r9 M9 n9
    refine g_callV dX5_sharpenOther_18 sX3_becomeWithoutEnd (c_without M n (v + 4 + 1 + a) x X (lo1 Y) (by omega) (h.2.2.2.1.2.2 a ha8).2 hX (lo1_r hY.2.1 y0)) cl4 (h.2.2.2.1.2.2 a ha8).2 iX3_becomeWithoutEnd vX3_becomeWithoutEnd (iw_19 21 rfl) rfl rfl (Nat.le_of_ble_eq_true rfl) (Nat.le_of_ble_eq_true rfl) (Nat.le_of_ble_eq_true rfl) (Nat.le_of_ble_eq_true rfl) (Nat.le_of_ble_eq_true rfl) ?_
    intro r9 M1 n9 h9
    obtain ⟨h91, h93, hO1, hI1⟩ := h9
    rw [h91, h93]
    clear h91 h93 r9 n9
    first
      | (have q9 := hO1
         exact k_oth21 h hX hY hG hx hy ha8 hb8 hab hFa hFb (hO1.mono (fun i k q => by unfold fO at q; unfold fV; omega)) (hG.up hO1 (fun i k q _ _ => q) (by rw [ye]; exact hI1)))
      | (have y1 : aloB Y = false := by rw [bI_eq0] at c_4; exact c_4
         have ye : otP X Y = F a := by unfold otP; rw [if_neg (by rw [y1]; decide), hFa]
         exact k_oth21 h hX hY hG hx hy ha8 hb8 hab hFa hFb Off.rf (by rw [ye, up1_self]; exact hG))

set_option maxHeartbeats 4000000 in
set_option maxRecDepth 100000 in
theorem k_sh339 {M M1 : gM} {n v e a b q : Nat} {s : St} {F : Nat → List Sp} {X1 Y1 : List Sp} (h : sP M v) (hs : sQ M e s) (hd : dis e v) (ha : s.2.1 = nI a) (hb : s.2.2.1 = nI b) (ha8 : a < 8) (hb8 : b < 8) (hab : a ≠ b) (hO1 : Off M M1 (fV v)) (hZ : shp q (F a) (F b) = (X1, Y1)) (hG1 : sE M1 (v + 4) (up1 (up1 F a X1) b Y1)) : GW μX5_sharpen (gRm 3 75 0 0) (gTh (fun r M1 n1 => r = some (.int (bI (decide ((shp q (F a) (F b)).1 ≠ [] ∧ (shp q (F a) (F b)).2 ≠ [])))) ∧ n1 = n ∧ Off M M1 (fV v) ∧ sE M1 (v + 4) (up1 (up1 F a (shp q (F a) (F b)).1) b (shp q (F a) (F b)).2)) 0 0) 0 0 339 [some (.ref v), some (.ref e), none, none, none, none, none, none] [] M1 n := by
  have h1 := h.off hO1
  have hs1 := hs.offV hd hO1
  rw [hZ]
  have gA := hG1.2 a ha8
  rw [up1_ne _ _ hab, up1_eq] at gA
  have gB := hG1.2 b hb8
  rw [up1_eq] at gB
  refine g_aload_n dX5_sharpen_339 rfl ?_
  refine g_getR (f := 1) dX5_sharpen_340 cl6 h1.1 (by decide) (Or.inl (iw_5 0 rfl)) (Or.inl rfl) rfl h1.2.1.2.1 ?_
  refine g_aload_n dX5_sharpen_343 rfl ?_
  refine g_getI (f := 1) dX5_sharpen_344 cl5 hs1.1 (by decide) (Or.inr (List.mem_of_getElem? (i := 26) rfl)) (Or.inl rfl) (Or.inl rfl) ?_
  rw [hs1.2.2.1]
  refine g_aaloadS dX5_sharpen_347 (j := a) hG1.1.1 hG1.1.2.1 ha ha8 (by decide) (hG1.1.2.2 a ha8).1 ?_
  refine g_callV dX5_sharpen_348 sX3_isNothing (c_isNothing M1 n (v + 4 + 1 + a) X1 gA) cl4 gA.1 iX3_isNothing vX3_isNothing (iw_20 1 rfl) rfl rfl (Nat.le_of_ble_eq_true rfl) (Nat.le_of_ble_eq_true rfl) (Nat.le_of_ble_eq_true rfl) (Nat.le_of_ble_eq_true rfl) (Nat.le_of_ble_eq_true rfl) ?_
  intro r9 M9 n9 h9
  obtain ⟨h91, h92, h93⟩ := h9
  rw [h91, h92, h93]
  clear h91 h92 h93 r9 M9 n9
  refine g_if_ne (tgt := 373) dX5_sharpen_351 (by decide) (fun c_351 => ?_) (fun c_351 => ?_)
  · skip
    refine g_iconst (v := nI 0) dX5_sharpen_373 rfl ?_
    exact g_iret dX5_sharpen_374 (Or.inr ⟨rfl, by first | exact Or.inl rfl | exact Or.inr rfl⟩) (Nat.le_of_ble_eq_true rfl) (Nat.le_of_ble_eq_true rfl) (by
      refine ⟨?_, rfl, hO1, hG1⟩
      simp only
      (try rw [bI_eq0, decide_eq_false_iff_not] at c_351)
      (try rw [bI_eq0, decide_eq_false_iff_not] at c_366)
      first
        | (rw [decide_eq_true ⟨c_351, c_366⟩]; rfl)
        | (rw [decide_eq_false (fun q => c_366 q.2)]; rfl)
        | (rw [decide_eq_false (fun q => c_351 q.1)]; rfl))
  · skip
    refine g_aload_n dX5_sharpen_354 rfl ?_
    refine g_getR (f := 1) dX5_sharpen_355 cl6 h1.1 (by decide) (Or.inl (iw_5 0 rfl)) (Or.inl rfl) rfl h1.2.1.2.1 ?_
    refine g_aload_n dX5_sharpen_358 rfl ?_
    refine g_getI (f := 2) dX5_sharpen_359 cl5 hs1.1 (by decide) (Or.inr (List.mem_of_getElem? (i := 31) rfl)) (Or.inl rfl) (Or.inl rfl) ?_
    rw [hs1.2.2.2.1]
    refine g_aaloadS dX5_sharpen_362 (j := b) hG1.1.1 hG1.1.2.1 hb hb8 (by decide) (hG1.1.2.2 b hb8).1 ?_
    refine g_callV dX5_sharpen_363 sX3_isNothing (c_isNothing M1 n (v + 4 + 1 + b) Y1 gB) cl4 gB.1 iX3_isNothing vX3_isNothing (iw_20 1 rfl) rfl rfl (Nat.le_of_ble_eq_true rfl) (Nat.le_of_ble_eq_true rfl) (Nat.le_of_ble_eq_true rfl) (Nat.le_of_ble_eq_true rfl) (Nat.le_of_ble_eq_true rfl) ?_
    intro r9 M9 n9 h9
    obtain ⟨h91, h92, h93⟩ := h9
    rw [h91, h92, h93]
    clear h91 h92 h93 r9 M9 n9
    refine g_if_ne (tgt := 373) dX5_sharpen_366 (by decide) (fun c_366 => ?_) (fun c_366 => ?_)
    · skip
      refine g_iconst (v := nI 0) dX5_sharpen_373 rfl ?_
      exact g_iret dX5_sharpen_374 (Or.inr ⟨rfl, by first | exact Or.inl rfl | exact Or.inr rfl⟩) (Nat.le_of_ble_eq_true rfl) (Nat.le_of_ble_eq_true rfl) (by
        refine ⟨?_, rfl, hO1, hG1⟩
        simp only
        (try rw [bI_eq0, decide_eq_false_iff_not] at c_351)
        (try rw [bI_eq0, decide_eq_false_iff_not] at c_366)
        first
          | (rw [decide_eq_true ⟨c_351, c_366⟩]; rfl)
          | (rw [decide_eq_false (fun q => c_366 q.2)]; rfl)
          | (rw [decide_eq_false (fun q => c_351 q.1)]; rfl))
    · skip
      refine g_iconst (v := nI 1) dX5_sharpen_369 rfl ?_
      refine g_goto (tgt := 374) dX5_sharpen_370 (by decide) ?_
      exact g_iret dX5_sharpen_374 (Or.inr ⟨rfl, by first | exact Or.inl rfl | exact Or.inr rfl⟩) (Nat.le_of_ble_eq_true rfl) (Nat.le_of_ble_eq_true rfl) (by
        refine ⟨?_, rfl, hO1, hG1⟩
        simp only
        (try rw [bI_eq0, decide_eq_false_iff_not] at c_351)
        (try rw [bI_eq0, decide_eq_false_iff_not] at c_366)
        first
          | (rw [decide_eq_true ⟨c_351, c_366⟩]; rfl)
          | (rw [decide_eq_false (fun q => c_366 q.2)]; rfl)
          | (rw [decide_eq_false (fun q => c_351 q.1)]; rfl))

theorem shp_0 {X Y : List Sp} (hX : okX X) (hY : okX Y) : shp 0 X Y = (clip X (-2147483648) (hi1 Y - 1), clip Y (lo1 X + 1) 2147483647) := by
  rw [← clip_cut hX, ← clip_cut hY]; rfl
theorem shp_1 {X Y : List Sp} (hX : okX X) (hY : okX Y) : shp 1 X Y = (clip X (-2147483648) (hi1 Y), clip Y (lo1 X) 2147483647) := by
  rw [← clip_cut hX, ← clip_cut hY]
  show (cutX X (-2147483648) (hi1 Y - 0), cutX Y (lo1 X + 0) 2147483647) = _
  rw [Int.sub_zero, Int.add_zero]
theorem shp_4 {X Y : List Sp} (hX : okX X) (hY : okX Y) : shp 4 X Y = (clip X (lo1 Y) 2147483647, clip Y (-2147483648) (hi1 X)) := by
  rw [← clip_cut hX, ← clip_cut hY]
  show (cutX X (lo1 Y + 0) 2147483647, cutX Y (-2147483648) (hi1 X - 0)) = _
  rw [Int.sub_zero, Int.add_zero]
theorem shp_5 {X Y : List Sp} (hX : okX X) (hY : okX Y) : shp 5 X Y = (clip X (lo1 Y + 1) 2147483647, clip Y (-2147483648) (hi1 X - 1)) := by
  rw [← clip_cut hX, ← clip_cut hY]; rfl
theorem shp_2 (X Y : List Sp) : shp 2 X Y = (mkS (cmL X Y), mkS (cmL X Y)) := rfl
theorem shp_3 {X Y : List Sp} (hX : okX X) (hY : okX Y) : shp 3 X Y = (otP X Y, otP Y X) := by
  show ((if aloB Y then mkS (losL X (lo1 Y)) else X), (if aloB X then mkS (losL Y (lo1 X)) else Y)) = _
  unfold otP
  rw [los_mk hX, los_mk hY]
theorem shp_6 {X Y : List Sp} (hX : okX X) (h : 0 ≤ lo1 Y) : shp 6 X Y = (clip X 0 (hi1 Y - 1), Y) := by
  rw [← clip_cut hX]
  show (if 6 = 6 ∧ 0 ≤ lo1 Y then (cutX X 0 (hi1 Y - 1), Y) else (X, Y)) = _
  rw [if_pos ⟨rfl, h⟩]
theorem shp_6n {X Y : List Sp} (h : ¬ 0 ≤ lo1 Y) : shp 6 X Y = (X, Y) := by
  show (if 6 = 6 ∧ 0 ≤ lo1 Y then (cutX X 0 (hi1 Y - 1), Y) else (X, Y)) = _
  rw [if_neg (fun q => h q.2)]
theorem shp_7 (X Y : List Sp) : shp 7 X Y = (X, Y) := rfl
theorem fO_V {v p i k : Nat} (hp : p < 8) (h : fO (v + 4 + 1 + p) i k) : fV v i k := by unfold fO at h; unfold fV; omega
set_option maxHeartbeats 4000000 in
set_option maxRecDepth 100000 in
theorem k_sh88 {M : gM} {n v e a b q la lb : Nat} {s : St} {F : Nat → List Sp} (h : sP M v) (hs : sQ M e s) (hE : sE M (e + 1) F) (hG : sE M (v + 4) F) (hd : dis e v) (hF : gdF F) (ha : s.2.1 = nI a) (hb : s.2.2.1 = nI b) (ha8 : a < 8) (hb8 : b < 8) (hab : a ≠ b) (hq7 : q ≤ 7) (hla : la = if q = 4 ∨ q = 5 then b else a) (hlb : lb = if q = 4 ∨ q = 5 then a else b) (la8 : la < 8) (lb8 : lb < 8) : GW μX5_sharpen (gRm 3 75 0 0) (gTh (fun r M1 n1 => r = some (.int (bI (decide ((shp q (F a) (F b)).1 ≠ [] ∧ (shp q (F a) (F b)).2 ≠ [])))) ∧ n1 = n ∧ Off M M1 (fV v) ∧ sE M1 (v + 4) (up1 (up1 F a (shp q (F a) (F b)).1) b (shp q (F a) (F b)).2)) 0 0) 0 0 88 [some (.ref v), some (.ref e), some (.int (nI q)), none, some (.int (nI la)), some (.int (nI lb)), none, none] [] M n := by
  have hx0 := hE.2 la la8
  have hy0 := hE.2 lb lb8
  have nX := (hF la la8).2
  have nY := (hF lb lb8).2
  have rlx := lo1_r hx0.2.1 nX
  have rhx := hi1_r hx0.2.1 nX
  have rly := lo1_r hy0.2.1 nY
  have rhy := hi1_r hy0.2.1 nY
  have d1 : e + 1 + 1 + la ≠ v + 4 + 1 + la := by unfold dis at hd; omega
  have d2 : e + 1 + 1 + lb ≠ v + 4 + 1 + lb := by unfold dis at hd; omega
  have d3 : e + 1 + 1 + lb ≠ v + 4 + 1 + la := by unfold dis at hd; omega
  have d4 : e + 1 + 1 + la ≠ v + 4 + 1 + lb := by unfold dis at hd; omega
  have okx := hx0.2.1
  have oky := hy0.2.1
  refine g_aload_n dX5_sharpen_88 rfl ?_
  refine g_getR (f := 4) dX5_sharpen_89 cl5 hs.1 (by decide) (Or.inr (List.mem_of_getElem? (i := 29) rfl)) (Or.inl rfl) rfl hs.2.2.2.2.2.1 ?_
  refine g_iload dX5_sharpen_92 rfl ?_
  refine g_aaloadS dX5_sharpen_94 (j := la) hE.1.1 hE.1.2.1 rfl la8 (by decide) (hE.1.2.2 la la8).1 ?_
  refine g_astore dX5_sharpen_95 (Nat.le_of_ble_eq_true rfl) ?_
  refine g_aload_n dX5_sharpen_97 rfl ?_
  refine g_getR (f := 4) dX5_sharpen_98 cl5 hs.1 (by decide) (Or.inr (List.mem_of_getElem? (i := 29) rfl)) (Or.inl rfl) rfl hs.2.2.2.2.2.1 ?_
  refine g_iload dX5_sharpen_101 rfl ?_
  refine g_aaloadS dX5_sharpen_103 (j := lb) hE.1.1 hE.1.2.1 rfl lb8 (by decide) (hE.1.2.2 lb lb8).1 ?_
  refine g_astore dX5_sharpen_104 (Nat.le_of_ble_eq_true rfl) ?_
  refine g_iload_n dX5_sharpen_106 rfl ?_
  by_cases t_107_0 : (q : Int) = 0 ∨ (q : Int) = 5
  · skip
    refine g_tableIn (off := 41) (tgt := 148) dX5_sharpen_107 (by rw [nI_t (by omega)]; omega) (by rw [nI_t (by omega)]; omega) (by rw [nI_t (by omega)]; rcases t_107_0 with h9 | h9 <;> rw [h9] <;> rfl) (by decide) ?_
    skip
    refine g_aload_n dX5_sharpen_148 rfl ?_
    refine g_getR (f := 1) dX5_sharpen_149 cl6 h.1 (by decide) (Or.inl (iw_5 0 rfl)) (Or.inl rfl) rfl h.2.1.2.1 ?_
    refine g_iload dX5_sharpen_152 rfl ?_
    refine g_aaloadS dX5_sharpen_154 (j := la) hG.1.1 hG.1.2.1 rfl la8 (by decide) (hG.1.2.2 la la8).1 ?_
    refine g_aload dX5_sharpen_155 rfl ?_
    refine g_ldc2 (v := jI (-2147483648)) dX5_sharpen_157 (iw_16 16 rfl) ?_
    refine g_aload dX5_sharpen_160 rfl ?_
    refine g_callV dX5_sharpen_162 sX3_greatest (c_greatest M n (e + 1 + 1 + lb) (F lb) hy0 nY) cl4 hy0.1 iX3_greatest vX3_greatest (iw_16 18 rfl) rfl rfl (Nat.le_of_ble_eq_true rfl) (Nat.le_of_ble_eq_true rfl) (Nat.le_of_ble_eq_true rfl) (Nat.le_of_ble_eq_true rfl) (Nat.le_of_ble_eq_true rfl) ?_
    intro r9 M9 n9 h9
    obtain ⟨h91, h92, h93⟩ := h9
    rw [h91, h92, h93]
    clear h91 h92 h93 r9 M9 n9
    refine g_i2l dX5_sharpen_165 ?_
    rw [iZ_j rhy.1 rhy.2]
    refine g_lconst (v := jI 1) dX5_sharpen_166 rfl ?_
    refine g_lsub dX5_sharpen_167 ?_
    rw [jI_sub]
    refine g_callV dX5_sharpen_168 sX3_becomePart (c_part M n (v + 4 + 1 + la) (e + 1 + 1 + la) (F la) (-2147483648) (hi1 (F lb) - 1) d1 (hG.1.2.2 la la8).2 hx0 (by constructor <;> omega) (by constructor <;> omega)) cl4 (hG.1.2.2 la la8).2 iX3_becomePart vX3_becomePart (iw_16 22 rfl) rfl rfl (Nat.le_of_ble_eq_true rfl) (Nat.le_of_ble_eq_true rfl) (Nat.le_of_ble_eq_true rfl) (Nat.le_of_ble_eq_true rfl) (Nat.le_of_ble_eq_true rfl) ?_
    intro r9 M1 n9 h9
    obtain ⟨h91, h93, hO1, hI1⟩ := h9
    rw [h91, h93]
    clear h91 h93 r9 n9
    have h1 := h.off hO1
    have hx1 := hx0.off hO1 (fun k q => d1 q)
    have hy1 := hy0.off hO1 (fun k q => d3 q)
    have g1 := hG.up hO1 (fun i k q _ _ => q) hI1
    refine g_aload_n dX5_sharpen_171 rfl ?_
    refine g_getR (f := 1) dX5_sharpen_172 cl6 h1.1 (by decide) (Or.inl (iw_5 0 rfl)) (Or.inl rfl) rfl h1.2.1.2.1 ?_
    refine g_iload dX5_sharpen_175 rfl ?_
    refine g_aaloadS dX5_sharpen_177 (j := lb) g1.1.1 g1.1.2.1 rfl lb8 (by decide) (g1.1.2.2 lb lb8).1 ?_
    refine g_aload dX5_sharpen_178 rfl ?_
    refine g_aload dX5_sharpen_180 rfl ?_
    refine g_callV dX5_sharpen_182 sX3_least (c_least M1 n (e + 1 + 1 + la) (F la) hx1 nX) cl4 hx1.1 iX3_least vX3_least (iw_18 0 rfl) rfl rfl (Nat.le_of_ble_eq_true rfl) (Nat.le_of_ble_eq_true rfl) (Nat.le_of_ble_eq_true rfl) (Nat.le_of_ble_eq_true rfl) (Nat.le_of_ble_eq_true rfl) ?_
    intro r9 M9 n9 h9
    obtain ⟨h91, h92, h93⟩ := h9
    rw [h91, h92, h93]
    clear h91 h92 h93 r9 M9 n9
    refine g_i2l dX5_sharpen_185 ?_
    rw [iZ_j rlx.1 rlx.2]
    refine g_lconst (v := jI 1) dX5_sharpen_186 rfl ?_
    refine g_ladd dX5_sharpen_187 ?_
    rw [jI_add]
    refine g_ldc2 (v := jI (2147483647)) dX5_sharpen_188 (iw_16 17 rfl) ?_
    refine g_callV dX5_sharpen_191 sX3_becomePart (c_part M1 n (v + 4 + 1 + lb) (e + 1 + 1 + lb) (F lb) (lo1 (F la) + 1) (2147483647) d2 (g1.1.2.2 lb lb8).2 hy1 (by constructor <;> omega) (by constructor <;> omega)) cl4 (g1.1.2.2 lb lb8).2 iX3_becomePart vX3_becomePart (iw_16 22 rfl) rfl rfl (Nat.le_of_ble_eq_true rfl) (Nat.le_of_ble_eq_true rfl) (Nat.le_of_ble_eq_true rfl) (Nat.le_of_ble_eq_true rfl) (Nat.le_of_ble_eq_true rfl) ?_
    intro r9 M2 n9 h9
    obtain ⟨h91, h93, hO2, hI2⟩ := h9
    rw [h91, h93]
    clear h91 h93 r9 n9
    have hO9 : Off M M2 (fV v) := (hO1.mono (fun i k q => fO_V la8 q)).trans (hO2.mono (fun i k q => fO_V lb8 q))
    have g2 := g1.up hO2 (fun i k q _ _ => q) hI2
    have hZG : ∃ X1 Y1, shp q (F a) (F b) = (X1, Y1) ∧ sE M2 (v + 4) (up1 (up1 F a X1) b Y1) := by
      by_cases t : q = 0
      · have e1 : la = a := by rw [hla, if_neg (by omega)]
        have e2 : lb = b := by rw [hlb, if_neg (by omega)]
        rw [e1, e2] at g2
        rw [e1] at okx
        rw [e2] at oky
        exact ⟨_, _, by rw [t]; exact shp_0 okx oky, g2⟩
      · have e1 : la = b := by rw [hla, if_pos (by omega)]
        have e2 : lb = a := by rw [hlb, if_pos (by omega)]
        rw [e1, e2, up1_comm _ _ _ (Ne.symm hab)] at g2
        rw [e1] at okx
        rw [e2] at oky
        exact ⟨_, _, by rw [show q = 5 by omega]; exact shp_5 oky okx, g2⟩
    obtain ⟨X9, Y9, hZ9, hG9⟩ := hZG
    refine g_goto (tgt := 339) dX5_sharpen_194 (by decide) ?_
    first
      | (have q9 := hZ9)
      | (have hO9 : Off M M (fV v) := Off.rf
         have hG9 : sE M (v + 4) (up1 (up1 F a (F a)) b (F b)) := by
           have e3 : up1 F a (F a) = F := up1_self F a
           rw [e3, up1_self]; exact hG
         have hZ9 : shp q (F a) (F b) = (F a, F b) := by
           by_cases t : q = 6
           · first
               | (exfalso; omega)
               | (rw [t]
                  rw [show (0 : Int32) = iZ 0 from rfl, iZ_lt rly (by constructor <;> omega)] at c_310
                  have e2 : lb = b := by rw [hlb, if_neg (by omega)]
                  rw [e2] at c_310
                  exact shp_6n (by omega))
           · rw [show q = 7 by omega]; exact shp_7 _ _)
    refine g_msk [true, true, false, false, false, false, false, false] ?_
    exact k_sh339 h hs hd ha hb ha8 hb8 hab hO9 hZ9 hG9
  · skip
    by_cases t_107_1 : (q : Int) = 1 ∨ (q : Int) = 4
    · skip
      refine g_tableIn (off := 90) (tgt := 197) dX5_sharpen_107 (by rw [nI_t (by omega)]; omega) (by rw [nI_t (by omega)]; omega) (by rw [nI_t (by omega)]; rcases t_107_1 with h9 | h9 <;> rw [h9] <;> rfl) (by decide) ?_
      refine g_aload_n dX5_sharpen_197 rfl ?_
      refine g_getR (f := 1) dX5_sharpen_198 cl6 h.1 (by decide) (Or.inl (iw_5 0 rfl)) (Or.inl rfl) rfl h.2.1.2.1 ?_
      refine g_iload dX5_sharpen_201 rfl ?_
      refine g_aaloadS dX5_sharpen_203 (j := la) hG.1.1 hG.1.2.1 rfl la8 (by decide) (hG.1.2.2 la la8).1 ?_
      refine g_aload dX5_sharpen_204 rfl ?_
      refine g_ldc2 (v := jI (-2147483648)) dX5_sharpen_206 (iw_16 16 rfl) ?_
      refine g_aload dX5_sharpen_209 rfl ?_
      refine g_callV dX5_sharpen_211 sX3_greatest (c_greatest M n (e + 1 + 1 + lb) (F lb) hy0 nY) cl4 hy0.1 iX3_greatest vX3_greatest (iw_16 18 rfl) rfl rfl (Nat.le_of_ble_eq_true rfl) (Nat.le_of_ble_eq_true rfl) (Nat.le_of_ble_eq_true rfl) (Nat.le_of_ble_eq_true rfl) (Nat.le_of_ble_eq_true rfl) ?_
      intro r9 M9 n9 h9
      obtain ⟨h91, h92, h93⟩ := h9
      rw [h91, h92, h93]
      clear h91 h92 h93 r9 M9 n9
      refine g_i2l dX5_sharpen_214 ?_
      rw [iZ_j rhy.1 rhy.2]
      refine g_callV dX5_sharpen_215 sX3_becomePart (c_part M n (v + 4 + 1 + la) (e + 1 + 1 + la) (F la) (-2147483648) (hi1 (F lb)) d1 (hG.1.2.2 la la8).2 hx0 (by constructor <;> omega) (by constructor <;> omega)) cl4 (hG.1.2.2 la la8).2 iX3_becomePart vX3_becomePart (iw_16 22 rfl) rfl rfl (Nat.le_of_ble_eq_true rfl) (Nat.le_of_ble_eq_true rfl) (Nat.le_of_ble_eq_true rfl) (Nat.le_of_ble_eq_true rfl) (Nat.le_of_ble_eq_true rfl) ?_
      intro r9 M1 n9 h9
      obtain ⟨h91, h93, hO1, hI1⟩ := h9
      rw [h91, h93]
      clear h91 h93 r9 n9
      have h1 := h.off hO1
      have hx1 := hx0.off hO1 (fun k q => d1 q)
      have hy1 := hy0.off hO1 (fun k q => d3 q)
      have g1 := hG.up hO1 (fun i k q _ _ => q) hI1
      refine g_aload_n dX5_sharpen_218 rfl ?_
      refine g_getR (f := 1) dX5_sharpen_219 cl6 h1.1 (by decide) (Or.inl (iw_5 0 rfl)) (Or.inl rfl) rfl h1.2.1.2.1 ?_
      refine g_iload dX5_sharpen_222 rfl ?_
      refine g_aaloadS dX5_sharpen_224 (j := lb) g1.1.1 g1.1.2.1 rfl lb8 (by decide) (g1.1.2.2 lb lb8).1 ?_
      refine g_aload dX5_sharpen_225 rfl ?_
      refine g_aload dX5_sharpen_227 rfl ?_
      refine g_callV dX5_sharpen_229 sX3_least (c_least M1 n (e + 1 + 1 + la) (F la) hx1 nX) cl4 hx1.1 iX3_least vX3_least (iw_18 0 rfl) rfl rfl (Nat.le_of_ble_eq_true rfl) (Nat.le_of_ble_eq_true rfl) (Nat.le_of_ble_eq_true rfl) (Nat.le_of_ble_eq_true rfl) (Nat.le_of_ble_eq_true rfl) ?_
      intro r9 M9 n9 h9
      obtain ⟨h91, h92, h93⟩ := h9
      rw [h91, h92, h93]
      clear h91 h92 h93 r9 M9 n9
      refine g_i2l dX5_sharpen_232 ?_
      rw [iZ_j rlx.1 rlx.2]
      refine g_ldc2 (v := jI (2147483647)) dX5_sharpen_233 (iw_16 17 rfl) ?_
      refine g_callV dX5_sharpen_236 sX3_becomePart (c_part M1 n (v + 4 + 1 + lb) (e + 1 + 1 + lb) (F lb) (lo1 (F la)) (2147483647) d2 (g1.1.2.2 lb lb8).2 hy1 (by constructor <;> omega) (by constructor <;> omega)) cl4 (g1.1.2.2 lb lb8).2 iX3_becomePart vX3_becomePart (iw_16 22 rfl) rfl rfl (Nat.le_of_ble_eq_true rfl) (Nat.le_of_ble_eq_true rfl) (Nat.le_of_ble_eq_true rfl) (Nat.le_of_ble_eq_true rfl) (Nat.le_of_ble_eq_true rfl) ?_
      intro r9 M2 n9 h9
      obtain ⟨h91, h93, hO2, hI2⟩ := h9
      rw [h91, h93]
      clear h91 h93 r9 n9
      have hO9 : Off M M2 (fV v) := (hO1.mono (fun i k q => fO_V la8 q)).trans (hO2.mono (fun i k q => fO_V lb8 q))
      have g2 := g1.up hO2 (fun i k q _ _ => q) hI2
      have hZG : ∃ X1 Y1, shp q (F a) (F b) = (X1, Y1) ∧ sE M2 (v + 4) (up1 (up1 F a X1) b Y1) := by
        by_cases t : q = 1
        · have e1 : la = a := by rw [hla, if_neg (by omega)]
          have e2 : lb = b := by rw [hlb, if_neg (by omega)]
          rw [e1, e2] at g2
          rw [e1] at okx
          rw [e2] at oky
          exact ⟨_, _, by rw [t]; exact shp_1 okx oky, g2⟩
        · have e1 : la = b := by rw [hla, if_pos (by omega)]
          have e2 : lb = a := by rw [hlb, if_pos (by omega)]
          rw [e1, e2, up1_comm _ _ _ (Ne.symm hab)] at g2
          rw [e1] at okx
          rw [e2] at oky
          exact ⟨_, _, by rw [show q = 4 by omega]; exact shp_4 oky okx, g2⟩
      obtain ⟨X9, Y9, hZ9, hG9⟩ := hZG
      refine g_goto (tgt := 339) dX5_sharpen_239 (by decide) ?_
      first
        | (have q9 := hZ9)
        | (have hO9 : Off M M (fV v) := Off.rf
           have hG9 : sE M (v + 4) (up1 (up1 F a (F a)) b (F b)) := by
             have e3 : up1 F a (F a) = F := up1_self F a
             rw [e3, up1_self]; exact hG
           have hZ9 : shp q (F a) (F b) = (F a, F b) := by
             by_cases t : q = 6
             · first
                 | (exfalso; omega)
                 | (rw [t]
                    rw [show (0 : Int32) = iZ 0 from rfl, iZ_lt rly (by constructor <;> omega)] at c_310
                    have e2 : lb = b := by rw [hlb, if_neg (by omega)]
                    rw [e2] at c_310
                    exact shp_6n (by omega))
             · rw [show q = 7 by omega]; exact shp_7 _ _)
      refine g_msk [true, true, false, false, false, false, false, false] ?_
      exact k_sh339 h hs hd ha hb ha8 hb8 hab hO9 hZ9 hG9
    · skip
      by_cases t_107_2 : (q : Int) = 2
      · skip
        refine g_tableIn (off := 135) (tgt := 242) dX5_sharpen_107 (by rw [nI_t (by omega)]; omega) (by rw [nI_t (by omega)]; omega) (by rw [nI_t (by omega)]; rw [t_107_2]; rfl) (by decide) ?_
        have e1 : la = a := by rw [hla, if_neg (by omega)]
        have e2 : lb = b := by rw [hlb, if_neg (by omega)]
        refine g_aload_n dX5_sharpen_242 rfl ?_
        refine g_getR (f := 0) dX5_sharpen_243 cl6 h.1 (by decide) (Or.inl (iw_4 23 rfl)) (Or.inl rfl) rfl h.2.1.1 ?_
        refine g_aload dX5_sharpen_246 rfl ?_
        refine g_aload dX5_sharpen_248 rfl ?_
        refine g_aload_n dX5_sharpen_250 rfl ?_
        refine g_getR (f := 1) dX5_sharpen_251 cl6 h.1 (by decide) (Or.inl (iw_5 0 rfl)) (Or.inl rfl) rfl h.2.1.2.1 ?_
        refine g_aload_n dX5_sharpen_254 rfl ?_
        refine g_getI (f := 1) dX5_sharpen_255 cl5 hs.1 (by decide) (Or.inr (List.mem_of_getElem? (i := 26) rfl)) (Or.inl rfl) (Or.inl rfl) ?_
        rw [hs.2.2.1]
        refine g_aaloadS dX5_sharpen_258 (j := a) hG.1.1 hG.1.2.1 ha ha8 (by decide) (hG.1.2.2 a ha8).1 ?_
        refine g_callV dX5_sharpen_259 sX0_makeCommon (c_common M n (v + 1) (e + 1 + 1 + la) (e + 1 + 1 + lb) (v + 4 + 1 + a) (F la) (F lb) h.2.2.1 hx0 hy0 (hG.1.2.2 a ha8).2) cl1 h.2.2.1.1 iX0_makeCommon vX0_makeCommon (iw_18 4 rfl) rfl rfl (Nat.le_of_ble_eq_true rfl) (Nat.le_of_ble_eq_true rfl) (Nat.le_of_ble_eq_true rfl) (Nat.le_of_ble_eq_true rfl) (Nat.le_of_ble_eq_true rfl) ?_
        intro r9 M1 n9 h9
        obtain ⟨h91, h93, hO1, hI1⟩ := h9
        rw [h91, h93]
        clear h91 h93 r9 n9
        have hO1' : Off M M1 (fV v) := hO1.mono (fun i k q => by
          rcases q with q | q
          · exact fY_V q
          · unfold fV; omega)
        have h1 := h.off hO1
        have hs1 := hs.offV hd hO1'
        have g1 := hG.up hO1 (fun i k q h8 h9 => by
          rcases q with q | q
          · unfold fY at q; omega
          · exact q) hI1
        refine g_aload_n dX5_sharpen_262 rfl ?_
        refine g_getR (f := 1) dX5_sharpen_263 cl6 h1.1 (by decide) (Or.inl (iw_5 0 rfl)) (Or.inl rfl) rfl h1.2.1.2.1 ?_
        refine g_aload_n dX5_sharpen_266 rfl ?_
        refine g_getI (f := 2) dX5_sharpen_267 cl5 hs1.1 (by decide) (Or.inr (List.mem_of_getElem? (i := 31) rfl)) (Or.inl rfl) (Or.inl rfl) ?_
        rw [hs1.2.2.2.1]
        refine g_aaloadS dX5_sharpen_270 (j := b) g1.1.1 g1.1.2.1 hb hb8 (by decide) (g1.1.2.2 b hb8).1 ?_
        refine g_aload_n dX5_sharpen_271 rfl ?_
        refine g_getR (f := 1) dX5_sharpen_272 cl6 h1.1 (by decide) (Or.inl (iw_5 0 rfl)) (Or.inl rfl) rfl h1.2.1.2.1 ?_
        refine g_aload_n dX5_sharpen_275 rfl ?_
        refine g_getI (f := 1) dX5_sharpen_276 cl5 hs1.1 (by decide) (Or.inr (List.mem_of_getElem? (i := 26) rfl)) (Or.inl rfl) (Or.inl rfl) ?_
        rw [hs1.2.2.1]
        refine g_aaloadS dX5_sharpen_279 (j := a) g1.1.1 g1.1.2.1 ha ha8 (by decide) (g1.1.2.2 a ha8).1 ?_
        refine g_callV dX5_sharpen_280 sX3_becomeCopy (c_copy M1 n (v + 4 + 1 + b) (v + 4 + 1 + a) (mkS (cmL (F la) (F lb))) (g1.1.2.2 b hb8).2 hI1) cl4 (g1.1.2.2 b hb8).2 iX3_becomeCopy vX3_becomeCopy (iw_19 12 rfl) rfl rfl (Nat.le_of_ble_eq_true rfl) (Nat.le_of_ble_eq_true rfl) (Nat.le_of_ble_eq_true rfl) (Nat.le_of_ble_eq_true rfl) (Nat.le_of_ble_eq_true rfl) ?_
        intro r9 M2 n9 h9
        obtain ⟨h91, h93, hO2, hI2⟩ := h9
        rw [h91, h93]
        clear h91 h93 r9 n9
        have hO9 : Off M M2 (fV v) := hO1'.trans (hO2.mono (fun i k q => fO_V hb8 q))
        have hG9 := g1.up hO2 (fun i k q _ _ => q) hI2
        have hZ9 : shp q (F a) (F b) = (mkS (cmL (F la) (F lb)), mkS (cmL (F la) (F lb))) := by rw [show q = 2 by omega, e1, e2]; exact shp_2 _ _
        refine g_goto (tgt := 339) dX5_sharpen_283 (by decide) ?_
        first
          | (have q9 := hZ9)
          | (have hO9 : Off M M (fV v) := Off.rf
             have hG9 : sE M (v + 4) (up1 (up1 F a (F a)) b (F b)) := by
               have e3 : up1 F a (F a) = F := up1_self F a
               rw [e3, up1_self]; exact hG
             have hZ9 : shp q (F a) (F b) = (F a, F b) := by
               by_cases t : q = 6
               · first
                   | (exfalso; omega)
                   | (rw [t]
                      rw [show (0 : Int32) = iZ 0 from rfl, iZ_lt rly (by constructor <;> omega)] at c_310
                      have e2 : lb = b := by rw [hlb, if_neg (by omega)]
                      rw [e2] at c_310
                      exact shp_6n (by omega))
               · rw [show q = 7 by omega]; exact shp_7 _ _)
        refine g_msk [true, true, false, false, false, false, false, false] ?_
        exact k_sh339 h hs hd ha hb ha8 hb8 hab hO9 hZ9 hG9
      · skip
        by_cases t_107_3 : (q : Int) = 3
        · skip
          refine g_tableIn (off := 179) (tgt := 286) dX5_sharpen_107 (by rw [nI_t (by omega)]; omega) (by rw [nI_t (by omega)]; omega) (by rw [nI_t (by omega)]; rw [t_107_3]; rfl) (by decide) ?_
          have e1 : la = a := by rw [hla, if_neg (by omega)]
          have e2 : lb = b := by rw [hlb, if_neg (by omega)]
          refine g_aload_n dX5_sharpen_286 rfl ?_
          refine g_aload dX5_sharpen_287 rfl ?_
          refine g_aload dX5_sharpen_289 rfl ?_
          refine g_aload_n dX5_sharpen_291 rfl ?_
          refine g_getI (f := 1) dX5_sharpen_292 cl5 hs.1 (by decide) (Or.inr (List.mem_of_getElem? (i := 26) rfl)) (Or.inl rfl) (Or.inl rfl) ?_
          rw [hs.2.2.1, ha]
          refine g_aload_n dX5_sharpen_295 rfl ?_
          refine g_getI (f := 2) dX5_sharpen_296 cl5 hs.1 (by decide) (Or.inr (List.mem_of_getElem? (i := 31) rfl)) (Or.inl rfl) (Or.inl rfl) ?_
          rw [hs.2.2.2.1, hb]
          refine g_callV dX5_sharpen_299 sX5_sharpenOther (c_other M n v (e + 1 + 1 + la) (e + 1 + 1 + lb) a b (F la) (F lb) F h hx0 hy0 hG (by unfold dis at hd; omega) (by unfold dis at hd; omega) ha8 hb8 hab (by rw [e1]) (by rw [e2])) cl6 h.1 iX5_sharpenOther vX5_sharpenOther (iw_19 13 rfl) rfl rfl (Nat.le_of_ble_eq_true rfl) (Nat.le_of_ble_eq_true rfl) (Nat.le_of_ble_eq_true rfl) (Nat.le_of_ble_eq_true rfl) (Nat.le_of_ble_eq_true rfl) ?_
          intro r9 M1 n9 h9
          obtain ⟨h91, h93, hO9, hG9⟩ := h9
          rw [h91, h93]
          clear h91 h93 r9 n9
          have hZ9 : shp q (F a) (F b) = (otP (F la) (F lb), otP (F lb) (F la)) := by rw [show q = 3 by omega, e1, e2]; rw [e1] at okx; rw [e2] at oky; exact shp_3 okx oky
          refine g_goto (tgt := 339) dX5_sharpen_302 (by decide) ?_
          first
            | (have q9 := hZ9)
            | (have hO9 : Off M M (fV v) := Off.rf
               have hG9 : sE M (v + 4) (up1 (up1 F a (F a)) b (F b)) := by
                 have e3 : up1 F a (F a) = F := up1_self F a
                 rw [e3, up1_self]; exact hG
               have hZ9 : shp q (F a) (F b) = (F a, F b) := by
                 by_cases t : q = 6
                 · first
                     | (exfalso; omega)
                     | (rw [t]
                        rw [show (0 : Int32) = iZ 0 from rfl, iZ_lt rly (by constructor <;> omega)] at c_310
                        have e2 : lb = b := by rw [hlb, if_neg (by omega)]
                        rw [e2] at c_310
                        exact shp_6n (by omega))
                 · rw [show q = 7 by omega]; exact shp_7 _ _)
          refine g_msk [true, true, false, false, false, false, false, false] ?_
          exact k_sh339 h hs hd ha hb ha8 hb8 hab hO9 hZ9 hG9
        · skip
          by_cases t_107_6 : (q : Int) = 6
          · skip
            refine g_tableIn (off := 198) (tgt := 305) dX5_sharpen_107 (by rw [nI_t (by omega)]; omega) (by rw [nI_t (by omega)]; omega) (by rw [nI_t (by omega)]; rw [t_107_6]; rfl) (by decide) ?_
            have e1 : la = a := by rw [hla, if_neg (by omega)]
            have e2 : lb = b := by rw [hlb, if_neg (by omega)]
            refine g_aload dX5_sharpen_305 rfl ?_
            refine g_callV dX5_sharpen_307 sX3_least (c_least M n (e + 1 + 1 + lb) (F lb) hy0 nY) cl4 hy0.1 iX3_least vX3_least (iw_18 0 rfl) rfl rfl (Nat.le_of_ble_eq_true rfl) (Nat.le_of_ble_eq_true rfl) (Nat.le_of_ble_eq_true rfl) (Nat.le_of_ble_eq_true rfl) (Nat.le_of_ble_eq_true rfl) ?_
            intro r9 M9 n9 h9
            obtain ⟨h91, h92, h93⟩ := h9
            rw [h91, h92, h93]
            clear h91 h92 h93 r9 M9 n9
            skip
            refine g_if_lt (tgt := 339) dX5_sharpen_310 (by decide) (fun c_310 => ?_) (fun c_310 => ?_)
            · skip
              first
                | (have q9 := hZ9)
                | (have hO9 : Off M M (fV v) := Off.rf
                   have hG9 : sE M (v + 4) (up1 (up1 F a (F a)) b (F b)) := by
                     have e3 : up1 F a (F a) = F := up1_self F a
                     rw [e3, up1_self]; exact hG
                   have hZ9 : shp q (F a) (F b) = (F a, F b) := by
                     by_cases t : q = 6
                     · first
                         | (exfalso; omega)
                         | (rw [t]
                            rw [show (0 : Int32) = iZ 0 from rfl, iZ_lt rly (by constructor <;> omega)] at c_310
                            have e2 : lb = b := by rw [hlb, if_neg (by omega)]
                            rw [e2] at c_310
                            exact shp_6n (by omega))
                     · rw [show q = 7 by omega]; exact shp_7 _ _)
              refine g_msk [true, true, false, false, false, false, false, false] ?_
              exact k_sh339 h hs hd ha hb ha8 hb8 hab hO9 hZ9 hG9
            · skip
              rw [show (0 : Int32) = iZ 0 from rfl, iZ_lt rly (by constructor <;> omega)] at c_310
              refine g_aload_n dX5_sharpen_313 rfl ?_
              refine g_getR (f := 1) dX5_sharpen_314 cl6 h.1 (by decide) (Or.inl (iw_5 0 rfl)) (Or.inl rfl) rfl h.2.1.2.1 ?_
              refine g_aload_n dX5_sharpen_317 rfl ?_
              refine g_getI (f := 1) dX5_sharpen_318 cl5 hs.1 (by decide) (Or.inr (List.mem_of_getElem? (i := 26) rfl)) (Or.inl rfl) (Or.inl rfl) ?_
              rw [hs.2.2.1]
              refine g_aaloadS dX5_sharpen_321 (j := a) hG.1.1 hG.1.2.1 ha ha8 (by decide) (hG.1.2.2 a ha8).1 ?_
              refine g_aload dX5_sharpen_322 rfl ?_
              refine g_lconst (v := jI 0) dX5_sharpen_324 rfl ?_
              refine g_aload dX5_sharpen_325 rfl ?_
              refine g_callV dX5_sharpen_327 sX3_greatest (c_greatest M n (e + 1 + 1 + lb) (F lb) hy0 nY) cl4 hy0.1 iX3_greatest vX3_greatest (iw_16 18 rfl) rfl rfl (Nat.le_of_ble_eq_true rfl) (Nat.le_of_ble_eq_true rfl) (Nat.le_of_ble_eq_true rfl) (Nat.le_of_ble_eq_true rfl) (Nat.le_of_ble_eq_true rfl) ?_
              intro r9 M9 n9 h9
              obtain ⟨h91, h92, h93⟩ := h9
              rw [h91, h92, h93]
              clear h91 h92 h93 r9 M9 n9
              refine g_i2l dX5_sharpen_330 ?_
              rw [iZ_j rhy.1 rhy.2]
              refine g_lconst (v := jI 1) dX5_sharpen_331 rfl ?_
              refine g_lsub dX5_sharpen_332 ?_
              rw [jI_sub]
              refine g_callV dX5_sharpen_333 sX3_becomePart (c_part M n (v + 4 + 1 + a) (e + 1 + 1 + la) (F la) 0 (hi1 (F lb) - 1) (by unfold dis at hd; omega) (hG.1.2.2 a ha8).2 hx0 (by constructor <;> omega) (by constructor <;> omega)) cl4 (hG.1.2.2 a ha8).2 iX3_becomePart vX3_becomePart (iw_16 22 rfl) rfl rfl (Nat.le_of_ble_eq_true rfl) (Nat.le_of_ble_eq_true rfl) (Nat.le_of_ble_eq_true rfl) (Nat.le_of_ble_eq_true rfl) (Nat.le_of_ble_eq_true rfl) ?_
              intro r9 M1 n9 h9
              obtain ⟨h91, h93, hO1, hI1⟩ := h9
              rw [h91, h93]
              clear h91 h93 r9 n9
              have hO9 : Off M M1 (fV v) := hO1.mono (fun i k q => fO_V ha8 q)
              have hG9 : sE M1 (v + 4) (up1 (up1 F a (clip (F la) 0 (hi1 (F lb) - 1))) b (F b)) := by
                have g1 := hG.up hO1 (fun i k q _ _ => q) hI1
                have e3 : F b = up1 F a (clip (F la) 0 (hi1 (F lb) - 1)) b := by rw [up1_ne _ _ (Ne.symm hab)]
                rw [e3, up1_self]
                exact g1
              have hZ9 : shp q (F a) (F b) = (clip (F la) 0 (hi1 (F lb) - 1), F b) := by rw [show q = 6 by omega, e1, e2]; rw [e1] at okx; rw [e2] at c_310; exact shp_6 okx (by omega)
              refine g_goto (tgt := 339) dX5_sharpen_336 (by decide) ?_
              first
                | (have q9 := hZ9)
                | (have hO9 : Off M M (fV v) := Off.rf
                   have hG9 : sE M (v + 4) (up1 (up1 F a (F a)) b (F b)) := by
                     have e3 : up1 F a (F a) = F := up1_self F a
                     rw [e3, up1_self]; exact hG
                   have hZ9 : shp q (F a) (F b) = (F a, F b) := by
                     by_cases t : q = 6
                     · first
                         | (exfalso; omega)
                         | (rw [t]
                            rw [show (0 : Int32) = iZ 0 from rfl, iZ_lt rly (by constructor <;> omega)] at c_310
                            have e2 : lb = b := by rw [hlb, if_neg (by omega)]
                            rw [e2] at c_310
                            exact shp_6n (by omega))
                     · rw [show q = 7 by omega]; exact shp_7 _ _)
              refine g_msk [true, true, false, false, false, false, false, false] ?_
              exact k_sh339 h hs hd ha hb ha8 hb8 hab hO9 hZ9 hG9
          · skip
            refine g_tableOut (tgt := 339) dX5_sharpen_107 (by rw [nI_t (by omega)]; omega) (by decide) ?_
            first
              | (have q9 := hZ9)
              | (have hO9 : Off M M (fV v) := Off.rf
                 have hG9 : sE M (v + 4) (up1 (up1 F a (F a)) b (F b)) := by
                   have e3 : up1 F a (F a) = F := up1_self F a
                   rw [e3, up1_self]; exact hG
                 have hZ9 : shp q (F a) (F b) = (F a, F b) := by
                   by_cases t : q = 6
                   · first
                       | (exfalso; omega)
                       | (rw [t]
                          rw [show (0 : Int32) = iZ 0 from rfl, iZ_lt rly (by constructor <;> omega)] at c_310
                          have e2 : lb = b := by rw [hlb, if_neg (by omega)]
                          rw [e2] at c_310
                          exact shp_6n (by omega))
                   · rw [show q = 7 by omega]; exact shp_7 _ _)
            refine g_msk [true, true, false, false, false, false, false, false] ?_
            exact k_sh339 h hs hd ha hb ha8 hb8 hab hO9 hZ9 hG9

set_option maxHeartbeats 4000000 in
set_option maxRecDepth 100000 in
theorem k_sh71 {M : gM} {n v e a b q la : Nat} {s : St} {F : Nat → List Sp} (h : sP M v) (hs : sQ M e s) (hE : sE M (e + 1) F) (hG : sE M (v + 4) F) (hd : dis e v) (hF : gdF F) (ha : s.2.1 = nI a) (hb : s.2.2.1 = nI b) (ha8 : a < 8) (hb8 : b < 8) (hab : a ≠ b) (hq7 : q ≤ 7) (hla : la = if q = 4 ∨ q = 5 then b else a) : GW μX5_sharpen (gRm 3 75 0 0) (gTh (fun r M1 n1 => r = some (.int (bI (decide ((shp q (F a) (F b)).1 ≠ [] ∧ (shp q (F a) (F b)).2 ≠ [])))) ∧ n1 = n ∧ Off M M1 (fV v) ∧ sE M1 (v + 4) (up1 (up1 F a (shp q (F a) (F b)).1) b (shp q (F a) (F b)).2)) 0 0) 0 0 71 [some (.ref v), some (.ref e), some (.int (nI q)), some (.int (bI (decide (q = 4 ∨ q = 5)))), some (.int (nI la)), none, none, none] [] M n := by
  refine g_iload_n dX5_sharpen_71 rfl ?_
  refine g_if_eq (tgt := 82) dX5_sharpen_72 (by decide) (fun c_72 => ?_) (fun c_72 => ?_)
  · skip
    refine g_aload_n dX5_sharpen_82 rfl ?_
    refine g_getI (f := 2) dX5_sharpen_83 cl5 hs.1 (by decide) (Or.inr (List.mem_of_getElem? (i := 31) rfl)) (Or.inl rfl) (Or.inl rfl) ?_
    first
      | rw [hs.2.2.1, ha]
      | rw [hs.2.2.2.1, hb]
    refine g_istore dX5_sharpen_86 (Nat.le_of_ble_eq_true rfl) ?_
    refine g_drop 3 ?_
    have la8 : la < 8 := by rw [hla]; split <;> omega
    rw [bI_eq0] at c_72
    first
      | (have t := of_decide_eq_false c_72
         exact k_sh88 h hs hE hG hd hF ha hb ha8 hb8 hab hq7 hla (by rw [if_neg t]) la8 hb8)
      | (rw [Bool.not_eq_false] at c_72
         have t := of_decide_eq_true c_72
         exact k_sh88 h hs hE hG hd hF ha hb ha8 hb8 hab hq7 hla (by rw [if_pos t]) la8 ha8)
  · skip
    refine g_aload_n dX5_sharpen_75 rfl ?_
    refine g_getI (f := 1) dX5_sharpen_76 cl5 hs.1 (by decide) (Or.inr (List.mem_of_getElem? (i := 26) rfl)) (Or.inl rfl) (Or.inl rfl) ?_
    refine g_goto (tgt := 86) dX5_sharpen_79 (by decide) ?_
    first
      | rw [hs.2.2.1, ha]
      | rw [hs.2.2.2.1, hb]
    refine g_istore dX5_sharpen_86 (Nat.le_of_ble_eq_true rfl) ?_
    refine g_drop 3 ?_
    have la8 : la < 8 := by rw [hla]; split <;> omega
    rw [bI_eq0] at c_72
    first
      | (have t := of_decide_eq_false c_72
         exact k_sh88 h hs hE hG hd hF ha hb ha8 hb8 hab hq7 hla (by rw [if_neg t]) la8 hb8)
      | (rw [Bool.not_eq_false] at c_72
         have t := of_decide_eq_true c_72
         exact k_sh88 h hs hE hG hd hF ha hb ha8 hb8 hab hq7 hla (by rw [if_pos t]) la8 ha8)

set_option maxHeartbeats 4000000 in
set_option maxRecDepth 100000 in
theorem k_sh54 {M : gM} {n v e a b q : Nat} {s : St} {F : Nat → List Sp} (h : sP M v) (hs : sQ M e s) (hE : sE M (e + 1) F) (hG : sE M (v + 4) F) (hd : dis e v) (hF : gdF F) (ha : s.2.1 = nI a) (hb : s.2.2.1 = nI b) (ha8 : a < 8) (hb8 : b < 8) (hab : a ≠ b) (hq7 : q ≤ 7) : GW μX5_sharpen (gRm 3 75 0 0) (gTh (fun r M1 n1 => r = some (.int (bI (decide ((shp q (F a) (F b)).1 ≠ [] ∧ (shp q (F a) (F b)).2 ≠ [])))) ∧ n1 = n ∧ Off M M1 (fV v) ∧ sE M1 (v + 4) (up1 (up1 F a (shp q (F a) (F b)).1) b (shp q (F a) (F b)).2)) 0 0) 0 0 54 [some (.ref v), some (.ref e), some (.int (nI q)), some (.int (bI (decide (q = 4 ∨ q = 5)))), none, none, none, none] [] M n := by
  refine g_iload_n dX5_sharpen_54 rfl ?_
  refine g_if_eq (tgt := 65) dX5_sharpen_55 (by decide) (fun c_55 => ?_) (fun c_55 => ?_)
  · skip
    refine g_aload_n dX5_sharpen_65 rfl ?_
    refine g_getI (f := 1) dX5_sharpen_66 cl5 hs.1 (by decide) (Or.inr (List.mem_of_getElem? (i := 26) rfl)) (Or.inl rfl) (Or.inl rfl) ?_
    first
      | rw [hs.2.2.1, ha]
      | rw [hs.2.2.2.1, hb]
    refine g_istore dX5_sharpen_69 (Nat.le_of_ble_eq_true rfl) ?_
    rw [bI_eq0] at c_55
    first
      | (rw [Bool.not_eq_false] at c_55
         have t := of_decide_eq_true c_55
         exact k_sh71 h hs hE hG hd hF ha hb ha8 hb8 hab hq7 (by rw [if_pos t]))
      | (have t := of_decide_eq_false c_55
         exact k_sh71 h hs hE hG hd hF ha hb ha8 hb8 hab hq7 (by rw [if_neg t]))
  · skip
    refine g_aload_n dX5_sharpen_58 rfl ?_
    refine g_getI (f := 2) dX5_sharpen_59 cl5 hs.1 (by decide) (Or.inr (List.mem_of_getElem? (i := 31) rfl)) (Or.inl rfl) (Or.inl rfl) ?_
    refine g_goto (tgt := 69) dX5_sharpen_62 (by decide) ?_
    first
      | rw [hs.2.2.1, ha]
      | rw [hs.2.2.2.1, hb]
    refine g_istore dX5_sharpen_69 (Nat.le_of_ble_eq_true rfl) ?_
    rw [bI_eq0] at c_55
    first
      | (rw [Bool.not_eq_false] at c_55
         have t := of_decide_eq_true c_55
         exact k_sh71 h hs hE hG hd hF ha hb ha8 hb8 hab hq7 (by rw [if_pos t]))
      | (have t := of_decide_eq_false c_55
         exact k_sh71 h hs hE hG hd hF ha hb ha8 hb8 hab hq7 (by rw [if_neg t]))

def shO (s : St) (F : Nat → List Sp) (q : Nat) : Option (Nat → List Sp) := if s.2.1 = s.2.2.1 then (if q = 1 ∨ q = 2 ∨ q = 4 ∨ q = 7 then some F else none)
  else if (shp q (F (pl s.2.1)) (F (pl s.2.2.1))).1 ≠ [] ∧ (shp q (F (pl s.2.1)) (F (pl s.2.2.1))).2 ≠ [] then some (up1 (up1 F (pl s.2.1) (shp q (F (pl s.2.1)) (F (pl s.2.2.1))).1) (pl s.2.2.1) (shp q (F (pl s.2.1)) (F (pl s.2.2.1))).2) else none
theorem gvn_t {s : St} {F : Nat → List Sp} (h : 11 ≤ s.1 ∧ s.1 ≤ 17) : gvn s F true = shO s F (s.1 - 11) := by
  unfold gvn shO
  rw [if_neg (by omega), if_neg (by omega), if_neg (by omega)]
  by_cases e : s.2.1 = s.2.2.1
  · rw [if_pos e, if_pos e]
    unfold eqR
    by_cases c : s.1 - 11 = 1 ∨ s.1 - 11 = 2 ∨ s.1 - 11 = 4
    · rw [decide_eq_true c, if_pos rfl, if_pos (by omega)]
    · rw [decide_eq_false c, if_neg (by decide), if_neg (by omega)]
  · rw [if_neg e, if_neg e]
    rfl
theorem gvn_f {s : St} {F : Nat → List Sp} (h : 11 ≤ s.1 ∧ s.1 ≤ 17) : gvn s F false = shO s F (notR (s.1 - 11)) := by
  unfold gvn shO
  rw [if_neg (by omega), if_neg (by omega), if_neg (by omega)]
  by_cases e : s.2.1 = s.2.2.1
  · rw [if_pos e, if_pos e]
    unfold eqR notR
    have h7 : s.1 - 11 = 0 ∨ s.1 - 11 = 1 ∨ s.1 - 11 = 2 ∨ s.1 - 11 = 3 ∨ s.1 - 11 = 4 ∨ s.1 - 11 = 5 ∨ s.1 - 11 = 6 := by omega
    rcases h7 with h7 | h7 | h7 | h7 | h7 | h7 | h7 <;> rw [h7] <;> rfl
  · rw [if_neg e, if_neg e]
    rfl
set_option maxHeartbeats 4000000 in
set_option maxRecDepth 100000 in
theorem c_sharpen (M : gM) (n v e q : Nat) (s : St) (F : Nat → List Sp) (h : sP M v) (hs : sQ M e s) (hE : sE M (e + 1) F) (hG : sE M (v + 4) F) (hd : dis e v) (hF : gdF F) (ha : isP s.2.1) (hb : isP s.2.2.1) (hq7 : q ≤ 7) : GM μX5_sharpen 3 75 0 0 [.ref v, .ref e, .int (nI q)] M n (fun r M1 n1 => r = some (.int (bI (shO s F q).isSome)) ∧ n1 = n ∧ Off M M1 (fV v) ∧ ∀ G, shO s F q = some G → sE M1 (v + 4) G) := by
  refine GM.ofW (by decide) rfl (Nat.le_of_ble_eq_true rfl) rfl ?_
  refine g_aload_n dX5_sharpen_0 rfl ?_
  refine g_getI (f := 1) dX5_sharpen_1 cl5 hs.1 (by decide) (Or.inr (List.mem_of_getElem? (i := 26) rfl)) (Or.inl rfl) (Or.inl rfl) ?_
  rw [hs.2.2.1]
  refine g_aload_n dX5_sharpen_4 rfl ?_
  refine g_getI (f := 2) dX5_sharpen_5 cl5 hs.1 (by decide) (Or.inr (List.mem_of_getElem? (i := 31) rfl)) (Or.inl rfl) (Or.inl rfl) ?_
  rw [hs.2.2.2.1]
  refine g_icmp_ne (tgt := 38) dX5_sharpen_8 (by decide) (fun c_8 => ?_) (fun c_8 => ?_)
  · skip
    refine g_iload_n dX5_sharpen_38 rfl ?_
    refine g_iconst (v := nI 4) dX5_sharpen_39 rfl ?_
    refine g_icmp_eq (tgt := 48) dX5_sharpen_40 (by decide) (fun c_40 => ?_) (fun c_40 => ?_)
    · skip
      refine g_iconst (v := nI 1) dX5_sharpen_48 rfl ?_
      refine g_goto (tgt := 53) dX5_sharpen_49 (by decide) ?_
      (try rw [nI_inj (by omega) (by omega)] at c_40)
      (try rw [nI_inj (by omega) (by omega)] at c_45)
      first
        | rw [show nI 0 = bI (decide (q = 4 ∨ q = 5)) by rw [decide_eq_false (by omega)]; rfl]
        | rw [show nI 1 = bI (decide (q = 4 ∨ q = 5)) by rw [decide_eq_true (by omega)]; rfl]
      refine g_istore_n dX5_sharpen_53 (Nat.le_of_ble_eq_true rfl) ?_
      have hab : pl s.2.1 ≠ pl s.2.2.1 := fun e9 => c_8 (by rw [ha.eq, hb.eq, e9])
      refine GW.post (fun r M1 n1 h9 => ?_) (k_sh54 h hs hE hG hd hF ha.eq hb.eq ha.lt hb.lt hab hq7)
      obtain ⟨h91, h92, h93, h94⟩ := h9
      have e8 : shO s F q = if (shp q (F (pl s.2.1)) (F (pl s.2.2.1))).1 ≠ [] ∧ (shp q (F (pl s.2.1)) (F (pl s.2.2.1))).2 ≠ [] then some (up1 (up1 F (pl s.2.1) (shp q (F (pl s.2.1)) (F (pl s.2.2.1))).1) (pl s.2.2.1) (shp q (F (pl s.2.1)) (F (pl s.2.2.1))).2) else none := by unfold shO; rw [if_neg c_8]
      by_cases t : (shp q (F (pl s.2.1)) (F (pl s.2.2.1))).1 ≠ [] ∧ (shp q (F (pl s.2.1)) (F (pl s.2.2.1))).2 ≠ []
      · rw [if_pos t] at e8
        rw [decide_eq_true t] at h91
        exact ⟨by rw [h91, e8]; rfl, h92, h93, fun G hG9 => by rw [e8] at hG9; cases hG9; exact h94⟩
      · rw [if_neg t] at e8
        rw [decide_eq_false t] at h91
        exact ⟨by rw [h91, e8]; rfl, h92, h93, fun G hG9 => by rw [e8] at hG9; cases hG9⟩
    · skip
      refine g_iload_n dX5_sharpen_43 rfl ?_
      refine g_iconst (v := nI 5) dX5_sharpen_44 rfl ?_
      refine g_icmp_ne (tgt := 52) dX5_sharpen_45 (by decide) (fun c_45 => ?_) (fun c_45 => ?_)
      · skip
        refine g_iconst (v := nI 0) dX5_sharpen_52 rfl ?_
        (try rw [nI_inj (by omega) (by omega)] at c_40)
        (try rw [nI_inj (by omega) (by omega)] at c_45)
        first
          | rw [show nI 0 = bI (decide (q = 4 ∨ q = 5)) by rw [decide_eq_false (by omega)]; rfl]
          | rw [show nI 1 = bI (decide (q = 4 ∨ q = 5)) by rw [decide_eq_true (by omega)]; rfl]
        refine g_istore_n dX5_sharpen_53 (Nat.le_of_ble_eq_true rfl) ?_
        have hab : pl s.2.1 ≠ pl s.2.2.1 := fun e9 => c_8 (by rw [ha.eq, hb.eq, e9])
        refine GW.post (fun r M1 n1 h9 => ?_) (k_sh54 h hs hE hG hd hF ha.eq hb.eq ha.lt hb.lt hab hq7)
        obtain ⟨h91, h92, h93, h94⟩ := h9
        have e8 : shO s F q = if (shp q (F (pl s.2.1)) (F (pl s.2.2.1))).1 ≠ [] ∧ (shp q (F (pl s.2.1)) (F (pl s.2.2.1))).2 ≠ [] then some (up1 (up1 F (pl s.2.1) (shp q (F (pl s.2.1)) (F (pl s.2.2.1))).1) (pl s.2.2.1) (shp q (F (pl s.2.1)) (F (pl s.2.2.1))).2) else none := by unfold shO; rw [if_neg c_8]
        by_cases t : (shp q (F (pl s.2.1)) (F (pl s.2.2.1))).1 ≠ [] ∧ (shp q (F (pl s.2.1)) (F (pl s.2.2.1))).2 ≠ []
        · rw [if_pos t] at e8
          rw [decide_eq_true t] at h91
          exact ⟨by rw [h91, e8]; rfl, h92, h93, fun G hG9 => by rw [e8] at hG9; cases hG9; exact h94⟩
        · rw [if_neg t] at e8
          rw [decide_eq_false t] at h91
          exact ⟨by rw [h91, e8]; rfl, h92, h93, fun G hG9 => by rw [e8] at hG9; cases hG9⟩
      · skip
        refine g_iconst (v := nI 1) dX5_sharpen_48 rfl ?_
        refine g_goto (tgt := 53) dX5_sharpen_49 (by decide) ?_
        (try rw [nI_inj (by omega) (by omega)] at c_40)
        (try rw [nI_inj (by omega) (by omega)] at c_45)
        first
          | rw [show nI 0 = bI (decide (q = 4 ∨ q = 5)) by rw [decide_eq_false (by omega)]; rfl]
          | rw [show nI 1 = bI (decide (q = 4 ∨ q = 5)) by rw [decide_eq_true (by omega)]; rfl]
        refine g_istore_n dX5_sharpen_53 (Nat.le_of_ble_eq_true rfl) ?_
        have hab : pl s.2.1 ≠ pl s.2.2.1 := fun e9 => c_8 (by rw [ha.eq, hb.eq, e9])
        refine GW.post (fun r M1 n1 h9 => ?_) (k_sh54 h hs hE hG hd hF ha.eq hb.eq ha.lt hb.lt hab hq7)
        obtain ⟨h91, h92, h93, h94⟩ := h9
        have e8 : shO s F q = if (shp q (F (pl s.2.1)) (F (pl s.2.2.1))).1 ≠ [] ∧ (shp q (F (pl s.2.1)) (F (pl s.2.2.1))).2 ≠ [] then some (up1 (up1 F (pl s.2.1) (shp q (F (pl s.2.1)) (F (pl s.2.2.1))).1) (pl s.2.2.1) (shp q (F (pl s.2.1)) (F (pl s.2.2.1))).2) else none := by unfold shO; rw [if_neg c_8]
        by_cases t : (shp q (F (pl s.2.1)) (F (pl s.2.2.1))).1 ≠ [] ∧ (shp q (F (pl s.2.1)) (F (pl s.2.2.1))).2 ≠ []
        · rw [if_pos t] at e8
          rw [decide_eq_true t] at h91
          exact ⟨by rw [h91, e8]; rfl, h92, h93, fun G hG9 => by rw [e8] at hG9; cases hG9; exact h94⟩
        · rw [if_neg t] at e8
          rw [decide_eq_false t] at h91
          exact ⟨by rw [h91, e8]; rfl, h92, h93, fun G hG9 => by rw [e8] at hG9; cases hG9⟩
  · skip
    refine g_iload_n dX5_sharpen_11 rfl ?_
    refine g_iconst (v := nI 1) dX5_sharpen_12 rfl ?_
    refine g_icmp_eq (tgt := 32) dX5_sharpen_13 (by decide) (fun c_13 => ?_) (fun c_13 => ?_)
    · skip
      refine g_iconst (v := nI 1) dX5_sharpen_32 rfl ?_
      refine g_goto (tgt := 37) dX5_sharpen_33 (by decide) ?_
      exact g_iret dX5_sharpen_37 (Or.inr ⟨rfl, by first | exact Or.inl rfl | exact Or.inr rfl⟩) (Nat.le_of_ble_eq_true rfl) (Nat.le_of_ble_eq_true rfl) (by
        have e8 : shO s F q = if q = 1 ∨ q = 2 ∨ q = 4 ∨ q = 7 then some F else none := by unfold shO; rw [if_pos c_8]
        (try rw [nI_inj (by omega) (by omega)] at c_13)
        (try rw [nI_inj (by omega) (by omega)] at c_18)
        (try rw [nI_inj (by omega) (by omega)] at c_23)
        (try rw [nI_inj (by omega) (by omega)] at c_29)
        by_cases t : q = 1 ∨ q = 2 ∨ q = 4 ∨ q = 7
        · rw [if_pos t] at e8
          refine ⟨?_, rfl, Off.rf, fun G hG9 => by rw [e8] at hG9; cases hG9; exact hG⟩
          rw [e8]
          first | rfl | (exfalso; omega)
        · rw [if_neg t] at e8
          refine ⟨?_, rfl, Off.rf, fun G hG9 => by rw [e8] at hG9; cases hG9⟩
          rw [e8]
          first | rfl | (exfalso; omega))
    · skip
      refine g_iload_n dX5_sharpen_16 rfl ?_
      refine g_iconst (v := nI 2) dX5_sharpen_17 rfl ?_
      refine g_icmp_eq (tgt := 32) dX5_sharpen_18 (by decide) (fun c_18 => ?_) (fun c_18 => ?_)
      · skip
        refine g_iconst (v := nI 1) dX5_sharpen_32 rfl ?_
        refine g_goto (tgt := 37) dX5_sharpen_33 (by decide) ?_
        exact g_iret dX5_sharpen_37 (Or.inr ⟨rfl, by first | exact Or.inl rfl | exact Or.inr rfl⟩) (Nat.le_of_ble_eq_true rfl) (Nat.le_of_ble_eq_true rfl) (by
          have e8 : shO s F q = if q = 1 ∨ q = 2 ∨ q = 4 ∨ q = 7 then some F else none := by unfold shO; rw [if_pos c_8]
          (try rw [nI_inj (by omega) (by omega)] at c_13)
          (try rw [nI_inj (by omega) (by omega)] at c_18)
          (try rw [nI_inj (by omega) (by omega)] at c_23)
          (try rw [nI_inj (by omega) (by omega)] at c_29)
          by_cases t : q = 1 ∨ q = 2 ∨ q = 4 ∨ q = 7
          · rw [if_pos t] at e8
            refine ⟨?_, rfl, Off.rf, fun G hG9 => by rw [e8] at hG9; cases hG9; exact hG⟩
            rw [e8]
            first | rfl | (exfalso; omega)
          · rw [if_neg t] at e8
            refine ⟨?_, rfl, Off.rf, fun G hG9 => by rw [e8] at hG9; cases hG9⟩
            rw [e8]
            first | rfl | (exfalso; omega))
      · skip
        refine g_iload_n dX5_sharpen_21 rfl ?_
        refine g_iconst (v := nI 4) dX5_sharpen_22 rfl ?_
        refine g_icmp_eq (tgt := 32) dX5_sharpen_23 (by decide) (fun c_23 => ?_) (fun c_23 => ?_)
        · skip
          refine g_iconst (v := nI 1) dX5_sharpen_32 rfl ?_
          refine g_goto (tgt := 37) dX5_sharpen_33 (by decide) ?_
          exact g_iret dX5_sharpen_37 (Or.inr ⟨rfl, by first | exact Or.inl rfl | exact Or.inr rfl⟩) (Nat.le_of_ble_eq_true rfl) (Nat.le_of_ble_eq_true rfl) (by
            have e8 : shO s F q = if q = 1 ∨ q = 2 ∨ q = 4 ∨ q = 7 then some F else none := by unfold shO; rw [if_pos c_8]
            (try rw [nI_inj (by omega) (by omega)] at c_13)
            (try rw [nI_inj (by omega) (by omega)] at c_18)
            (try rw [nI_inj (by omega) (by omega)] at c_23)
            (try rw [nI_inj (by omega) (by omega)] at c_29)
            by_cases t : q = 1 ∨ q = 2 ∨ q = 4 ∨ q = 7
            · rw [if_pos t] at e8
              refine ⟨?_, rfl, Off.rf, fun G hG9 => by rw [e8] at hG9; cases hG9; exact hG⟩
              rw [e8]
              first | rfl | (exfalso; omega)
            · rw [if_neg t] at e8
              refine ⟨?_, rfl, Off.rf, fun G hG9 => by rw [e8] at hG9; cases hG9⟩
              rw [e8]
              first | rfl | (exfalso; omega))
        · skip
          refine g_iload_n dX5_sharpen_26 rfl ?_
          refine g_bipush (v := nI 7) dX5_sharpen_27 rfl ?_
          refine g_icmp_ne (tgt := 36) dX5_sharpen_29 (by decide) (fun c_29 => ?_) (fun c_29 => ?_)
          · skip
            refine g_iconst (v := nI 0) dX5_sharpen_36 rfl ?_
            exact g_iret dX5_sharpen_37 (Or.inr ⟨rfl, by first | exact Or.inl rfl | exact Or.inr rfl⟩) (Nat.le_of_ble_eq_true rfl) (Nat.le_of_ble_eq_true rfl) (by
              have e8 : shO s F q = if q = 1 ∨ q = 2 ∨ q = 4 ∨ q = 7 then some F else none := by unfold shO; rw [if_pos c_8]
              (try rw [nI_inj (by omega) (by omega)] at c_13)
              (try rw [nI_inj (by omega) (by omega)] at c_18)
              (try rw [nI_inj (by omega) (by omega)] at c_23)
              (try rw [nI_inj (by omega) (by omega)] at c_29)
              by_cases t : q = 1 ∨ q = 2 ∨ q = 4 ∨ q = 7
              · rw [if_pos t] at e8
                refine ⟨?_, rfl, Off.rf, fun G hG9 => by rw [e8] at hG9; cases hG9; exact hG⟩
                rw [e8]
                first | rfl | (exfalso; omega)
              · rw [if_neg t] at e8
                refine ⟨?_, rfl, Off.rf, fun G hG9 => by rw [e8] at hG9; cases hG9⟩
                rw [e8]
                first | rfl | (exfalso; omega))
          · skip
            refine g_iconst (v := nI 1) dX5_sharpen_32 rfl ?_
            refine g_goto (tgt := 37) dX5_sharpen_33 (by decide) ?_
            exact g_iret dX5_sharpen_37 (Or.inr ⟨rfl, by first | exact Or.inl rfl | exact Or.inr rfl⟩) (Nat.le_of_ble_eq_true rfl) (Nat.le_of_ble_eq_true rfl) (by
              have e8 : shO s F q = if q = 1 ∨ q = 2 ∨ q = 4 ∨ q = 7 then some F else none := by unfold shO; rw [if_pos c_8]
              (try rw [nI_inj (by omega) (by omega)] at c_13)
              (try rw [nI_inj (by omega) (by omega)] at c_18)
              (try rw [nI_inj (by omega) (by omega)] at c_23)
              (try rw [nI_inj (by omega) (by omega)] at c_29)
              by_cases t : q = 1 ∨ q = 2 ∨ q = 4 ∨ q = 7
              · rw [if_pos t] at e8
                refine ⟨?_, rfl, Off.rf, fun G hG9 => by rw [e8] at hG9; cases hG9; exact hG⟩
                rw [e8]
                first | rfl | (exfalso; omega)
              · rw [if_neg t] at e8
                refine ⟨?_, rfl, Off.rf, fun G hG9 => by rw [e8] at hG9; cases hG9⟩
                rw [e8]
                first | rfl | (exfalso; omega))

