/-! the class: narrowing, and run -/
set_option maxHeartbeats 4000000 in
set_option maxRecDepth 100000 in
theorem k_gi30 {M : gM} {n p u d bs s : Nat} {E : Nat → Nat} {P : List St} {A : RA} {st : Nat → Bool} {first : Ev} (hW : wS M p u d bs E P) (hf : fE M E P.length A st) (hgd : gdA P A) (hs : s < P.length) : ∀ (d9 : Nat) (t : Nat) (M1 : gM), P.length - t < d9 → t ≤ P.length → giS M M1 u (gthA P A first s t) → GW μX2_gatherIncoming (gRm 5 123 0 0) (gTh (fun r M1 n1 => r = some (.int (bI (gthA P A first s P.length).isSome)) ∧ n1 = n ∧ giS M M1 u (gthA P A first s P.length)) 0 0) 0 0 30 [some (.ref u), some (.int (nI s)), some (.int (bI (gthA P A first s t).isSome)), some (.int (nI t)), none] [] M1 n := by
  intro d9
  induction d9 with
  | zero =>
    intro t M1 hd htl hI
    omega
  | succ d9 ih =>
    intro t M1 hd htl hI
    have hl40 := hW.2.2.2.2.2.1.1
    have hW1 := hW.off (hI.1.mono (fun i k q => by unfold fGi at q; exact Or.inl ⟨by omega, by omega⟩))
    refine g_iload_n dX2_gatherIncoming_30 rfl ?_
    refine g_aload_n dX2_gatherIncoming_31 rfl ?_
    refine g_getR (f := 0) dX2_gatherIncoming_32 cl3 hW1.2.1.1 (by decide) (Or.inl (iw_4 18 rfl)) (Or.inl rfl) rfl hW1.2.1.2.1.1 ?_
    refine g_getR (f := 0) dX2_gatherIncoming_35 cl2 hW1.1.1 (by decide) (Or.inr (List.mem_of_getElem? (i := 22) rfl)) (Or.inl rfl) rfl hW1.1.2.1 ?_
    refine g_callV dX2_gatherIncoming_38 sJx4a65c_size_8abf5 (j_size M1 n (p + 1) d P.length E hW1.2.2.1) cl0 hW1.2.2.1.1 iJx4a65c_size_8abf5 vJx4a65c_size_8abf5 (iw_14 21 rfl) rfl rfl (Nat.le_of_ble_eq_true rfl) (Nat.le_of_ble_eq_true rfl) (Nat.le_of_ble_eq_true rfl) (Nat.le_of_ble_eq_true rfl) (Nat.le_of_ble_eq_true rfl) ?_
    intro r9 M9 n9 h9
    obtain ⟨h91, h92, h93⟩ := h9
    rw [h91, h92, h93]
    clear h91 h92 h93 r9 M9 n9
    refine g_icmp_ge (tgt := 136) dX2_gatherIncoming_41 (by decide) (fun c_41 => ?_) (fun c_41 => ?_)
    · skip
      refine g_iload_n dX2_gatherIncoming_136 rfl ?_
      exact g_iret dX2_gatherIncoming_137 (Or.inr ⟨rfl, bI_01 _⟩) (Nat.le_of_ble_eq_true rfl) (Nat.le_of_ble_eq_true rfl) (by
        rw [nI_leI (by omega) (by omega)] at c_41
        rw [show t = P.length by omega] at hI ⊢
        exact ⟨rfl, rfl, hI⟩)
    · skip
      rw [nI_leI (by omega) (by omega)] at c_41
      have ht : t < P.length := by omega
      refine g_aload_n dX2_gatherIncoming_44 rfl ?_
      refine g_getR (f := 0) dX2_gatherIncoming_45 cl3 hW1.2.1.1 (by decide) (Or.inl (iw_4 18 rfl)) (Or.inl rfl) rfl hW1.2.1.2.1.1 ?_
      refine g_getR (f := 0) dX2_gatherIncoming_48 cl2 hW1.1.1 (by decide) (Or.inr (List.mem_of_getElem? (i := 22) rfl)) (Or.inl rfl) rfl hW1.1.2.1 ?_
      refine g_iload_n dX2_gatherIncoming_51 rfl ?_
      refine g_callV dX2_gatherIncoming_52 sJx4a65c_get_915e3 (j_get M1 n (p + 1) d P.length t E hW1.2.2.1 ht) cl0 hW1.2.2.1.1 iJx4a65c_get_915e3 vJx4a65c_get_915e3 (iw_14 22 rfl) rfl rfl (Nat.le_of_ble_eq_true rfl) (Nat.le_of_ble_eq_true rfl) (Nat.le_of_ble_eq_true rfl) (Nat.le_of_ble_eq_true rfl) (Nat.le_of_ble_eq_true rfl) ?_
      intro r9 M9 n9 h9
      obtain ⟨h91, h92, h93⟩ := h9
      rw [h91, h92, h93]
      clear h91 h92 h93 r9 M9 n9
      refine g_castSt dX2_gatherIncoming_55 (iw_14 20 rfl) (hW1.2.2.2.2.2.2.1 t ht).1.1 ?_
      refine g_astore dX2_gatherIncoming_58 (Nat.le_of_ble_eq_true rfl) ?_
      refine k_gi60 hW hf hgd hs ht hI (fun M2 hI2 => ?_)
      refine k_gi96 hW hf hgd hs ht hI2 (fun M3 hI3 => ?_)
      refine g_iinc dX2_gatherIncoming_130 rfl (nI_1 t) (Nat.le_of_ble_eq_true rfl) ?_
      refine g_goto (tgt := 30) dX2_gatherIncoming_133 (by decide) ?_
      exact ih (t + 1) M3 (by omega) (by omega) hI3

set_option maxHeartbeats 4000000 in
set_option maxRecDepth 100000 in
theorem c_gather (M : gM) (n p u d bs s : Nat) (E : Nat → Nat) (P : List St) (A : RA) (st : Nat → Bool) (first : Ev) (hW : wS M p u d bs E P) (hf : fE M E P.length A st) (hgd : gdA P A) (hs : s < P.length) (hF : sE M (p + 2) first) : GM μX2_gatherIncoming 5 123 0 0 [.ref u, .int (nI s)] M n (fun r M1 n1 => r = some (.int (bI (gthA P A first s P.length).isSome)) ∧ n1 = n ∧ giS M M1 u (gthA P A first s P.length)) := by
  refine GM.ofW (by decide) rfl (Nat.le_of_ble_eq_true rfl) rfl ?_
  have hl40 := hW.2.2.2.2.2.1.1
  have hlay := hW.2.2.2.2.2.2.2.1
  refine g_iload_n dX2_gatherIncoming_0 rfl ?_
  refine g_if_ne (tgt := 8) dX2_gatherIncoming_1 (by decide) (fun c_1 => ?_) (fun c_1 => ?_)
  · skip
    refine g_iconst (v := nI 0) dX2_gatherIncoming_8 rfl ?_
    have e0 : ∀ z : Int32, (z = nI 1 ∧ s = 0) ∨ (z = nI 0 ∧ ¬ s = 0) → z = bI (gthA P A first s 0).isSome := fun z hz => by
      unfold gthA
      rcases hz with ⟨rfl, q⟩ | ⟨rfl, q⟩
      · rw [if_pos q]; rfl
      · rw [if_neg q]; rfl
    rw [show (0 : Int32) = nI 0 from rfl, nI_inj (by omega) (by omega)] at c_1
    first
      | rw [e0 (nI 0) (Or.inr ⟨rfl, c_1⟩)]
      | rw [e0 (nI 1) (Or.inl ⟨rfl, c_1⟩)]
    clear e0 c_1
    refine g_istore_n dX2_gatherIncoming_9 (Nat.le_of_ble_eq_true rfl) ?_
    refine g_iload_n dX2_gatherIncoming_10 rfl ?_
    refine g_if_eq (tgt := 28) dX2_gatherIncoming_11 (by decide) (fun c_11 => ?_) (fun c_11 => ?_)
    · skip
      refine g_iconst (v := nI 0) dX2_gatherIncoming_28 rfl ?_
      refine g_istore_n dX2_gatherIncoming_29 (Nat.le_of_ble_eq_true rfl) ?_
      rw [bI_eq0] at c_11
      first
        | (have q9 := hO1
           have h0 : s = 0 := by
             apply Classical.byContradiction
             intro q
             apply c_11
             unfold gthA
             rw [if_neg q]; rfl
           have hg0 : gthA P A first s 0 = some (cut8 first) := by unfold gthA; rw [if_pos h0]
           exact GW.post (fun r M9 n9 h9 => ⟨h9.1, h9.2.1, (hO1.mono (fun i k q => by unfold fB at q; unfold fGi; omega)).trans h9.2.2.1, h9.2.2.2⟩) (k_gi30 (hW.off (hO1.mono (fun i k q => by unfold fB at q; exact Or.inl ⟨by omega, by omega⟩))) (hf.off hO1 (fun j i k hj q h1 h2 => by have := hW.2.2.2.2.2.2.2.2.2.1 j hj; have := hW.2.2.2.2.2.2.2.2.1; unfold fB at q; omega)) hgd hs (P.length + 1) 0 M1 (by omega) (by omega) ⟨Off.rf, fun T hT => by rw [hg0] at hT; cases hT; exact hG1.to (fun p hp => cut8_lt hp)⟩))
        | (have hg0 := none_of c_11
           exact k_gi30 hW hf hgd hs (P.length + 1) 0 M (by omega) (by omega) ⟨Off.rf, fun T hT => by rw [hg0] at hT; cases hT⟩)
    · skip
      refine g_aload_n dX2_gatherIncoming_14 rfl ?_
      refine g_getR (f := 0) dX2_gatherIncoming_15 cl3 hW.2.1.1 (by decide) (Or.inl (iw_4 18 rfl)) (Or.inl rfl) rfl hW.2.1.2.1.1 ?_
      refine g_getR (f := 1) dX2_gatherIncoming_18 cl2 hW.1.1 (by decide) (Or.inr (List.mem_of_getElem? (i := 23) rfl)) (Or.inl rfl) rfl hW.1.2.2.1 ?_
      refine g_aload_n dX2_gatherIncoming_21 rfl ?_
      refine g_getR (f := 3) dX2_gatherIncoming_22 cl3 hW.2.1.1 (by decide) (Or.inl (iw_4 15 rfl)) (Or.inl rfl) rfl hW.2.1.2.1.2.2.2.1 ?_
      refine g_callSN dX2_gatherIncoming_25 sX8_copySets (c_copySets M n (p + 2) (u + 19) first (by unfold apS; omega) hF hW.2.1.2.2.2.2.1) tX8_copySets (List.mem_of_getElem? (i := 4) rfl) rfl rfl (Nat.le_of_ble_eq_true rfl) (Nat.le_of_ble_eq_true rfl) (Nat.le_of_ble_eq_true rfl) (Nat.le_of_ble_eq_true rfl) (Nat.le_of_ble_eq_true rfl) ?_
      intro r9 M1 n9 h9
      obtain ⟨h91, h93, hO1, hG1⟩ := h9
      rw [h91, h93]
      clear h91 h93 r9 n9
      refine g_iconst (v := nI 0) dX2_gatherIncoming_28 rfl ?_
      refine g_istore_n dX2_gatherIncoming_29 (Nat.le_of_ble_eq_true rfl) ?_
      rw [bI_eq0] at c_11
      first
        | (have q9 := hO1
           have h0 : s = 0 := by
             apply Classical.byContradiction
             intro q
             apply c_11
             unfold gthA
             rw [if_neg q]; rfl
           have hg0 : gthA P A first s 0 = some (cut8 first) := by unfold gthA; rw [if_pos h0]
           exact GW.post (fun r M9 n9 h9 => ⟨h9.1, h9.2.1, (hO1.mono (fun i k q => by unfold fB at q; unfold fGi; omega)).trans h9.2.2.1, h9.2.2.2⟩) (k_gi30 (hW.off (hO1.mono (fun i k q => by unfold fB at q; exact Or.inl ⟨by omega, by omega⟩))) (hf.off hO1 (fun j i k hj q h1 h2 => by have := hW.2.2.2.2.2.2.2.2.2.1 j hj; have := hW.2.2.2.2.2.2.2.2.1; unfold fB at q; omega)) hgd hs (P.length + 1) 0 M1 (by omega) (by omega) ⟨Off.rf, fun T hT => by rw [hg0] at hT; cases hT; exact hG1.to (fun p hp => cut8_lt hp)⟩))
        | (have hg0 := none_of c_11
           exact k_gi30 hW hf hgd hs (P.length + 1) 0 M (by omega) (by omega) ⟨Off.rf, fun T hT => by rw [hg0] at hT; cases hT⟩)
  · skip
    refine g_iconst (v := nI 1) dX2_gatherIncoming_4 rfl ?_
    refine g_goto (tgt := 9) dX2_gatherIncoming_5 (by decide) ?_
    have e0 : ∀ z : Int32, (z = nI 1 ∧ s = 0) ∨ (z = nI 0 ∧ ¬ s = 0) → z = bI (gthA P A first s 0).isSome := fun z hz => by
      unfold gthA
      rcases hz with ⟨rfl, q⟩ | ⟨rfl, q⟩
      · rw [if_pos q]; rfl
      · rw [if_neg q]; rfl
    rw [show (0 : Int32) = nI 0 from rfl, nI_inj (by omega) (by omega)] at c_1
    first
      | rw [e0 (nI 0) (Or.inr ⟨rfl, c_1⟩)]
      | rw [e0 (nI 1) (Or.inl ⟨rfl, c_1⟩)]
    clear e0 c_1
    refine g_istore_n dX2_gatherIncoming_9 (Nat.le_of_ble_eq_true rfl) ?_
    refine g_iload_n dX2_gatherIncoming_10 rfl ?_
    refine g_if_eq (tgt := 28) dX2_gatherIncoming_11 (by decide) (fun c_11 => ?_) (fun c_11 => ?_)
    · skip
      refine g_iconst (v := nI 0) dX2_gatherIncoming_28 rfl ?_
      refine g_istore_n dX2_gatherIncoming_29 (Nat.le_of_ble_eq_true rfl) ?_
      rw [bI_eq0] at c_11
      first
        | (have q9 := hO1
           have h0 : s = 0 := by
             apply Classical.byContradiction
             intro q
             apply c_11
             unfold gthA
             rw [if_neg q]; rfl
           have hg0 : gthA P A first s 0 = some (cut8 first) := by unfold gthA; rw [if_pos h0]
           exact GW.post (fun r M9 n9 h9 => ⟨h9.1, h9.2.1, (hO1.mono (fun i k q => by unfold fB at q; unfold fGi; omega)).trans h9.2.2.1, h9.2.2.2⟩) (k_gi30 (hW.off (hO1.mono (fun i k q => by unfold fB at q; exact Or.inl ⟨by omega, by omega⟩))) (hf.off hO1 (fun j i k hj q h1 h2 => by have := hW.2.2.2.2.2.2.2.2.2.1 j hj; have := hW.2.2.2.2.2.2.2.2.1; unfold fB at q; omega)) hgd hs (P.length + 1) 0 M1 (by omega) (by omega) ⟨Off.rf, fun T hT => by rw [hg0] at hT; cases hT; exact hG1.to (fun p hp => cut8_lt hp)⟩))
        | (have hg0 := none_of c_11
           exact k_gi30 hW hf hgd hs (P.length + 1) 0 M (by omega) (by omega) ⟨Off.rf, fun T hT => by rw [hg0] at hT; cases hT⟩)
    · skip
      refine g_aload_n dX2_gatherIncoming_14 rfl ?_
      refine g_getR (f := 0) dX2_gatherIncoming_15 cl3 hW.2.1.1 (by decide) (Or.inl (iw_4 18 rfl)) (Or.inl rfl) rfl hW.2.1.2.1.1 ?_
      refine g_getR (f := 1) dX2_gatherIncoming_18 cl2 hW.1.1 (by decide) (Or.inr (List.mem_of_getElem? (i := 23) rfl)) (Or.inl rfl) rfl hW.1.2.2.1 ?_
      refine g_aload_n dX2_gatherIncoming_21 rfl ?_
      refine g_getR (f := 3) dX2_gatherIncoming_22 cl3 hW.2.1.1 (by decide) (Or.inl (iw_4 15 rfl)) (Or.inl rfl) rfl hW.2.1.2.1.2.2.2.1 ?_
      refine g_callSN dX2_gatherIncoming_25 sX8_copySets (c_copySets M n (p + 2) (u + 19) first (by unfold apS; omega) hF hW.2.1.2.2.2.2.1) tX8_copySets (List.mem_of_getElem? (i := 4) rfl) rfl rfl (Nat.le_of_ble_eq_true rfl) (Nat.le_of_ble_eq_true rfl) (Nat.le_of_ble_eq_true rfl) (Nat.le_of_ble_eq_true rfl) (Nat.le_of_ble_eq_true rfl) ?_
      intro r9 M1 n9 h9
      obtain ⟨h91, h93, hO1, hG1⟩ := h9
      rw [h91, h93]
      clear h91 h93 r9 n9
      refine g_iconst (v := nI 0) dX2_gatherIncoming_28 rfl ?_
      refine g_istore_n dX2_gatherIncoming_29 (Nat.le_of_ble_eq_true rfl) ?_
      rw [bI_eq0] at c_11
      first
        | (have q9 := hO1
           have h0 : s = 0 := by
             apply Classical.byContradiction
             intro q
             apply c_11
             unfold gthA
             rw [if_neg q]; rfl
           have hg0 : gthA P A first s 0 = some (cut8 first) := by unfold gthA; rw [if_pos h0]
           exact GW.post (fun r M9 n9 h9 => ⟨h9.1, h9.2.1, (hO1.mono (fun i k q => by unfold fB at q; unfold fGi; omega)).trans h9.2.2.1, h9.2.2.2⟩) (k_gi30 (hW.off (hO1.mono (fun i k q => by unfold fB at q; exact Or.inl ⟨by omega, by omega⟩))) (hf.off hO1 (fun j i k hj q h1 h2 => by have := hW.2.2.2.2.2.2.2.2.2.1 j hj; have := hW.2.2.2.2.2.2.2.2.1; unfold fB at q; omega)) hgd hs (P.length + 1) 0 M1 (by omega) (by omega) ⟨Off.rf, fun T hT => by rw [hg0] at hT; cases hT; exact hG1.to (fun p hp => cut8_lt hp)⟩))
        | (have hg0 := none_of c_11
           exact k_gi30 hW hf hgd hs (P.length + 1) 0 M (by omega) (by omega) ⟨Off.rf, fun T hT => by rw [hg0] at hT; cases hT⟩)

def fNw (u : Nat) (E : Nat → Nat) (len : Nat) : Nat → Nat → Prop := fun i k => (i = u ∧ k = 7) ∨ (u + 1 ≤ i ∧ i ≤ u + 28) ∨ stm E len i k
theorem fNw_Z {u len i k : Nat} {E : Nat → Nat} (h : fNw u E len i k) : fZ u E len i k := by
  rcases h with h | h | h
  · left; omega
  · left; omega
  · exact Or.inr h
def nwS (M M1 : gM) (u : Nat) (E : Nat → Nat) (len : Nat) (A : RA) (w : Nat) : Prop := Off M M1 (fNw u E len) ∧ (∃ st, fE M1 E len A st) ∧ mI M1 u 7 = nI w
theorem fE.set6 {M M1 : gM} {p u d bs s : Nat} {E : Nat → Nat} {P : List St} {A : RA} {st : Nat → Bool} {S : Nat → Nat → Prop} (h : fE M E P.length A st) (hW : wS M p u d bs E P) (hs : s < P.length) (ho : Off M M1 S) (hS : ∀ i k, S i k → i = E s ∧ k = 6 ∨ (u ≤ i ∧ i ≤ u + 28)) (h6 : mI M1 (E s) 6 = bI false) : fE M1 E P.length (up1 (aR A) s false, aF A, aC A, aW A) st := by
  have hbs := hW.2.2.2.2.2.2.2.2.2.1 s hs
  have hlay := hW.2.2.2.2.2.2.2.2.1
  refine h.at ho (t := s) (fun j i k hj hne q h1 h2 => by
    have := hW.apart hj hs hne
    have := hW.2.2.2.2.2.2.2.2.2.1 j hj
    have := hS i k q
    omega) (fun k hk hne => ⟨⟨up1_ne _ _ hne, rfl, rfl⟩, rfl⟩) (fun _ => ?_)
  obtain ⟨k1, k2, k3, k4⟩ := h s hs
  refine ⟨?_, (ho.i (fun q => by have := hS _ _ q; omega)).trans k2, (ho.i (fun q => by have := hS _ _ q; omega)).trans k3, fun q => ?_⟩
  · rw [h6]; show _ = bI (up1 (aR A) s false s); rw [up1_eq]
  · have q' : up1 (aR A) s false s = true := q
    rw [up1_eq] at q'; cases q' 
set_option maxHeartbeats 4000000 in
set_option maxRecDepth 100000 in
theorem k_nw66f {M M1 M3 : gM} {n p u d bs s w : Nat} {E : Nat → Nat} {P : List St} {A : RA} {st : Nat → Bool} {first : Ev} {Q : gθ} (hW : wS M p u d bs E P) (hF : sE M (p + 2) first) (hvf : gdF first) (hgd : gdA P A) (hs : s < P.length) (hO : Off M M1 (fNw u E P.length)) (hf : fE M1 E P.length A st) (h7 : mI M1 u 7 = nI w) (hO3 : Off M1 M3 (fGi u)) (hm : (meetA A w s (gthA P A first s P.length)) = ((up1 (aR A) s false, aF A, aC A, aW A), w)) (hk : ∀ M9, nwS M M9 u E P.length (meetA A w s (gthA P A first s P.length)).1 (meetA A w s (gthA P A first s P.length)).2 → GW μX2_narrow (gRm 6 147 0 0) Q 0 0 101 [some (.ref u), some (.int (nI s)), none] [] M9 n) : GW μX2_narrow (gRm 6 147 0 0) Q 0 0 63 [some (.ref u), some (.int (nI s)), some (.ref (E s))] [.int (nI 0), .ref (E s)] M3 n := by
  have hbs := hW.2.2.2.2.2.2.2.2.2.1 s hs
  have hlay := hW.2.2.2.2.2.2.2.2.1
  have hW3 := hW.off ((hO.mono (fun i k q => fNw_Z q)).trans (hO3.mono (fun i k q => by unfold fGi at q; exact Or.inl ⟨by omega, by omega⟩)))
  have hs3 := (hW3.2.2.2.2.2.2.1 s hs).1
  refine g_putI (f := 6) dX2_narrow_63 cl5 hs3.1 (by decide) (Or.inr (List.mem_of_getElem? (i := 24) rfl)) (Or.inl rfl) (Or.inl rfl) (Or.inr ⟨rfl, (Or.inl rfl)⟩) ?_
  refine g_aload_n dX2_narrow_66 rfl ?_
  refine g_getI (f := 6) dX2_narrow_67 cl5 hs3.1 (by decide) (Or.inr (List.mem_of_getElem? (i := 24) rfl)) (Or.inl rfl) (Or.inr rfl) ?_
  rw [mI_st, if_pos ⟨rfl, rfl⟩]
  refine g_if_eq (tgt := 101) dX2_narrow_70 (by decide) (fun c_70 => ?_) (fun c_70 => ?_)
  · skip
    refine g_drop 2 ?_
    refine hk _ ?_
    rw [hm]
    have ho : Off M3 (stI M3 (E s) 6 (nI 0)) (fun i k => i = E s ∧ k = 6) := Off.rf.stI ⟨rfl, rfl⟩
    have e6 : mI (stI M3 (E s) 6 (nI 0)) (E s) 6 = bI false := by rw [mI_st, if_pos ⟨rfl, rfl⟩]; rfl
    generalize stI M3 (E s) 6 (nI 0) = M4 at ho e6 ⊢
    have hoa : Off M1 M4 (fun i k => fGi u i k ∨ (i = E s ∧ k = 6)) := (hO3.mono (fun i k q => Or.inl q)).trans (ho.mono (fun i k q => Or.inr q))
    refine ⟨hO.trans (hoa.mono (fun i k q => ?_)), ⟨st, hf.set6 (hW.off (hO.mono (fun i k q => fNw_Z q))) hs hoa (fun i k q => by unfold fGi at q; omega) e6⟩, (hoa.i (fun q => by unfold fGi at q; omega)).trans h7⟩
    rcases q with q | q
    · unfold fGi at q; exact Or.inr (Or.inl ⟨by omega, by omega⟩)
    · exact Or.inr (Or.inr ⟨s, hs, by omega, by omega, fun _ => by omega⟩)
  · skip
    exact absurd rfl c_70

set_option maxHeartbeats 4000000 in
set_option maxRecDepth 100000 in
theorem k_nw66t {M M1 M3 : gM} {n p u d bs s w : Nat} {E : Nat → Nat} {P : List St} {A : RA} {st : Nat → Bool} {first : Ev} {T : Ev} {Q : gθ} (hW : wS M p u d bs E P) (hF : sE M (p + 2) first) (hvf : gdF first) (hgd : gdA P A) (hs : s < P.length) (hR : aR A s = true) (hO : Off M M1 (fNw u E P.length)) (hf : fE M1 E P.length A st) (h7 : mI M1 u 7 = nI w) (hO3 : Off M1 M3 (fGi u)) (hT : gdF T) (hst : stK (mtN (aF A s) T) 8 = true) (hN : sE M3 (u + 19) (mtN (aF A s) T)) (hm : (meetA A w s (gthA P A first s P.length)) = ((aR A, up1 (aF A) s (cut8 (mtN (aF A s) T)), aC A, aW A), w + ctK (aF A s) (mtN (aF A s) T) 8)) (hk : ∀ M9, nwS M M9 u E P.length (meetA A w s (gthA P A first s P.length)).1 (meetA A w s (gthA P A first s P.length)).2 → GW μX2_narrow (gRm 6 147 0 0) Q 0 0 101 [some (.ref u), some (.int (nI s)), none] [] M9 n) : GW μX2_narrow (gRm 6 147 0 0) Q 0 0 63 [some (.ref u), some (.int (nI s)), some (.ref (E s))] [.int (nI 1), .ref (E s)] M3 n := by
  have hbs := hW.2.2.2.2.2.2.2.2.2.1 s hs
  have hlay := hW.2.2.2.2.2.2.2.2.1
  have hl40 := hW.2.2.2.2.2.1.1
  have hW1 := hW.off (hO.mono (fun i k q => fNw_Z q))
  have hZ3 : Off M1 M3 (fZ u E P.length) := hO3.mono (fun i k q => by unfold fGi at q; exact Or.inl ⟨by omega, by omega⟩)
  have hW3 := hW1.off hZ3
  have hs3 := (hW3.2.2.2.2.2.2.1 s hs).1
  obtain ⟨k1, k2, k3, k4⟩ := hf s hs
  have hFs := hgd s hs hR
  have hE3 := (k4 hR).off hO3 (fun i k h1 h2 q => by unfold fGi at q; omega)
  refine g_putI (f := 6) dX2_narrow_63 cl5 hs3.1 (by decide) (Or.inr (List.mem_of_getElem? (i := 24) rfl)) (Or.inl rfl) (Or.inl rfl) (Or.inr ⟨rfl, (Or.inr rfl)⟩) ?_
  have ho : Off M3 (stI M3 (E s) 6 (nI 1)) (fun i k => i = E s ∧ k = 6) := Off.rf.stI ⟨rfl, rfl⟩
  have e6 : mI (stI M3 (E s) 6 (nI 1)) (E s) 6 = nI 1 := by rw [mI_st, if_pos ⟨rfl, rfl⟩]
  generalize stI M3 (E s) 6 (nI 1) = M4 at ho e6 ⊢
  have hZ4 : Off M3 M4 (fZ u E P.length) := ho.mono (fun i k q => Or.inr ⟨s, hs, by omega, by omega, fun _ => by omega⟩)
  have hW4 := hW3.off hZ4
  have hs4 := (hW4.2.2.2.2.2.2.1 s hs).1
  have hu4 := hW4.2.1
  have hE4 := hE3.off ho (fun i k h1 h2 q => by omega)
  have hN4 := hN.off ho (fun i k h1 h2 q => by omega)
  have e74 : mI M4 u 7 = nI w := ((ho.i (fun q => by omega)).trans (hO3.i (fun q => by unfold fGi at q; omega))).trans h7
  refine g_aload_n dX2_narrow_66 rfl ?_
  refine g_getI (f := 6) dX2_narrow_67 cl5 hs4.1 (by decide) (Or.inr (List.mem_of_getElem? (i := 24) rfl)) (Or.inl rfl) (Or.inr rfl) ?_
  rw [e6]
  refine g_if_eq (tgt := 101) dX2_narrow_70 (by decide) (fun c_70 => ?_) (fun c_70 => ?_)
  · skip
    exact absurd c_70 (by decide)
  · skip
    refine g_aload_n dX2_narrow_73 rfl ?_
    refine g_dup dX2_narrow_74 rfl ?_
    refine g_getI (f := 7) dX2_narrow_75 cl3 hu4.1 (by decide) (Or.inl (iw_14 19 rfl)) (Or.inl rfl) (Or.inl rfl) ?_
    refine g_aload_n dX2_narrow_78 rfl ?_
    refine g_aload_n dX2_narrow_79 rfl ?_
    refine g_getR (f := 4) dX2_narrow_80 cl5 hs4.1 (by decide) (Or.inr (List.mem_of_getElem? (i := 18) rfl)) (Or.inl rfl) rfl hs4.2.2.2.2.2.1 ?_
    refine g_callV dX2_narrow_83 sX2_countOthers (c_count M4 n u p (E s) (aF A s) (mtN (aF A s) T) hu4 hE4 hN4 hFs (stK_all hst)) cl3 hu4.1 iX2_countOthers vX2_countOthers (iw_24 12 rfl) rfl rfl (Nat.le_of_ble_eq_true rfl) (Nat.le_of_ble_eq_true rfl) (Nat.le_of_ble_eq_true rfl) (Nat.le_of_ble_eq_true rfl) (Nat.le_of_ble_eq_true rfl) ?_
    intro r9 M9 n9 h9
    obtain ⟨h91, h92, h93⟩ := h9
    rw [h91, h92, h93]
    clear h91 h92 h93 r9 M9 n9
    rw [e74]
    refine g_iadd dX2_narrow_86 ?_
    rw [nI_add]
    refine g_putI (f := 7) dX2_narrow_87 cl3 hu4.1 (by decide) (Or.inl (iw_14 19 rfl)) (Or.inl rfl) (Or.inl rfl) (Or.inl rfl) ?_
    have ho5 : Off M4 (stI M4 u 7 (nI (w + ctK (aF A s) (mtN (aF A s) T) 8))) (fun i k => i = u ∧ k = 7) := Off.rf.stI ⟨rfl, rfl⟩
    have e75 : mI (stI M4 u 7 (nI (w + ctK (aF A s) (mtN (aF A s) T) 8))) u 7 = nI (w + ctK (aF A s) (mtN (aF A s) T) 8) := by rw [mI_st, if_pos ⟨rfl, rfl⟩]
    generalize stI M4 u 7 (nI (w + ctK (aF A s) (mtN (aF A s) T) 8)) = M5 at ho5 e75 ⊢
    have hu5 := hu4.off ho5
    have hs5 := hs4.off ho5 (fun k _ q => by omega)
    have hN5 := hN4.off ho5 (fun i k h1 h2 q => by omega)
    refine g_aload_n dX2_narrow_90 rfl ?_
    refine g_getR (f := 3) dX2_narrow_91 cl3 hu5.1 (by decide) (Or.inl (iw_4 15 rfl)) (Or.inl rfl) rfl hu5.2.1.2.2.2.1 ?_
    refine g_aload_n dX2_narrow_94 rfl ?_
    refine g_getR (f := 4) dX2_narrow_95 cl5 hs5.1 (by decide) (Or.inr (List.mem_of_getElem? (i := 18) rfl)) (Or.inl rfl) rfl hs5.2.2.2.2.2.1 ?_
    refine g_callSN dX2_narrow_98 sX8_copySets (c_copySets M5 n (u + 19) (E s + 1) (mtN (aF A s) T) (by unfold apS; omega) hN5 hs5.2.2.2.2.2.2) tX8_copySets (List.mem_of_getElem? (i := 4) rfl) rfl rfl (Nat.le_of_ble_eq_true rfl) (Nat.le_of_ble_eq_true rfl) (Nat.le_of_ble_eq_true rfl) (Nat.le_of_ble_eq_true rfl) (Nat.le_of_ble_eq_true rfl) ?_
    intro r9 M6 n9 h9
    obtain ⟨h91, h93, hO6, hE6⟩ := h9
    rw [h91, h93]
    clear h91 h93 r9 n9
    refine g_drop 2 ?_
    refine hk M6 ?_
    rw [hm]
    have hoa : Off M1 M6 (fun i k => fGi u i k ∨ (i = E s ∧ k = 6) ∨ (i = u ∧ k = 7) ∨ fB (E s + 1) i k) := (hO3.mono (fun i k q => Or.inl q)).trans ((ho.mono (fun i k q => Or.inr (Or.inl q))).trans ((ho5.mono (fun i k q => Or.inr (Or.inr (Or.inl q)))).trans (hO6.mono (fun i k q => Or.inr (Or.inr (Or.inr q))))))
    refine ⟨hO.trans (hoa.mono (fun i k q => ?_)), ⟨st, hf.at hoa (t := s) (fun j i k hj hne q h1 h2 => by
        have := hW.apart hj hs hne
        have := hW.2.2.2.2.2.2.2.2.2.1 j hj
        unfold fGi fB at q
        omega) (fun k hk hne => ⟨⟨rfl, up1_ne _ _ hne, rfl⟩, rfl⟩) (fun _ => ⟨?_, ?_, ?_, fun _ => ?_⟩)⟩, (hO6.i (fun q => by unfold fB at q; omega)).trans e75⟩
    · rcases q with q | q | q | q
      · unfold fGi at q; exact Or.inr (Or.inl ⟨by omega, by omega⟩)
      · exact Or.inr (Or.inr ⟨s, hs, by omega, by omega, fun _ => by omega⟩)
      · exact Or.inl q
      · unfold fB at q; exact Or.inr (Or.inr ⟨s, hs, by omega, by omega, fun _ => by omega⟩)
    · rw [hO6.i (fun q => by unfold fB at q; omega), ho5.i (fun q => by omega), e6]
      show nI 1 = bI (aR A s)
      rw [hR]; rfl
    · exact (hoa.i (fun q => by unfold fGi fB at q; omega)).trans k2
    · exact (hoa.i (fun q => by unfold fGi fB at q; omega)).trans k3
    · show sE M6 (E s + 1) (up1 (aF A) s (cut8 (mtN (aF A s) T)) s)
      rw [up1_eq]; exact hE6.to (fun p hp => cut8_lt hp)

set_option maxHeartbeats 4000000 in
set_option maxRecDepth 100000 in
theorem k_nw31 {M M1 : gM} {n p u d bs s w : Nat} {E : Nat → Nat} {P : List St} {A : RA} {st : Nat → Bool} {first : Ev} {Q : gθ} (hW : wS M p u d bs E P) (hF : sE M (p + 2) first) (hvf : gdF first) (hgd : gdA P A) (hs : s < P.length) (hO : Off M M1 (fNw u E P.length)) (hf : fE M1 E P.length A st) (h7 : mI M1 u 7 = nI w) (hk : ∀ M9, nwS M M9 u E P.length (nar1 P first A w s).1 (nar1 P first A w s).2 → GW μX2_narrow (gRm 6 147 0 0) Q 0 0 101 [some (.ref u), some (.int (nI s)), none] [] M9 n) : GW μX2_narrow (gRm 6 147 0 0) Q 0 0 31 [some (.ref u), some (.int (nI s)), some (.ref (E s))] [] M1 n := by
  have hbs := hW.2.2.2.2.2.2.2.2.2.1 s hs
  have hlay := hW.2.2.2.2.2.2.2.2.1
  have hlay2 := hW.2.2.2.2.2.2.2.1
  have hl40 := hW.2.2.2.2.2.1.1
  have hW1 := hW.off (hO.mono (fun i k q => fNw_Z q))
  have hs1 := (hW1.2.2.2.2.2.2.1 s hs).1
  have hF1 : sE M1 (p + 2) first := hF.off hO (fun i k h1 h2 q => by
    rcases q with q | q | q
    · omega
    · omega
    · have := stm_u hW q; omega)
  obtain ⟨k1, k2, k3, k4⟩ := hf s hs
  refine g_aload_n dX2_narrow_31 rfl ?_
  refine g_getI (f := 6) dX2_narrow_32 cl5 hs1.1 (by decide) (Or.inr (List.mem_of_getElem? (i := 24) rfl)) (Or.inl rfl) (Or.inr rfl) ?_
  rw [k1]
  refine g_if_eq (tgt := 101) dX2_narrow_35 (by decide) (fun c_35 => ?_) (fun c_35 => ?_)
  · skip
    refine g_drop 2 ?_
    rw [bI_eq0] at c_35
    refine hk M1 ?_
    have en : nar1 P first A w s = (A, w) := by unfold nar1; rw [if_neg (by rw [c_35]; decide)]
    rw [en]
    exact ⟨hO, ⟨st, hf⟩, h7⟩
  · skip
    rw [bI_eq0, Bool.not_eq_false] at c_35
    have en : nar1 P first A w s = (meetA A w s (gthA P A first s P.length)) := by unfold nar1; rw [if_pos c_35]
    refine g_aload_n dX2_narrow_38 rfl ?_
    refine g_aload_n dX2_narrow_39 rfl ?_
    refine g_iload_n dX2_narrow_40 rfl ?_
    refine g_callV dX2_narrow_41 sX2_gatherIncoming (c_gather M1 n p u d bs s E P A st first hW1 hf hgd hs hF1) cl3 hW1.2.1.1 iX2_gatherIncoming vX2_gatherIncoming (iw_23 22 rfl) rfl rfl (Nat.le_of_ble_eq_true rfl) (Nat.le_of_ble_eq_true rfl) (Nat.le_of_ble_eq_true rfl) (Nat.le_of_ble_eq_true rfl) (Nat.le_of_ble_eq_true rfl) ?_
    intro r9 M2 n9 h9
    obtain ⟨h91, h93, hI2⟩ := h9
    rw [h91, h93]
    clear h91 h93 r9 n9
    refine g_if_eq (tgt := 62) dX2_narrow_44 (by decide) (fun c_44 => ?_) (fun c_44 => ?_)
    · skip
      refine g_iconst (v := nI 0) dX2_narrow_62 rfl ?_
      rw [en] at hk
      first
        | (have q9 := hO3
           have hO13 : Off M1 M3 (fGi u) := hI2.1.trans (hO3.mono (fun i k q => by unfold fI at q; unfold fGi; omega))
           rw [bI_eq0] at c_55
           first
             | (rw [Bool.not_eq_false] at c_55
                exact k_nw66t hW hF hvf hgd hs c_35 hO hf h7 hO13 hTd c_55 (hZ3 c_55) (by rw [hT]; show (if stK (mtN (aF A s) T) 8 = true then _ else _) = _; rw [if_pos c_55]) hk)
             | (exact k_nw66f hW hF hvf hgd hs hO hf h7 hO13 (by rw [hT]; show (if stK (mtN (aF A s) T) 8 = true then _ else _) = _; rw [if_neg (by rw [c_55]; decide)]) hk))
        | (rw [bI_eq0] at c_44
           have eN := none_of c_44
           exact k_nw66f hW hF hvf hgd hs hO hf h7 hI2.1 (by rw [eN]; rfl) hk)
    · skip
      rw [bI_eq0, Bool.not_eq_false] at c_44
      obtain ⟨T, hT⟩ := some_of c_44
      have hT2 := hI2.2 T hT
      have hTd := gthA_ok hW.2.2.2.2.2.1 hgd hvf s P.length (Nat.le_refl _) T hT
      have hZ2 : Off M1 M2 (fZ u E P.length) := hI2.1.mono (fun i k q => by unfold fGi at q; exact Or.inl ⟨by omega, by omega⟩)
      have hW2 := hW1.off hZ2
      have hs2 := (hW2.2.2.2.2.2.2.1 s hs).1
      have hu2 := hW2.2.1
      have hE2 := (k4 c_35).off hI2.1 (fun i k h1 h2 q => by unfold fGi at q; omega)
      refine g_aload_n dX2_narrow_47 rfl ?_
      refine g_aload_n dX2_narrow_48 rfl ?_
      refine g_getR (f := 4) dX2_narrow_49 cl5 hs2.1 (by decide) (Or.inr (List.mem_of_getElem? (i := 18) rfl)) (Or.inl rfl) rfl hs2.2.2.2.2.2.1 ?_
      refine g_callV dX2_narrow_52 sX2_makeIncomingCommon (c_mic M2 n u p (E s) (aF A s) T hu2 hE2 (by omega) hT2) cl3 hu2.1 iX2_makeIncomingCommon vX2_makeIncomingCommon (iw_24 6 rfl) rfl rfl (Nat.le_of_ble_eq_true rfl) (Nat.le_of_ble_eq_true rfl) (Nat.le_of_ble_eq_true rfl) (Nat.le_of_ble_eq_true rfl) (Nat.le_of_ble_eq_true rfl) ?_
      intro r9 M3 n9 h9
      obtain ⟨h91, h93, hO3, hZ3⟩ := h9
      rw [h91, h93]
      clear h91 h93 r9 n9
      refine g_if_eq (tgt := 62) dX2_narrow_55 (by decide) (fun c_55 => ?_) (fun c_55 => ?_)
      · skip
        refine g_iconst (v := nI 0) dX2_narrow_62 rfl ?_
        rw [en] at hk
        first
          | (have q9 := hO3
             have hO13 : Off M1 M3 (fGi u) := hI2.1.trans (hO3.mono (fun i k q => by unfold fI at q; unfold fGi; omega))
             rw [bI_eq0] at c_55
             first
               | (rw [Bool.not_eq_false] at c_55
                  exact k_nw66t hW hF hvf hgd hs c_35 hO hf h7 hO13 hTd c_55 (hZ3 c_55) (by rw [hT]; show (if stK (mtN (aF A s) T) 8 = true then _ else _) = _; rw [if_pos c_55]) hk)
               | (exact k_nw66f hW hF hvf hgd hs hO hf h7 hO13 (by rw [hT]; show (if stK (mtN (aF A s) T) 8 = true then _ else _) = _; rw [if_neg (by rw [c_55]; decide)]) hk))
          | (rw [bI_eq0] at c_44
             have eN := none_of c_44
             exact k_nw66f hW hF hvf hgd hs hO hf h7 hI2.1 (by rw [eN]; rfl) hk)
      · skip
        refine g_iconst (v := nI 1) dX2_narrow_58 rfl ?_
        refine g_goto (tgt := 63) dX2_narrow_59 (by decide) ?_
        rw [en] at hk
        first
          | (have q9 := hO3
             have hO13 : Off M1 M3 (fGi u) := hI2.1.trans (hO3.mono (fun i k q => by unfold fI at q; unfold fGi; omega))
             rw [bI_eq0] at c_55
             first
               | (rw [Bool.not_eq_false] at c_55
                  exact k_nw66t hW hF hvf hgd hs c_35 hO hf h7 hO13 hTd c_55 (hZ3 c_55) (by rw [hT]; show (if stK (mtN (aF A s) T) 8 = true then _ else _) = _; rw [if_pos c_55]) hk)
               | (exact k_nw66f hW hF hvf hgd hs hO hf h7 hO13 (by rw [hT]; show (if stK (mtN (aF A s) T) 8 = true then _ else _) = _; rw [if_neg (by rw [c_55]; decide)]) hk))
          | (rw [bI_eq0] at c_44
             have eN := none_of c_44
             exact k_nw66f hW hF hvf hgd hs hO hf h7 hI2.1 (by rw [eN]; rfl) hk)

set_option maxHeartbeats 4000000 in
set_option maxRecDepth 100000 in
theorem k_nw2 {M : gM} {n p u d bs w : Nat} {E : Nat → Nat} {P : List St} {A : RA} {first : Ev} {Q : gθ} (hW : wS M p u d bs E P) (hF : sE M (p + 2) first) (hvf : gdF first) (hgd : gdA P A) (hk : ∀ M1, nwS M M1 u E P.length (narA P first A w).1 (narA P first A w).2 → GW μX2_narrow (gRm 6 147 0 0) Q 0 0 107 [some (.ref u), none, none] [] M1 n) : ∀ (d9 : Nat) (s : Nat) (M1 : gM), P.length - s < d9 → s ≤ P.length → nwS M M1 u E P.length (narK P first A w s).1 (narK P first A w s).2 → GW μX2_narrow (gRm 6 147 0 0) Q 0 0 2 [some (.ref u), some (.int (nI s)), none] [] M1 n := by
  intro d9
  induction d9 with
  | zero =>
    intro s M1 hd hsl hI
    omega
  | succ d9 ih =>
    intro s M1 hd hsl hI
    have hl40 := hW.2.2.2.2.2.1.1
    obtain ⟨hO, ⟨st, hf⟩, h7⟩ := hI
    have hW1 := hW.off (hO.mono (fun i k q => fNw_Z q))
    refine g_iload_n dX2_narrow_2 rfl ?_
    refine g_aload_n dX2_narrow_3 rfl ?_
    refine g_getR (f := 0) dX2_narrow_4 cl3 hW1.2.1.1 (by decide) (Or.inl (iw_4 18 rfl)) (Or.inl rfl) rfl hW1.2.1.2.1.1 ?_
    refine g_getR (f := 0) dX2_narrow_7 cl2 hW1.1.1 (by decide) (Or.inr (List.mem_of_getElem? (i := 22) rfl)) (Or.inl rfl) rfl hW1.1.2.1 ?_
    refine g_callV dX2_narrow_10 sJx4a65c_size_8abf5 (j_size M1 n (p + 1) d P.length E hW1.2.2.1) cl0 hW1.2.2.1.1 iJx4a65c_size_8abf5 vJx4a65c_size_8abf5 (iw_14 21 rfl) rfl rfl (Nat.le_of_ble_eq_true rfl) (Nat.le_of_ble_eq_true rfl) (Nat.le_of_ble_eq_true rfl) (Nat.le_of_ble_eq_true rfl) (Nat.le_of_ble_eq_true rfl) ?_
    intro r9 M9 n9 h9
    obtain ⟨h91, h92, h93⟩ := h9
    rw [h91, h92, h93]
    clear h91 h92 h93 r9 M9 n9
    refine g_icmp_ge (tgt := 107) dX2_narrow_13 (by decide) (fun c_13 => ?_) (fun c_13 => ?_)
    · skip
      rw [nI_leI (by omega) (by omega)] at c_13
      refine g_drop 1 ?_
      rw [show s = P.length by omega] at hf h7
      exact hk M1 ⟨hO, ⟨st, hf⟩, h7⟩
    · skip
      rw [nI_leI (by omega) (by omega)] at c_13
      have hs : s < P.length := by omega
      refine g_aload_n dX2_narrow_16 rfl ?_
      refine g_getR (f := 0) dX2_narrow_17 cl3 hW1.2.1.1 (by decide) (Or.inl (iw_4 18 rfl)) (Or.inl rfl) rfl hW1.2.1.2.1.1 ?_
      refine g_getR (f := 0) dX2_narrow_20 cl2 hW1.1.1 (by decide) (Or.inr (List.mem_of_getElem? (i := 22) rfl)) (Or.inl rfl) rfl hW1.1.2.1 ?_
      refine g_iload_n dX2_narrow_23 rfl ?_
      refine g_callV dX2_narrow_24 sJx4a65c_get_915e3 (j_get M1 n (p + 1) d P.length s E hW1.2.2.1 hs) cl0 hW1.2.2.1.1 iJx4a65c_get_915e3 vJx4a65c_get_915e3 (iw_14 22 rfl) rfl rfl (Nat.le_of_ble_eq_true rfl) (Nat.le_of_ble_eq_true rfl) (Nat.le_of_ble_eq_true rfl) (Nat.le_of_ble_eq_true rfl) (Nat.le_of_ble_eq_true rfl) ?_
      intro r9 M9 n9 h9
      obtain ⟨h91, h92, h93⟩ := h9
      rw [h91, h92, h93]
      clear h91 h92 h93 r9 M9 n9
      refine g_castSt dX2_narrow_27 (iw_14 20 rfl) (hW1.2.2.2.2.2.2.1 s hs).1.1 ?_
      refine g_astore_n dX2_narrow_30 (Nat.le_of_ble_eq_true rfl) ?_
      refine k_nw31 hW hF hvf (narK_gd hW.2.2.2.2.2.1 hvf hgd w s (by omega)) hs hO hf h7 (fun M2 hI2 => ?_)
      refine g_iinc dX2_narrow_101 rfl (nI_1 s) (Nat.le_of_ble_eq_true rfl) ?_
      refine g_goto (tgt := 2) dX2_narrow_104 (by decide) ?_
      exact ih (s + 1) M2 (by omega) (by omega) hI2

set_option maxHeartbeats 4000000 in
set_option maxRecDepth 100000 in
theorem c_narrow (M : gM) (n p u d bs w : Nat) (E : Nat → Nat) (P : List St) (A : RA) (st : Nat → Bool) (first : Ev) (hW : wS M p u d bs E P) (hF : sE M (p + 2) first) (hvf : gdF first) (hgd : gdA P A) (hf : fE M E P.length A st) (h7 : mI M u 7 = nI w) : GM μX2_narrow 6 147 0 0 [.ref u] M n (fun r M1 n1 => r = none ∧ n1 = n ∧ nwS M M1 u E P.length (narA P first A w).1 (narA P first A w).2) := by
  refine GM.ofW (by decide) rfl (Nat.le_of_ble_eq_true rfl) rfl ?_
  refine g_iconst (v := nI 0) dX2_narrow_0 rfl ?_
  refine g_istore_n dX2_narrow_1 (Nat.le_of_ble_eq_true rfl) ?_
  refine k_nw2 hW hF hvf hgd (fun M1 hI => ?_) (P.length + 1) 0 M (by omega) (by omega) ⟨Off.rf, ⟨st, hf⟩, h7⟩
  exact g_vret dX2_narrow_107 rfl (Nat.le_refl _) (Nat.le_refl _) ⟨rfl, rfl, hI⟩

