/-! the reference: what is asked of it -/
theorem g_ldc_w {μ : gμ} {R : Room} {Q : gθ} {k q pc : Nat} {lv : List (Option Value)} {st : List Value} {M : gM} {n : Nat} {i : Nat} {v : Int32} (hd : decode μ.2.1 pc = .ok (.ldc_w i, 3)) (hw : Cond.constant μ.1.cls i v ∈ gT) (kk : GW μ R Q k q (pc + 3) lv (.int v :: st) M n) : GW μ R Q k q pc lv st M n := by
  intro p l e s m args below meth c D cy b H locs ls hC hP hS hl
  exact lv_ldcw hC.x hC.b hC.2.2.2.1 (hC.2.2.2.2.1 _ hw) hd (kk p l e s m args below meth c D cy b H locs ls hC hP hS hl)
theorem nI_t {k : Nat} (h : k < 2147483648) : (nI k).toInt = (k : Int) := by
  rw [nI_iZ]; exact iZ_t (by omega) (by omega)
/-- small fields that no state reads -/
theorem rQ.off0 {M M1 : gM} {m : Nat} {σ : MS} {S : Nat → List Sp} (h : rQ M m σ S) (ho : Off M M1 (fun i k => i = m ∧ (k = 0 ∨ k = 20))) : rQ M1 m σ S := by
  obtain ⟨h1, h2, h3, h4, h5, h6, h7, h8⟩ := h
  refine ⟨h1.offI ho (fun i k h => by unfold fA; omega), h2.off ho (by omega) (fun i k a b => by omega), h3, h4, (ho.i (by omega)).trans h5, (ho.i (by omega)).trans h6, fun p hp => (ho.i (by omega)).trans (h7 p hp), fun hr => ?_⟩
  obtain ⟨a1, a2, a3⟩ := h8 hr
  refine ⟨⟨fun t ht => (ho.i (by omega)).trans (a1.1 t ht), fun t ht => (ho.i (by omega)).trans (a1.2.1 t ht), (ho.i (by omega)).trans a1.2.2.1, a1.2.2.2⟩, (ho.i (by omega)).trans a2, (ho.i (by omega)).trans a3⟩
theorem rQ.thr {M : gM} {m : Nat} {σ : MS} {S : Nat → List Sp} (h : rQ M m σ S) (v : Int32) : rQ (stI M m 0 v) m σ S := h.off0 (Off.rf.stI ⟨rfl, Or.inl rfl⟩)
/-- the facts after run -/
def zA (σ : MS) : RA := (runA (zP σ) (zF σ)).1
theorem zA_gd {σ : MS} (h : okZ σ) : gdA (zP σ) (zA σ) := (fin_facts h.1 h.gd).1
abbrev isT (σ : MS) (x : Int32) : Prop := 0 ≤ x.toInt ∧ x.toInt ≤ ((zP σ).length : Int) - 1
theorem isT.lt {σ : MS} {x : Int32} (h : isT σ x) : pl x < (zP σ).length := by have h1 := h.1; have h2 := h.2; unfold pl; omega
theorem isT.eq {σ : MS} {x : Int32} (h : isT σ x) : x = nI (pl x) := pl_eq h.1
def rcZ (σ : MS) (x : Int32) : Nat × Bool := if ¬ isT σ x then (1, false) else if zR σ = false then (2, false) else (0, aR (zA σ) (pl x))
def pcZ (σ : MS) (x p : Int32) : Nat × Nat := if ¬ isT σ x ∨ ¬ isP p then (1, 0) else if zR σ = false then (2, 0) else (0, if aR (zA σ) (pl x) = true then (aF (zA σ) (pl x) (pl p)).length else 0)
def enZ (σ : MS) (x p k : Int32) (up : Bool) : Nat × Int := if ¬ isT σ x ∨ ¬ isP p then (1, 0) else if zR σ = false then (2, 0) else if aR (zA σ) (pl x) = false ∨ ¬ (0 ≤ k.toInt ∧ k.toInt ≤ ((aF (zA σ) (pl x) (pl p)).length : Int) - 1) then (1, 0) else (0, if up = true then ((aF (zA σ) (pl x) (pl p)).getD (pl k) (0, 0)).2 else ((aF (zA σ) (pl x) (pl p)).getD (pl k) (0, 0)).1)
def wyZ (σ : MS) (x : Int32) : Nat × Nat := if ¬ isT σ x then (1, 0) else if zR σ = false then (2, 0) else (0, if aR (zA σ) (pl x) = false then 0 else
  (if ((zP σ).getD (pl x) st0).1 = 7 ∨ ((zP σ).getD (pl x) st0).1 = 8 then (if hasB (aF (zA σ) (pl x) (pl ((zP σ).getD (pl x) st0).2.2.2)) 0 = true then 1 else 0) else 0) + (if (gvn ((zP σ).getD (pl x) st0) (aF (zA σ) (pl x)) true).isSome = true then 2 else 0) + (if (gvn ((zP σ).getD (pl x) st0) (aF (zA σ) (pl x)) false).isSome = true then 4 else 0) + (if ((zP σ).getD (pl x) st0).1 = 19 then 8 else 0))
def cntK (f : Nat → Bool) : Nat → Nat
  | 0 => 0
  | j + 1 => cntK f j + (if f j = true then 1 else 0)
def tdZ (σ : MS) (x : Int32) : Nat × Nat := if ¬ (0 ≤ x.toInt ∧ x.toInt ≤ 4) then (1, 0) else if zR σ = false then (2, 0) else (0, if x = 0 then (runA (zP σ) (zF σ)).2.1 else if x = 1 then aW (zA σ) else if x = 3 then (runA (zP σ) (zF σ)).2.2 else if x = 2 then cntK (aR (zA σ)) (zP σ).length else cntK (isHd (zP σ)) (zP σ).length)
def hdZ (σ : MS) (p : Int32) : Nat × Int32 := if isP p ∧ ¬ zH σ = -1 then (0, zN σ (pl p)) else (1, 0)
/-- the k-th threshold, from the first that is v -/
def thI (P : List St) (v : Int) : Nat → Option Int
  | 0 => some v
  | j + 1 => if v = 2147483647 then none else thI P (nxt P (v + 1) true) j
def thZ (σ : MS) (k : Int32) : Nat × Int := if k < 0 then (1, 0) else match thI (zP σ) (-2147483648) (pl k) with | none => (1, 0) | some v => (0, v)
def bgZ (p lo hi : Int32) : Nat × Int := if ¬ isP p then (1, 0) else if hi < lo then (2, 0) else (0, hi.toInt - lo.toInt + 1)
def bgS (σ : MS) (p lo hi : Int32) : MS := if (bgZ p lo hi).1 = 0 then (zP σ, up1 (zF σ) (pl p) [(lo.toInt, hi.toInt)], false, zH σ, zN σ) else σ
set_option maxHeartbeats 4000000 in
set_option maxRecDepth 100000 in
theorem s_size (M : gM) (n m : Nat) (σ : MS) (hQ : rM M m σ) : GM μX9_size 0 0 0 0 [.ref m] M n (fun r M1 n1 => r = some (.int (nI (zP σ).length)) ∧ n1 = n ∧ Off M M1 (fX m) ∧ rM M1 m σ ∧ mI M1 m 0 = 0) := by
  refine GM.ofW (by decide) rfl (Nat.le_of_ble_eq_true rfl) rfl ?_
  obtain ⟨S, hQ⟩ := hQ
  have l40 := hQ.2.1.2.1
  refine g_aload_n dX9_size_0 rfl ?_
  refine g_iconst (v := nI 0) dX9_size_1 rfl ?_
  refine g_putI (f := 0) dX9_size_2 cl10 hQ.1.1.1 (by decide) (Or.inl (iw_12 11 rfl)) (Or.inl rfl) (Or.inl rfl) (Or.inl rfl) ?_
  have hO1 : Off M (stI M m 0 (nI 0)) (fX m) := Off.rf.stI ⟨by omega, by omega⟩
  have hQ1 := hQ.thr (nI 0)
  have h0 : mI (stI M m 0 (nI 0)) m 0 = nI 0 := by rw [mI_st, if_pos ⟨rfl, rfl⟩]
  generalize stI M m 0 (nI 0) = M1 at hO1 hQ1 h0 ⊢
  have hG := hQ1.1
  have hP := hQ1.2.1
  refine g_aload_n dX9_size_5 rfl ?_
  refine g_getI (f := 6) dX9_size_6 cl10 hG.1.1 (by decide) (Or.inl (iw_12 20 rfl)) (Or.inl rfl) (Or.inl rfl) ?_
  rw [hP.1]
  exact g_iret dX9_size_9 (Or.inl rfl) (Nat.le_of_ble_eq_true rfl) (Nat.le_of_ble_eq_true rfl) ⟨rfl, rfl, hO1, ⟨S, hQ1⟩, h0⟩

set_option maxHeartbeats 4000000 in
set_option maxRecDepth 100000 in
theorem s_ended (M : gM) (n m : Nat) (σ : MS) (hQ : rM M m σ) : GM μX9_ended 0 0 0 0 [.ref m] M n (fun r M1 n1 => r = some (.int (zH σ)) ∧ n1 = n ∧ Off M M1 (fX m) ∧ rM M1 m σ ∧ mI M1 m 0 = 0) := by
  refine GM.ofW (by decide) rfl (Nat.le_of_ble_eq_true rfl) rfl ?_
  obtain ⟨S, hQ⟩ := hQ
  have l40 := hQ.2.1.2.1
  refine g_aload_n dX9_ended_0 rfl ?_
  refine g_iconst (v := nI 0) dX9_ended_1 rfl ?_
  refine g_putI (f := 0) dX9_ended_2 cl10 hQ.1.1.1 (by decide) (Or.inl (iw_12 11 rfl)) (Or.inl rfl) (Or.inl rfl) (Or.inl rfl) ?_
  have hO1 : Off M (stI M m 0 (nI 0)) (fX m) := Off.rf.stI ⟨by omega, by omega⟩
  have hQ1 := hQ.thr (nI 0)
  have h0 : mI (stI M m 0 (nI 0)) m 0 = nI 0 := by rw [mI_st, if_pos ⟨rfl, rfl⟩]
  generalize stI M m 0 (nI 0) = M1 at hO1 hQ1 h0 ⊢
  have hG := hQ1.1
  have hP := hQ1.2.1
  refine g_aload_n dX9_ended_5 rfl ?_
  refine g_getI (f := 19) dX9_ended_6 cl10 hG.1.1 (by decide) (Or.inl (iw_6 8 rfl)) (Or.inl rfl) (Or.inl rfl) ?_
  rw [hQ1.2.2.2.2.2.1]
  exact g_iret dX9_ended_9 (Or.inl rfl) (Nat.le_of_ble_eq_true rfl) (Nat.le_of_ble_eq_true rfl) ⟨rfl, rfl, hO1, ⟨S, hQ1⟩, h0⟩

set_option maxHeartbeats 4000000 in
set_option maxRecDepth 100000 in
theorem m_isSt (M : gM) (n m : Nat) (σ : MS) (x : Int32) (hm : gMod M m) (hP : rP M m (zP σ)) : GM μX9_isStatement 1 25 0 0 [.ref m, .int x] M n (fun r M1 n1 => r = some (.int (bI (decide (isT σ x)))) ∧ M1 = M ∧ n1 = n) := by
  refine GM.ofW (by decide) rfl (Nat.le_of_ble_eq_true rfl) rfl ?_
  have hx := i_rng x
  have l40 := hP.2.1
  have hs : (nI (zP σ).length - nI 1) = iZ (((zP σ).length : Int) - 1) := by rw [nI_iZ, nI_iZ, iZ_sub]; rfl
  refine g_iload_n dX9_isStatement_0 rfl ?_
  refine g_i2l dX9_isStatement_1 ?_
  rw [i_j]
  refine g_lconst (v := jI 0) dX9_isStatement_2 rfl ?_
  refine g_aload_n dX9_isStatement_3 rfl ?_
  refine g_getI (f := 6) dX9_isStatement_4 cl10 hm.1 (by decide) (Or.inl (iw_12 20 rfl)) (Or.inl rfl) (Or.inl rfl) ?_
  rw [hP.1]
  refine g_iconst (v := nI 1) dX9_isStatement_7 rfl ?_
  refine g_isub dX9_isStatement_8 ?_
  rw [hs]
  refine g_i2l dX9_isStatement_9 ?_
  rw [iZ_j (by omega) (by omega)]
  refine g_callS dX9_isStatement_10 sX9_isIn (m_isInZ M n x.toInt 0 (((zP σ).length : Int) - 1) (by constructor <;> omega) (by constructor <;> omega) (by constructor <;> omega)) tX9_isIn (iw_12 22 rfl) rfl rfl (Nat.le_of_ble_eq_true rfl) (Nat.le_of_ble_eq_true rfl) (Nat.le_of_ble_eq_true rfl) (Nat.le_of_ble_eq_true rfl) (Nat.le_of_ble_eq_true rfl) ?_
  intro r9 M9 n9 h9
  obtain ⟨h91, h92, h93⟩ := h9
  rw [h91, h92, h93]
  clear h91 h92 h93 r9 M9 n9
  exact g_iret dX9_isStatement_13 (Or.inr ⟨rfl, bI_01 _⟩) (Nat.le_of_ble_eq_true rfl) (Nat.le_of_ble_eq_true rfl) ⟨rfl, rfl, rfl⟩

theorem m_factX (M : gM) (n m a q : Nat) (x p : Int32) (hx : x = nI a) (hp : p = nI q) : GM μX9_fact 0 0 0 0 [.ref m, .int x, .int p] M n (fun r M1 n1 => r = some (.int (nI (8 * a + q))) ∧ M1 = M ∧ n1 = n) := by
  subst hx
  subst hp
  exact m_fact M n m a q
set_option maxHeartbeats 4000000 in
set_option maxRecDepth 100000 in
theorem s_reached (M : gM) (n m : Nat) (σ : MS) (x : Int32) (hQ : rM M m σ) : GM μX9_reached 2 46 0 0 [.ref m, .int x] M n (fun r M1 n1 => r = some (.int (bI (rcZ σ x).2)) ∧ n1 = n ∧ Off M M1 (fX m) ∧ rM M1 m σ ∧ mI M1 m 0 = nI (rcZ σ x).1) := by
  refine GM.ofW (by decide) rfl (Nat.le_of_ble_eq_true rfl) rfl ?_
  obtain ⟨S, hQ⟩ := hQ
  have l40 := hQ.2.1.2.1
  refine g_aload_n dX9_reached_0 rfl ?_
  refine g_iconst (v := nI 0) dX9_reached_1 rfl ?_
  refine g_putI (f := 0) dX9_reached_2 cl10 hQ.1.1.1 (by decide) (Or.inl (iw_12 11 rfl)) (Or.inl rfl) (Or.inl rfl) (Or.inl rfl) ?_
  have hO1 : Off M (stI M m 0 (nI 0)) (fX m) := Off.rf.stI ⟨by omega, by omega⟩
  have hQ1 := hQ.thr (nI 0)
  have h0 : mI (stI M m 0 (nI 0)) m 0 = nI 0 := by rw [mI_st, if_pos ⟨rfl, rfl⟩]
  generalize stI M m 0 (nI 0) = M1 at hO1 hQ1 h0 ⊢
  have hG := hQ1.1
  have hP := hQ1.2.1
  refine g_aload_n dX9_reached_5 rfl ?_
  refine g_iload_n dX9_reached_6 rfl ?_
  refine g_callV dX9_reached_7 sX9_isStatement (m_isSt M1 n m σ x hG.1 hP) cl10 hG.1.1 iX9_isStatement vX9_isStatement (iw_32 7 rfl) rfl rfl (Nat.le_of_ble_eq_true rfl) (Nat.le_of_ble_eq_true rfl) (Nat.le_of_ble_eq_true rfl) (Nat.le_of_ble_eq_true rfl) (Nat.le_of_ble_eq_true rfl) ?_
  intro r9 M9 n9 h9
  obtain ⟨h91, h92, h93⟩ := h9
  rw [h91, h92, h93]
  clear h91 h92 h93 r9 M9 n9
  refine g_if_ne (tgt := 27) dX9_reached_10 (by decide) (fun c_10 => ?_) (fun c_10 => ?_)
  · skip
    rw [bI_eq0, decide_eq_false_iff_not, Classical.not_not] at c_10
    refine g_aload_n dX9_reached_27 rfl ?_
    refine g_getI (f := 11) dX9_reached_28 cl10 hG.1.1 (by decide) (Or.inl (iw_12 21 rfl)) (Or.inl rfl) (Or.inr rfl) ?_
    rw [hQ1.2.2.2.2.1]
    refine g_if_eq (tgt := 43) dX9_reached_31 (by decide) (fun c_31 => ?_) (fun c_31 => ?_)
    · skip
      rw [bI_eq0] at c_31
      refine g_aload_n dX9_reached_43 rfl ?_
      refine g_iconst (v := nI 2) dX9_reached_44 rfl ?_
      refine g_callV dX9_reached_45 sX9_fail (m_fail M1 n m (nI 2) hG.1) cl10 hG.1.1 iX9_fail vX9_fail (iw_13 5 rfl) rfl rfl (Nat.le_of_ble_eq_true rfl) (Nat.le_of_ble_eq_true rfl) (Nat.le_of_ble_eq_true rfl) (Nat.le_of_ble_eq_true rfl) (Nat.le_of_ble_eq_true rfl) ?_
      intro r9 M9 n9 h9
      obtain ⟨h91, h92, h93⟩ := h9
      rw [h91, h92, h93]
      clear h91 h92 h93 r9 M9 n9
      refine g_if_le (tgt := 55) dX9_reached_48 (by decide) (fun c_48 => ?_) (fun c_48 => ?_)
      · skip
        refine g_iconst (v := nI 0) dX9_reached_55 rfl ?_
        exact g_iret dX9_reached_56 (Or.inr ⟨rfl, (by first | exact bI_01 _ | exact Or.inl rfl)⟩) (Nat.le_of_ble_eq_true rfl) (Nat.le_of_ble_eq_true rfl) (by
          first
            | (have e : rcZ σ x = (2, false) := by
                 unfold rcZ; rw [if_neg (fun h => h c_10), if_pos c_31]
               exact ⟨by rw [e]; rfl, rfl, hO1.stI ⟨by omega, by omega⟩, ⟨S, hQ1.thr _⟩, by rw [e, mI_st, if_pos ⟨rfl, rfl⟩]⟩)
            | (have e : rcZ σ x = (0, aR (zA σ) (pl x)) := by
                 unfold rcZ; rw [if_neg (fun h => h c_10), if_neg (by rw [c_31]; decide)]
               exact ⟨by rw [e]; rfl, rfl, hO1, ⟨S, hQ1⟩, by rw [e]; exact h0⟩))
      · skip
        exact absurd (show (0 : Int32) ≤ 0 by decide) c_48
    · skip
      rw [bI_eq0, Bool.not_eq_false] at c_31
      obtain ⟨hA, h13, h15⟩ := hQ1.2.2.2.2.2.2.2 c_31
      refine g_aload_n dX9_reached_34 rfl ?_
      refine g_getR (f := 12) dX9_reached_35 cl10 hG.1.1 (by decide) (Or.inl (iw_6 5 rfl)) (Or.inl rfl) rfl hG.1.r_reached ?_
      refine g_iload_n dX9_reached_38 rfl ?_
      refine g_baload dX9_reached_39 (j := pl x) hG.1.k_reached hG.1.n_reached c_10.eq (by have := c_10.lt; omega) (by decide) ?_
      rw [hA.1 (pl x) (by have := c_10.lt; omega)]
      refine g_goto (tgt := 56) dX9_reached_40 (by decide) ?_
      exact g_iret dX9_reached_56 (Or.inr ⟨rfl, (by first | exact bI_01 _ | exact Or.inl rfl)⟩) (Nat.le_of_ble_eq_true rfl) (Nat.le_of_ble_eq_true rfl) (by
        first
          | (have e : rcZ σ x = (2, false) := by
               unfold rcZ; rw [if_neg (fun h => h c_10), if_pos c_31]
             exact ⟨by rw [e]; rfl, rfl, hO1.stI ⟨by omega, by omega⟩, ⟨S, hQ1.thr _⟩, by rw [e, mI_st, if_pos ⟨rfl, rfl⟩]⟩)
          | (have e : rcZ σ x = (0, aR (zA σ) (pl x)) := by
               unfold rcZ; rw [if_neg (fun h => h c_10), if_neg (by rw [c_31]; decide)]
             exact ⟨by rw [e]; rfl, rfl, hO1, ⟨S, hQ1⟩, by rw [e]; exact h0⟩))
  · skip
    rw [bI_eq0, decide_eq_false_iff_not] at c_10
    refine g_aload_n dX9_reached_13 rfl ?_
    refine g_iconst (v := nI 1) dX9_reached_14 rfl ?_
    refine g_callV dX9_reached_15 sX9_fail (m_fail M1 n m (nI 1) hG.1) cl10 hG.1.1 iX9_fail vX9_fail (iw_13 5 rfl) rfl rfl (Nat.le_of_ble_eq_true rfl) (Nat.le_of_ble_eq_true rfl) (Nat.le_of_ble_eq_true rfl) (Nat.le_of_ble_eq_true rfl) (Nat.le_of_ble_eq_true rfl) ?_
    intro r9 M9 n9 h9
    obtain ⟨h91, h92, h93⟩ := h9
    rw [h91, h92, h93]
    clear h91 h92 h93 r9 M9 n9
    refine g_if_le (tgt := 25) dX9_reached_18 (by decide) (fun c_18 => ?_) (fun c_18 => ?_)
    · skip
      refine g_iconst (v := nI 0) dX9_reached_25 rfl ?_
      exact g_iret dX9_reached_26 (Or.inr ⟨rfl, by first | exact Or.inl rfl | exact Or.inr rfl⟩) (Nat.le_of_ble_eq_true rfl) (Nat.le_of_ble_eq_true rfl) (by
        have e : rcZ σ x = (1, false) := by
          unfold rcZ
          rw [if_pos c_10]
        exact ⟨by rw [e]; rfl, rfl, hO1.stI ⟨by omega, by omega⟩, ⟨S, hQ1.thr _⟩, by rw [e, mI_st, if_pos ⟨rfl, rfl⟩]⟩)
    · skip
      exact absurd (show (0 : Int32) ≤ 0 by decide) c_18

set_option maxHeartbeats 4000000 in
set_option maxRecDepth 100000 in
theorem s_pieces (M : gM) (n m : Nat) (σ : MS) (x p : Int32) (hQ : rM M m σ) : GM μX9_pieces 2 46 0 0 [.ref m, .int x, .int p] M n (fun r M1 n1 => r = some (.int (nI (pcZ σ x p).2)) ∧ n1 = n ∧ Off M M1 (fX m) ∧ rM M1 m σ ∧ mI M1 m 0 = nI (pcZ σ x p).1) := by
  refine GM.ofW (by decide) rfl (Nat.le_of_ble_eq_true rfl) rfl ?_
  obtain ⟨S, hQ⟩ := hQ
  have l40 := hQ.2.1.2.1
  refine g_aload_n dX9_pieces_0 rfl ?_
  refine g_iconst (v := nI 0) dX9_pieces_1 rfl ?_
  refine g_putI (f := 0) dX9_pieces_2 cl10 hQ.1.1.1 (by decide) (Or.inl (iw_12 11 rfl)) (Or.inl rfl) (Or.inl rfl) (Or.inl rfl) ?_
  have hO1 : Off M (stI M m 0 (nI 0)) (fX m) := Off.rf.stI ⟨by omega, by omega⟩
  have hQ1 := hQ.thr (nI 0)
  have h0 : mI (stI M m 0 (nI 0)) m 0 = nI 0 := by rw [mI_st, if_pos ⟨rfl, rfl⟩]
  generalize stI M m 0 (nI 0) = M1 at hO1 hQ1 h0 ⊢
  have hG := hQ1.1
  have hP := hQ1.2.1
  refine g_aload_n dX9_pieces_5 rfl ?_
  refine g_iload_n dX9_pieces_6 rfl ?_
  refine g_callV dX9_pieces_7 sX9_isStatement (m_isSt M1 n m σ x hG.1 hP) cl10 hG.1.1 iX9_isStatement vX9_isStatement (iw_32 7 rfl) rfl rfl (Nat.le_of_ble_eq_true rfl) (Nat.le_of_ble_eq_true rfl) (Nat.le_of_ble_eq_true rfl) (Nat.le_of_ble_eq_true rfl) (Nat.le_of_ble_eq_true rfl) ?_
  intro r9 M9 n9 h9
  obtain ⟨h91, h92, h93⟩ := h9
  rw [h91, h92, h93]
  clear h91 h92 h93 r9 M9 n9
  refine g_if_eq (tgt := 20) dX9_pieces_10 (by decide) (fun c_10 => ?_) (fun c_10 => ?_)
  · skip
    try rw [bI_eq0, decide_eq_false_iff_not] at c_10
    try rw [bI_eq0, decide_eq_false_iff_not] at c_17
    refine g_aload_n dX9_pieces_20 rfl ?_
    refine g_iconst (v := nI 1) dX9_pieces_21 rfl ?_
    refine g_callV dX9_pieces_22 sX9_fail (m_fail M1 n m (nI 1) hG.1) cl10 hG.1.1 iX9_fail vX9_fail (iw_13 5 rfl) rfl rfl (Nat.le_of_ble_eq_true rfl) (Nat.le_of_ble_eq_true rfl) (Nat.le_of_ble_eq_true rfl) (Nat.le_of_ble_eq_true rfl) (Nat.le_of_ble_eq_true rfl) ?_
    intro r9 M9 n9 h9
    obtain ⟨h91, h92, h93⟩ := h9
    rw [h91, h92, h93]
    clear h91 h92 h93 r9 M9 n9
    exact g_iret dX9_pieces_25 (Or.inl rfl) (Nat.le_of_ble_eq_true rfl) (Nat.le_of_ble_eq_true rfl) (by
      have e : pcZ σ x p = (1, 0) := by
        unfold pcZ
        rw [if_pos (by first | exact Or.inl c_10 | exact Or.inr c_17)]
      exact ⟨by rw [e]; rfl, rfl, hO1.stI ⟨by omega, by omega⟩, ⟨S, hQ1.thr _⟩, by rw [e, mI_st, if_pos ⟨rfl, rfl⟩]⟩)
  · skip
    rw [bI_eq0, decide_eq_false_iff_not, Classical.not_not] at c_10
    refine g_iload_n dX9_pieces_13 rfl ?_
    refine g_callS dX9_pieces_14 sX9_isPlace (m_isPlace M1 n p) tX9_isPlace (iw_13 1 rfl) rfl rfl (Nat.le_of_ble_eq_true rfl) (Nat.le_of_ble_eq_true rfl) (Nat.le_of_ble_eq_true rfl) (Nat.le_of_ble_eq_true rfl) (Nat.le_of_ble_eq_true rfl) ?_
    intro r9 M9 n9 h9
    obtain ⟨h91, h92, h93⟩ := h9
    rw [h91, h92, h93]
    clear h91 h92 h93 r9 M9 n9
    refine g_if_ne (tgt := 26) dX9_pieces_17 (by decide) (fun c_17 => ?_) (fun c_17 => ?_)
    · skip
      rw [bI_eq0, decide_eq_false_iff_not, Classical.not_not] at c_17
      refine g_aload_n dX9_pieces_26 rfl ?_
      refine g_getI (f := 11) dX9_pieces_27 cl10 hG.1.1 (by decide) (Or.inl (iw_12 21 rfl)) (Or.inl rfl) (Or.inr rfl) ?_
      rw [hQ1.2.2.2.2.1]
      refine g_if_ne (tgt := 41) dX9_pieces_30 (by decide) (fun c_30 => ?_) (fun c_30 => ?_)
      · skip
        rw [bI_eq0, Bool.not_eq_false] at c_30
        obtain ⟨hA, h13, h15⟩ := hQ1.2.2.2.2.2.2.2 c_30
        refine g_aload_n dX9_pieces_41 rfl ?_
        refine g_getR (f := 12) dX9_pieces_42 cl10 hG.1.1 (by decide) (Or.inl (iw_6 5 rfl)) (Or.inl rfl) rfl hG.1.r_reached ?_
        refine g_iload_n dX9_pieces_45 rfl ?_
        refine g_baload dX9_pieces_46 (j := pl x) hG.1.k_reached hG.1.n_reached c_10.eq (by have := c_10.lt; omega) (by decide) ?_
        rw [hA.1 (pl x) (by have := c_10.lt; omega)]
        refine g_if_eq (tgt := 64) dX9_pieces_47 (by decide) (fun c_47 => ?_) (fun c_47 => ?_)
        · skip
          rw [bI_eq0] at c_47
          refine g_iconst (v := nI 0) dX9_pieces_64 rfl ?_
          exact g_iret dX9_pieces_65 (Or.inl rfl) (Nat.le_of_ble_eq_true rfl) (Nat.le_of_ble_eq_true rfl) (by
            first
              | (have e : pcZ σ x p = (2, 0) := by
                   unfold pcZ; rw [if_neg (fun h => h.elim (fun h => h c_10) (fun h => h c_17)), if_pos c_30]
                 exact ⟨by rw [e]; rfl, rfl, hO1.stI ⟨by omega, by omega⟩, ⟨S, hQ1.thr _⟩, by rw [e, mI_st, if_pos ⟨rfl, rfl⟩]⟩)
              | (have e : pcZ σ x p = (0, if aR (zA σ) (pl x) = true then (aF (zA σ) (pl x) (pl p)).length else 0) := by
                   unfold pcZ; rw [if_neg (fun h => h.elim (fun h => h c_10) (fun h => h c_17)), if_neg (by rw [c_30]; decide)]
                 refine ⟨by rw [e]; first | (rw [if_pos (show aR (zA σ) (pl x) = true from c_47)]; rfl) | (rw [if_neg (show ¬ aR (zA σ) (pl x) = true by unfold zA; rw [c_47]; decide)]), rfl, hO1, ⟨S, hQ1⟩, by rw [e]; exact h0⟩))
        · skip
          rw [bI_eq0, Bool.not_eq_false] at c_47
          have l1 := c_10.lt
          have l2 := c_17.lt
          refine g_aload_n dX9_pieces_50 rfl ?_
          refine g_getR (f := 1) dX9_pieces_51 cl10 hG.1.1 (by decide) (Or.inl (iw_5 20 rfl)) (Or.inl rfl) rfl hG.1.r_many ?_
          refine g_aload_n dX9_pieces_54 rfl ?_
          refine g_iload_n dX9_pieces_55 rfl ?_
          refine g_iload_n dX9_pieces_56 rfl ?_
          refine g_callV dX9_pieces_57 sX9_fact (m_factX M1 n m (pl x) (pl p) x p c_10.eq c_17.eq) cl10 hG.1.1 iX9_fact vX9_fact (iw_24 23 rfl) rfl rfl (Nat.le_of_ble_eq_true rfl) (Nat.le_of_ble_eq_true rfl) (Nat.le_of_ble_eq_true rfl) (Nat.le_of_ble_eq_true rfl) (Nat.le_of_ble_eq_true rfl) ?_
          intro r9 M9 n9 h9
          obtain ⟨h91, h92, h93⟩ := h9
          rw [h91, h92, h93]
          clear h91 h92 h93 r9 M9 n9
          refine g_iaload dX9_pieces_60 (j := 8 * pl x + pl p) hG.1.k_many hG.1.n_many rfl (by have := c_10.lt; have := c_17.lt; omega) (by decide) ?_
          rw [(hG.2.1 (8 * pl x + pl p) (by omega)).1.2.1, hA.2.2.2 (pl x) (by omega) c_47 (pl p) l2]
          refine g_goto (tgt := 65) dX9_pieces_61 (by decide) ?_
          exact g_iret dX9_pieces_65 (Or.inl rfl) (Nat.le_of_ble_eq_true rfl) (Nat.le_of_ble_eq_true rfl) (by
            first
              | (have e : pcZ σ x p = (2, 0) := by
                   unfold pcZ; rw [if_neg (fun h => h.elim (fun h => h c_10) (fun h => h c_17)), if_pos c_30]
                 exact ⟨by rw [e]; rfl, rfl, hO1.stI ⟨by omega, by omega⟩, ⟨S, hQ1.thr _⟩, by rw [e, mI_st, if_pos ⟨rfl, rfl⟩]⟩)
              | (have e : pcZ σ x p = (0, if aR (zA σ) (pl x) = true then (aF (zA σ) (pl x) (pl p)).length else 0) := by
                   unfold pcZ; rw [if_neg (fun h => h.elim (fun h => h c_10) (fun h => h c_17)), if_neg (by rw [c_30]; decide)]
                 refine ⟨by rw [e]; first | (rw [if_pos (show aR (zA σ) (pl x) = true from c_47)]; rfl) | (rw [if_neg (show ¬ aR (zA σ) (pl x) = true by unfold zA; rw [c_47]; decide)]), rfl, hO1, ⟨S, hQ1⟩, by rw [e]; exact h0⟩))
      · skip
        rw [bI_eq0] at c_30
        refine g_aload_n dX9_pieces_33 rfl ?_
        refine g_iconst (v := nI 2) dX9_pieces_34 rfl ?_
        refine g_callV dX9_pieces_35 sX9_fail (m_fail M1 n m (nI 2) hG.1) cl10 hG.1.1 iX9_fail vX9_fail (iw_13 5 rfl) rfl rfl (Nat.le_of_ble_eq_true rfl) (Nat.le_of_ble_eq_true rfl) (Nat.le_of_ble_eq_true rfl) (Nat.le_of_ble_eq_true rfl) (Nat.le_of_ble_eq_true rfl) ?_
        intro r9 M9 n9 h9
        obtain ⟨h91, h92, h93⟩ := h9
        rw [h91, h92, h93]
        clear h91 h92 h93 r9 M9 n9
        refine g_goto (tgt := 65) dX9_pieces_38 (by decide) ?_
        exact g_iret dX9_pieces_65 (Or.inl rfl) (Nat.le_of_ble_eq_true rfl) (Nat.le_of_ble_eq_true rfl) (by
          first
            | (have e : pcZ σ x p = (2, 0) := by
                 unfold pcZ; rw [if_neg (fun h => h.elim (fun h => h c_10) (fun h => h c_17)), if_pos c_30]
               exact ⟨by rw [e]; rfl, rfl, hO1.stI ⟨by omega, by omega⟩, ⟨S, hQ1.thr _⟩, by rw [e, mI_st, if_pos ⟨rfl, rfl⟩]⟩)
            | (have e : pcZ σ x p = (0, if aR (zA σ) (pl x) = true then (aF (zA σ) (pl x) (pl p)).length else 0) := by
                 unfold pcZ; rw [if_neg (fun h => h.elim (fun h => h c_10) (fun h => h c_17)), if_neg (by rw [c_30]; decide)]
               refine ⟨by rw [e]; first | (rw [if_pos (show aR (zA σ) (pl x) = true from c_47)]; rfl) | (rw [if_neg (show ¬ aR (zA σ) (pl x) = true by unfold zA; rw [c_47]; decide)]), rfl, hO1, ⟨S, hQ1⟩, by rw [e]; exact h0⟩))
    · skip
      try rw [bI_eq0, decide_eq_false_iff_not] at c_10
      try rw [bI_eq0, decide_eq_false_iff_not] at c_17
      refine g_aload_n dX9_pieces_20 rfl ?_
      refine g_iconst (v := nI 1) dX9_pieces_21 rfl ?_
      refine g_callV dX9_pieces_22 sX9_fail (m_fail M1 n m (nI 1) hG.1) cl10 hG.1.1 iX9_fail vX9_fail (iw_13 5 rfl) rfl rfl (Nat.le_of_ble_eq_true rfl) (Nat.le_of_ble_eq_true rfl) (Nat.le_of_ble_eq_true rfl) (Nat.le_of_ble_eq_true rfl) (Nat.le_of_ble_eq_true rfl) ?_
      intro r9 M9 n9 h9
      obtain ⟨h91, h92, h93⟩ := h9
      rw [h91, h92, h93]
      clear h91 h92 h93 r9 M9 n9
      exact g_iret dX9_pieces_25 (Or.inl rfl) (Nat.le_of_ble_eq_true rfl) (Nat.le_of_ble_eq_true rfl) (by
        have e : pcZ σ x p = (1, 0) := by
          unfold pcZ
          rw [if_pos (by first | exact Or.inl c_10 | exact Or.inr c_17)]
        exact ⟨by rw [e]; rfl, rfl, hO1.stI ⟨by omega, by omega⟩, ⟨S, hQ1.thr _⟩, by rw [e, mI_st, if_pos ⟨rfl, rfl⟩]⟩)

set_option maxHeartbeats 4000000 in
set_option maxRecDepth 100000 in
theorem s_had (M : gM) (n m : Nat) (σ : MS) (p : Int32) (hQ : rM M m σ) : GM μX9_had 2 45 0 0 [.ref m, .int p] M n (fun r M1 n1 => r = some (.int (hdZ σ p).2) ∧ n1 = n ∧ Off M M1 (fX m) ∧ rM M1 m σ ∧ mI M1 m 0 = nI (hdZ σ p).1) := by
  refine GM.ofW (by decide) rfl (Nat.le_of_ble_eq_true rfl) rfl ?_
  obtain ⟨S, hQ⟩ := hQ
  have l40 := hQ.2.1.2.1
  refine g_aload_n dX9_had_0 rfl ?_
  refine g_iconst (v := nI 0) dX9_had_1 rfl ?_
  refine g_putI (f := 0) dX9_had_2 cl10 hQ.1.1.1 (by decide) (Or.inl (iw_12 11 rfl)) (Or.inl rfl) (Or.inl rfl) (Or.inl rfl) ?_
  have hO1 : Off M (stI M m 0 (nI 0)) (fX m) := Off.rf.stI ⟨by omega, by omega⟩
  have hQ1 := hQ.thr (nI 0)
  have h0 : mI (stI M m 0 (nI 0)) m 0 = nI 0 := by rw [mI_st, if_pos ⟨rfl, rfl⟩]
  generalize stI M m 0 (nI 0) = M1 at hO1 hQ1 h0 ⊢
  have hG := hQ1.1
  have hP := hQ1.2.1
  refine g_iload_n dX9_had_5 rfl ?_
  refine g_callS dX9_had_6 sX9_isPlace (m_isPlace M1 n p) tX9_isPlace (iw_13 1 rfl) rfl rfl (Nat.le_of_ble_eq_true rfl) (Nat.le_of_ble_eq_true rfl) (Nat.le_of_ble_eq_true rfl) (Nat.le_of_ble_eq_true rfl) (Nat.le_of_ble_eq_true rfl) ?_
  intro r9 M9 n9 h9
  obtain ⟨h91, h92, h93⟩ := h9
  rw [h91, h92, h93]
  clear h91 h92 h93 r9 M9 n9
  refine g_if_eq (tgt := 29) dX9_had_9 (by decide) (fun c_9 => ?_) (fun c_9 => ?_)
  · skip
    try rw [bI_eq0, decide_eq_false_iff_not] at c_9
    refine g_aload_n dX9_had_29 rfl ?_
    refine g_iconst (v := nI 1) dX9_had_30 rfl ?_
    refine g_callV dX9_had_31 sX9_fail (m_fail M1 n m (nI 1) hG.1) cl10 hG.1.1 iX9_fail vX9_fail (iw_13 5 rfl) rfl rfl (Nat.le_of_ble_eq_true rfl) (Nat.le_of_ble_eq_true rfl) (Nat.le_of_ble_eq_true rfl) (Nat.le_of_ble_eq_true rfl) (Nat.le_of_ble_eq_true rfl) ?_
    intro r9 M9 n9 h9
    obtain ⟨h91, h92, h93⟩ := h9
    rw [h91, h92, h93]
    clear h91 h92 h93 r9 M9 n9
    exact g_iret dX9_had_34 (Or.inl rfl) (Nat.le_of_ble_eq_true rfl) (Nat.le_of_ble_eq_true rfl) (by
      first
        | (have e : hdZ σ p = (0, zN σ (pl p)) := by unfold hdZ; rw [if_pos ⟨c_9, c_17⟩]
           exact ⟨by rw [e], rfl, hO1, ⟨S, hQ1⟩, by rw [e]; exact h0⟩)
        | (have e : hdZ σ p = (1, 0) := by unfold hdZ; first | rw [if_neg (fun h => c_9 h.1)] | rw [if_neg (fun h => h.2 c_17)]
           exact ⟨by rw [e], rfl, hO1.stI ⟨by omega, by omega⟩, ⟨S, hQ1.thr _⟩, by rw [e, mI_st, if_pos ⟨rfl, rfl⟩]⟩))
  · skip
    rw [bI_eq0, decide_eq_false_iff_not, Classical.not_not] at c_9
    refine g_aload_n dX9_had_12 rfl ?_
    refine g_getI (f := 19) dX9_had_13 cl10 hG.1.1 (by decide) (Or.inl (iw_6 8 rfl)) (Or.inl rfl) (Or.inl rfl) ?_
    rw [hQ1.2.2.2.2.2.1]
    refine g_iconst (v := (-1)) dX9_had_16 (by decide) ?_
    refine g_icmp_eq (tgt := 29) dX9_had_17 (by decide) (fun c_17 => ?_) (fun c_17 => ?_)
    · skip
      try rw [bI_eq0, decide_eq_false_iff_not] at c_9
      refine g_aload_n dX9_had_29 rfl ?_
      refine g_iconst (v := nI 1) dX9_had_30 rfl ?_
      refine g_callV dX9_had_31 sX9_fail (m_fail M1 n m (nI 1) hG.1) cl10 hG.1.1 iX9_fail vX9_fail (iw_13 5 rfl) rfl rfl (Nat.le_of_ble_eq_true rfl) (Nat.le_of_ble_eq_true rfl) (Nat.le_of_ble_eq_true rfl) (Nat.le_of_ble_eq_true rfl) (Nat.le_of_ble_eq_true rfl) ?_
      intro r9 M9 n9 h9
      obtain ⟨h91, h92, h93⟩ := h9
      rw [h91, h92, h93]
      clear h91 h92 h93 r9 M9 n9
      exact g_iret dX9_had_34 (Or.inl rfl) (Nat.le_of_ble_eq_true rfl) (Nat.le_of_ble_eq_true rfl) (by
        first
          | (have e : hdZ σ p = (0, zN σ (pl p)) := by unfold hdZ; rw [if_pos ⟨c_9, c_17⟩]
             exact ⟨by rw [e], rfl, hO1, ⟨S, hQ1⟩, by rw [e]; exact h0⟩)
          | (have e : hdZ σ p = (1, 0) := by unfold hdZ; first | rw [if_neg (fun h => c_9 h.1)] | rw [if_neg (fun h => h.2 c_17)]
             exact ⟨by rw [e], rfl, hO1.stI ⟨by omega, by omega⟩, ⟨S, hQ1.thr _⟩, by rw [e, mI_st, if_pos ⟨rfl, rfl⟩]⟩))
    · skip
      refine g_aload_n dX9_had_20 rfl ?_
      refine g_getR (f := 18) dX9_had_21 cl10 hG.1.1 (by decide) (Or.inl (iw_6 7 rfl)) (Or.inl rfl) rfl hG.1.r_now ?_
      refine g_iload_n dX9_had_24 rfl ?_
      refine g_iaload dX9_had_25 (j := pl p) hG.1.k_now hG.1.n_now c_9.eq (by have := c_9.lt; omega) (by decide) ?_
      rw [hQ1.2.2.2.2.2.2.1 (pl p) c_9.lt]
      refine g_goto (tgt := 34) dX9_had_26 (by decide) ?_
      exact g_iret dX9_had_34 (Or.inl rfl) (Nat.le_of_ble_eq_true rfl) (Nat.le_of_ble_eq_true rfl) (by
        first
          | (have e : hdZ σ p = (0, zN σ (pl p)) := by unfold hdZ; rw [if_pos ⟨c_9, c_17⟩]
             exact ⟨by rw [e], rfl, hO1, ⟨S, hQ1⟩, by rw [e]; exact h0⟩)
          | (have e : hdZ σ p = (1, 0) := by unfold hdZ; first | rw [if_neg (fun h => c_9 h.1)] | rw [if_neg (fun h => h.2 c_17)]
             exact ⟨by rw [e], rfl, hO1.stI ⟨by omega, by omega⟩, ⟨S, hQ1.thr _⟩, by rw [e, mI_st, if_pos ⟨rfl, rfl⟩]⟩))

set_option maxHeartbeats 4000000 in
set_option maxRecDepth 100000 in
theorem s_end (M : gM) (n m : Nat) (σ : MS) (x p k : Int32) (up : Bool) (hQ : rM M m σ) : GM μX9_end 2 46 0 0 [.ref m, .int x, .int p, .int k, .int (bI up)] M n (fun r M1 n1 => r = some (.int (iZ (enZ σ x p k up).2)) ∧ n1 = n ∧ Off M M1 (fX m) ∧ rM M1 m σ ∧ mI M1 m 0 = nI (enZ σ x p k up).1) := by
  refine GM.ofW (by decide) rfl (Nat.le_of_ble_eq_true rfl) rfl ?_
  obtain ⟨S, hQ⟩ := hQ
  have l40 := hQ.2.1.2.1
  refine g_aload_n dX9_end_0 rfl ?_
  refine g_iconst (v := nI 0) dX9_end_1 rfl ?_
  refine g_putI (f := 0) dX9_end_2 cl10 hQ.1.1.1 (by decide) (Or.inl (iw_12 11 rfl)) (Or.inl rfl) (Or.inl rfl) (Or.inl rfl) ?_
  have hO1 : Off M (stI M m 0 (nI 0)) (fX m) := Off.rf.stI ⟨by omega, by omega⟩
  have hQ1 := hQ.thr (nI 0)
  have h0 : mI (stI M m 0 (nI 0)) m 0 = nI 0 := by rw [mI_st, if_pos ⟨rfl, rfl⟩]
  generalize stI M m 0 (nI 0) = M1 at hO1 hQ1 h0 ⊢
  have hG := hQ1.1
  have hP := hQ1.2.1
  refine g_aload_n dX9_end_5 rfl ?_
  refine g_iload_n dX9_end_6 rfl ?_
  refine g_callV dX9_end_7 sX9_isStatement (m_isSt M1 n m σ x hG.1 hP) cl10 hG.1.1 iX9_isStatement vX9_isStatement (iw_32 7 rfl) rfl rfl (Nat.le_of_ble_eq_true rfl) (Nat.le_of_ble_eq_true rfl) (Nat.le_of_ble_eq_true rfl) (Nat.le_of_ble_eq_true rfl) (Nat.le_of_ble_eq_true rfl) ?_
  intro r9 M9 n9 h9
  obtain ⟨h91, h92, h93⟩ := h9
  rw [h91, h92, h93]
  clear h91 h92 h93 r9 M9 n9
  refine g_if_eq (tgt := 20) dX9_end_10 (by decide) (fun c_10 => ?_) (fun c_10 => ?_)
  · skip
    try rw [bI_eq0, decide_eq_false_iff_not] at c_10
    try rw [bI_eq0, decide_eq_false_iff_not] at c_17
    refine g_aload_n dX9_end_20 rfl ?_
    refine g_iconst (v := nI 1) dX9_end_21 rfl ?_
    refine g_callV dX9_end_22 sX9_fail (m_fail M1 n m (nI 1) hG.1) cl10 hG.1.1 iX9_fail vX9_fail (iw_13 5 rfl) rfl rfl (Nat.le_of_ble_eq_true rfl) (Nat.le_of_ble_eq_true rfl) (Nat.le_of_ble_eq_true rfl) (Nat.le_of_ble_eq_true rfl) (Nat.le_of_ble_eq_true rfl) ?_
    intro r9 M9 n9 h9
    obtain ⟨h91, h92, h93⟩ := h9
    rw [h91, h92, h93]
    clear h91 h92 h93 r9 M9 n9
    exact g_iret dX9_end_25 (Or.inl rfl) (Nat.le_of_ble_eq_true rfl) (Nat.le_of_ble_eq_true rfl) (by
      have e : enZ σ x p k up = (1, 0) := by
        unfold enZ
        rw [if_pos (by first | exact Or.inl c_10 | exact Or.inr c_17)]
      exact ⟨by rw [e]; rfl, rfl, hO1.stI ⟨by omega, by omega⟩, ⟨S, hQ1.thr _⟩, by rw [e, mI_st, if_pos ⟨rfl, rfl⟩]⟩)
  · skip
    rw [bI_eq0, decide_eq_false_iff_not, Classical.not_not] at c_10
    refine g_iload_n dX9_end_13 rfl ?_
    refine g_callS dX9_end_14 sX9_isPlace (m_isPlace M1 n p) tX9_isPlace (iw_13 1 rfl) rfl rfl (Nat.le_of_ble_eq_true rfl) (Nat.le_of_ble_eq_true rfl) (Nat.le_of_ble_eq_true rfl) (Nat.le_of_ble_eq_true rfl) (Nat.le_of_ble_eq_true rfl) ?_
    intro r9 M9 n9 h9
    obtain ⟨h91, h92, h93⟩ := h9
    rw [h91, h92, h93]
    clear h91 h92 h93 r9 M9 n9
    refine g_if_ne (tgt := 26) dX9_end_17 (by decide) (fun c_17 => ?_) (fun c_17 => ?_)
    · skip
      rw [bI_eq0, decide_eq_false_iff_not, Classical.not_not] at c_17
      refine g_aload_n dX9_end_26 rfl ?_
      refine g_getI (f := 11) dX9_end_27 cl10 hG.1.1 (by decide) (Or.inl (iw_12 21 rfl)) (Or.inl rfl) (Or.inr rfl) ?_
      rw [hQ1.2.2.2.2.1]
      refine g_if_ne (tgt := 39) dX9_end_30 (by decide) (fun c_30 => ?_) (fun c_30 => ?_)
      · skip
        rw [bI_eq0, Bool.not_eq_false] at c_30
        obtain ⟨hA, h13, h15⟩ := hQ1.2.2.2.2.2.2.2 c_30
        refine g_aload_n dX9_end_39 rfl ?_
        refine g_getR (f := 12) dX9_end_40 cl10 hG.1.1 (by decide) (Or.inl (iw_6 5 rfl)) (Or.inl rfl) rfl hG.1.r_reached ?_
        refine g_iload_n dX9_end_43 rfl ?_
        refine g_baload dX9_end_44 (j := pl x) hG.1.k_reached hG.1.n_reached c_10.eq (by have := c_10.lt; omega) (by decide) ?_
        rw [hA.1 (pl x) (by have := c_10.lt; omega)]
        refine g_if_eq (tgt := 71) dX9_end_45 (by decide) (fun c_45 => ?_) (fun c_45 => ?_)
        · skip
          try rw [bI_eq0] at c_45
          try rw [bI_eq0, decide_eq_false_iff_not] at c_68
          refine g_aload_n dX9_end_71 rfl ?_
          refine g_iconst (v := nI 1) dX9_end_72 rfl ?_
          refine g_callV dX9_end_73 sX9_fail (m_fail M1 n m (nI 1) hG.1) cl10 hG.1.1 iX9_fail vX9_fail (iw_13 5 rfl) rfl rfl (Nat.le_of_ble_eq_true rfl) (Nat.le_of_ble_eq_true rfl) (Nat.le_of_ble_eq_true rfl) (Nat.le_of_ble_eq_true rfl) (Nat.le_of_ble_eq_true rfl) ?_
          intro r9 M9 n9 h9
          obtain ⟨h91, h92, h93⟩ := h9
          rw [h91, h92, h93]
          clear h91 h92 h93 r9 M9 n9
          exact g_iret dX9_end_76 (Or.inl rfl) (Nat.le_of_ble_eq_true rfl) (Nat.le_of_ble_eq_true rfl) (by
            have e : enZ σ x p k up = (1, 0) := by
              unfold enZ
              rw [if_neg (fun h => h.elim (fun h => h c_10) (fun h => h c_17)), if_neg (by rw [c_30]; decide), if_pos (by first | exact Or.inl c_45 | exact Or.inr c_68)]
            exact ⟨by rw [e]; rfl, rfl, hO1.stI ⟨by omega, by omega⟩, ⟨S, hQ1.thr _⟩, by rw [e, mI_st, if_pos ⟨rfl, rfl⟩]⟩)
        · skip
          rw [bI_eq0, Bool.not_eq_false] at c_45
          have l1 := c_10.lt
          have l2 := c_17.lt
          have hkr := i_rng k
          have hS := (hG.2.1 (8 * pl x + pl p) (by omega)).1
          rw [hA.2.2.2 (pl x) (by omega) c_45 (pl p) l2] at hS
          have hle := hS.1
          have eS : aF (runA (zP σ) (zF σ)).1 (pl x) (pl p) = aF (zA σ) (pl x) (pl p) := rfl
          rw [eS] at hS hle
          have hsb : (nI (aF (zA σ) (pl x) (pl p)).length - nI 1) = iZ (((aF (zA σ) (pl x) (pl p)).length : Int) - 1) := by rw [nI_iZ, nI_iZ, iZ_sub]; rfl
          refine g_iload_n dX9_end_48 rfl ?_
          refine g_i2l dX9_end_49 ?_
          rw [i_j]
          refine g_lconst (v := jI 0) dX9_end_50 rfl ?_
          refine g_aload_n dX9_end_51 rfl ?_
          refine g_getR (f := 1) dX9_end_52 cl10 hG.1.1 (by decide) (Or.inl (iw_5 20 rfl)) (Or.inl rfl) rfl hG.1.r_many ?_
          refine g_aload_n dX9_end_55 rfl ?_
          refine g_iload_n dX9_end_56 rfl ?_
          refine g_iload_n dX9_end_57 rfl ?_
          refine g_callV dX9_end_58 sX9_fact (m_factX M1 n m (pl x) (pl p) x p c_10.eq c_17.eq) cl10 hG.1.1 iX9_fact vX9_fact (iw_24 23 rfl) rfl rfl (Nat.le_of_ble_eq_true rfl) (Nat.le_of_ble_eq_true rfl) (Nat.le_of_ble_eq_true rfl) (Nat.le_of_ble_eq_true rfl) (Nat.le_of_ble_eq_true rfl) ?_
          intro r9 M9 n9 h9
          obtain ⟨h91, h92, h93⟩ := h9
          rw [h91, h92, h93]
          clear h91 h92 h93 r9 M9 n9
          refine g_iaload dX9_end_61 (j := 8 * pl x + pl p) hG.1.k_many hG.1.n_many rfl (by have := c_10.lt; have := c_17.lt; omega) (by decide) ?_
          rw [hS.2.1]
          refine g_iconst (v := nI 1) dX9_end_62 rfl ?_
          refine g_isub dX9_end_63 ?_
          rw [hsb]
          refine g_i2l dX9_end_64 ?_
          rw [iZ_j (by omega) (by omega)]
          refine g_callS dX9_end_65 sX9_isIn (m_isInZ M1 n k.toInt 0 (((aF (zA σ) (pl x) (pl p)).length : Int) - 1) (by constructor <;> omega) (by constructor <;> omega) (by constructor <;> omega)) tX9_isIn (iw_12 22 rfl) rfl rfl (Nat.le_of_ble_eq_true rfl) (Nat.le_of_ble_eq_true rfl) (Nat.le_of_ble_eq_true rfl) (Nat.le_of_ble_eq_true rfl) (Nat.le_of_ble_eq_true rfl) ?_
          intro r9 M9 n9 h9
          obtain ⟨h91, h92, h93⟩ := h9
          rw [h91, h92, h93]
          clear h91 h92 h93 r9 M9 n9
          refine g_if_ne (tgt := 77) dX9_end_68 (by decide) (fun c_68 => ?_) (fun c_68 => ?_)
          · skip
            rw [bI_eq0, decide_eq_false_iff_not, Classical.not_not] at c_68
            have ek : k = nI (pl k) := pl_eq c_68.1
            have hkl : pl k < (aF (zA σ) (pl x) (pl p)).length := by
              have e9 : ((pl k : Nat) : Int) = k.toInt := Int.toNat_of_nonneg c_68.1
              have := c_68.2
              omega
            refine g_iload dX9_end_77 rfl ?_
            refine g_if_eq (tgt := 96) dX9_end_79 (by decide) (fun c_79 => ?_) (fun c_79 => ?_)
            · skip
              rw [bI_eq0] at c_79
              refine g_aload_n dX9_end_96 rfl ?_
              refine g_aload_n dX9_end_97 rfl ?_
              refine g_iload_n dX9_end_98 rfl ?_
              refine g_iload_n dX9_end_99 rfl ?_
              refine g_callV dX9_end_100 sX9_fact (m_factX M1 n m (pl x) (pl p) x p c_10.eq c_17.eq) cl10 hG.1.1 iX9_fact vX9_fact (iw_24 23 rfl) rfl rfl (Nat.le_of_ble_eq_true rfl) (Nat.le_of_ble_eq_true rfl) (Nat.le_of_ble_eq_true rfl) (Nat.le_of_ble_eq_true rfl) (Nat.le_of_ble_eq_true rfl) ?_
              intro r9 M9 n9 h9
              obtain ⟨h91, h92, h93⟩ := h9
              rw [h91, h92, h93]
              clear h91 h92 h93 r9 M9 n9
              refine g_iload_n dX9_end_103 rfl ?_
              rw [show (Value.int k) = Value.int (nI (pl k)) by rw [← ek]]
              refine g_callV dX9_end_104 sX9_low (m_loX M1 n m (8 * pl x + pl p) (pl k) _ hG.1 (by omega) hS hkl) cl10 hG.1.1 iX9_low vX9_low (iw_26 0 rfl) rfl rfl (Nat.le_of_ble_eq_true rfl) (Nat.le_of_ble_eq_true rfl) (Nat.le_of_ble_eq_true rfl) (Nat.le_of_ble_eq_true rfl) (Nat.le_of_ble_eq_true rfl) ?_
              intro r9 M9 n9 h9
              obtain ⟨h91, h92, h93⟩ := h9
              rw [h91, h92, h93]
              clear h91 h92 h93 r9 M9 n9
              refine g_l2i dX9_end_107 ?_
              rw [jI_i]
              exact g_iret dX9_end_108 (Or.inl rfl) (Nat.le_of_ble_eq_true rfl) (Nat.le_of_ble_eq_true rfl) (by
                have e : enZ σ x p k up = (0, if up = true then ((aF (zA σ) (pl x) (pl p)).getD (pl k) (0, 0)).2 else ((aF (zA σ) (pl x) (pl p)).getD (pl k) (0, 0)).1) := by
                  unfold enZ
                  rw [if_neg (fun h => h.elim (fun h => h c_10) (fun h => h c_17)), if_neg (by rw [c_30]; decide), if_neg (fun h => h.elim (fun h => by rw [show aR (zA σ) (pl x) = true from c_45] at h; cases h) (fun h => h c_68))]
                refine ⟨by rw [e]; first | rw [if_pos c_79] | rw [if_neg (by rw [c_79]; decide)], rfl, hO1, ⟨S, hQ1⟩, by rw [e]; exact h0⟩)
            · skip
              rw [bI_eq0, Bool.not_eq_false] at c_79
              refine g_aload_n dX9_end_82 rfl ?_
              refine g_aload_n dX9_end_83 rfl ?_
              refine g_iload_n dX9_end_84 rfl ?_
              refine g_iload_n dX9_end_85 rfl ?_
              refine g_callV dX9_end_86 sX9_fact (m_factX M1 n m (pl x) (pl p) x p c_10.eq c_17.eq) cl10 hG.1.1 iX9_fact vX9_fact (iw_24 23 rfl) rfl rfl (Nat.le_of_ble_eq_true rfl) (Nat.le_of_ble_eq_true rfl) (Nat.le_of_ble_eq_true rfl) (Nat.le_of_ble_eq_true rfl) (Nat.le_of_ble_eq_true rfl) ?_
              intro r9 M9 n9 h9
              obtain ⟨h91, h92, h93⟩ := h9
              rw [h91, h92, h93]
              clear h91 h92 h93 r9 M9 n9
              refine g_iload_n dX9_end_89 rfl ?_
              rw [show (Value.int k) = Value.int (nI (pl k)) by rw [← ek]]
              refine g_callV dX9_end_90 sX9_high (m_hiX M1 n m (8 * pl x + pl p) (pl k) _ hG.1 (by omega) hS hkl) cl10 hG.1.1 iX9_high vX9_high (iw_26 4 rfl) rfl rfl (Nat.le_of_ble_eq_true rfl) (Nat.le_of_ble_eq_true rfl) (Nat.le_of_ble_eq_true rfl) (Nat.le_of_ble_eq_true rfl) (Nat.le_of_ble_eq_true rfl) ?_
              intro r9 M9 n9 h9
              obtain ⟨h91, h92, h93⟩ := h9
              rw [h91, h92, h93]
              clear h91 h92 h93 r9 M9 n9
              refine g_goto (tgt := 107) dX9_end_93 (by decide) ?_
              refine g_l2i dX9_end_107 ?_
              rw [jI_i]
              exact g_iret dX9_end_108 (Or.inl rfl) (Nat.le_of_ble_eq_true rfl) (Nat.le_of_ble_eq_true rfl) (by
                have e : enZ σ x p k up = (0, if up = true then ((aF (zA σ) (pl x) (pl p)).getD (pl k) (0, 0)).2 else ((aF (zA σ) (pl x) (pl p)).getD (pl k) (0, 0)).1) := by
                  unfold enZ
                  rw [if_neg (fun h => h.elim (fun h => h c_10) (fun h => h c_17)), if_neg (by rw [c_30]; decide), if_neg (fun h => h.elim (fun h => by rw [show aR (zA σ) (pl x) = true from c_45] at h; cases h) (fun h => h c_68))]
                refine ⟨by rw [e]; first | rw [if_pos c_79] | rw [if_neg (by rw [c_79]; decide)], rfl, hO1, ⟨S, hQ1⟩, by rw [e]; exact h0⟩)
          · skip
            try rw [bI_eq0] at c_45
            try rw [bI_eq0, decide_eq_false_iff_not] at c_68
            refine g_aload_n dX9_end_71 rfl ?_
            refine g_iconst (v := nI 1) dX9_end_72 rfl ?_
            refine g_callV dX9_end_73 sX9_fail (m_fail M1 n m (nI 1) hG.1) cl10 hG.1.1 iX9_fail vX9_fail (iw_13 5 rfl) rfl rfl (Nat.le_of_ble_eq_true rfl) (Nat.le_of_ble_eq_true rfl) (Nat.le_of_ble_eq_true rfl) (Nat.le_of_ble_eq_true rfl) (Nat.le_of_ble_eq_true rfl) ?_
            intro r9 M9 n9 h9
            obtain ⟨h91, h92, h93⟩ := h9
            rw [h91, h92, h93]
            clear h91 h92 h93 r9 M9 n9
            exact g_iret dX9_end_76 (Or.inl rfl) (Nat.le_of_ble_eq_true rfl) (Nat.le_of_ble_eq_true rfl) (by
              have e : enZ σ x p k up = (1, 0) := by
                unfold enZ
                rw [if_neg (fun h => h.elim (fun h => h c_10) (fun h => h c_17)), if_neg (by rw [c_30]; decide), if_pos (by first | exact Or.inl c_45 | exact Or.inr c_68)]
              exact ⟨by rw [e]; rfl, rfl, hO1.stI ⟨by omega, by omega⟩, ⟨S, hQ1.thr _⟩, by rw [e, mI_st, if_pos ⟨rfl, rfl⟩]⟩)
      · skip
        rw [bI_eq0] at c_30
        refine g_aload_n dX9_end_33 rfl ?_
        refine g_iconst (v := nI 2) dX9_end_34 rfl ?_
        refine g_callV dX9_end_35 sX9_fail (m_fail M1 n m (nI 2) hG.1) cl10 hG.1.1 iX9_fail vX9_fail (iw_13 5 rfl) rfl rfl (Nat.le_of_ble_eq_true rfl) (Nat.le_of_ble_eq_true rfl) (Nat.le_of_ble_eq_true rfl) (Nat.le_of_ble_eq_true rfl) (Nat.le_of_ble_eq_true rfl) ?_
        intro r9 M9 n9 h9
        obtain ⟨h91, h92, h93⟩ := h9
        rw [h91, h92, h93]
        clear h91 h92 h93 r9 M9 n9
        exact g_iret dX9_end_38 (Or.inl rfl) (Nat.le_of_ble_eq_true rfl) (Nat.le_of_ble_eq_true rfl) (by
          have e : enZ σ x p k up = (2, 0) := by
            unfold enZ
            rw [if_neg (fun h => h.elim (fun h => h c_10) (fun h => h c_17)), if_pos c_30]
          exact ⟨by rw [e]; rfl, rfl, hO1.stI ⟨by omega, by omega⟩, ⟨S, hQ1.thr _⟩, by rw [e, mI_st, if_pos ⟨rfl, rfl⟩]⟩)
    · skip
      try rw [bI_eq0, decide_eq_false_iff_not] at c_10
      try rw [bI_eq0, decide_eq_false_iff_not] at c_17
      refine g_aload_n dX9_end_20 rfl ?_
      refine g_iconst (v := nI 1) dX9_end_21 rfl ?_
      refine g_callV dX9_end_22 sX9_fail (m_fail M1 n m (nI 1) hG.1) cl10 hG.1.1 iX9_fail vX9_fail (iw_13 5 rfl) rfl rfl (Nat.le_of_ble_eq_true rfl) (Nat.le_of_ble_eq_true rfl) (Nat.le_of_ble_eq_true rfl) (Nat.le_of_ble_eq_true rfl) (Nat.le_of_ble_eq_true rfl) ?_
      intro r9 M9 n9 h9
      obtain ⟨h91, h92, h93⟩ := h9
      rw [h91, h92, h93]
      clear h91 h92 h93 r9 M9 n9
      exact g_iret dX9_end_25 (Or.inl rfl) (Nat.le_of_ble_eq_true rfl) (Nat.le_of_ble_eq_true rfl) (by
        have e : enZ σ x p k up = (1, 0) := by
          unfold enZ
          rw [if_pos (by first | exact Or.inl c_10 | exact Or.inr c_17)]
        exact ⟨by rw [e]; rfl, rfl, hO1.stI ⟨by omega, by omega⟩, ⟨S, hQ1.thr _⟩, by rw [e, mI_st, if_pos ⟨rfl, rfl⟩]⟩)

theorem rQ.first {M M1 : gM} {m p : Nat} {σ : MS} {S : Nat → List Sp} {lo hi : Int} (h : rQ M m σ S) (hp : p < 8) (hlh : lo ≤ hi) (h1 : r5 lo) (h2 : r5 hi) (ho : Off M M1 (fA m)) (hG : rS M1 m (up1 S (320 + p) [(lo, hi)])) : rQ (stI M1 m 11 (nI 0)) m (zP σ, up1 (zF σ) p [(lo, hi)], false, zH σ, zN σ) (up1 S (320 + p) [(lo, hi)]) := by
  obtain ⟨g1, g2, g3, g4, g5, g6, g7, -⟩ := h
  refine ⟨hG.offI (Q := fun i k => i = m ∧ k = 11) (Off.rf.stI ⟨rfl, rfl⟩) (fun i k h => by unfold fA; omega), ?_, ⟨g3.1, fun q hq => ?_⟩, fun q hq => ?_, by rw [mI_st, if_pos ⟨rfl, rfl⟩]; rfl, ?_, fun q hq => ?_, fun hr => by cases hr⟩
  · exact (g2.offA ho).off (S := fun i k => i = m ∧ k = 11) (Off.rf.stI ⟨rfl, rfl⟩) (by omega) (fun i k a b => by omega)
  · show okX (up1 (zF σ) p [(lo, hi)] q) ∧ (up1 (zF σ) p [(lo, hi)] q).length = 1
    by_cases e : q = p
    · subst e; rw [up1_eq]; exact ⟨⟨hlh, by simp, fun r hr => by simp at hr; rw [hr]; exact ⟨h1, h2⟩⟩, rfl⟩
    · rw [up1_ne _ _ e]; exact g3.2 q hq
  · show up1 S (320 + p) [(lo, hi)] (320 + q) = up1 (zF σ) p [(lo, hi)] q
    by_cases e : q = p
    · subst e; rw [up1_eq, up1_eq]
    · rw [up1_ne _ _ (by omega), up1_ne _ _ e]; exact g4 q hq
  · rw [mI_st, if_neg (by omega), ho.i (by unfold fA; omega)]; exact g6
  · rw [mI_st, if_neg (by omega), ho.i (by unfold fA; omega)]; exact g7 q hq
set_option maxHeartbeats 4000000 in
set_option maxRecDepth 100000 in
theorem s_begin (M : gM) (n m : Nat) (σ : MS) (p lo hi : Int32) (hQ : rM M m σ) : GM μX9_begin 2 45 0 0 [.ref m, .int p, .int lo, .int hi] M n (fun r M1 n1 => r = some (.long (jI (bgZ p lo hi).2)) ∧ n1 = n ∧ Off M M1 (fX m) ∧ rM M1 m (bgS σ p lo hi) ∧ mI M1 m 0 = nI (bgZ p lo hi).1) := by
  refine GM.ofW (by decide) rfl (Nat.le_of_ble_eq_true rfl) rfl ?_
  obtain ⟨S, hQ⟩ := hQ
  have l40 := hQ.2.1.2.1
  refine g_aload_n dX9_begin_0 rfl ?_
  refine g_iconst (v := nI 0) dX9_begin_1 rfl ?_
  refine g_putI (f := 0) dX9_begin_2 cl10 hQ.1.1.1 (by decide) (Or.inl (iw_12 11 rfl)) (Or.inl rfl) (Or.inl rfl) (Or.inl rfl) ?_
  have hO1 : Off M (stI M m 0 (nI 0)) (fX m) := Off.rf.stI ⟨by omega, by omega⟩
  have hQ1 := hQ.thr (nI 0)
  have h0 : mI (stI M m 0 (nI 0)) m 0 = nI 0 := by rw [mI_st, if_pos ⟨rfl, rfl⟩]
  generalize stI M m 0 (nI 0) = M1 at hO1 hQ1 h0 ⊢
  have hG := hQ1.1
  have hP := hQ1.2.1
  refine g_iload_n dX9_begin_5 rfl ?_
  refine g_callS dX9_begin_6 sX9_isPlace (m_isPlace M1 n p) tX9_isPlace (iw_13 1 rfl) rfl rfl (Nat.le_of_ble_eq_true rfl) (Nat.le_of_ble_eq_true rfl) (Nat.le_of_ble_eq_true rfl) (Nat.le_of_ble_eq_true rfl) (Nat.le_of_ble_eq_true rfl) ?_
  intro r9 M9 n9 h9
  obtain ⟨h91, h92, h93⟩ := h9
  rw [h91, h92, h93]
  clear h91 h92 h93 r9 M9 n9
  refine g_if_ne (tgt := 19) dX9_begin_9 (by decide) (fun c_9 => ?_) (fun c_9 => ?_)
  · skip
    rw [bI_eq0, decide_eq_false_iff_not, Classical.not_not] at c_9
    refine g_iload_n dX9_begin_19 rfl ?_
    refine g_iload_n dX9_begin_20 rfl ?_
    refine g_icmp_ge (tgt := 31) dX9_begin_21 (by decide) (fun c_21 => ?_) (fun c_21 => ?_)
    · skip
      rw [Int32.le_iff_toInt_le] at c_21
      have l5 := i_rng lo
      have h5 := i_rng hi
      refine g_aload_n dX9_begin_31 rfl ?_
      refine g_sipush (v := nI 320) dX9_begin_32 rfl ?_
      refine g_iload_n dX9_begin_35 rfl ?_
      refine g_iadd dX9_begin_36 ?_
      rw [show (nI 320 + p) = nI (320 + pl p) by rw [← nI_add, ← c_9.eq]]
      refine g_iload_n dX9_begin_37 rfl ?_
      refine g_i2l dX9_begin_38 ?_
      rw [i_j]
      refine g_iload_n dX9_begin_39 rfl ?_
      refine g_i2l dX9_begin_40 ?_
      rw [i_j]
      refine g_callV dX9_begin_41 sX9_one (s_one M1 n m (320 + pl p) S lo.toInt hi.toInt hG (by have := c_9.lt; omega) (r6_of l5) (r6_of h5) (fun _ => ⟨l5, h5⟩)) cl10 hG.1.1 iX9_one vX9_one (iw_6 9 rfl) rfl rfl (Nat.le_of_ble_eq_true rfl) (Nat.le_of_ble_eq_true rfl) (Nat.le_of_ble_eq_true rfl) (Nat.le_of_ble_eq_true rfl) (Nat.le_of_ble_eq_true rfl) ?_
      intro r9 M2 n9 h9
      obtain ⟨h91, h93, hO2, hG2⟩ := h9
      rw [h91, h93]
      clear h91 h93 r9 n9
      refine g_aload_n dX9_begin_44 rfl ?_
      refine g_iconst (v := nI 0) dX9_begin_45 rfl ?_
      refine g_putI (f := 11) dX9_begin_46 cl10 hG2.1.1 (by decide) (Or.inl (iw_12 21 rfl)) (Or.inl rfl) (Or.inl rfl) (Or.inr ⟨rfl, (Or.inl rfl)⟩) ?_
      refine g_iload_n dX9_begin_49 rfl ?_
      refine g_i2l dX9_begin_50 ?_
      rw [i_j]
      refine g_iload_n dX9_begin_51 rfl ?_
      refine g_i2l dX9_begin_52 ?_
      rw [i_j]
      refine g_lsub dX9_begin_53 ?_
      rw [jI_sub]
      refine g_lconst (v := jI 1) dX9_begin_54 rfl ?_
      refine g_ladd dX9_begin_55 ?_
      rw [jI_add]
      exact g_lret dX9_begin_56 rfl (Nat.le_of_ble_eq_true rfl) (Nat.le_of_ble_eq_true rfl) (by
        have e : bgZ p lo hi = (0, hi.toInt - lo.toInt + 1) := by unfold bgZ; rw [if_neg (fun h => h c_9), if_neg (by rw [Int32.lt_iff_toInt_lt]; omega)]
        have e2 : bgS σ p lo hi = (zP σ, up1 (zF σ) (pl p) [(lo.toInt, hi.toInt)], false, zH σ, zN σ) := by unfold bgS; rw [e]; rfl
        rw [if_pos c_21] at hG2
        exact ⟨by rw [e], rfl, (hO1.trans (hO2.mono (fun i k h => fA_X h))).stI ⟨by omega, by omega⟩, by rw [e2]; exact ⟨_, hQ1.first c_9.lt c_21 l5 h5 hO2 hG2⟩, by rw [e, mI_st, if_neg (by omega), hO2.i (by unfold fA; omega)]; exact h0⟩)
    · skip
      rw [Int32.le_iff_toInt_le] at c_21
      refine g_aload_n dX9_begin_24 rfl ?_
      refine g_iconst (v := nI 2) dX9_begin_25 rfl ?_
      refine g_callV dX9_begin_26 sX9_fail (m_fail M1 n m (nI 2) hG.1) cl10 hG.1.1 iX9_fail vX9_fail (iw_13 5 rfl) rfl rfl (Nat.le_of_ble_eq_true rfl) (Nat.le_of_ble_eq_true rfl) (Nat.le_of_ble_eq_true rfl) (Nat.le_of_ble_eq_true rfl) (Nat.le_of_ble_eq_true rfl) ?_
      intro r9 M9 n9 h9
      obtain ⟨h91, h92, h93⟩ := h9
      rw [h91, h92, h93]
      clear h91 h92 h93 r9 M9 n9
      refine g_i2l dX9_begin_29 ?_
      exact g_lret dX9_begin_30 rfl (Nat.le_of_ble_eq_true rfl) (Nat.le_of_ble_eq_true rfl) (by
        have e : bgZ p lo hi = (2, 0) := by unfold bgZ; rw [if_neg (fun h => h c_9), if_pos (by rw [Int32.lt_iff_toInt_lt]; omega)]
        have e2 : bgS σ p lo hi = σ := by unfold bgS; rw [e]; rfl
        exact ⟨by rw [e]; rfl, rfl, hO1.stI ⟨by omega, by omega⟩, by rw [e2]; exact ⟨S, hQ1.thr _⟩, by rw [e, mI_st, if_pos ⟨rfl, rfl⟩]⟩)
  · skip
    rw [bI_eq0, decide_eq_false_iff_not] at c_9
    refine g_aload_n dX9_begin_12 rfl ?_
    refine g_iconst (v := nI 1) dX9_begin_13 rfl ?_
    refine g_callV dX9_begin_14 sX9_fail (m_fail M1 n m (nI 1) hG.1) cl10 hG.1.1 iX9_fail vX9_fail (iw_13 5 rfl) rfl rfl (Nat.le_of_ble_eq_true rfl) (Nat.le_of_ble_eq_true rfl) (Nat.le_of_ble_eq_true rfl) (Nat.le_of_ble_eq_true rfl) (Nat.le_of_ble_eq_true rfl) ?_
    intro r9 M9 n9 h9
    obtain ⟨h91, h92, h93⟩ := h9
    rw [h91, h92, h93]
    clear h91 h92 h93 r9 M9 n9
    refine g_i2l dX9_begin_17 ?_
    exact g_lret dX9_begin_18 rfl (Nat.le_of_ble_eq_true rfl) (Nat.le_of_ble_eq_true rfl) (by
      have e : bgZ p lo hi = (1, 0) := by unfold bgZ; rw [if_pos c_9]
      have e2 : bgS σ p lo hi = σ := by unfold bgS; rw [e]; rfl
      exact ⟨by rw [e]; rfl, rfl, hO1.stI ⟨by omega, by omega⟩, by rw [e2]; exact ⟨S, hQ1.thr _⟩, by rw [e, mI_st, if_pos ⟨rfl, rfl⟩]⟩)

