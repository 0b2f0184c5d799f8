/-! the reference: conditions sharpen -/
/-- the part of a set from a to b -/
def cutX (X : List Sp) (a b : Int) : List Sp := mkS (cmL X (if a ≤ b then [(a, b)] else []))
theorem cmL_nil (X : List Sp) : cmL X [] = [] := by
  unfold cmL
  simp
theorem cutX_no {X : List Sp} {a b : Int} (h : b < a) : cutX X a b = [] := by
  unfold cutX
  rw [if_neg (by omega), cmL_nil]
  rfl
theorem rS.zero {M : gM} {m s : Nat} {S : Nat → List Sp} (h : rS M m S) (hs : s < 360) : Off M (stI M (m + 1) s (nI 0)) (fA m) ∧ rS (stI M (m + 1) s (nI 0)) m (up1 S s []) :=
  h.upS hs (Off.rf.stI (Or.inl ⟨rfl, rfl⟩)) ⟨by simp, by rw [mI_st, if_pos ⟨rfl, rfl⟩]; rfl, fun k hk => absurd hk (by simp)⟩ ⟨trivial, by simp, fun p hp => absurd hp (by simp)⟩
/-- nothing but what is named differs -/
def agr (S S1 : Nat → List Sp) (P : Nat → Prop) : Prop := ∀ t, ¬ P t → S1 t = S t
set_option maxHeartbeats 4000000 in
set_option maxRecDepth 100000 in
theorem p_bl34 {M : gM} {n m x y : Nat} {S : Nat → List Sp} {o : Bool} {w : Int32} {tp bt : Int} (hG : rS M m S) (hx : x < 347) (hy : y < 347) (hxy : x ≠ y) (nx : S x ≠ []) (ny : S y ≠ []) (ht : tp = hi1 (S y) - (if o then 0 else 1)) (hb : bt = lo1 (S x) + (if o then 0 else 1)) : GW μX9_below (gRm 4 99 0 0) (gTh (fun r M1 n1 => r = none ∧ n1 = n ∧ Off M M1 (fA m) ∧ ∃ S1, rS M1 m S1 ∧ S1 x = cutX (S x) (-2147483648) (hi1 (S y) - (if o then 0 else 1)) ∧ S1 y = cutX (S y) (lo1 (S x) + (if o then 0 else 1)) 2147483647 ∧ agr S S1 (fun t => t = x ∨ t = y ∨ t = 347)) 0 0) 0 0 34 [some (.ref m), some (.int (nI x)), some (.int (nI y)), some (.int w), some (.long (jI tp)), none, some (.long (jI bt)), none] [] M n := by
  have hyr := hi1_r (hG.ok y) ny
  have hxr := lo1_r (hG.ok x) nx
  have hti : hi1 (S y) - 1 ≤ tp ∧ tp ≤ hi1 (S y) := by cases o <;> simp at ht <;> omega
  have hbi : lo1 (S x) ≤ bt ∧ bt ≤ lo1 (S x) + 1 := by cases o <;> simp at hb <;> omega
  refine g_aload_n dX9_below_34 rfl ?_
  refine g_sipush (v := nI 347) dX9_below_35 rfl ?_
  refine g_ldc2 (v := jI (-2147483648)) dX9_below_38 (iw_27 20 rfl) ?_
  refine g_lload dX9_below_41 rfl ?_
  refine g_callV dX9_below_43 sX9_one (s_one M n m 347 S (-2147483648) tp hG (by omega) (by constructor <;> omega) (by constructor <;> omega) (fun h => ⟨by constructor <;> omega, by constructor <;> omega⟩)) cl10 hG.1.1 iX9_one vX9_one (iw_6 9 rfl) rfl rfl (Nat.le_of_ble_eq_true rfl) (Nat.le_of_ble_eq_true rfl) (Nat.le_of_ble_eq_true rfl) (Nat.le_of_ble_eq_true rfl) (Nat.le_of_ble_eq_true rfl) ?_
  intro r9 M2 n9 h9
  obtain ⟨h91, h93, hO2, hG2⟩ := h9
  rw [h91, h93]
  clear h91 h93 r9 n9
  refine g_lload dX9_below_46 rfl ?_
  refine g_ldc2 (v := jI (-2147483648)) dX9_below_48 (iw_27 20 rfl) ?_
  refine g_lcmp dX9_below_51 ?_
  refine g_if_ge (tgt := 65) dX9_below_52 (by decide) (fun c_52 => ?_) (fun c_52 => ?_)
  · skip
    rw [jc_ge (by constructor <;> omega) (by constructor <;> omega)] at c_52
    refine g_aload_n dX9_below_65 rfl ?_
    refine g_iload_n dX9_below_66 rfl ?_
    refine g_iload_n dX9_below_67 rfl ?_
    refine g_sipush (v := nI 347) dX9_below_68 rfl ?_
    refine g_callV dX9_below_71 sX9_common (s_common M2 n m x x 347 _ hG2 (by omega) (by omega) (by omega)) cl10 hG2.1.1 iX9_common vX9_common (iw_29 5 rfl) rfl rfl (Nat.le_of_ble_eq_true rfl) (Nat.le_of_ble_eq_true rfl) (Nat.le_of_ble_eq_true rfl) (Nat.le_of_ble_eq_true rfl) (Nat.le_of_ble_eq_true rfl) ?_
    intro r9 M3 n9 h9
    obtain ⟨h91, h93, hO3, hG3⟩ := h9
    rw [h91, h93]
    clear h91 h93 r9 n9
    have e3 : up1 (up1 S 347 (if -2147483648 ≤ tp then [(-2147483648, tp)] else [])) x (mkS (cmL (up1 S 347 (if -2147483648 ≤ tp then [(-2147483648, tp)] else []) x) (up1 S 347 (if -2147483648 ≤ tp then [(-2147483648, tp)] else []) 347))) x = cutX (S x) (-2147483648) tp := by
      rw [up1_eq, up1_eq, up1_ne _ _ (by omega)]; rfl
    have f3 : ∀ t, t ≠ x → up1 (up1 S 347 (if -2147483648 ≤ tp then [(-2147483648, tp)] else [])) x (mkS (cmL (up1 S 347 (if -2147483648 ≤ tp then [(-2147483648, tp)] else []) x) (up1 S 347 (if -2147483648 ≤ tp then [(-2147483648, tp)] else []) 347))) t = up1 S 347 (if -2147483648 ≤ tp then [(-2147483648, tp)] else []) t := fun t h => up1_ne _ _ h
    generalize up1 (up1 S 347 (if -2147483648 ≤ tp then [(-2147483648, tp)] else [])) x (mkS (cmL (up1 S 347 (if -2147483648 ≤ tp then [(-2147483648, tp)] else []) x) (up1 S 347 (if -2147483648 ≤ tp then [(-2147483648, tp)] else []) 347))) = S3 at hG3 e3 f3
    refine g_aload_n dX9_below_74 rfl ?_
    refine g_sipush (v := nI 347) dX9_below_75 rfl ?_
    refine g_lload dX9_below_78 rfl ?_
    refine g_ldc2 (v := jI (2147483647)) dX9_below_80 (iw_27 21 rfl) ?_
    refine g_callV dX9_below_83 sX9_one (s_one M3 n m 347 S3 bt 2147483647 hG3 (by omega) (by constructor <;> omega) (by constructor <;> omega) (fun h => ⟨by constructor <;> omega, by constructor <;> omega⟩)) cl10 hG3.1.1 iX9_one vX9_one (iw_6 9 rfl) rfl rfl (Nat.le_of_ble_eq_true rfl) (Nat.le_of_ble_eq_true rfl) (Nat.le_of_ble_eq_true rfl) (Nat.le_of_ble_eq_true rfl) (Nat.le_of_ble_eq_true rfl) ?_
    intro r9 M4 n9 h9
    obtain ⟨h91, h93, hO4, hG4⟩ := h9
    rw [h91, h93]
    clear h91 h93 r9 n9
    have ey : S3 y = S y := by rw [f3 y (by omega), up1_ne _ _ (by omega)]
    refine g_lload dX9_below_86 rfl ?_
    refine g_ldc2 (v := jI (2147483647)) dX9_below_88 (iw_27 21 rfl) ?_
    refine g_lcmp dX9_below_91 ?_
    refine g_if_le (tgt := 105) dX9_below_92 (by decide) (fun c_92 => ?_) (fun c_92 => ?_)
    · skip
      rw [jc_le (by constructor <;> omega) (by constructor <;> omega)] at c_92
      refine g_aload_n dX9_below_105 rfl ?_
      refine g_iload_n dX9_below_106 rfl ?_
      refine g_iload_n dX9_below_107 rfl ?_
      refine g_sipush (v := nI 347) dX9_below_108 rfl ?_
      refine g_callV dX9_below_111 sX9_common (s_common M4 n m y y 347 _ hG4 (by omega) (by omega) (by omega)) cl10 hG4.1.1 iX9_common vX9_common (iw_29 5 rfl) rfl rfl (Nat.le_of_ble_eq_true rfl) (Nat.le_of_ble_eq_true rfl) (Nat.le_of_ble_eq_true rfl) (Nat.le_of_ble_eq_true rfl) (Nat.le_of_ble_eq_true rfl) ?_
      intro r9 M5 n9 h9
      obtain ⟨h91, h93, hO5, hG5⟩ := h9
      rw [h91, h93]
      clear h91 h93 r9 n9
      exact g_vret dX9_below_114 rfl (Nat.le_of_ble_eq_true rfl) (Nat.le_of_ble_eq_true rfl) (by
        first
          | (refine ⟨rfl, rfl, ((hO2.trans hO3).trans hO4).trans hO5, _, hG5, ?_, ?_, fun t ht => ?_⟩
             · rw [up1_ne _ _ hxy, up1_ne _ _ (by omega), e3, ht]
             · rw [up1_eq, up1_eq, up1_ne _ _ (by omega), ey, ← hb]; rfl
             · rw [up1_ne _ _ (by omega), up1_ne _ _ (by omega), f3 t (by omega), up1_ne _ _ (by omega)])
          | (obtain ⟨hO5, hG5⟩ := hG4.zero (s := y) (by omega)
             refine ⟨rfl, rfl, ((hO2.trans hO3).trans hO4).trans hO5, _, hG5, ?_, ?_, fun t ht => ?_⟩
             · rw [up1_ne _ _ hxy, up1_ne _ _ (by omega), e3, ht]
             · rw [up1_eq, ← hb, cutX_no (by omega)]
             · rw [up1_ne _ _ (by omega), up1_ne _ _ (by omega), f3 t (by omega), up1_ne _ _ (by omega)]))
    · skip
      rw [jc_le (by constructor <;> omega) (by constructor <;> omega)] at c_92
      refine g_aload_n dX9_below_95 rfl ?_
      refine g_getR (f := 1) dX9_below_96 cl10 hG4.1.1 (by decide) (Or.inl (iw_5 20 rfl)) (Or.inl rfl) rfl hG4.1.r_many ?_
      refine g_iload_n dX9_below_99 rfl ?_
      refine g_iconst (v := nI 0) dX9_below_100 rfl ?_
      refine g_iastore dX9_below_101 (j := y) hG4.1.k_many hG4.1.n_many rfl (by omega) (by decide) ?_
      refine g_goto (tgt := 114) dX9_below_102 (by decide) ?_
      exact g_vret dX9_below_114 rfl (Nat.le_of_ble_eq_true rfl) (Nat.le_of_ble_eq_true rfl) (by
        first
          | (refine ⟨rfl, rfl, ((hO2.trans hO3).trans hO4).trans hO5, _, hG5, ?_, ?_, fun t ht => ?_⟩
             · rw [up1_ne _ _ hxy, up1_ne _ _ (by omega), e3, ht]
             · rw [up1_eq, up1_eq, up1_ne _ _ (by omega), ey, ← hb]; rfl
             · rw [up1_ne _ _ (by omega), up1_ne _ _ (by omega), f3 t (by omega), up1_ne _ _ (by omega)])
          | (obtain ⟨hO5, hG5⟩ := hG4.zero (s := y) (by omega)
             refine ⟨rfl, rfl, ((hO2.trans hO3).trans hO4).trans hO5, _, hG5, ?_, ?_, fun t ht => ?_⟩
             · rw [up1_ne _ _ hxy, up1_ne _ _ (by omega), e3, ht]
             · rw [up1_eq, ← hb, cutX_no (by omega)]
             · rw [up1_ne _ _ (by omega), up1_ne _ _ (by omega), f3 t (by omega), up1_ne _ _ (by omega)]))
  · skip
    rw [jc_ge (by constructor <;> omega) (by constructor <;> omega)] at c_52
    refine g_aload_n dX9_below_55 rfl ?_
    refine g_getR (f := 1) dX9_below_56 cl10 hG2.1.1 (by decide) (Or.inl (iw_5 20 rfl)) (Or.inl rfl) rfl hG2.1.r_many ?_
    refine g_iload_n dX9_below_59 rfl ?_
    refine g_iconst (v := nI 0) dX9_below_60 rfl ?_
    refine g_iastore dX9_below_61 (j := x) hG2.1.k_many hG2.1.n_many rfl (by omega) (by decide) ?_
    obtain ⟨hO3, hG3⟩ := hG2.zero (s := x) (by omega)
    have e3 : up1 (up1 S 347 (if -2147483648 ≤ tp then [(-2147483648, tp)] else [])) x [] x = cutX (S x) (-2147483648) tp := by rw [up1_eq, cutX_no (by omega)]
    have f3 : ∀ t, t ≠ x → up1 (up1 S 347 (if -2147483648 ≤ tp then [(-2147483648, tp)] else [])) x [] t = up1 S 347 (if -2147483648 ≤ tp then [(-2147483648, tp)] else []) t := fun t h => up1_ne _ _ h
    generalize up1 (up1 S 347 (if -2147483648 ≤ tp then [(-2147483648, tp)] else [])) x [] = S3 at hG3 e3 f3
    generalize stI M2 (m + 1) x (nI 0) = M3 at hO3 hG3 ⊢
    refine g_goto (tgt := 74) dX9_below_62 (by decide) ?_
    refine g_aload_n dX9_below_74 rfl ?_
    refine g_sipush (v := nI 347) dX9_below_75 rfl ?_
    refine g_lload dX9_below_78 rfl ?_
    refine g_ldc2 (v := jI (2147483647)) dX9_below_80 (iw_27 21 rfl) ?_
    refine g_callV dX9_below_83 sX9_one (s_one M3 n m 347 S3 bt 2147483647 hG3 (by omega) (by constructor <;> omega) (by constructor <;> omega) (fun h => ⟨by constructor <;> omega, by constructor <;> omega⟩)) cl10 hG3.1.1 iX9_one vX9_one (iw_6 9 rfl) rfl rfl (Nat.le_of_ble_eq_true rfl) (Nat.le_of_ble_eq_true rfl) (Nat.le_of_ble_eq_true rfl) (Nat.le_of_ble_eq_true rfl) (Nat.le_of_ble_eq_true rfl) ?_
    intro r9 M4 n9 h9
    obtain ⟨h91, h93, hO4, hG4⟩ := h9
    rw [h91, h93]
    clear h91 h93 r9 n9
    have ey : S3 y = S y := by rw [f3 y (by omega), up1_ne _ _ (by omega)]
    refine g_lload dX9_below_86 rfl ?_
    refine g_ldc2 (v := jI (2147483647)) dX9_below_88 (iw_27 21 rfl) ?_
    refine g_lcmp dX9_below_91 ?_
    refine g_if_le (tgt := 105) dX9_below_92 (by decide) (fun c_92 => ?_) (fun c_92 => ?_)
    · skip
      rw [jc_le (by constructor <;> omega) (by constructor <;> omega)] at c_92
      refine g_aload_n dX9_below_105 rfl ?_
      refine g_iload_n dX9_below_106 rfl ?_
      refine g_iload_n dX9_below_107 rfl ?_
      refine g_sipush (v := nI 347) dX9_below_108 rfl ?_
      refine g_callV dX9_below_111 sX9_common (s_common M4 n m y y 347 _ hG4 (by omega) (by omega) (by omega)) cl10 hG4.1.1 iX9_common vX9_common (iw_29 5 rfl) rfl rfl (Nat.le_of_ble_eq_true rfl) (Nat.le_of_ble_eq_true rfl) (Nat.le_of_ble_eq_true rfl) (Nat.le_of_ble_eq_true rfl) (Nat.le_of_ble_eq_true rfl) ?_
      intro r9 M5 n9 h9
      obtain ⟨h91, h93, hO5, hG5⟩ := h9
      rw [h91, h93]
      clear h91 h93 r9 n9
      exact g_vret dX9_below_114 rfl (Nat.le_of_ble_eq_true rfl) (Nat.le_of_ble_eq_true rfl) (by
        first
          | (refine ⟨rfl, rfl, ((hO2.trans hO3).trans hO4).trans hO5, _, hG5, ?_, ?_, fun t ht => ?_⟩
             · rw [up1_ne _ _ hxy, up1_ne _ _ (by omega), e3, ht]
             · rw [up1_eq, up1_eq, up1_ne _ _ (by omega), ey, ← hb]; rfl
             · rw [up1_ne _ _ (by omega), up1_ne _ _ (by omega), f3 t (by omega), up1_ne _ _ (by omega)])
          | (obtain ⟨hO5, hG5⟩ := hG4.zero (s := y) (by omega)
             refine ⟨rfl, rfl, ((hO2.trans hO3).trans hO4).trans hO5, _, hG5, ?_, ?_, fun t ht => ?_⟩
             · rw [up1_ne _ _ hxy, up1_ne _ _ (by omega), e3, ht]
             · rw [up1_eq, ← hb, cutX_no (by omega)]
             · rw [up1_ne _ _ (by omega), up1_ne _ _ (by omega), f3 t (by omega), up1_ne _ _ (by omega)]))
    · skip
      rw [jc_le (by constructor <;> omega) (by constructor <;> omega)] at c_92
      refine g_aload_n dX9_below_95 rfl ?_
      refine g_getR (f := 1) dX9_below_96 cl10 hG4.1.1 (by decide) (Or.inl (iw_5 20 rfl)) (Or.inl rfl) rfl hG4.1.r_many ?_
      refine g_iload_n dX9_below_99 rfl ?_
      refine g_iconst (v := nI 0) dX9_below_100 rfl ?_
      refine g_iastore dX9_below_101 (j := y) hG4.1.k_many hG4.1.n_many rfl (by omega) (by decide) ?_
      refine g_goto (tgt := 114) dX9_below_102 (by decide) ?_
      exact g_vret dX9_below_114 rfl (Nat.le_of_ble_eq_true rfl) (Nat.le_of_ble_eq_true rfl) (by
        first
          | (refine ⟨rfl, rfl, ((hO2.trans hO3).trans hO4).trans hO5, _, hG5, ?_, ?_, fun t ht => ?_⟩
             · rw [up1_ne _ _ hxy, up1_ne _ _ (by omega), e3, ht]
             · rw [up1_eq, up1_eq, up1_ne _ _ (by omega), ey, ← hb]; rfl
             · rw [up1_ne _ _ (by omega), up1_ne _ _ (by omega), f3 t (by omega), up1_ne _ _ (by omega)])
          | (obtain ⟨hO5, hG5⟩ := hG4.zero (s := y) (by omega)
             refine ⟨rfl, rfl, ((hO2.trans hO3).trans hO4).trans hO5, _, hG5, ?_, ?_, fun t ht => ?_⟩
             · rw [up1_ne _ _ hxy, up1_ne _ _ (by omega), e3, ht]
             · rw [up1_eq, ← hb, cutX_no (by omega)]
             · rw [up1_ne _ _ (by omega), up1_ne _ _ (by omega), f3 t (by omega), up1_ne _ _ (by omega)]))

set_option maxHeartbeats 4000000 in
set_option maxRecDepth 100000 in
theorem s_below (M : gM) (n m x y : Nat) (S : Nat → List Sp) (o : Bool) (hG : rS M m S) (hx : x < 347) (hy : y < 347) (hxy : x ≠ y) (nx : S x ≠ []) (ny : S y ≠ []) : GM μX9_below 4 99 0 0 [.ref m, .int (nI x), .int (nI y), .int (bI o)] M n (fun r M1 n1 => r = none ∧ n1 = n ∧ Off M M1 (fA m) ∧ ∃ S1, rS M1 m S1 ∧ S1 x = cutX (S x) (-2147483648) (hi1 (S y) - (if o then 0 else 1)) ∧ S1 y = cutX (S y) (lo1 (S x) + (if o then 0 else 1)) 2147483647 ∧ agr S S1 (fun t => t = x ∨ t = y ∨ t = 347)) := by
  refine GM.ofW (by decide) rfl (Nat.le_of_ble_eq_true rfl) rfl ?_
  refine g_aload_n dX9_below_0 rfl ?_
  refine g_iload_n dX9_below_1 rfl ?_
  refine g_callV dX9_below_2 sX9_most (s_most M n m y S hG (by omega) ny) cl10 hG.1.1 iX9_most vX9_most (iw_28 21 rfl) rfl rfl (Nat.le_of_ble_eq_true rfl) (Nat.le_of_ble_eq_true rfl) (Nat.le_of_ble_eq_true rfl) (Nat.le_of_ble_eq_true rfl) (Nat.le_of_ble_eq_true rfl) ?_
  intro r9 M9 n9 h9
  obtain ⟨h91, h92, h93⟩ := h9
  rw [h91, h92, h93]
  clear h91 h92 h93 r9 M9 n9
  refine g_iload_n dX9_below_5 rfl ?_
  refine g_if_eq (tgt := 13) dX9_below_6 (by decide) (fun c_6 => ?_) (fun c_6 => ?_)
  · skip
    rw [bI_eq0] at c_6
    refine g_lconst (v := jI 1) dX9_below_13 rfl ?_
    refine g_lsub dX9_below_14 ?_
    rw [jI_sub]
    refine g_lstore dX9_below_15 (Nat.le_of_ble_eq_true rfl) ?_
    refine g_aload_n dX9_below_17 rfl ?_
    refine g_iload_n dX9_below_18 rfl ?_
    refine g_callV dX9_below_19 sX9_least (s_least M n m x S hG (by omega) nx) cl10 hG.1.1 iX9_least vX9_least (iw_29 1 rfl) rfl rfl (Nat.le_of_ble_eq_true rfl) (Nat.le_of_ble_eq_true rfl) (Nat.le_of_ble_eq_true rfl) (Nat.le_of_ble_eq_true rfl) (Nat.le_of_ble_eq_true rfl) ?_
    intro r9 M9 n9 h9
    obtain ⟨h91, h92, h93⟩ := h9
    rw [h91, h92, h93]
    clear h91 h92 h93 r9 M9 n9
    refine g_iload_n dX9_below_22 rfl ?_
    refine g_if_eq (tgt := 30) dX9_below_23 (by decide) (fun c_23 => ?_) (fun c_23 => ?_)
    · skip
      refine g_lconst (v := jI 1) dX9_below_30 rfl ?_
      refine g_ladd dX9_below_31 ?_
      rw [jI_add]
      refine g_lstore dX9_below_32 (Nat.le_of_ble_eq_true rfl) ?_
      first
        | (rw [bI_eq0, Bool.not_eq_false] at c_23
           first
             | (rw [c_6] at c_23; exact absurd c_23 (by decide))
             | (subst c_6; exact p_bl34 (o := true) hG hx hy hxy nx ny rfl rfl))
        | (rw [bI_eq0] at c_23
           first
             | (rw [c_6] at c_23; exact absurd c_23 (by decide))
             | (subst c_6; exact p_bl34 (o := false) hG hx hy hxy nx ny rfl rfl))
    · skip
      refine g_lconst (v := jI 0) dX9_below_26 rfl ?_
      refine g_goto (tgt := 31) dX9_below_27 (by decide) ?_
      refine g_ladd dX9_below_31 ?_
      rw [jI_add]
      refine g_lstore dX9_below_32 (Nat.le_of_ble_eq_true rfl) ?_
      first
        | (rw [bI_eq0, Bool.not_eq_false] at c_23
           first
             | (rw [c_6] at c_23; exact absurd c_23 (by decide))
             | (subst c_6; exact p_bl34 (o := true) hG hx hy hxy nx ny rfl rfl))
        | (rw [bI_eq0] at c_23
           first
             | (rw [c_6] at c_23; exact absurd c_23 (by decide))
             | (subst c_6; exact p_bl34 (o := false) hG hx hy hxy nx ny rfl rfl))
  · skip
    rw [bI_eq0, Bool.not_eq_false] at c_6
    refine g_lconst (v := jI 0) dX9_below_9 rfl ?_
    refine g_goto (tgt := 14) dX9_below_10 (by decide) ?_
    refine g_lsub dX9_below_14 ?_
    rw [jI_sub]
    refine g_lstore dX9_below_15 (Nat.le_of_ble_eq_true rfl) ?_
    refine g_aload_n dX9_below_17 rfl ?_
    refine g_iload_n dX9_below_18 rfl ?_
    refine g_callV dX9_below_19 sX9_least (s_least M n m x S hG (by omega) nx) cl10 hG.1.1 iX9_least vX9_least (iw_29 1 rfl) rfl rfl (Nat.le_of_ble_eq_true rfl) (Nat.le_of_ble_eq_true rfl) (Nat.le_of_ble_eq_true rfl) (Nat.le_of_ble_eq_true rfl) (Nat.le_of_ble_eq_true rfl) ?_
    intro r9 M9 n9 h9
    obtain ⟨h91, h92, h93⟩ := h9
    rw [h91, h92, h93]
    clear h91 h92 h93 r9 M9 n9
    refine g_iload_n dX9_below_22 rfl ?_
    refine g_if_eq (tgt := 30) dX9_below_23 (by decide) (fun c_23 => ?_) (fun c_23 => ?_)
    · skip
      refine g_lconst (v := jI 1) dX9_below_30 rfl ?_
      refine g_ladd dX9_below_31 ?_
      rw [jI_add]
      refine g_lstore dX9_below_32 (Nat.le_of_ble_eq_true rfl) ?_
      first
        | (rw [bI_eq0, Bool.not_eq_false] at c_23
           first
             | (rw [c_6] at c_23; exact absurd c_23 (by decide))
             | (subst c_6; exact p_bl34 (o := true) hG hx hy hxy nx ny rfl rfl))
        | (rw [bI_eq0] at c_23
           first
             | (rw [c_6] at c_23; exact absurd c_23 (by decide))
             | (subst c_6; exact p_bl34 (o := false) hG hx hy hxy nx ny rfl rfl))
    · skip
      refine g_lconst (v := jI 0) dX9_below_26 rfl ?_
      refine g_goto (tgt := 31) dX9_below_27 (by decide) ?_
      refine g_ladd dX9_below_31 ?_
      rw [jI_add]
      refine g_lstore dX9_below_32 (Nat.le_of_ble_eq_true rfl) ?_
      first
        | (rw [bI_eq0, Bool.not_eq_false] at c_23
           first
             | (rw [c_6] at c_23; exact absurd c_23 (by decide))
             | (subst c_6; exact p_bl34 (o := true) hG hx hy hxy nx ny rfl rfl))
        | (rw [bI_eq0] at c_23
           first
             | (rw [c_6] at c_23; exact absurd c_23 (by decide))
             | (subst c_6; exact p_bl34 (o := false) hG hx hy hxy nx ny rfl rfl))

