/-! the class: what a statement gives: sums, parts, rests -/
/-- eight sets behind their row -/
def sA (M : gM) (b : Nat) : Prop := mK M b = 14 ∧ mN M b = 8 ∧ ∀ p, p < 8 → mR M b p = some (b + 1 + p) ∧ mK M (b + 1 + p) = 4
def sE (M : gM) (b : Nat) (F : Nat → List Sp) : Prop := sA M b ∧ ∀ p, p < 8 → cS M (b + 1 + p) (F p)
theorem sA.off {M M1 : gM} {b : Nat} {S : Nat → Nat → Prop} (h : sA M b) (ho : Off M M1 S) : sA M1 b := by
  unfold sA
  rw [ho.1, ho.2.1, ho.2.2.1]
  exact h
theorem sE.off {M M1 : gM} {b : Nat} {F : Nat → List Sp} {S : Nat → Nat → Prop} (h : sE M b F) (ho : Off M M1 S) (hs : ∀ i k, b < i → i ≤ b + 8 → ¬ S i k) : sE M1 b F := ⟨h.1.off ho, fun p hp => (h.2 p hp).off ho (fun k => hs _ k (by omega) (by omega))⟩
/-- a Step at v, its things behind it -/
def sP (M : gM) (v : Nat) : Prop := mK M v = 6 ∧ (mR M v 0 = some (v + 1) ∧ mR M v 1 = some (v + 4) ∧ mR M v 2 = some (v + 13) ∧ mR M v 3 = some (v + 14)) ∧ gG M (v + 1) ∧ sA M (v + 4) ∧ mK M (v + 13) = 4 ∧ mK M (v + 14) = 4
theorem sP.off {M M1 : gM} {v : Nat} {S : Nat → Nat → Prop} (h : sP M v) (ho : Off M M1 S) : sP M1 v := by
  have h1 := h.2.2.1.off ho
  have h2 := h.2.2.2.1.off ho
  refine ⟨?_, ?_, h1, h2, ?_⟩
  · rw [ho.1]; exact h.1
  · rw [ho.2.2.1]; exact h.2.1
  · rw [ho.1]; exact h.2.2.2.2
def fV (v : Nat) : Nat → Nat → Prop := fun i _ => v + 1 ≤ i ∧ i ≤ v + 14
theorem fY_V {v i k : Nat} (h : fY (v + 1) i k) : fV v i k := by unfold fY at h; unfold fV; omega
theorem jI_min' {a b : Int} (ha : r6 a) (hb : r6 b) : (if jI b < jI a then jI b else jI a) = jI (min a b) := by
  rw [jI_min hb ha, Int.min_comm]
theorem ex_r (k : Nat) {x y : Int} (hx : r5 x) (hy : r5 y) : -4611686016279904256 ≤ exZ k x y ∧ exZ k x y ≤ 4611686018427387904 := by
  unfold exZ
  split
  · omega
  · split
    · omega
    · split
      · exact mul_r hx hy
      · by_cases c : y = 0
        · rw [c, Int.tdiv_zero]; omega
        · have := tdiv_r hx c; omega
theorem ex_r6 (k : Nat) {x y : Int} (hx : r5 x) (hy : r5 y) : r6 (exZ k x y) := by
  have := ex_r k hx hy
  constructor <;> omega
set_option maxHeartbeats 4000000 in
set_option maxRecDepth 100000 in
theorem c_exact (M : gM) (n k : Nat) (x y : Int) (hk : k = 2 ∨ k = 3 ∨ k = 4 ∨ k = 7) (hx : r5 x) (hy : r5 y) : GM μX5_exact 0 0 0 0 [.int (nI k), .long (jI x), .long (jI y)] M n (fun r M1 n1 => r = some (.long (jI (exZ k x y))) ∧ M1 = M ∧ n1 = n) := by
  refine GM.ofW (by decide) rfl (Nat.le_of_ble_eq_true rfl) rfl ?_
  refine g_iload_n dX5_exact_0 rfl ?_
  by_cases t_1_2 : (k : Int) = 2
  · skip
    refine g_tableIn (off := 27) (tgt := 28) dX5_exact_1 (by rw [nI_t (by omega)]; omega) (by rw [nI_t (by omega)]; omega) (by rw [nI_t (by omega)]; rw [t_1_2]; rfl) (by decide) ?_
    refine g_lload_n dX5_exact_28 rfl ?_
    refine g_lload_n dX5_exact_29 rfl ?_
    refine g_ladd dX5_exact_30 ?_
    exact g_lret dX5_exact_31 rfl (Nat.le_of_ble_eq_true rfl) (Nat.le_of_ble_eq_true rfl) ⟨by rw [jI_add, show k = 2 by omega]; rfl, rfl, rfl⟩
  · skip
    by_cases t_1_3 : (k : Int) = 3
    · skip
      refine g_tableIn (off := 31) (tgt := 32) dX5_exact_1 (by rw [nI_t (by omega)]; omega) (by rw [nI_t (by omega)]; omega) (by rw [nI_t (by omega)]; rw [t_1_3]; rfl) (by decide) ?_
      refine g_lload_n dX5_exact_32 rfl ?_
      refine g_lload_n dX5_exact_33 rfl ?_
      refine g_lsub dX5_exact_34 ?_
      exact g_lret dX5_exact_35 rfl (Nat.le_of_ble_eq_true rfl) (Nat.le_of_ble_eq_true rfl) ⟨by rw [jI_sub, show k = 3 by omega]; rfl, rfl, rfl⟩
    · skip
      by_cases t_1_4 : (k : Int) = 4
      · skip
        refine g_tableIn (off := 35) (tgt := 36) dX5_exact_1 (by rw [nI_t (by omega)]; omega) (by rw [nI_t (by omega)]; omega) (by rw [nI_t (by omega)]; rw [t_1_4]; rfl) (by decide) ?_
        refine g_lload_n dX5_exact_36 rfl ?_
        refine g_lload_n dX5_exact_37 rfl ?_
        refine g_lmul dX5_exact_38 ?_
        exact g_lret dX5_exact_39 rfl (Nat.le_of_ble_eq_true rfl) (Nat.le_of_ble_eq_true rfl) ⟨by rw [jI_mul, show k = 4 by omega]; rfl, rfl, rfl⟩
      · skip
        refine g_tableOut (tgt := 40) dX5_exact_1 (by rw [nI_t (by omega)]; omega) (by decide) ?_
        refine g_lload_n dX5_exact_40 rfl ?_
        refine g_lconst (v := jI 0) dX5_exact_41 rfl ?_
        refine g_lcmp dX5_exact_42 ?_
        skip
        refine g_if_ne (tgt := 50) dX5_exact_43 (by decide) (fun c_43 => ?_) (fun c_43 => ?_)
        · skip
          rw [jc_eq (by constructor <;> omega) (by constructor <;> omega)] at c_43
          refine g_lload_n dX5_exact_50 rfl ?_
          refine g_lload_n dX5_exact_51 rfl ?_
          refine g_ldiv dX5_exact_52 (fun q => c_43 (by rw [jI_0, jI_eq (by constructor <;> omega) (by constructor <;> omega)] at q; exact q)) ?_
          skip
          exact g_lret dX5_exact_53 rfl (Nat.le_of_ble_eq_true rfl) (Nat.le_of_ble_eq_true rfl) ⟨by
              rw [show k = 7 by omega]
              first
                | rw [jI_div hx hy c_43]; rfl
                | (rw [c_43]; show _ = some (Value.long (jI (x.tdiv 0))); rw [Int.tdiv_zero]), rfl, rfl⟩
        · skip
          rw [jc_eq (by constructor <;> omega) (by constructor <;> omega)] at c_43
          refine g_lconst (v := jI 0) dX5_exact_46 rfl ?_
          refine g_goto (tgt := 53) dX5_exact_47 (by decide) ?_
          skip
          exact g_lret dX5_exact_53 rfl (Nat.le_of_ble_eq_true rfl) (Nat.le_of_ble_eq_true rfl) ⟨by
              rw [show k = 7 by omega]
              first
                | rw [jI_div hx hy c_43]; rfl
                | (rw [c_43]; show _ = some (Value.long (jI (x.tdiv 0))); rw [Int.tdiv_zero]), rfl, rfl⟩

theorem pr_take {k i : Nat} {X Y : List Sp} (h : i < X.length) : prP k (X.take (i + 1)) Y = prP k (X.take i) Y ++ Y.flatMap (exP k (X.getD i (0, 0))) := by
  unfold prP
  rw [take_one h, List.flatMap_append, List.flatMap_singleton]
theorem fl_take {Y : List Sp} {j : Nat} {f : Sp → List Sp} (h : j < Y.length) : (Y.take (j + 1)).flatMap f = (Y.take j).flatMap f ++ f (Y.getD j (0, 0)) := by
  rw [take_one h, List.flatMap_append, List.flatMap_singleton]
theorem pr_len1 {k i : Nat} {X Y : List Sp} (hY : Y.length ≤ 2) : (prP k (X.take i) Y).length ≤ 4 * i := by
  have h1 : ∀ x, (Y.flatMap (exP k x)).length ≤ 4 := fun x => Nat.le_trans (flat_len (c := 2) (fun y _ => exP_len k x y)) (by omega)
  have h2 := flat_len (X := X.take i) (c := 4) (f := fun x => Y.flatMap (exP k x)) (fun x _ => h1 x)
  rw [List.length_take] at h2
  unfold prP
  have : min i X.length * 4 ≤ i * 4 := Nat.mul_le_mul_right _ (Nat.min_le_left _ _)
  omega
theorem fl_len1 {k j : Nat} {x : Sp} {Y : List Sp} : ((Y.take j).flatMap (exP k x)).length ≤ 2 * j := by
  have h2 := flat_len (X := Y.take j) (c := 2) (f := exP k x) (fun y _ => exP_len k x y)
  rw [List.length_take] at h2
  have : min j Y.length * 2 ≤ j * 2 := Nat.mul_le_mul_right _ (Nat.min_le_left _ _)
  omega
theorem pr_wl1 (k i j : Nat) (x : Sp) (X Y : List Sp) : wl (prP k (X.take i) Y ++ (Y.take j).flatMap (exP k x)) := wl_app (prP_wl _ _ _) (wl_flat (fun y _ => exP_wl k x y))
set_option maxHeartbeats 4000000 in
set_option maxRecDepth 100000 in
theorem k_pr2 {M : gM} {n v x y k i : Nat} {X Y U : List Sp} {Q : gθ} (hg0 : gG M (v + 1)) (hX : cS M x X) (hY : cS M y Y) (hl : U.length + 8 ≤ 16) (h5 : r5L U) (hkk : k = 2 ∨ k = 3 ∨ k = 4 ∨ k = 7) (hv : mK M v = 6) (hv0 : mR M v 0 = some (v + 1)) (hi : i < X.length) (hk : ∀ M1, Off M M1 (fY (v + 1)) → gt M1 (v + 1) (U ++ prP k (X.take (i + 1)) Y) → GW μX5_gatherPairs (gRm 2 57 0 0) Q 0 0 165 [some (.ref v), some (.int (nI k)), some (.ref x), some (.ref y), some (.int (nI i)), none, none, none, none, none, none, none, none, none, none, none, none, none] [] M1 n) : ∀ (d : Nat) (j : Nat) (M1 : gM), Y.length - j < d → j ≤ Y.length → Off M M1 (fY (v + 1)) → gt M1 (v + 1) (U ++ (prP k (X.take i) Y ++ (Y.take j).flatMap (exP k (X.getD i (0, 0))))) → GW μX5_gatherPairs (gRm 2 57 0 0) Q 0 0 15 [some (.ref v), some (.int (nI k)), some (.ref x), some (.ref y), some (.int (nI i)), some (.int (nI j)), none, none, none, none, none, none, none, none, none, none, none, none] [] M1 n := by
  intro d
  induction d with
  | zero =>
    intro j M1 hd hj hO hI
    omega
  | succ d ih =>
    intro j M1 hd hj hO hI
    have hx1 := hX.offY hg0 hO
    have hy1 := hY.offY hg0 hO
    have l2 := hX.2.1.2.1
    have l3 := hY.2.1.2.1
    refine g_iload dX5_gatherPairs_15 rfl ?_
    refine g_aload_n dX5_gatherPairs_17 rfl ?_
    refine g_getI (f := 0) dX5_gatherPairs_18 cl4 hy1.1 (by decide) (Or.inr (List.mem_of_getElem? (i := 27) rfl)) (Or.inl rfl) (Or.inl rfl) ?_
    rw [hy1.2.2.1]
    refine g_icmp_ge (tgt := 165) dX5_gatherPairs_21 (by decide) (fun c_21 => ?_) (fun c_21 => ?_)
    · skip
      rw [nI_leI (by omega) (by omega)] at c_21
      refine g_msk [true, true, true, true, true, false, false, false, false, false, false, false, false, false, false, false, false, false] ?_
      exact hk M1 hO (by rw [pr_take hi]; rw [List.take_of_length_le (l := Y) (by omega)] at hI; exact hI)
    · skip
      rw [nI_leI (by omega) (by omega)] at c_21
      have hjl : j < Y.length := by omega
      have hr := hX.r hi
      have hs := hY.r hjl
      have q1 := ex_r6 k hr.1 hs.1
      have q2 := ex_r6 k hr.1 hs.2
      have q3 := ex_r6 k hr.2 hs.1
      have q4 := ex_r6 k hr.2 hs.2
      have w1 := ex_r k hr.1 hs.1
      have w2 := ex_r k hr.1 hs.2
      have w3 := ex_r k hr.2 hs.1
      have w4 := ex_r k hr.2 hs.2
      have len1 := pr_len1 (k := k) (i := i) (X := X) hY.2.1.2.1
      have len2 := fl_len1 (k := k) (j := j) (x := (X.getD i (0, 0))) (Y := Y)
      have cwl := pr_wl1 k i j (X.getD i (0, 0)) X Y
      refine g_iload_n dX5_gatherPairs_24 rfl ?_
      refine g_aload_n dX5_gatherPairs_25 rfl ?_
      refine g_iload dX5_gatherPairs_26 rfl ?_
      refine g_callV dX5_gatherPairs_28 sX3_low (c_low M1 n x i X hx1 hi) cl4 hx1.1 iX3_low vX3_low (iw_22 6 rfl) rfl rfl (Nat.le_of_ble_eq_true rfl) (Nat.le_of_ble_eq_true rfl) (Nat.le_of_ble_eq_true rfl) (Nat.le_of_ble_eq_true rfl) (Nat.le_of_ble_eq_true rfl) ?_
      intro r9 M9 n9 h9
      obtain ⟨h91, h92, h93⟩ := h9
      rw [h91, h92, h93]
      clear h91 h92 h93 r9 M9 n9
      refine g_i2l dX5_gatherPairs_31 ?_
      rw [iZ_j hr.1.1 hr.1.2]
      refine g_aload_n dX5_gatherPairs_32 rfl ?_
      refine g_iload dX5_gatherPairs_33 rfl ?_
      refine g_callV dX5_gatherPairs_35 sX3_low (c_low M1 n y j Y hy1 hjl) cl4 hy1.1 iX3_low vX3_low (iw_22 6 rfl) rfl rfl (Nat.le_of_ble_eq_true rfl) (Nat.le_of_ble_eq_true rfl) (Nat.le_of_ble_eq_true rfl) (Nat.le_of_ble_eq_true rfl) (Nat.le_of_ble_eq_true rfl) ?_
      intro r9 M9 n9 h9
      obtain ⟨h91, h92, h93⟩ := h9
      rw [h91, h92, h93]
      clear h91 h92 h93 r9 M9 n9
      refine g_i2l dX5_gatherPairs_38 ?_
      rw [iZ_j hs.1.1 hs.1.2]
      refine g_callS dX5_gatherPairs_39 sX5_exact (c_exact M1 n k (X.getD i (0, 0)).1 (Y.getD j (0, 0)).1 hkk hr.1 hs.1) tX5_exact (iw_22 7 rfl) rfl rfl (Nat.le_of_ble_eq_true rfl) (Nat.le_of_ble_eq_true rfl) (Nat.le_of_ble_eq_true rfl) (Nat.le_of_ble_eq_true rfl) (Nat.le_of_ble_eq_true rfl) ?_
      intro r9 M9 n9 h9
      obtain ⟨h91, h92, h93⟩ := h9
      rw [h91, h92, h93]
      clear h91 h92 h93 r9 M9 n9
      refine g_lstore dX5_gatherPairs_42 (Nat.le_of_ble_eq_true rfl) ?_
      refine g_iload_n dX5_gatherPairs_44 rfl ?_
      refine g_aload_n dX5_gatherPairs_45 rfl ?_
      refine g_iload dX5_gatherPairs_46 rfl ?_
      refine g_callV dX5_gatherPairs_48 sX3_low (c_low M1 n x i X hx1 hi) cl4 hx1.1 iX3_low vX3_low (iw_22 6 rfl) rfl rfl (Nat.le_of_ble_eq_true rfl) (Nat.le_of_ble_eq_true rfl) (Nat.le_of_ble_eq_true rfl) (Nat.le_of_ble_eq_true rfl) (Nat.le_of_ble_eq_true rfl) ?_
      intro r9 M9 n9 h9
      obtain ⟨h91, h92, h93⟩ := h9
      rw [h91, h92, h93]
      clear h91 h92 h93 r9 M9 n9
      refine g_i2l dX5_gatherPairs_51 ?_
      rw [iZ_j hr.1.1 hr.1.2]
      refine g_aload_n dX5_gatherPairs_52 rfl ?_
      refine g_iload dX5_gatherPairs_53 rfl ?_
      refine g_callV dX5_gatherPairs_55 sX3_high (c_high M1 n y j Y hy1 hjl) cl4 hy1.1 iX3_high vX3_high (iw_22 10 rfl) rfl rfl (Nat.le_of_ble_eq_true rfl) (Nat.le_of_ble_eq_true rfl) (Nat.le_of_ble_eq_true rfl) (Nat.le_of_ble_eq_true rfl) (Nat.le_of_ble_eq_true rfl) ?_
      intro r9 M9 n9 h9
      obtain ⟨h91, h92, h93⟩ := h9
      rw [h91, h92, h93]
      clear h91 h92 h93 r9 M9 n9
      refine g_i2l dX5_gatherPairs_58 ?_
      rw [iZ_j hs.2.1 hs.2.2]
      refine g_callS dX5_gatherPairs_59 sX5_exact (c_exact M1 n k (X.getD i (0, 0)).1 (Y.getD j (0, 0)).2 hkk hr.1 hs.2) tX5_exact (iw_22 7 rfl) rfl rfl (Nat.le_of_ble_eq_true rfl) (Nat.le_of_ble_eq_true rfl) (Nat.le_of_ble_eq_true rfl) (Nat.le_of_ble_eq_true rfl) (Nat.le_of_ble_eq_true rfl) ?_
      intro r9 M9 n9 h9
      obtain ⟨h91, h92, h93⟩ := h9
      rw [h91, h92, h93]
      clear h91 h92 h93 r9 M9 n9
      refine g_lstore dX5_gatherPairs_62 (Nat.le_of_ble_eq_true rfl) ?_
      refine g_iload_n dX5_gatherPairs_64 rfl ?_
      refine g_aload_n dX5_gatherPairs_65 rfl ?_
      refine g_iload dX5_gatherPairs_66 rfl ?_
      refine g_callV dX5_gatherPairs_68 sX3_high (c_high M1 n x i X hx1 hi) cl4 hx1.1 iX3_high vX3_high (iw_22 10 rfl) rfl rfl (Nat.le_of_ble_eq_true rfl) (Nat.le_of_ble_eq_true rfl) (Nat.le_of_ble_eq_true rfl) (Nat.le_of_ble_eq_true rfl) (Nat.le_of_ble_eq_true rfl) ?_
      intro r9 M9 n9 h9
      obtain ⟨h91, h92, h93⟩ := h9
      rw [h91, h92, h93]
      clear h91 h92 h93 r9 M9 n9
      refine g_i2l dX5_gatherPairs_71 ?_
      rw [iZ_j hr.2.1 hr.2.2]
      refine g_aload_n dX5_gatherPairs_72 rfl ?_
      refine g_iload dX5_gatherPairs_73 rfl ?_
      refine g_callV dX5_gatherPairs_75 sX3_low (c_low M1 n y j Y hy1 hjl) cl4 hy1.1 iX3_low vX3_low (iw_22 6 rfl) rfl rfl (Nat.le_of_ble_eq_true rfl) (Nat.le_of_ble_eq_true rfl) (Nat.le_of_ble_eq_true rfl) (Nat.le_of_ble_eq_true rfl) (Nat.le_of_ble_eq_true rfl) ?_
      intro r9 M9 n9 h9
      obtain ⟨h91, h92, h93⟩ := h9
      rw [h91, h92, h93]
      clear h91 h92 h93 r9 M9 n9
      refine g_i2l dX5_gatherPairs_78 ?_
      rw [iZ_j hs.1.1 hs.1.2]
      refine g_callS dX5_gatherPairs_79 sX5_exact (c_exact M1 n k (X.getD i (0, 0)).2 (Y.getD j (0, 0)).1 hkk hr.2 hs.1) tX5_exact (iw_22 7 rfl) rfl rfl (Nat.le_of_ble_eq_true rfl) (Nat.le_of_ble_eq_true rfl) (Nat.le_of_ble_eq_true rfl) (Nat.le_of_ble_eq_true rfl) (Nat.le_of_ble_eq_true rfl) ?_
      intro r9 M9 n9 h9
      obtain ⟨h91, h92, h93⟩ := h9
      rw [h91, h92, h93]
      clear h91 h92 h93 r9 M9 n9
      refine g_lstore dX5_gatherPairs_82 (Nat.le_of_ble_eq_true rfl) ?_
      refine g_iload_n dX5_gatherPairs_84 rfl ?_
      refine g_aload_n dX5_gatherPairs_85 rfl ?_
      refine g_iload dX5_gatherPairs_86 rfl ?_
      refine g_callV dX5_gatherPairs_88 sX3_high (c_high M1 n x i X hx1 hi) cl4 hx1.1 iX3_high vX3_high (iw_22 10 rfl) rfl rfl (Nat.le_of_ble_eq_true rfl) (Nat.le_of_ble_eq_true rfl) (Nat.le_of_ble_eq_true rfl) (Nat.le_of_ble_eq_true rfl) (Nat.le_of_ble_eq_true rfl) ?_
      intro r9 M9 n9 h9
      obtain ⟨h91, h92, h93⟩ := h9
      rw [h91, h92, h93]
      clear h91 h92 h93 r9 M9 n9
      refine g_i2l dX5_gatherPairs_91 ?_
      rw [iZ_j hr.2.1 hr.2.2]
      refine g_aload_n dX5_gatherPairs_92 rfl ?_
      refine g_iload dX5_gatherPairs_93 rfl ?_
      refine g_callV dX5_gatherPairs_95 sX3_high (c_high M1 n y j Y hy1 hjl) cl4 hy1.1 iX3_high vX3_high (iw_22 10 rfl) rfl rfl (Nat.le_of_ble_eq_true rfl) (Nat.le_of_ble_eq_true rfl) (Nat.le_of_ble_eq_true rfl) (Nat.le_of_ble_eq_true rfl) (Nat.le_of_ble_eq_true rfl) ?_
      intro r9 M9 n9 h9
      obtain ⟨h91, h92, h93⟩ := h9
      rw [h91, h92, h93]
      clear h91 h92 h93 r9 M9 n9
      refine g_i2l dX5_gatherPairs_98 ?_
      rw [iZ_j hs.2.1 hs.2.2]
      refine g_callS dX5_gatherPairs_99 sX5_exact (c_exact M1 n k (X.getD i (0, 0)).2 (Y.getD j (0, 0)).2 hkk hr.2 hs.2) tX5_exact (iw_22 7 rfl) rfl rfl (Nat.le_of_ble_eq_true rfl) (Nat.le_of_ble_eq_true rfl) (Nat.le_of_ble_eq_true rfl) (Nat.le_of_ble_eq_true rfl) (Nat.le_of_ble_eq_true rfl) ?_
      intro r9 M9 n9 h9
      obtain ⟨h91, h92, h93⟩ := h9
      rw [h91, h92, h93]
      clear h91 h92 h93 r9 M9 n9
      refine g_lstore dX5_gatherPairs_102 (Nat.le_of_ble_eq_true rfl) ?_
      refine g_lload dX5_gatherPairs_104 rfl ?_
      refine g_lload dX5_gatherPairs_106 rfl ?_
      refine g_mminJ dX5_gatherPairs_108 (iw_22 3 rfl) (iw_17 6 rfl) (iw_9 19 rfl) (iw_17 7 rfl) (Nat.le_of_ble_eq_true rfl) (Nat.le_of_ble_eq_true rfl) (Nat.le_of_ble_eq_true rfl) (Nat.le_of_ble_eq_true rfl) ?_
      rw [jI_min' q1 q2]
      refine g_lload dX5_gatherPairs_111 rfl ?_
      refine g_lload dX5_gatherPairs_113 rfl ?_
      refine g_mminJ dX5_gatherPairs_115 (iw_22 3 rfl) (iw_17 6 rfl) (iw_9 19 rfl) (iw_17 7 rfl) (Nat.le_of_ble_eq_true rfl) (Nat.le_of_ble_eq_true rfl) (Nat.le_of_ble_eq_true rfl) (Nat.le_of_ble_eq_true rfl) ?_
      rw [jI_min' q3 q4]
      refine g_mminJ dX5_gatherPairs_118 (iw_22 3 rfl) (iw_17 6 rfl) (iw_9 19 rfl) (iw_17 7 rfl) (Nat.le_of_ble_eq_true rfl) (Nat.le_of_ble_eq_true rfl) (Nat.le_of_ble_eq_true rfl) (Nat.le_of_ble_eq_true rfl) ?_
      rw [jI_min' (by constructor <;> omega) (by constructor <;> omega)]
      refine g_lstore dX5_gatherPairs_121 (Nat.le_of_ble_eq_true rfl) ?_
      refine g_lload dX5_gatherPairs_123 rfl ?_
      refine g_lload dX5_gatherPairs_125 rfl ?_
      refine g_mmaxJ dX5_gatherPairs_127 (iw_22 4 rfl) (iw_17 3 rfl) (iw_9 19 rfl) (iw_17 4 rfl) (Nat.le_of_ble_eq_true rfl) (Nat.le_of_ble_eq_true rfl) (Nat.le_of_ble_eq_true rfl) (Nat.le_of_ble_eq_true rfl) ?_
      rw [jI_max q1 q2]
      refine g_lload dX5_gatherPairs_130 rfl ?_
      refine g_lload dX5_gatherPairs_132 rfl ?_
      refine g_mmaxJ dX5_gatherPairs_134 (iw_22 4 rfl) (iw_17 3 rfl) (iw_9 19 rfl) (iw_17 4 rfl) (Nat.le_of_ble_eq_true rfl) (Nat.le_of_ble_eq_true rfl) (Nat.le_of_ble_eq_true rfl) (Nat.le_of_ble_eq_true rfl) ?_
      rw [jI_max q3 q4]
      refine g_mmaxJ dX5_gatherPairs_137 (iw_22 4 rfl) (iw_17 3 rfl) (iw_9 19 rfl) (iw_17 4 rfl) (Nat.le_of_ble_eq_true rfl) (Nat.le_of_ble_eq_true rfl) (Nat.le_of_ble_eq_true rfl) (Nat.le_of_ble_eq_true rfl) ?_
      rw [jI_max (by constructor <;> omega) (by constructor <;> omega)]
      refine g_lstore dX5_gatherPairs_140 (Nat.le_of_ble_eq_true rfl) ?_
      refine g_aload_n dX5_gatherPairs_142 rfl ?_
      refine g_getR (f := 0) dX5_gatherPairs_143 cl6 (show mK M1 v = 6 by rw [hO.1]; exact hv) (by decide) (Or.inl (iw_4 23 rfl)) (Or.inl rfl) rfl (show mR M1 v 0 = some (v + 1) by rw [hO.2.2.1]; exact hv0) ?_
      refine g_lload dX5_gatherPairs_146 rfl ?_
      refine g_lload dX5_gatherPairs_148 rfl ?_
      refine g_ldc2 (v := jI (-2147483648)) dX5_gatherPairs_150 (iw_16 16 rfl) ?_
      refine g_ldc2 (v := jI (4294967296)) dX5_gatherPairs_153 (iw_22 5 rfl) ?_
      refine g_callV dX5_gatherPairs_156 sX0_addRound (c_round M1 n (v + 1) (U ++ (prP k (X.take i) Y ++ (Y.take j).flatMap (exP k (X.getD i (0, 0))))) (min (min (exZ k (X.getD i (0, 0)).1 (Y.getD j (0, 0)).1) (exZ k (X.getD i (0, 0)).1 (Y.getD j (0, 0)).2)) (min (exZ k (X.getD i (0, 0)).2 (Y.getD j (0, 0)).1) (exZ k (X.getD i (0, 0)).2 (Y.getD j (0, 0)).2))) (max (max (exZ k (X.getD i (0, 0)).1 (Y.getD j (0, 0)).1) (exZ k (X.getD i (0, 0)).1 (Y.getD j (0, 0)).2)) (max (exZ k (X.getD i (0, 0)).2 (Y.getD j (0, 0)).1) (exZ k (X.getD i (0, 0)).2 (Y.getD j (0, 0)).2))) (-2147483648) 4294967296 hI (by rw [List.length_append, List.length_append]; omega) (r5L_app.mpr ⟨h5, cwl.2⟩) (by omega) (by omega) (by omega) (by omega) (by omega) (by omega) (by omega)) cl1 hI.g.1 iX0_addRound vX0_addRound (iw_22 11 rfl) rfl rfl (Nat.le_of_ble_eq_true rfl) (Nat.le_of_ble_eq_true rfl) (Nat.le_of_ble_eq_true rfl) (Nat.le_of_ble_eq_true rfl) (Nat.le_of_ble_eq_true rfl) ?_
      intro r9 M2 n9 h9
      obtain ⟨h91, h93, hO2, hI2⟩ := h9
      rw [h91, h93]
      clear h91 h93 r9 n9
      refine g_msk [true, true, true, true, true, true, false, false, false, false, false, false, false, false, false, false, false, false] ?_
      refine g_iinc dX5_gatherPairs_159 rfl (nI_1 j) (Nat.le_of_ble_eq_true rfl) ?_
      refine g_goto (tgt := 15) dX5_gatherPairs_162 (by decide) ?_
      have hx1 := hX.offY hg0 hO
      have hy1 := hY.offY hg0 hO
      have l2 := hX.2.1.2.1
      have l3 := hY.2.1.2.1
      exact ih (j + 1) M2 (by omega) (by omega) (hO.trans hO2) (by
        rw [fl_take hjl]
        rw [← wrW_rnd, List.append_assoc, List.append_assoc] at hI2
        exact hI2)

set_option maxHeartbeats 4000000 in
set_option maxRecDepth 100000 in
theorem k_pr1 {M : gM} {n v x y k : Nat} {X Y U : List Sp} {Q : gθ} (hg0 : gG M (v + 1)) (hX : cS M x X) (hY : cS M y Y) (hl : U.length + 8 ≤ 16) (h5 : r5L U) (hkk : k = 2 ∨ k = 3 ∨ k = 4 ∨ k = 7) (hv : mK M v = 6) (hv0 : mR M v 0 = some (v + 1)) (hk : ∀ M1, Off M M1 (fY (v + 1)) → gt M1 (v + 1) (U ++ prP k X Y) → GW μX5_gatherPairs (gRm 2 57 0 0) Q 0 0 171 [some (.ref v), some (.int (nI k)), some (.ref x), some (.ref y), none, none, none, none, none, none, none, none, none, none, none, none, none, none] [] M1 n) : ∀ (d : Nat) (i : Nat) (M1 : gM), X.length - i < d → i ≤ X.length → Off M M1 (fY (v + 1)) → gt M1 (v + 1) (U ++ prP k (X.take i) Y) → GW μX5_gatherPairs (gRm 2 57 0 0) Q 0 0 3 [some (.ref v), some (.int (nI k)), some (.ref x), some (.ref y), some (.int (nI i)), none, none, none, none, none, none, none, none, none, none, none, none, none] [] M1 n := by
  intro d
  induction d with
  | zero =>
    intro i M1 hd hi hO hI
    omega
  | succ d ih =>
    intro i M1 hd hi hO hI
    have hx1 := hX.offY hg0 hO
    have hy1 := hY.offY hg0 hO
    have l2 := hX.2.1.2.1
    refine g_iload dX5_gatherPairs_3 rfl ?_
    refine g_aload_n dX5_gatherPairs_5 rfl ?_
    refine g_getI (f := 0) dX5_gatherPairs_6 cl4 hx1.1 (by decide) (Or.inr (List.mem_of_getElem? (i := 27) rfl)) (Or.inl rfl) (Or.inl rfl) ?_
    rw [hx1.2.2.1]
    refine g_icmp_ge (tgt := 171) dX5_gatherPairs_9 (by decide) (fun c_9 => ?_) (fun c_9 => ?_)
    · skip
      rw [nI_leI (by omega) (by omega)] at c_9
      refine g_drop 4 ?_
      exact hk M1 hO (by rw [List.take_of_length_le (by omega)] at hI; exact hI)
    · skip
      rw [nI_leI (by omega) (by omega)] at c_9
      have hil : i < X.length := by omega
      refine g_iconst (v := nI 0) dX5_gatherPairs_12 rfl ?_
      refine g_istore dX5_gatherPairs_13 (Nat.le_of_ble_eq_true rfl) ?_
      refine k_pr2 (hg0.off hO) hx1 hy1 hl h5 hkk (by rw [hO.1]; exact hv) (by rw [hO.2.2.1]; exact hv0) hil (fun M2 hO2 hI2 => ?_) (Y.length + 1) 0 M1 (by omega) (by omega) Off.rf (by simpa using hI)
      refine g_iinc dX5_gatherPairs_165 rfl (nI_1 i) (Nat.le_of_ble_eq_true rfl) ?_
      refine g_goto (tgt := 3) dX5_gatherPairs_168 (by decide) ?_
      exact ih (i + 1) M2 (by omega) (by omega) (hO.trans hO2) hI2

set_option maxHeartbeats 4000000 in
set_option maxRecDepth 100000 in
theorem c_pairs (M : gM) (n v k x y : Nat) (U X Y : List Sp) (hU : gt M (v + 1) U) (hX : cS M x X) (hY : cS M y Y) (hl : U.length + 8 ≤ 16) (h5 : r5L U) (hkk : k = 2 ∨ k = 3 ∨ k = 4 ∨ k = 7) (hv : mK M v = 6) (hv0 : mR M v 0 = some (v + 1)) : GM μX5_gatherPairs 2 57 0 0 [.ref v, .int (nI k), .ref x, .ref y] M n (fun r M1 n1 => r = none ∧ n1 = n ∧ Off M M1 (fY (v + 1)) ∧ gt M1 (v + 1) (U ++ prP k X Y)) := by
  refine GM.ofW (by decide) rfl (Nat.le_of_ble_eq_true rfl) rfl ?_
  refine g_iconst (v := nI 0) dX5_gatherPairs_0 rfl ?_
  refine g_istore dX5_gatherPairs_1 (Nat.le_of_ble_eq_true rfl) ?_
  refine k_pr1 hU.g hX hY hl h5 hkk hv hv0 (fun M2 hO2 hI2 => ?_) (X.length + 1) 0 M (by omega) (by omega) Off.rf (by simpa [prP] using hU)
  exact g_vret dX5_gatherPairs_171 rfl (Nat.le_refl _) (Nat.le_refl _) ⟨rfl, rfl, hO2, hI2⟩

