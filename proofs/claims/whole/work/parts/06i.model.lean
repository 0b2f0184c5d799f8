/-! the reference: places, facts, sets compared -/
/-- of the locals, those that are still wanted -/
def msk : List Bool → List (Option Value) → List (Option Value)
  | true :: bs, x :: l => x :: msk bs l
  | false :: bs, _ :: l => none :: msk bs l
  | _, _ => []
theorem msk_get : ∀ (bs : List Bool) (l : List (Option Value)) (i : Nat) (v : Value), (msk bs l)[i]? = some (some v) → l[i]? = some (some v)
  | true :: bs, x :: l, 0, v, h => h
  | true :: bs, x :: l, i + 1, v, h => by simpa using msk_get bs l i v (by simpa [msk] using h)
  | false :: bs, x :: l, 0, v, h => by simp [msk] at h
  | false :: bs, x :: l, i + 1, v, h => by simpa using msk_get bs l i v (by simpa [msk] using h)
  | [], l, i, v, h => by simp [msk] at h
  | true :: bs, [], i, v, h => by simp [msk] at h
  | false :: bs, [], i, v, h => by simp [msk] at h
theorem g_msk {μ : gμ} {R : Room} {Q : gθ} {k q pc : Nat} {lv : List (Option Value)} {st : List Value} {M : gM} {n : Nat} (bs : List Bool) (kk : GW μ R Q k q pc (msk bs lv) st M n) : GW μ R Q k q pc lv st M n := by
  intro p l e s m args below meth c D cy b H locs ls hC hP hS hl
  exact kk p l e s m args below meth c D cy b H locs ls hC hP hS ⟨hl.1, hl.2.1, fun i v h => hl.2.2 i v (msk_get bs lv i v h)⟩
/-- the place that an int names -/
def pl (a : Int32) : Nat := a.toInt.toNat
abbrev isP (a : Int32) : Prop := 0 ≤ a.toInt ∧ a.toInt ≤ 7
theorem pl_eq {a : Int32} (h : 0 ≤ a.toInt) : a = nI (pl a) := by
  rw [nI_iZ]
  unfold pl
  rw [Int.toNat_of_nonneg h]
  exact iZ_of a
theorem isP.lt {a : Int32} (h : isP a) : pl a < 8 := by have h1 := h.2; have h0 := h.1; unfold pl; omega
theorem isP.eq {a : Int32} (h : isP a) : a = nI (pl a) := pl_eq h.1
theorem nI_inj {a c : Nat} (ha : a < 2147483648) (hc : c < 2147483648) : nI a = nI c ↔ a = c := by
  rw [nI_iZ, nI_iZ, iZ_eq (by constructor <;> omega) (by constructor <;> omega)]; omega
def smB (X Y : List Sp) (k : Nat) : Bool := decide (X.length = Y.length) && decide (X.take k = Y.take k)
theorem smB_full {X Y : List Sp} {k : Nat} (h : X.length ≤ k) (h2 : smB X Y k = true ∨ k ≤ X.length) : smB X Y k = decide (X = Y) := by
  unfold smB
  by_cases e : X.length = Y.length
  · rw [List.take_of_length_le h, List.take_of_length_le (by omega)]
    simp [e]
  · rw [decide_eq_false e]
    have : X ≠ Y := fun q => e (by rw [q])
    simp [this]
theorem smB_step {X Y : List Sp} {k : Nat} (hs : smB X Y k = true) (hk : k < X.length) : smB X Y (k + 1) = decide (X.getD k (0, 0) = Y.getD k (0, 0)) := by
  unfold smB at hs ⊢
  rw [Bool.and_eq_true, decide_eq_true_eq, decide_eq_true_eq] at hs
  rw [decide_eq_true hs.1, Bool.true_and, take_one hk, take_one (show k < Y.length by omega), hs.2]
  by_cases e : X.getD k (0, 0) = Y.getD k (0, 0)
  · rw [e]; simp
  · rw [decide_eq_false e, decide_eq_false]
    intro q
    have := List.append_cancel_left q
    simp only [List.cons.injEq, and_true] at this
    exact e this
theorem smB_no {X Y : List Sp} {k : Nat} (hs : smB X Y k = false) : decide (X = Y) = false := by
  rw [decide_eq_false_iff_not]
  rintro rfl
  unfold smB at hs
  simp at hs
theorem m_isInZ (M : gM) (n : Nat) (v a b : Int) (hv : r6 v) (ha : r6 a) (hb : r6 b) : GM μX9_isIn 0 0 0 0 [.long (jI v), .long (jI a), .long (jI b)] M n (fun r M1 n1 => r = some (.int (bI (decide (a ≤ v ∧ v ≤ b)))) ∧ M1 = M ∧ n1 = n) := GM.imp (m_isIn M n _ _ _) (fun r M1 n1 h => ⟨by rw [h.1]; simp only [jI_le ha hv, jI_le hv hb], h.2⟩)

set_option maxHeartbeats 4000000 in
set_option maxRecDepth 100000 in
theorem m_isPlace (M : gM) (n : Nat) (x : Int32) : GM μX9_isPlace 1 25 0 0 [.int x] M n (fun r M1 n1 => r = some (.int (bI (decide (isP x)))) ∧ M1 = M ∧ n1 = n) := by
  refine GM.ofW (by decide) rfl (Nat.le_of_ble_eq_true rfl) rfl ?_
  have hx := i_rng x
  refine g_iload_n dX9_isPlace_0 rfl ?_
  refine g_i2l dX9_isPlace_1 ?_
  rw [i_j]
  refine g_lconst (v := jI 0) dX9_isPlace_2 rfl ?_
  refine g_ldc2 (v := jI (7)) dX9_isPlace_3 (iw_13 4 rfl) ?_
  refine g_callS dX9_isPlace_6 sX9_isIn (m_isInZ M n x.toInt 0 7 (by constructor <;> omega) (by constructor <;> omega) (by constructor <;> omega)) tX9_isIn (iw_12 22 rfl) rfl rfl (Nat.le_of_ble_eq_true rfl) (Nat.le_of_ble_eq_true rfl) (Nat.le_of_ble_eq_true rfl) (Nat.le_of_ble_eq_true rfl) (Nat.le_of_ble_eq_true rfl) ?_
  intro r9 M9 n9 h9
  obtain ⟨h91, h92, h93⟩ := h9
  rw [h91, h92, h93]
  clear h91 h92 h93 r9 M9 n9
  exact g_iret dX9_isPlace_9 (Or.inr ⟨rfl, bI_01 _⟩) (Nat.le_of_ble_eq_true rfl) (Nat.le_of_ble_eq_true rfl) ⟨rfl, rfl, rfl⟩

set_option maxHeartbeats 4000000 in
set_option maxRecDepth 100000 in
theorem m_fact (M : gM) (n m a p : Nat) : GM μX9_fact 0 0 0 0 [.ref m, .int (nI a), .int (nI p)] M n (fun r M1 n1 => r = some (.int (nI (8 * a + p))) ∧ M1 = M ∧ n1 = n) := by
  refine GM.ofW (by decide) rfl (Nat.le_of_ble_eq_true rfl) rfl ?_
  refine g_bipush (v := nI 8) dX9_fact_0 rfl ?_
  refine g_iload_n dX9_fact_2 rfl ?_
  refine g_imul dX9_fact_3 ?_
  refine g_iload_n dX9_fact_4 rfl ?_
  refine g_iadd dX9_fact_5 ?_
  exact g_iret dX9_fact_6 (Or.inl rfl) (Nat.le_of_ble_eq_true rfl) (Nat.le_of_ble_eq_true rfl) ⟨by simp only [pk_mul, nI_add], rfl, rfl⟩

set_option maxHeartbeats 4000000 in
set_option maxRecDepth 100000 in
theorem l_same {M : gM} {n m a b : Nat} {X Y : List Sp} {post : gPo} (hm : gMod M m) (ha : a < 360) (hb : b < 360) (hX : iS M m a X) (hY : iS M m b Y) (oX : okX X) (oY : okX Y) (hq : post (some (.int (bI (decide (X = Y))))) M n) : ∀ (d : Nat) (k : Nat), X.length - k < d → k ≤ X.length → GW μX9_same (gRm 1 22 0 0) (gTh post 0 0) 0 0 24 [some (.ref m), some (.int (nI a)), some (.int (nI b)), some (.int (bI (smB X Y k))), some (.int (nI k))] [] M n := by
  intro d
  induction d with
  | zero =>
    intro k hd hk
    omega
  | succ d ih =>
    intro k hd hk
    refine g_iload dX9_same_24 rfl ?_
    refine g_aload_n dX9_same_26 rfl ?_
    refine g_getR (f := 1) dX9_same_27 cl10 hm.1 (by decide) (Or.inl (iw_5 20 rfl)) (Or.inl rfl) rfl hm.r_many ?_
    refine g_iload_n dX9_same_30 rfl ?_
    refine g_iaload dX9_same_31 (j := a) hm.k_many hm.n_many rfl (by omega) (by decide) ?_
    rw [hX.2.1]
    have hX2 := hX.1
    refine g_icmp_ge (tgt := 87) dX9_same_32 (by decide) (fun c_32 => ?_) (fun c_32 => ?_)
    · skip
      refine g_iload_n dX9_same_87 rfl ?_
      exact g_iret dX9_same_88 (Or.inr ⟨rfl, bI_01 _⟩) (Nat.le_of_ble_eq_true rfl) (Nat.le_of_ble_eq_true rfl) (by
        first
          | (rw [bI_eq0] at c_36; rw [smB_no c_36] at hq; rw [c_36]; exact hq)
          | (rw [nI_leI (by omega) (by omega)] at c_32; rw [smB_full (by omega) (Or.inr hk)]; exact hq))
    · skip
      rw [nI_leI (by omega) (by omega)] at c_32
      have hk2 : k < X.length := by omega
      refine g_iload_n dX9_same_35 rfl ?_
      refine g_if_eq (tgt := 87) dX9_same_36 (by decide) (fun c_36 => ?_) (fun c_36 => ?_)
      · skip
        refine g_iload_n dX9_same_87 rfl ?_
        exact g_iret dX9_same_88 (Or.inr ⟨rfl, bI_01 _⟩) (Nat.le_of_ble_eq_true rfl) (Nat.le_of_ble_eq_true rfl) (by
          first
            | (rw [bI_eq0] at c_36; rw [smB_no c_36] at hq; rw [c_36]; exact hq)
            | (rw [nI_leI (by omega) (by omega)] at c_32; rw [smB_full (by omega) (Or.inr hk)]; exact hq))
      · skip
        rw [bI_eq0, Bool.not_eq_false] at c_36
        have hk3 : k < Y.length := by
          have h9 := c_36
          unfold smB at h9
          rw [Bool.and_eq_true, decide_eq_true_eq] at h9
          omega
        obtain ⟨x1, x2⟩ := r5_getD oX.2.2 hk2
        obtain ⟨y1, y2⟩ := r5_getD oY.2.2 hk3
        refine g_aload_n dX9_same_39 rfl ?_
        refine g_iload_n dX9_same_40 rfl ?_
        refine g_iload dX9_same_41 rfl ?_
        refine g_callV dX9_same_43 sX9_low (m_loX M n m a k X hm ha hX hk2) cl10 hm.1 iX9_low vX9_low (iw_26 0 rfl) rfl rfl (Nat.le_of_ble_eq_true rfl) (Nat.le_of_ble_eq_true rfl) (Nat.le_of_ble_eq_true rfl) (Nat.le_of_ble_eq_true rfl) (Nat.le_of_ble_eq_true rfl) ?_
        intro r9 M9 n9 h9
        obtain ⟨h91, h92, h93⟩ := h9
        rw [h91, h92, h93]
        clear h91 h92 h93 r9 M9 n9
        refine g_aload_n dX9_same_46 rfl ?_
        refine g_iload_n dX9_same_47 rfl ?_
        refine g_iload dX9_same_48 rfl ?_
        refine g_callV dX9_same_50 sX9_low (m_loX M n m b k Y hm hb hY hk3) cl10 hm.1 iX9_low vX9_low (iw_26 0 rfl) rfl rfl (Nat.le_of_ble_eq_true rfl) (Nat.le_of_ble_eq_true rfl) (Nat.le_of_ble_eq_true rfl) (Nat.le_of_ble_eq_true rfl) (Nat.le_of_ble_eq_true rfl) ?_
        intro r9 M9 n9 h9
        obtain ⟨h91, h92, h93⟩ := h9
        rw [h91, h92, h93]
        clear h91 h92 h93 r9 M9 n9
        refine g_lcmp dX9_same_53 ?_
        refine g_if_ne (tgt := 79) dX9_same_54 (by decide) (fun c_54 => ?_) (fun c_54 => ?_)
        · skip
          try rw [jc_eq (r6_of x1) (r6_of y1)] at c_54
          try rw [jc_eq (r6_of x2) (r6_of y2)] at c_72
          refine g_iconst (v := nI 0) dX9_same_79 rfl ?_
          refine g_istore_n dX9_same_80 (Nat.le_of_ble_eq_true rfl) ?_
          refine g_iinc dX9_same_81 rfl (nI_1 k) (Nat.le_of_ble_eq_true rfl) ?_
          refine g_goto (tgt := 24) dX9_same_84 (by decide) ?_
          have hg := ih (k + 1) (by omega) (by omega)
          rw [smB_step c_36 hk2] at hg
          first
            | (rw [decide_eq_true (Prod.ext (by omega) (by omega))] at hg; exact hg)
            | (rw [decide_eq_false (fun q => by rw [q] at c_54; exact c_54 rfl)] at hg; exact hg)
            | (rw [decide_eq_false (fun q => by rw [q] at c_72; exact c_72 rfl)] at hg; exact hg)
        · skip
          rw [jc_eq (r6_of x1) (r6_of y1)] at c_54
          refine g_aload_n dX9_same_57 rfl ?_
          refine g_iload_n dX9_same_58 rfl ?_
          refine g_iload dX9_same_59 rfl ?_
          refine g_callV dX9_same_61 sX9_high (m_hiX M n m a k X hm ha hX hk2) cl10 hm.1 iX9_high vX9_high (iw_26 4 rfl) rfl rfl (Nat.le_of_ble_eq_true rfl) (Nat.le_of_ble_eq_true rfl) (Nat.le_of_ble_eq_true rfl) (Nat.le_of_ble_eq_true rfl) (Nat.le_of_ble_eq_true rfl) ?_
          intro r9 M9 n9 h9
          obtain ⟨h91, h92, h93⟩ := h9
          rw [h91, h92, h93]
          clear h91 h92 h93 r9 M9 n9
          refine g_aload_n dX9_same_64 rfl ?_
          refine g_iload_n dX9_same_65 rfl ?_
          refine g_iload dX9_same_66 rfl ?_
          refine g_callV dX9_same_68 sX9_high (m_hiX M n m b k Y hm hb hY hk3) cl10 hm.1 iX9_high vX9_high (iw_26 4 rfl) rfl rfl (Nat.le_of_ble_eq_true rfl) (Nat.le_of_ble_eq_true rfl) (Nat.le_of_ble_eq_true rfl) (Nat.le_of_ble_eq_true rfl) (Nat.le_of_ble_eq_true rfl) ?_
          intro r9 M9 n9 h9
          obtain ⟨h91, h92, h93⟩ := h9
          rw [h91, h92, h93]
          clear h91 h92 h93 r9 M9 n9
          refine g_lcmp dX9_same_71 ?_
          refine g_if_ne (tgt := 79) dX9_same_72 (by decide) (fun c_72 => ?_) (fun c_72 => ?_)
          · skip
            try rw [jc_eq (r6_of x1) (r6_of y1)] at c_54
            try rw [jc_eq (r6_of x2) (r6_of y2)] at c_72
            refine g_iconst (v := nI 0) dX9_same_79 rfl ?_
            refine g_istore_n dX9_same_80 (Nat.le_of_ble_eq_true rfl) ?_
            refine g_iinc dX9_same_81 rfl (nI_1 k) (Nat.le_of_ble_eq_true rfl) ?_
            refine g_goto (tgt := 24) dX9_same_84 (by decide) ?_
            have hg := ih (k + 1) (by omega) (by omega)
            rw [smB_step c_36 hk2] at hg
            first
              | (rw [decide_eq_true (Prod.ext (by omega) (by omega))] at hg; exact hg)
              | (rw [decide_eq_false (fun q => by rw [q] at c_54; exact c_54 rfl)] at hg; exact hg)
              | (rw [decide_eq_false (fun q => by rw [q] at c_72; exact c_72 rfl)] at hg; exact hg)
          · skip
            rw [jc_eq (r6_of x2) (r6_of y2)] at c_72
            refine g_iconst (v := nI 1) dX9_same_75 rfl ?_
            refine g_goto (tgt := 80) dX9_same_76 (by decide) ?_
            refine g_istore_n dX9_same_80 (Nat.le_of_ble_eq_true rfl) ?_
            refine g_iinc dX9_same_81 rfl (nI_1 k) (Nat.le_of_ble_eq_true rfl) ?_
            refine g_goto (tgt := 24) dX9_same_84 (by decide) ?_
            have hg := ih (k + 1) (by omega) (by omega)
            rw [smB_step c_36 hk2] at hg
            first
              | (rw [decide_eq_true (Prod.ext (by omega) (by omega))] at hg; exact hg)
              | (rw [decide_eq_false (fun q => by rw [q] at c_54; exact c_54 rfl)] at hg; exact hg)
              | (rw [decide_eq_false (fun q => by rw [q] at c_72; exact c_72 rfl)] at hg; exact hg)

set_option maxHeartbeats 4000000 in
set_option maxRecDepth 100000 in
theorem m_same (M : gM) (n m a b : Nat) (X Y : List Sp) (hm : gMod M m) (ha : a < 360) (hb : b < 360) (hX : iS M m a X) (hY : iS M m b Y) (oX : okX X) (oY : okX Y) : GM μX9_same 1 22 0 0 [.ref m, .int (nI a), .int (nI b)] M n (fun r M1 n1 => r = some (.int (bI (decide (X = Y)))) ∧ M1 = M ∧ n1 = n) := by
  refine GM.ofW (by decide) rfl (Nat.le_of_ble_eq_true rfl) rfl ?_
  refine g_aload_n dX9_same_0 rfl ?_
  refine g_getR (f := 1) dX9_same_1 cl10 hm.1 (by decide) (Or.inl (iw_5 20 rfl)) (Or.inl rfl) rfl hm.r_many ?_
  refine g_iload_n dX9_same_4 rfl ?_
  refine g_iaload dX9_same_5 (j := a) hm.k_many hm.n_many rfl (by omega) (by decide) ?_
  refine g_aload_n dX9_same_6 rfl ?_
  refine g_getR (f := 1) dX9_same_7 cl10 hm.1 (by decide) (Or.inl (iw_5 20 rfl)) (Or.inl rfl) rfl hm.r_many ?_
  refine g_iload_n dX9_same_10 rfl ?_
  refine g_iaload dX9_same_11 (j := b) hm.k_many hm.n_many rfl (by omega) (by decide) ?_
  rw [hX.2.1, hY.2.1]
  refine g_icmp_ne (tgt := 19) dX9_same_12 (by decide) (fun c_12 => ?_) (fun c_12 => ?_)
  · skip
    have l1 := oX.2.1
    have l2 := oY.2.1
    rw [nI_inj (by omega) (by omega)] at c_12
    refine g_iconst (v := nI 0) dX9_same_19 rfl ?_
    refine g_istore_n dX9_same_20 (Nat.le_of_ble_eq_true rfl) ?_
    refine g_iconst (v := nI 0) dX9_same_21 rfl ?_
    refine g_istore dX9_same_22 (Nat.le_of_ble_eq_true rfl) ?_
    have hl := l_same (n := n) hm ha hb hX hY oX oY (post := fun r M1 n1 => r = some (.int (bI (decide (X = Y)))) ∧ M1 = M ∧ n1 = n) ⟨rfl, rfl, rfl⟩ (X.length + 1) 0 (by omega) (by omega)
    unfold smB at hl
    rw [List.take_zero, List.take_zero] at hl
    first
      | (rw [decide_eq_true c_12] at hl; exact hl)
      | (rw [decide_eq_false c_12] at hl; exact hl)
  · skip
    have l1 := oX.2.1
    have l2 := oY.2.1
    rw [nI_inj (by omega) (by omega)] at c_12
    refine g_iconst (v := nI 1) dX9_same_15 rfl ?_
    refine g_goto (tgt := 20) dX9_same_16 (by decide) ?_
    refine g_istore_n dX9_same_20 (Nat.le_of_ble_eq_true rfl) ?_
    refine g_iconst (v := nI 0) dX9_same_21 rfl ?_
    refine g_istore dX9_same_22 (Nat.le_of_ble_eq_true rfl) ?_
    have hl := l_same (n := n) hm ha hb hX hY oX oY (post := fun r M1 n1 => r = some (.int (bI (decide (X = Y)))) ∧ M1 = M ∧ n1 = n) ⟨rfl, rfl, rfl⟩ (X.length + 1) 0 (by omega) (by omega)
    unfold smB at hl
    rw [List.take_zero, List.take_zero] at hl
    first
      | (rw [decide_eq_true c_12] at hl; exact hl)
      | (rw [decide_eq_false c_12] at hl; exact hl)

def aloB (X : List Sp) : Bool := decide (X.length = 1) && decide ((X.getD 0 (0, 0)).1 = (X.getD 0 (0, 0)).2)
set_option maxHeartbeats 4000000 in
set_option maxRecDepth 100000 in
theorem m_isAlone (M : gM) (n m a : Nat) (X : List Sp) (hm : gMod M m) (ha : a < 360) (hX : iS M m a X) (oX : okX X) : GM μX9_isAlone 1 22 0 0 [.ref m, .int (nI a)] M n (fun r M1 n1 => r = some (.int (bI (aloB X))) ∧ M1 = M ∧ n1 = n) := by
  refine GM.ofW (by decide) rfl (Nat.le_of_ble_eq_true rfl) rfl ?_
  have l1 := oX.2.1
  refine g_aload_n dX9_isAlone_0 rfl ?_
  refine g_getR (f := 1) dX9_isAlone_1 cl10 hm.1 (by decide) (Or.inl (iw_5 20 rfl)) (Or.inl rfl) rfl hm.r_many ?_
  refine g_iload_n dX9_isAlone_4 rfl ?_
  refine g_iaload dX9_isAlone_5 (j := a) hm.k_many hm.n_many rfl (by omega) (by decide) ?_
  rw [hX.2.1]
  refine g_iconst (v := nI 1) dX9_isAlone_6 rfl ?_
  refine g_icmp_ne (tgt := 30) dX9_isAlone_7 (by decide) (fun c_7 => ?_) (fun c_7 => ?_)
  · skip
    try rw [jc_eq (r6_of x1) (r6_of x2)] at c_23
    try rw [nI_inj (by omega) (by omega)] at c_7
    refine g_iconst (v := nI 0) dX9_isAlone_30 rfl ?_
    exact g_iret dX9_isAlone_31 (Or.inr ⟨rfl, by first | exact Or.inl rfl | exact Or.inr rfl⟩) (Nat.le_of_ble_eq_true rfl) (Nat.le_of_ble_eq_true rfl) ⟨by
      unfold aloB
      first
        | (rw [decide_eq_true c_7, decide_eq_true c_23]; rfl)
        | (rw [decide_eq_true c_7, decide_eq_false c_23]; rfl)
        | (rw [decide_eq_false c_7]; rfl), rfl, rfl⟩
  · skip
    rw [nI_inj (by omega) (by omega)] at c_7
    have h0 : 0 < X.length := by omega
    obtain ⟨x1, x2⟩ := r5_getD oX.2.2 h0
    refine g_aload_n dX9_isAlone_10 rfl ?_
    refine g_iload_n dX9_isAlone_11 rfl ?_
    refine g_iconst (v := nI 0) dX9_isAlone_12 rfl ?_
    refine g_callV dX9_isAlone_13 sX9_low (m_loX M n m a 0 X hm ha hX h0) cl10 hm.1 iX9_low vX9_low (iw_26 0 rfl) rfl rfl (Nat.le_of_ble_eq_true rfl) (Nat.le_of_ble_eq_true rfl) (Nat.le_of_ble_eq_true rfl) (Nat.le_of_ble_eq_true rfl) (Nat.le_of_ble_eq_true rfl) ?_
    intro r9 M9 n9 h9
    obtain ⟨h91, h92, h93⟩ := h9
    rw [h91, h92, h93]
    clear h91 h92 h93 r9 M9 n9
    refine g_aload_n dX9_isAlone_16 rfl ?_
    refine g_iload_n dX9_isAlone_17 rfl ?_
    refine g_iconst (v := nI 0) dX9_isAlone_18 rfl ?_
    refine g_callV dX9_isAlone_19 sX9_high (m_hiX M n m a 0 X hm ha hX h0) cl10 hm.1 iX9_high vX9_high (iw_26 4 rfl) rfl rfl (Nat.le_of_ble_eq_true rfl) (Nat.le_of_ble_eq_true rfl) (Nat.le_of_ble_eq_true rfl) (Nat.le_of_ble_eq_true rfl) (Nat.le_of_ble_eq_true rfl) ?_
    intro r9 M9 n9 h9
    obtain ⟨h91, h92, h93⟩ := h9
    rw [h91, h92, h93]
    clear h91 h92 h93 r9 M9 n9
    refine g_lcmp dX9_isAlone_22 ?_
    refine g_if_ne (tgt := 30) dX9_isAlone_23 (by decide) (fun c_23 => ?_) (fun c_23 => ?_)
    · skip
      try rw [jc_eq (r6_of x1) (r6_of x2)] at c_23
      try rw [nI_inj (by omega) (by omega)] at c_7
      refine g_iconst (v := nI 0) dX9_isAlone_30 rfl ?_
      exact g_iret dX9_isAlone_31 (Or.inr ⟨rfl, by first | exact Or.inl rfl | exact Or.inr rfl⟩) (Nat.le_of_ble_eq_true rfl) (Nat.le_of_ble_eq_true rfl) ⟨by
        unfold aloB
        first
          | (rw [decide_eq_true c_7, decide_eq_true c_23]; rfl)
          | (rw [decide_eq_true c_7, decide_eq_false c_23]; rfl)
          | (rw [decide_eq_false c_7]; rfl), rfl, rfl⟩
    · skip
      rw [jc_eq (r6_of x1) (r6_of x2)] at c_23
      refine g_iconst (v := nI 1) dX9_isAlone_26 rfl ?_
      refine g_goto (tgt := 31) dX9_isAlone_27 (by decide) ?_
      exact g_iret dX9_isAlone_31 (Or.inr ⟨rfl, by first | exact Or.inl rfl | exact Or.inr rfl⟩) (Nat.le_of_ble_eq_true rfl) (Nat.le_of_ble_eq_true rfl) ⟨by
        unfold aloB
        first
          | (rw [decide_eq_true c_7, decide_eq_true c_23]; rfl)
          | (rw [decide_eq_true c_7, decide_eq_false c_23]; rfl)
          | (rw [decide_eq_false c_7]; rfl), rfl, rfl⟩

def notR (r : Nat) : Nat := if r = 0 then 4 else if r = 1 then 5 else if r = 2 then 3 else if r = 3 then 2 else if r = 4 then 0 else if r = 5 then 1 else 7
set_option maxHeartbeats 4000000 in
set_option maxRecDepth 100000 in
theorem m_not (M : gM) (n q : Nat) (hr : q < 20) : GM μX9_not 0 0 0 0 [.int (nI q)] M n (fun r M1 n1 => r = some (.int (nI (notR q))) ∧ M1 = M ∧ n1 = n) := by
  refine GM.ofW (by decide) rfl (Nat.le_of_ble_eq_true rfl) rfl ?_
  refine g_iload_n dX9_not_0 rfl ?_
  refine g_if_ne (tgt := 8) dX9_not_1 (by decide) (fun c_1 => ?_) (fun c_1 => ?_)
  · skip
    refine g_iload_n dX9_not_8 rfl ?_
    refine g_iconst (v := nI 1) dX9_not_9 rfl ?_
    refine g_icmp_ne (tgt := 17) dX9_not_10 (by decide) (fun c_10 => ?_) (fun c_10 => ?_)
    · skip
      refine g_iload_n dX9_not_17 rfl ?_
      refine g_iconst (v := nI 2) dX9_not_18 rfl ?_
      refine g_icmp_ne (tgt := 26) dX9_not_19 (by decide) (fun c_19 => ?_) (fun c_19 => ?_)
      · skip
        refine g_iload_n dX9_not_26 rfl ?_
        refine g_iconst (v := nI 3) dX9_not_27 rfl ?_
        refine g_icmp_ne (tgt := 35) dX9_not_28 (by decide) (fun c_28 => ?_) (fun c_28 => ?_)
        · skip
          refine g_iload_n dX9_not_35 rfl ?_
          refine g_iconst (v := nI 4) dX9_not_36 rfl ?_
          refine g_icmp_ne (tgt := 44) dX9_not_37 (by decide) (fun c_37 => ?_) (fun c_37 => ?_)
          · skip
            refine g_iload_n dX9_not_44 rfl ?_
            refine g_iconst (v := nI 5) dX9_not_45 rfl ?_
            refine g_icmp_ne (tgt := 53) dX9_not_46 (by decide) (fun c_46 => ?_) (fun c_46 => ?_)
            · skip
              refine g_bipush (v := nI 7) dX9_not_53 rfl ?_
              exact g_iret dX9_not_55 (Or.inl rfl) (Nat.le_of_ble_eq_true rfl) (Nat.le_of_ble_eq_true rfl) ⟨by
                have z0 : (0 : Int32) = nI 0 := rfl
                rw [z0] at c_1
                simp only [nI_inj (show q < 2147483648 by omega) (show 0 < 2147483648 by omega), nI_inj (show q < 2147483648 by omega) (show 1 < 2147483648 by omega), nI_inj (show q < 2147483648 by omega) (show 2 < 2147483648 by omega), nI_inj (show q < 2147483648 by omega) (show 3 < 2147483648 by omega), nI_inj (show q < 2147483648 by omega) (show 4 < 2147483648 by omega), nI_inj (show q < 2147483648 by omega) (show 5 < 2147483648 by omega)] at *
                unfold notR
                first
                  | rw [if_pos (by omega)]
                  | rw [if_neg (by omega), if_pos (by omega)]
                  | rw [if_neg (by omega), if_neg (by omega), if_pos (by omega)]
                  | rw [if_neg (by omega), if_neg (by omega), if_neg (by omega), if_pos (by omega)]
                  | rw [if_neg (by omega), if_neg (by omega), if_neg (by omega), if_neg (by omega), if_pos (by omega)]
                  | rw [if_neg (by omega), if_neg (by omega), if_neg (by omega), if_neg (by omega), if_neg (by omega), if_pos (by omega)]
                  | rw [if_neg (by omega), if_neg (by omega), if_neg (by omega), if_neg (by omega), if_neg (by omega), if_neg (by omega)], rfl, rfl⟩
            · skip
              refine g_iconst (v := nI 1) dX9_not_49 rfl ?_
              refine g_goto (tgt := 55) dX9_not_50 (by decide) ?_
              exact g_iret dX9_not_55 (Or.inl rfl) (Nat.le_of_ble_eq_true rfl) (Nat.le_of_ble_eq_true rfl) ⟨by
                have z0 : (0 : Int32) = nI 0 := rfl
                rw [z0] at c_1
                simp only [nI_inj (show q < 2147483648 by omega) (show 0 < 2147483648 by omega), nI_inj (show q < 2147483648 by omega) (show 1 < 2147483648 by omega), nI_inj (show q < 2147483648 by omega) (show 2 < 2147483648 by omega), nI_inj (show q < 2147483648 by omega) (show 3 < 2147483648 by omega), nI_inj (show q < 2147483648 by omega) (show 4 < 2147483648 by omega), nI_inj (show q < 2147483648 by omega) (show 5 < 2147483648 by omega)] at *
                unfold notR
                first
                  | rw [if_pos (by omega)]
                  | rw [if_neg (by omega), if_pos (by omega)]
                  | rw [if_neg (by omega), if_neg (by omega), if_pos (by omega)]
                  | rw [if_neg (by omega), if_neg (by omega), if_neg (by omega), if_pos (by omega)]
                  | rw [if_neg (by omega), if_neg (by omega), if_neg (by omega), if_neg (by omega), if_pos (by omega)]
                  | rw [if_neg (by omega), if_neg (by omega), if_neg (by omega), if_neg (by omega), if_neg (by omega), if_pos (by omega)]
                  | rw [if_neg (by omega), if_neg (by omega), if_neg (by omega), if_neg (by omega), if_neg (by omega), if_neg (by omega)], rfl, rfl⟩
          · skip
            refine g_iconst (v := nI 0) dX9_not_40 rfl ?_
            refine g_goto (tgt := 55) dX9_not_41 (by decide) ?_
            exact g_iret dX9_not_55 (Or.inl rfl) (Nat.le_of_ble_eq_true rfl) (Nat.le_of_ble_eq_true rfl) ⟨by
              have z0 : (0 : Int32) = nI 0 := rfl
              rw [z0] at c_1
              simp only [nI_inj (show q < 2147483648 by omega) (show 0 < 2147483648 by omega), nI_inj (show q < 2147483648 by omega) (show 1 < 2147483648 by omega), nI_inj (show q < 2147483648 by omega) (show 2 < 2147483648 by omega), nI_inj (show q < 2147483648 by omega) (show 3 < 2147483648 by omega), nI_inj (show q < 2147483648 by omega) (show 4 < 2147483648 by omega), nI_inj (show q < 2147483648 by omega) (show 5 < 2147483648 by omega)] at *
              unfold notR
              first
                | rw [if_pos (by omega)]
                | rw [if_neg (by omega), if_pos (by omega)]
                | rw [if_neg (by omega), if_neg (by omega), if_pos (by omega)]
                | rw [if_neg (by omega), if_neg (by omega), if_neg (by omega), if_pos (by omega)]
                | rw [if_neg (by omega), if_neg (by omega), if_neg (by omega), if_neg (by omega), if_pos (by omega)]
                | rw [if_neg (by omega), if_neg (by omega), if_neg (by omega), if_neg (by omega), if_neg (by omega), if_pos (by omega)]
                | rw [if_neg (by omega), if_neg (by omega), if_neg (by omega), if_neg (by omega), if_neg (by omega), if_neg (by omega)], rfl, rfl⟩
        · skip
          refine g_iconst (v := nI 2) dX9_not_31 rfl ?_
          refine g_goto (tgt := 55) dX9_not_32 (by decide) ?_
          exact g_iret dX9_not_55 (Or.inl rfl) (Nat.le_of_ble_eq_true rfl) (Nat.le_of_ble_eq_true rfl) ⟨by
            have z0 : (0 : Int32) = nI 0 := rfl
            rw [z0] at c_1
            simp only [nI_inj (show q < 2147483648 by omega) (show 0 < 2147483648 by omega), nI_inj (show q < 2147483648 by omega) (show 1 < 2147483648 by omega), nI_inj (show q < 2147483648 by omega) (show 2 < 2147483648 by omega), nI_inj (show q < 2147483648 by omega) (show 3 < 2147483648 by omega), nI_inj (show q < 2147483648 by omega) (show 4 < 2147483648 by omega), nI_inj (show q < 2147483648 by omega) (show 5 < 2147483648 by omega)] at *
            unfold notR
            first
              | rw [if_pos (by omega)]
              | rw [if_neg (by omega), if_pos (by omega)]
              | rw [if_neg (by omega), if_neg (by omega), if_pos (by omega)]
              | rw [if_neg (by omega), if_neg (by omega), if_neg (by omega), if_pos (by omega)]
              | rw [if_neg (by omega), if_neg (by omega), if_neg (by omega), if_neg (by omega), if_pos (by omega)]
              | rw [if_neg (by omega), if_neg (by omega), if_neg (by omega), if_neg (by omega), if_neg (by omega), if_pos (by omega)]
              | rw [if_neg (by omega), if_neg (by omega), if_neg (by omega), if_neg (by omega), if_neg (by omega), if_neg (by omega)], rfl, rfl⟩
      · skip
        refine g_iconst (v := nI 3) dX9_not_22 rfl ?_
        refine g_goto (tgt := 55) dX9_not_23 (by decide) ?_
        exact g_iret dX9_not_55 (Or.inl rfl) (Nat.le_of_ble_eq_true rfl) (Nat.le_of_ble_eq_true rfl) ⟨by
          have z0 : (0 : Int32) = nI 0 := rfl
          rw [z0] at c_1
          simp only [nI_inj (show q < 2147483648 by omega) (show 0 < 2147483648 by omega), nI_inj (show q < 2147483648 by omega) (show 1 < 2147483648 by omega), nI_inj (show q < 2147483648 by omega) (show 2 < 2147483648 by omega), nI_inj (show q < 2147483648 by omega) (show 3 < 2147483648 by omega), nI_inj (show q < 2147483648 by omega) (show 4 < 2147483648 by omega), nI_inj (show q < 2147483648 by omega) (show 5 < 2147483648 by omega)] at *
          unfold notR
          first
            | rw [if_pos (by omega)]
            | rw [if_neg (by omega), if_pos (by omega)]
            | rw [if_neg (by omega), if_neg (by omega), if_pos (by omega)]
            | rw [if_neg (by omega), if_neg (by omega), if_neg (by omega), if_pos (by omega)]
            | rw [if_neg (by omega), if_neg (by omega), if_neg (by omega), if_neg (by omega), if_pos (by omega)]
            | rw [if_neg (by omega), if_neg (by omega), if_neg (by omega), if_neg (by omega), if_neg (by omega), if_pos (by omega)]
            | rw [if_neg (by omega), if_neg (by omega), if_neg (by omega), if_neg (by omega), if_neg (by omega), if_neg (by omega)], rfl, rfl⟩
    · skip
      refine g_iconst (v := nI 5) dX9_not_13 rfl ?_
      refine g_goto (tgt := 55) dX9_not_14 (by decide) ?_
      exact g_iret dX9_not_55 (Or.inl rfl) (Nat.le_of_ble_eq_true rfl) (Nat.le_of_ble_eq_true rfl) ⟨by
        have z0 : (0 : Int32) = nI 0 := rfl
        rw [z0] at c_1
        simp only [nI_inj (show q < 2147483648 by omega) (show 0 < 2147483648 by omega), nI_inj (show q < 2147483648 by omega) (show 1 < 2147483648 by omega), nI_inj (show q < 2147483648 by omega) (show 2 < 2147483648 by omega), nI_inj (show q < 2147483648 by omega) (show 3 < 2147483648 by omega), nI_inj (show q < 2147483648 by omega) (show 4 < 2147483648 by omega), nI_inj (show q < 2147483648 by omega) (show 5 < 2147483648 by omega)] at *
        unfold notR
        first
          | rw [if_pos (by omega)]
          | rw [if_neg (by omega), if_pos (by omega)]
          | rw [if_neg (by omega), if_neg (by omega), if_pos (by omega)]
          | rw [if_neg (by omega), if_neg (by omega), if_neg (by omega), if_pos (by omega)]
          | rw [if_neg (by omega), if_neg (by omega), if_neg (by omega), if_neg (by omega), if_pos (by omega)]
          | rw [if_neg (by omega), if_neg (by omega), if_neg (by omega), if_neg (by omega), if_neg (by omega), if_pos (by omega)]
          | rw [if_neg (by omega), if_neg (by omega), if_neg (by omega), if_neg (by omega), if_neg (by omega), if_neg (by omega)], rfl, rfl⟩
  · skip
    refine g_iconst (v := nI 4) dX9_not_4 rfl ?_
    refine g_goto (tgt := 55) dX9_not_5 (by decide) ?_
    exact g_iret dX9_not_55 (Or.inl rfl) (Nat.le_of_ble_eq_true rfl) (Nat.le_of_ble_eq_true rfl) ⟨by
      have z0 : (0 : Int32) = nI 0 := rfl
      rw [z0] at c_1
      simp only [nI_inj (show q < 2147483648 by omega) (show 0 < 2147483648 by omega), nI_inj (show q < 2147483648 by omega) (show 1 < 2147483648 by omega), nI_inj (show q < 2147483648 by omega) (show 2 < 2147483648 by omega), nI_inj (show q < 2147483648 by omega) (show 3 < 2147483648 by omega), nI_inj (show q < 2147483648 by omega) (show 4 < 2147483648 by omega), nI_inj (show q < 2147483648 by omega) (show 5 < 2147483648 by omega)] at *
      unfold notR
      first
        | rw [if_pos (by omega)]
        | rw [if_neg (by omega), if_pos (by omega)]
        | rw [if_neg (by omega), if_neg (by omega), if_pos (by omega)]
        | rw [if_neg (by omega), if_neg (by omega), if_neg (by omega), if_pos (by omega)]
        | rw [if_neg (by omega), if_neg (by omega), if_neg (by omega), if_neg (by omega), if_pos (by omega)]
        | rw [if_neg (by omega), if_neg (by omega), if_neg (by omega), if_neg (by omega), if_neg (by omega), if_pos (by omega)]
        | rw [if_neg (by omega), if_neg (by omega), if_neg (by omega), if_neg (by omega), if_neg (by omega), if_neg (by omega)], rfl, rfl⟩

