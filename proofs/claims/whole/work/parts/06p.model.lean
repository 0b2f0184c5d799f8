/-! the reference: names, heads, thresholds -/
def st0 : St := (0, 0, 0, 0)
/-- the reference's program -/
def rP (M : gM) (m : Nat) (P : List St) : Prop := mI M m 6 = nI P.length ∧ P.length ≤ 40 ∧ ∀ a, a < P.length → sT M m a (P.getD a st0) ∧ vS (P.getD a st0)
theorem rP.off {M M1 : gM} {m : Nat} {P : List St} {S : Nat → Nat → Prop} (h : rP M m P) (ho : Off M M1 S) (h6 : ¬ S m 6) (hs : ∀ i k, m + 5 ≤ i → i ≤ m + 8 → ¬ S i k) : rP M1 m P :=
  ⟨(ho.i h6).trans h.1, h.2.1, fun a ha => ⟨(h.2.2 a ha).1.off ho hs, (h.2.2 a ha).2⟩⟩
theorem rP.offA {M M1 : gM} {m : Nat} {P : List St} (h : rP M m P) (ho : Off M M1 (fA m)) : rP M1 m P := h.off ho (by unfold fA; omega) (fun i k h1 h2 => by unfold fA; omega)
/-- the number that a statement names; 40 where it names none -/
def nmO (s : St) : Nat := if s.1 = 18 then pl s.2.1 else if 11 ≤ s.1 ∧ s.1 ≤ 17 then pl s.2.2.2 else 40
theorem nmO_le {s : St} (hv : vS s) : nmO s ≤ 40 := by
  unfold nmO
  split
  · rename_i c; have := hv.2.2.2.2.2.2.2.2.2 c; unfold pl; omega
  · split
    · rename_i c; have := hv.2.2.2.2.2.2.2.2.1 c; unfold pl; omega
    · omega
def hdK (P : List St) (a s : Nat) : Bool := (List.range s).any (fun u => decide (a ≤ u ∧ nmO (P.getD u st0) = a))
/-- a HEAD -/
def isHd (P : List St) (a : Nat) : Bool := hdK P a P.length
theorem hdK_1 (P : List St) {a s : Nat} (h : a ≤ s) : hdK P a (s + 1) = (hdK P a s || decide (nmO (P.getD s st0) = a)) := by
  unfold hdK
  rw [List.range_succ, List.any_append]
  simp [h]
theorem hdK_a (P : List St) (a : Nat) : hdK P a a = false := by
  unfold hdK
  rw [List.any_eq_false]
  intro u hu
  have := List.mem_range.mp hu
  simp
  omega
/-- a statement's thresholds -/
def tS (s : St) : List Int := (if s.1 = 0 ∨ s.1 = 10 then [s.2.2.1.toInt] else []) ++ (if s.1 = 10 ∨ s.1 = 5 then [s.2.2.2.toInt] else [])
def nx1 (up : Bool) (v best t : Int) : Int := if (if up then v ≤ t ∧ t < best else t ≤ v ∧ best < t) then t else best
def thr (P : List St) : List Int := P.flatMap tS
/-- the next threshold from v on, up or down -/
def nxt (P : List St) (v : Int) (up : Bool) : Int := (thr P).foldl (nx1 up v) (if up then 2147483647 else -2147483648)
def nx2 (s : St) (up : Bool) (v : Int) (k : Nat) (best : Int) : Int := if (k = 0 ∧ (s.1 = 0 ∨ s.1 = 10)) ∨ (k = 1 ∧ (s.1 = 10 ∨ s.1 = 5)) then nx1 up v best (if k = 0 then s.2.2.1.toInt else s.2.2.2.toInt) else best
theorem nx2_2 (s : St) (up : Bool) (v best : Int) : nx2 s up v 1 (nx2 s up v 0 best) = (tS s).foldl (nx1 up v) best := by
  unfold nx2 tS
  by_cases c1 : s.1 = 0 ∨ s.1 = 10
  · by_cases c2 : s.1 = 10 ∨ s.1 = 5
    · simp [c1, c2]
    · simp [c1, c2]
  · by_cases c2 : s.1 = 10 ∨ s.1 = 5
    · simp [c1, c2]
    · simp [c1, c2]
def nxK (P : List St) (v : Int) (up : Bool) (s : Nat) : Int := (thr (P.take s)).foldl (nx1 up v) (if up then 2147483647 else -2147483648)
theorem nxK_1 {P : List St} (v : Int) (up : Bool) {s : Nat} (h : s < P.length) : nxK P v up (s + 1) = (tS (P.getD s st0)).foldl (nx1 up v) (nxK P v up s) := by
  unfold nxK thr
  rw [List.take_succ, List.flatMap_append, List.foldl_append, List.getD_eq_getElem?_getD, List.getElem?_eq_getElem h]
  simp
theorem nx1_r {up : Bool} {v best t : Int} (hb : r5 best) (ht : r5 t) : r5 (nx1 up v best t) := by
  unfold nx1
  cases up
  · simp only [Bool.false_eq_true, if_false]; split <;> assumption
  · simp only [if_true]; split <;> assumption
theorem nx2_r {s : St} {up : Bool} {v best : Int} {k : Nat} (hb : r5 best) : r5 (nx2 s up v k best) := by
  unfold nx2
  split
  · split
    · exact nx1_r hb (i_rng _)
    · exact nx1_r hb (i_rng _)
  · exact hb
theorem foldl_r {up : Bool} {v : Int} : ∀ (L : List Int) (best : Int), r5 best → (∀ t ∈ L, r5 t) → r5 (L.foldl (nx1 up v) best)
  | [], _, h, _ => h
  | t :: l, best, h, hl => foldl_r l _ (nx1_r h (hl t List.mem_cons_self)) (fun u hu => hl u (List.mem_cons_of_mem _ hu))
theorem tS_r {s : St} {t : Int} (h : t ∈ tS s) : r5 t := by
  unfold tS at h
  rw [List.mem_append] at h
  rcases h with h | h
  · split at h
    · simp at h; rw [h]; exact i_rng _
    · simp at h
  · split at h
    · simp at h; rw [h]; exact i_rng _
    · simp at h
theorem thr_r {P : List St} {t : Int} (h : t ∈ thr P) : r5 t := by
  obtain ⟨s, -, hs⟩ := List.mem_flatMap.mp h
  exact tS_r hs
theorem nxK_r (P : List St) (v : Int) (up : Bool) (s : Nat) : r5 (nxK P v up s) := foldl_r _ _ (by cases up <;> constructor <;> simp) (fun t ht => thr_r ht)
theorem nxt_r (P : List St) (v : Int) (up : Bool) : r5 (nxt P v up) := foldl_r _ _ (by cases up <;> constructor <;> simp) (fun t ht => thr_r ht)
set_option maxHeartbeats 4000000 in
set_option maxRecDepth 100000 in
theorem m_nameOf (M : gM) (n m a : Nat) (s : St) (hm : gMod M m) (ha : a < 40) (hT : sT M m a s) (hv : vS s) : GM μX9_nameOf 1 25 0 0 [.ref m, .int (nI a)] M n (fun r M1 n1 => r = some (.int (nI (nmO s))) ∧ M1 = M ∧ n1 = n) := by
  refine GM.ofW (by decide) rfl (Nat.le_of_ble_eq_true rfl) rfl ?_
  have hk := hv.1
  refine g_aload_n dX9_nameOf_0 rfl ?_
  refine g_getR (f := 7) dX9_nameOf_1 cl10 hm.1 (by decide) (Or.inl (iw_6 0 rfl)) (Or.inl rfl) rfl hm.r_kind ?_
  refine g_iload_n dX9_nameOf_4 rfl ?_
  refine g_iaload dX9_nameOf_5 (j := a) hm.k_kind hm.n_kind rfl (by omega) (by decide) ?_
  rw [hT.1]
  refine g_bipush (v := nI 18) dX9_nameOf_6 rfl ?_
  refine g_icmp_ne (tgt := 20) dX9_nameOf_8 (by decide) (fun c_8 => ?_) (fun c_8 => ?_)
  · skip
    rw [nI_inj (by omega) (by omega)] at c_8
    refine g_aload_n dX9_nameOf_20 rfl ?_
    refine g_getR (f := 7) dX9_nameOf_21 cl10 hm.1 (by decide) (Or.inl (iw_6 0 rfl)) (Or.inl rfl) rfl hm.r_kind ?_
    refine g_iload_n dX9_nameOf_24 rfl ?_
    refine g_iaload dX9_nameOf_25 (j := a) hm.k_kind hm.n_kind rfl (by omega) (by decide) ?_
    rw [hT.1]
    refine g_i2l dX9_nameOf_26 ?_
    rw [nI_j (by omega)]
    refine g_ldc2 (v := jI (11)) dX9_nameOf_27 (iw_12 13 rfl) ?_
    refine g_ldc2 (v := jI (17)) dX9_nameOf_30 (iw_12 14 rfl) ?_
    refine g_callS dX9_nameOf_33 sX9_isIn (m_isInZ M n (s.1 : Int) 11 17 (by constructor <;> omega) (by constructor <;> omega) (by constructor <;> omega)) tX9_isIn (iw_12 22 rfl) rfl rfl (Nat.le_of_ble_eq_true rfl) (Nat.le_of_ble_eq_true rfl) (Nat.le_of_ble_eq_true rfl) (Nat.le_of_ble_eq_true rfl) (Nat.le_of_ble_eq_true rfl) ?_
    intro r9 M9 n9 h9
    obtain ⟨h91, h92, h93⟩ := h9
    rw [h91, h92, h93]
    clear h91 h92 h93 r9 M9 n9
    refine g_if_eq (tgt := 48) dX9_nameOf_36 (by decide) (fun c_36 => ?_) (fun c_36 => ?_)
    · skip
      rw [bI_eq0, decide_eq_false_iff_not] at c_36
      refine g_bipush (v := nI 40) dX9_nameOf_48 rfl ?_
      exact g_iret dX9_nameOf_50 (Or.inl rfl) (Nat.le_of_ble_eq_true rfl) (Nat.le_of_ble_eq_true rfl) ⟨by
        unfold nmO
        first
          | (rw [if_pos c_8, ← pl_eq (hv.2.2.2.2.2.2.2.2.2 c_8).1])
          | (rw [if_neg c_8, if_pos (by omega), ← pl_eq (hv.2.2.2.2.2.2.2.2.1 (by omega)).1])
          | (rw [if_neg c_8, if_neg (by omega)]), rfl, rfl⟩
    · skip
      rw [bI_eq0, decide_eq_false_iff_not, Classical.not_not] at c_36
      refine g_aload_n dX9_nameOf_39 rfl ?_
      refine g_getR (f := 10) dX9_nameOf_40 cl10 hm.1 (by decide) (Or.inl (iw_6 3 rfl)) (Or.inl rfl) rfl hm.r_argC ?_
      refine g_iload_n dX9_nameOf_43 rfl ?_
      refine g_iaload dX9_nameOf_44 (j := a) hm.k_argC hm.n_argC rfl (by omega) (by decide) ?_
      rw [hT.2.2.2]
      refine g_goto (tgt := 50) dX9_nameOf_45 (by decide) ?_
      exact g_iret dX9_nameOf_50 (Or.inl rfl) (Nat.le_of_ble_eq_true rfl) (Nat.le_of_ble_eq_true rfl) ⟨by
        unfold nmO
        first
          | (rw [if_pos c_8, ← pl_eq (hv.2.2.2.2.2.2.2.2.2 c_8).1])
          | (rw [if_neg c_8, if_pos (by omega), ← pl_eq (hv.2.2.2.2.2.2.2.2.1 (by omega)).1])
          | (rw [if_neg c_8, if_neg (by omega)]), rfl, rfl⟩
  · skip
    rw [nI_inj (by omega) (by omega)] at c_8
    refine g_aload_n dX9_nameOf_11 rfl ?_
    refine g_getR (f := 8) dX9_nameOf_12 cl10 hm.1 (by decide) (Or.inl (iw_6 1 rfl)) (Or.inl rfl) rfl hm.r_argA ?_
    refine g_iload_n dX9_nameOf_15 rfl ?_
    refine g_iaload dX9_nameOf_16 (j := a) hm.k_argA hm.n_argA rfl (by omega) (by decide) ?_
    rw [hT.2.1]
    refine g_goto (tgt := 50) dX9_nameOf_17 (by decide) ?_
    exact g_iret dX9_nameOf_50 (Or.inl rfl) (Nat.le_of_ble_eq_true rfl) (Nat.le_of_ble_eq_true rfl) ⟨by
      unfold nmO
      first
        | (rw [if_pos c_8, ← pl_eq (hv.2.2.2.2.2.2.2.2.2 c_8).1])
        | (rw [if_neg c_8, if_pos (by omega), ← pl_eq (hv.2.2.2.2.2.2.2.2.1 (by omega)).1])
        | (rw [if_neg c_8, if_neg (by omega)]), rfl, rfl⟩

set_option maxHeartbeats 4000000 in
set_option maxRecDepth 100000 in
theorem l_isHead {M : gM} {n m a : Nat} {P : List St} {post : gPo} (hm : gMod M m) (hP : rP M m P) (ha : a ≤ 40) (hq : post (some (.int (bI (isHd P a)))) M n) : ∀ (d : Nat) (s : Nat), P.length - s < d → a ≤ s → (s ≤ P.length ∨ s = a) → GW μX9_isHead (gRm 2 46 0 0) (gTh post 0 0) 0 0 4 [some (.ref m), some (.int (nI a)), some (.int (bI (hdK P a s))), some (.int (nI s))] [] M n := by
  intro d
  induction d with
  | zero =>
    intro s hd has hs
    omega
  | succ d ih =>
    intro s hd has hs
    have l40 := hP.2.1
    refine g_iload_n dX9_isHead_4 rfl ?_
    refine g_aload_n dX9_isHead_5 rfl ?_
    refine g_getI (f := 6) dX9_isHead_6 cl10 hm.1 (by decide) (Or.inl (iw_12 20 rfl)) (Or.inl rfl) (Or.inl rfl) ?_
    rw [hP.1]
    refine g_icmp_ge (tgt := 37) dX9_isHead_9 (by decide) (fun c_9 => ?_) (fun c_9 => ?_)
    · skip
      refine g_iload_n dX9_isHead_37 rfl ?_
      exact g_iret dX9_isHead_38 (Or.inr ⟨rfl, bI_01 _⟩) (Nat.le_of_ble_eq_true rfl) (Nat.le_of_ble_eq_true rfl) (by
        rw [nI_leI (by omega) (by omega)] at c_9
        by_cases e : s ≤ P.length
        · have e2 : s = P.length := by omega
          subst e2; exact hq
        · have e2 : s = a := by omega
          subst e2
          rw [hdK_a]
          have e3 : isHd P s = false := by
            unfold isHd hdK
            rw [List.any_eq_false]
            intro u hu
            have := List.mem_range.mp hu
            simp
            omega
          rw [e3] at hq; exact hq)
    · skip
      rw [nI_leI (by omega) (by omega)] at c_9
      have hs2 : s < P.length := by omega
      have hT := (hP.2.2 s hs2).1
      have hv := (hP.2.2 s hs2).2
      have h40 := nmO_le hv
      refine g_iload_n dX9_isHead_12 rfl ?_
      refine g_if_ne (tgt := 25) dX9_isHead_13 (by decide) (fun c_13 => ?_) (fun c_13 => ?_)
      · skip
        try rw [bI_eq0, Bool.not_eq_false] at c_13
        try rw [nI_inj (by omega) (by omega)] at c_22
        refine g_iconst (v := nI 1) dX9_isHead_25 rfl ?_
        refine g_goto (tgt := 30) dX9_isHead_26 (by decide) ?_
        refine g_istore_n dX9_isHead_30 (Nat.le_of_ble_eq_true rfl) ?_
        refine g_iinc dX9_isHead_31 rfl (nI_1 s) (Nat.le_of_ble_eq_true rfl) ?_
        refine g_goto (tgt := 4) dX9_isHead_34 (by decide) ?_
        have l40 := hP.2.1
        have hg := ih (s + 1) (by omega) (by omega) (by omega)
        rw [hdK_1 P has] at hg
        first
          | (rw [c_13, Bool.true_or] at hg; exact hg)
          | (rw [decide_eq_true c_22, Bool.or_true] at hg; exact hg)
          | (rw [c_13, decide_eq_false c_22, Bool.false_or] at hg; exact hg)
      · skip
        refine g_aload_n dX9_isHead_16 rfl ?_
        refine g_iload_n dX9_isHead_17 rfl ?_
        refine g_callV dX9_isHead_18 sX9_nameOf (m_nameOf M n m s _ hm (by omega) hT hv) cl10 hm.1 iX9_nameOf vX9_nameOf (iw_29 17 rfl) rfl rfl (Nat.le_of_ble_eq_true rfl) (Nat.le_of_ble_eq_true rfl) (Nat.le_of_ble_eq_true rfl) (Nat.le_of_ble_eq_true rfl) (Nat.le_of_ble_eq_true rfl) ?_
        intro r9 M9 n9 h9
        obtain ⟨h91, h92, h93⟩ := h9
        rw [h91, h92, h93]
        clear h91 h92 h93 r9 M9 n9
        refine g_iload_n dX9_isHead_21 rfl ?_
        refine g_icmp_ne (tgt := 29) dX9_isHead_22 (by decide) (fun c_22 => ?_) (fun c_22 => ?_)
        · skip
          rw [nI_inj (by omega) (by omega)] at c_22
          rw [bI_eq0] at c_13
          refine g_iconst (v := nI 0) dX9_isHead_29 rfl ?_
          refine g_istore_n dX9_isHead_30 (Nat.le_of_ble_eq_true rfl) ?_
          refine g_iinc dX9_isHead_31 rfl (nI_1 s) (Nat.le_of_ble_eq_true rfl) ?_
          refine g_goto (tgt := 4) dX9_isHead_34 (by decide) ?_
          have l40 := hP.2.1
          have hg := ih (s + 1) (by omega) (by omega) (by omega)
          rw [hdK_1 P has] at hg
          first
            | (rw [c_13, Bool.true_or] at hg; exact hg)
            | (rw [decide_eq_true c_22, Bool.or_true] at hg; exact hg)
            | (rw [c_13, decide_eq_false c_22, Bool.false_or] at hg; exact hg)
        · skip
          try rw [bI_eq0, Bool.not_eq_false] at c_13
          try rw [nI_inj (by omega) (by omega)] at c_22
          refine g_iconst (v := nI 1) dX9_isHead_25 rfl ?_
          refine g_goto (tgt := 30) dX9_isHead_26 (by decide) ?_
          refine g_istore_n dX9_isHead_30 (Nat.le_of_ble_eq_true rfl) ?_
          refine g_iinc dX9_isHead_31 rfl (nI_1 s) (Nat.le_of_ble_eq_true rfl) ?_
          refine g_goto (tgt := 4) dX9_isHead_34 (by decide) ?_
          have l40 := hP.2.1
          have hg := ih (s + 1) (by omega) (by omega) (by omega)
          rw [hdK_1 P has] at hg
          first
            | (rw [c_13, Bool.true_or] at hg; exact hg)
            | (rw [decide_eq_true c_22, Bool.or_true] at hg; exact hg)
            | (rw [c_13, decide_eq_false c_22, Bool.false_or] at hg; exact hg)

set_option maxHeartbeats 4000000 in
set_option maxRecDepth 100000 in
theorem m_isHead (M : gM) (n m a : Nat) (P : List St) (hm : gMod M m) (hP : rP M m P) (ha : a ≤ 40) : GM μX9_isHead 2 46 0 0 [.ref m, .int (nI a)] M n (fun r M1 n1 => r = some (.int (bI (isHd P a))) ∧ M1 = M ∧ n1 = n) := by
  refine GM.ofW (by decide) rfl (Nat.le_of_ble_eq_true rfl) rfl ?_
  refine g_iconst (v := nI 0) dX9_isHead_0 rfl ?_
  refine g_istore_n dX9_isHead_1 (Nat.le_of_ble_eq_true rfl) ?_
  refine g_iload_n dX9_isHead_2 rfl ?_
  refine g_istore_n dX9_isHead_3 (Nat.le_of_ble_eq_true rfl) ?_
  have hl := l_isHead (n := n) (post := fun r M1 n1 => r = some (.int (bI (isHd P a))) ∧ M1 = M ∧ n1 = n) hm hP ha ⟨rfl, rfl, rfl⟩ (P.length + 1) a (by omega) (by omega) (by omega)
  rw [hdK_a] at hl
  exact hl

set_option maxHeartbeats 4000000 in
set_option maxRecDepth 100000 in
theorem p_nx113 {M : gM} {n m s k : Nat} {v best t : Int} {up i : Bool} {w : Int32} {Q : gθ} (hv : r6 v) (hb : r5 best) (ht : r5 t) (hw : w = bI i) (hk : GW μX9_next (gRm 0 0 0 0) Q 0 0 164 [some (.ref m), some (.long (jI v)), none, some (.int (bI up)), some (.long (jI (if i then nx1 up v best t else best))), none, some (.int (nI s)), some (.int (nI k)), none, none, none] [] M n) : GW μX9_next (gRm 0 0 0 0) Q 0 0 113 [some (.ref m), some (.long (jI v)), none, some (.int (bI up)), some (.long (jI (best))), none, some (.int (nI s)), some (.int (nI k)), some (.int w), some (.long (jI t)), none] [] M n := by
  subst hw
  refine g_iload dX9_next_113 rfl ?_
  refine g_if_eq (tgt := 160) dX9_next_115 (by decide) (fun c_115 => ?_) (fun c_115 => ?_)
  · skip
    refine g_lload dX9_next_160 rfl ?_
    refine g_lstore dX9_next_162 (Nat.le_of_ble_eq_true rfl) ?_
    refine g_msk [true, true, true, true, true, true, true, true, false, false, false] ?_
    try rw [bI_eq0, Bool.not_eq_false] at c_115
    try rw [bI_eq0] at c_115
    try rw [jc_lt (by constructor <;> omega) (by constructor <;> omega)] at c_126
    try rw [jc_ge (by constructor <;> omega) (by constructor <;> omega)] at c_134
    try rw [jc_gt (by constructor <;> omega) (by constructor <;> omega)] at c_144
    try rw [jc_le (by constructor <;> omega) (by constructor <;> omega)] at c_152
    unfold nx1 at hk
    first
      | (rw [c_115, c_119] at hk; simp only [if_true] at hk; rw [if_pos (by omega)] at hk; rw [c_119]; exact hk)
      | (rw [c_115, c_119] at hk; simp only [if_true] at hk; rw [if_neg (by omega)] at hk; rw [c_119]; exact hk)
      | (rw [c_115, c_119] at hk; simp only [if_true, Bool.false_eq_true, if_false] at hk; rw [if_pos (by omega)] at hk; rw [c_119]; exact hk)
      | (rw [c_115, c_119] at hk; simp only [if_true, Bool.false_eq_true, if_false] at hk; rw [if_neg (by omega)] at hk; rw [c_119]; exact hk)
      | (rw [c_115] at hk; simp only [Bool.false_eq_true, if_false] at hk; exact hk)
  · skip
    refine g_iload_n dX9_next_118 rfl ?_
    refine g_if_eq (tgt := 140) dX9_next_119 (by decide) (fun c_119 => ?_) (fun c_119 => ?_)
    · skip
      rw [bI_eq0] at c_119
      refine g_lload dX9_next_140 rfl ?_
      refine g_lload_n dX9_next_142 rfl ?_
      refine g_lcmp dX9_next_143 ?_
      refine g_if_gt (tgt := 160) dX9_next_144 (by decide) (fun c_144 => ?_) (fun c_144 => ?_)
      · skip
        refine g_lload dX9_next_160 rfl ?_
        refine g_lstore dX9_next_162 (Nat.le_of_ble_eq_true rfl) ?_
        refine g_msk [true, true, true, true, true, true, true, true, false, false, false] ?_
        try rw [bI_eq0, Bool.not_eq_false] at c_115
        try rw [bI_eq0] at c_115
        try rw [jc_lt (by constructor <;> omega) (by constructor <;> omega)] at c_126
        try rw [jc_ge (by constructor <;> omega) (by constructor <;> omega)] at c_134
        try rw [jc_gt (by constructor <;> omega) (by constructor <;> omega)] at c_144
        try rw [jc_le (by constructor <;> omega) (by constructor <;> omega)] at c_152
        unfold nx1 at hk
        first
          | (rw [c_115, c_119] at hk; simp only [if_true] at hk; rw [if_pos (by omega)] at hk; rw [c_119]; exact hk)
          | (rw [c_115, c_119] at hk; simp only [if_true] at hk; rw [if_neg (by omega)] at hk; rw [c_119]; exact hk)
          | (rw [c_115, c_119] at hk; simp only [if_true, Bool.false_eq_true, if_false] at hk; rw [if_pos (by omega)] at hk; rw [c_119]; exact hk)
          | (rw [c_115, c_119] at hk; simp only [if_true, Bool.false_eq_true, if_false] at hk; rw [if_neg (by omega)] at hk; rw [c_119]; exact hk)
          | (rw [c_115] at hk; simp only [Bool.false_eq_true, if_false] at hk; exact hk)
      · skip
        refine g_lload dX9_next_147 rfl ?_
        refine g_lload dX9_next_149 rfl ?_
        refine g_lcmp dX9_next_151 ?_
        refine g_if_le (tgt := 160) dX9_next_152 (by decide) (fun c_152 => ?_) (fun c_152 => ?_)
        · skip
          refine g_lload dX9_next_160 rfl ?_
          refine g_lstore dX9_next_162 (Nat.le_of_ble_eq_true rfl) ?_
          refine g_msk [true, true, true, true, true, true, true, true, false, false, false] ?_
          try rw [bI_eq0, Bool.not_eq_false] at c_115
          try rw [bI_eq0] at c_115
          try rw [jc_lt (by constructor <;> omega) (by constructor <;> omega)] at c_126
          try rw [jc_ge (by constructor <;> omega) (by constructor <;> omega)] at c_134
          try rw [jc_gt (by constructor <;> omega) (by constructor <;> omega)] at c_144
          try rw [jc_le (by constructor <;> omega) (by constructor <;> omega)] at c_152
          unfold nx1 at hk
          first
            | (rw [c_115, c_119] at hk; simp only [if_true] at hk; rw [if_pos (by omega)] at hk; rw [c_119]; exact hk)
            | (rw [c_115, c_119] at hk; simp only [if_true] at hk; rw [if_neg (by omega)] at hk; rw [c_119]; exact hk)
            | (rw [c_115, c_119] at hk; simp only [if_true, Bool.false_eq_true, if_false] at hk; rw [if_pos (by omega)] at hk; rw [c_119]; exact hk)
            | (rw [c_115, c_119] at hk; simp only [if_true, Bool.false_eq_true, if_false] at hk; rw [if_neg (by omega)] at hk; rw [c_119]; exact hk)
            | (rw [c_115] at hk; simp only [Bool.false_eq_true, if_false] at hk; exact hk)
        · skip
          refine g_lload dX9_next_155 rfl ?_
          refine g_goto (tgt := 162) dX9_next_157 (by decide) ?_
          refine g_lstore dX9_next_162 (Nat.le_of_ble_eq_true rfl) ?_
          refine g_msk [true, true, true, true, true, true, true, true, false, false, false] ?_
          try rw [bI_eq0, Bool.not_eq_false] at c_115
          try rw [bI_eq0] at c_115
          try rw [jc_lt (by constructor <;> omega) (by constructor <;> omega)] at c_126
          try rw [jc_ge (by constructor <;> omega) (by constructor <;> omega)] at c_134
          try rw [jc_gt (by constructor <;> omega) (by constructor <;> omega)] at c_144
          try rw [jc_le (by constructor <;> omega) (by constructor <;> omega)] at c_152
          unfold nx1 at hk
          first
            | (rw [c_115, c_119] at hk; simp only [if_true] at hk; rw [if_pos (by omega)] at hk; rw [c_119]; exact hk)
            | (rw [c_115, c_119] at hk; simp only [if_true] at hk; rw [if_neg (by omega)] at hk; rw [c_119]; exact hk)
            | (rw [c_115, c_119] at hk; simp only [if_true, Bool.false_eq_true, if_false] at hk; rw [if_pos (by omega)] at hk; rw [c_119]; exact hk)
            | (rw [c_115, c_119] at hk; simp only [if_true, Bool.false_eq_true, if_false] at hk; rw [if_neg (by omega)] at hk; rw [c_119]; exact hk)
            | (rw [c_115] at hk; simp only [Bool.false_eq_true, if_false] at hk; exact hk)
    · skip
      rw [bI_eq0, Bool.not_eq_false] at c_119
      refine g_lload dX9_next_122 rfl ?_
      refine g_lload_n dX9_next_124 rfl ?_
      refine g_lcmp dX9_next_125 ?_
      refine g_if_lt (tgt := 160) dX9_next_126 (by decide) (fun c_126 => ?_) (fun c_126 => ?_)
      · skip
        refine g_lload dX9_next_160 rfl ?_
        refine g_lstore dX9_next_162 (Nat.le_of_ble_eq_true rfl) ?_
        refine g_msk [true, true, true, true, true, true, true, true, false, false, false] ?_
        try rw [bI_eq0, Bool.not_eq_false] at c_115
        try rw [bI_eq0] at c_115
        try rw [jc_lt (by constructor <;> omega) (by constructor <;> omega)] at c_126
        try rw [jc_ge (by constructor <;> omega) (by constructor <;> omega)] at c_134
        try rw [jc_gt (by constructor <;> omega) (by constructor <;> omega)] at c_144
        try rw [jc_le (by constructor <;> omega) (by constructor <;> omega)] at c_152
        unfold nx1 at hk
        first
          | (rw [c_115, c_119] at hk; simp only [if_true] at hk; rw [if_pos (by omega)] at hk; rw [c_119]; exact hk)
          | (rw [c_115, c_119] at hk; simp only [if_true] at hk; rw [if_neg (by omega)] at hk; rw [c_119]; exact hk)
          | (rw [c_115, c_119] at hk; simp only [if_true, Bool.false_eq_true, if_false] at hk; rw [if_pos (by omega)] at hk; rw [c_119]; exact hk)
          | (rw [c_115, c_119] at hk; simp only [if_true, Bool.false_eq_true, if_false] at hk; rw [if_neg (by omega)] at hk; rw [c_119]; exact hk)
          | (rw [c_115] at hk; simp only [Bool.false_eq_true, if_false] at hk; exact hk)
      · skip
        refine g_lload dX9_next_129 rfl ?_
        refine g_lload dX9_next_131 rfl ?_
        refine g_lcmp dX9_next_133 ?_
        refine g_if_ge (tgt := 160) dX9_next_134 (by decide) (fun c_134 => ?_) (fun c_134 => ?_)
        · skip
          refine g_lload dX9_next_160 rfl ?_
          refine g_lstore dX9_next_162 (Nat.le_of_ble_eq_true rfl) ?_
          refine g_msk [true, true, true, true, true, true, true, true, false, false, false] ?_
          try rw [bI_eq0, Bool.not_eq_false] at c_115
          try rw [bI_eq0] at c_115
          try rw [jc_lt (by constructor <;> omega) (by constructor <;> omega)] at c_126
          try rw [jc_ge (by constructor <;> omega) (by constructor <;> omega)] at c_134
          try rw [jc_gt (by constructor <;> omega) (by constructor <;> omega)] at c_144
          try rw [jc_le (by constructor <;> omega) (by constructor <;> omega)] at c_152
          unfold nx1 at hk
          first
            | (rw [c_115, c_119] at hk; simp only [if_true] at hk; rw [if_pos (by omega)] at hk; rw [c_119]; exact hk)
            | (rw [c_115, c_119] at hk; simp only [if_true] at hk; rw [if_neg (by omega)] at hk; rw [c_119]; exact hk)
            | (rw [c_115, c_119] at hk; simp only [if_true, Bool.false_eq_true, if_false] at hk; rw [if_pos (by omega)] at hk; rw [c_119]; exact hk)
            | (rw [c_115, c_119] at hk; simp only [if_true, Bool.false_eq_true, if_false] at hk; rw [if_neg (by omega)] at hk; rw [c_119]; exact hk)
            | (rw [c_115] at hk; simp only [Bool.false_eq_true, if_false] at hk; exact hk)
        · skip
          refine g_goto (tgt := 155) dX9_next_137 (by decide) ?_
          refine g_lload dX9_next_155 rfl ?_
          refine g_goto (tgt := 162) dX9_next_157 (by decide) ?_
          refine g_lstore dX9_next_162 (Nat.le_of_ble_eq_true rfl) ?_
          refine g_msk [true, true, true, true, true, true, true, true, false, false, false] ?_
          try rw [bI_eq0, Bool.not_eq_false] at c_115
          try rw [bI_eq0] at c_115
          try rw [jc_lt (by constructor <;> omega) (by constructor <;> omega)] at c_126
          try rw [jc_ge (by constructor <;> omega) (by constructor <;> omega)] at c_134
          try rw [jc_gt (by constructor <;> omega) (by constructor <;> omega)] at c_144
          try rw [jc_le (by constructor <;> omega) (by constructor <;> omega)] at c_152
          unfold nx1 at hk
          first
            | (rw [c_115, c_119] at hk; simp only [if_true] at hk; rw [if_pos (by omega)] at hk; rw [c_119]; exact hk)
            | (rw [c_115, c_119] at hk; simp only [if_true] at hk; rw [if_neg (by omega)] at hk; rw [c_119]; exact hk)
            | (rw [c_115, c_119] at hk; simp only [if_true, Bool.false_eq_true, if_false] at hk; rw [if_pos (by omega)] at hk; rw [c_119]; exact hk)
            | (rw [c_115, c_119] at hk; simp only [if_true, Bool.false_eq_true, if_false] at hk; rw [if_neg (by omega)] at hk; rw [c_119]; exact hk)
            | (rw [c_115] at hk; simp only [Bool.false_eq_true, if_false] at hk; exact hk)

set_option maxHeartbeats 4000000 in
set_option maxRecDepth 100000 in
theorem p_nx30 {M : gM} {n m s k : Nat} {v best : Int} {up : Bool} {u : St} {Q : gθ} (hm : gMod M m) (hs : s < 40) (hT : sT M m s u) (hu : vS u) (hk2 : k < 2) (hv : r6 v) (hb : r5 best) (hk : GW μX9_next (gRm 0 0 0 0) Q 0 0 30 [some (.ref m), some (.long (jI v)), none, some (.int (bI up)), some (.long (jI (nx2 u up v k best))), none, some (.int (nI s)), some (.int (nI (k + 1))), none, none, none] [] M n) : GW μX9_next (gRm 0 0 0 0) Q 0 0 30 [some (.ref m), some (.long (jI v)), none, some (.int (bI up)), some (.long (jI (best))), none, some (.int (nI s)), some (.int (nI k)), none, none, none] [] M n := by
  have hu0 := hu.1
  have z0 : (0 : Int32) = nI 0 := rfl
  refine g_iload dX9_next_30 rfl ?_
  refine g_iconst (v := nI 2) dX9_next_32 rfl ?_
  refine g_icmp_ge (tgt := 170) dX9_next_33 (by decide) (fun c_33 => ?_) (fun c_33 => ?_)
  · skip
    rw [nI_leI (by omega) (by omega)] at c_33; omega
  · skip
    rw [nI_leI (by omega) (by omega)] at c_33
    refine g_aload_n dX9_next_36 rfl ?_
    refine g_getR (f := 7) dX9_next_37 cl10 hm.1 (by decide) (Or.inl (iw_6 0 rfl)) (Or.inl rfl) rfl hm.r_kind ?_
    refine g_iload dX9_next_40 rfl ?_
    refine g_iaload dX9_next_42 (j := s) hm.k_kind hm.n_kind rfl (by omega) (by decide) ?_
    rw [hT.1]
    refine g_if_ne (tgt := 51) dX9_next_43 (by decide) (fun c_43 => ?_) (fun c_43 => ?_)
    · skip
      refine g_aload_n dX9_next_51 rfl ?_
      refine g_getR (f := 7) dX9_next_52 cl10 hm.1 (by decide) (Or.inl (iw_6 0 rfl)) (Or.inl rfl) rfl hm.r_kind ?_
      refine g_iload dX9_next_55 rfl ?_
      refine g_iaload dX9_next_57 (j := s) hm.k_kind hm.n_kind rfl (by omega) (by decide) ?_
      rw [hT.1]
      refine g_bipush (v := nI 10) dX9_next_58 rfl ?_
      refine g_icmp_eq (tgt := 80) dX9_next_60 (by decide) (fun c_60 => ?_) (fun c_60 => ?_)
      · skip
        refine g_iconst (v := nI 1) dX9_next_80 rfl ?_
        refine g_goto (tgt := 85) dX9_next_81 (by decide) ?_
        refine g_istore dX9_next_85 (Nat.le_of_ble_eq_true rfl) ?_
        refine g_iload dX9_next_87 rfl ?_
        refine g_if_ne (tgt := 103) dX9_next_89 (by decide) (fun c_89 => ?_) (fun c_89 => ?_)
        · skip
          refine g_aload_n dX9_next_103 rfl ?_
          refine g_getR (f := 10) dX9_next_104 cl10 hm.1 (by decide) (Or.inl (iw_6 3 rfl)) (Or.inl rfl) rfl hm.r_argC ?_
          refine g_iload dX9_next_107 rfl ?_
          refine g_iaload dX9_next_109 (j := s) hm.k_argC hm.n_argC rfl (by omega) (by decide) ?_
          rw [hT.2.2.2]
          refine g_i2l dX9_next_110 ?_
          rw [i_j]
          refine g_lstore dX9_next_111 (Nat.le_of_ble_eq_true rfl) ?_
          try rw [z0, nI_inj (by omega) (by omega)] at c_43
          try rw [z0, nI_inj (by omega) (by omega)] at c_48
          try rw [nI_inj (by omega) (by omega)] at c_60
          try rw [nI_inj (by omega) (by omega)] at c_71
          try rw [nI_inj (by omega) (by omega)] at c_77
          rw [z0, nI_inj (by omega) (by omega)] at c_89
          refine p_nx113 (i := decide ((k = 0 ∧ (u.1 = 0 ∨ u.1 = 10)) ∨ (k = 1 ∧ (u.1 = 10 ∨ u.1 = 5)))) hv hb (i_rng _) (by first | (rw [decide_eq_true (by omega)]; rfl) | (rw [decide_eq_false (by omega)]; rfl)) ?_
          refine g_iinc dX9_next_164 rfl (nI_1 k) (Nat.le_of_ble_eq_true rfl) ?_
          refine g_goto (tgt := 30) dX9_next_167 (by decide) ?_
          first
            | (rw [show (if decide ((k = 0 ∧ (u.1 = 0 ∨ u.1 = 10)) ∨ (k = 1 ∧ (u.1 = 10 ∨ u.1 = 5))) = true then nx1 up v best u.2.2.1.toInt else best) = nx2 u up v k best by unfold nx2; simp only [decide_eq_true_eq]; rw [if_pos c_89]]; exact hk)
            | (rw [show (if decide ((k = 0 ∧ (u.1 = 0 ∨ u.1 = 10)) ∨ (k = 1 ∧ (u.1 = 10 ∨ u.1 = 5))) = true then nx1 up v best u.2.2.2.toInt else best) = nx2 u up v k best by unfold nx2; simp only [decide_eq_true_eq]; rw [if_neg c_89]]; exact hk)
        · skip
          refine g_aload_n dX9_next_92 rfl ?_
          refine g_getR (f := 9) dX9_next_93 cl10 hm.1 (by decide) (Or.inl (iw_6 2 rfl)) (Or.inl rfl) rfl hm.r_argB ?_
          refine g_iload dX9_next_96 rfl ?_
          refine g_iaload dX9_next_98 (j := s) hm.k_argB hm.n_argB rfl (by omega) (by decide) ?_
          rw [hT.2.2.1]
          refine g_i2l dX9_next_99 ?_
          refine g_goto (tgt := 111) dX9_next_100 (by decide) ?_
          rw [i_j]
          refine g_lstore dX9_next_111 (Nat.le_of_ble_eq_true rfl) ?_
          try rw [z0, nI_inj (by omega) (by omega)] at c_43
          try rw [z0, nI_inj (by omega) (by omega)] at c_48
          try rw [nI_inj (by omega) (by omega)] at c_60
          try rw [nI_inj (by omega) (by omega)] at c_71
          try rw [nI_inj (by omega) (by omega)] at c_77
          rw [z0, nI_inj (by omega) (by omega)] at c_89
          refine p_nx113 (i := decide ((k = 0 ∧ (u.1 = 0 ∨ u.1 = 10)) ∨ (k = 1 ∧ (u.1 = 10 ∨ u.1 = 5)))) hv hb (i_rng _) (by first | (rw [decide_eq_true (by omega)]; rfl) | (rw [decide_eq_false (by omega)]; rfl)) ?_
          refine g_iinc dX9_next_164 rfl (nI_1 k) (Nat.le_of_ble_eq_true rfl) ?_
          refine g_goto (tgt := 30) dX9_next_167 (by decide) ?_
          first
            | (rw [show (if decide ((k = 0 ∧ (u.1 = 0 ∨ u.1 = 10)) ∨ (k = 1 ∧ (u.1 = 10 ∨ u.1 = 5))) = true then nx1 up v best u.2.2.1.toInt else best) = nx2 u up v k best by unfold nx2; simp only [decide_eq_true_eq]; rw [if_pos c_89]]; exact hk)
            | (rw [show (if decide ((k = 0 ∧ (u.1 = 0 ∨ u.1 = 10)) ∨ (k = 1 ∧ (u.1 = 10 ∨ u.1 = 5))) = true then nx1 up v best u.2.2.2.toInt else best) = nx2 u up v k best by unfold nx2; simp only [decide_eq_true_eq]; rw [if_neg c_89]]; exact hk)
      · skip
        refine g_aload_n dX9_next_63 rfl ?_
        refine g_getR (f := 7) dX9_next_64 cl10 hm.1 (by decide) (Or.inl (iw_6 0 rfl)) (Or.inl rfl) rfl hm.r_kind ?_
        refine g_iload dX9_next_67 rfl ?_
        refine g_iaload dX9_next_69 (j := s) hm.k_kind hm.n_kind rfl (by omega) (by decide) ?_
        rw [hT.1]
        refine g_iconst (v := nI 5) dX9_next_70 rfl ?_
        refine g_icmp_ne (tgt := 84) dX9_next_71 (by decide) (fun c_71 => ?_) (fun c_71 => ?_)
        · skip
          refine g_iconst (v := nI 0) dX9_next_84 rfl ?_
          refine g_istore dX9_next_85 (Nat.le_of_ble_eq_true rfl) ?_
          refine g_iload dX9_next_87 rfl ?_
          refine g_if_ne (tgt := 103) dX9_next_89 (by decide) (fun c_89 => ?_) (fun c_89 => ?_)
          · skip
            refine g_aload_n dX9_next_103 rfl ?_
            refine g_getR (f := 10) dX9_next_104 cl10 hm.1 (by decide) (Or.inl (iw_6 3 rfl)) (Or.inl rfl) rfl hm.r_argC ?_
            refine g_iload dX9_next_107 rfl ?_
            refine g_iaload dX9_next_109 (j := s) hm.k_argC hm.n_argC rfl (by omega) (by decide) ?_
            rw [hT.2.2.2]
            refine g_i2l dX9_next_110 ?_
            rw [i_j]
            refine g_lstore dX9_next_111 (Nat.le_of_ble_eq_true rfl) ?_
            try rw [z0, nI_inj (by omega) (by omega)] at c_43
            try rw [z0, nI_inj (by omega) (by omega)] at c_48
            try rw [nI_inj (by omega) (by omega)] at c_60
            try rw [nI_inj (by omega) (by omega)] at c_71
            try rw [nI_inj (by omega) (by omega)] at c_77
            rw [z0, nI_inj (by omega) (by omega)] at c_89
            refine p_nx113 (i := decide ((k = 0 ∧ (u.1 = 0 ∨ u.1 = 10)) ∨ (k = 1 ∧ (u.1 = 10 ∨ u.1 = 5)))) hv hb (i_rng _) (by first | (rw [decide_eq_true (by omega)]; rfl) | (rw [decide_eq_false (by omega)]; rfl)) ?_
            refine g_iinc dX9_next_164 rfl (nI_1 k) (Nat.le_of_ble_eq_true rfl) ?_
            refine g_goto (tgt := 30) dX9_next_167 (by decide) ?_
            first
              | (rw [show (if decide ((k = 0 ∧ (u.1 = 0 ∨ u.1 = 10)) ∨ (k = 1 ∧ (u.1 = 10 ∨ u.1 = 5))) = true then nx1 up v best u.2.2.1.toInt else best) = nx2 u up v k best by unfold nx2; simp only [decide_eq_true_eq]; rw [if_pos c_89]]; exact hk)
              | (rw [show (if decide ((k = 0 ∧ (u.1 = 0 ∨ u.1 = 10)) ∨ (k = 1 ∧ (u.1 = 10 ∨ u.1 = 5))) = true then nx1 up v best u.2.2.2.toInt else best) = nx2 u up v k best by unfold nx2; simp only [decide_eq_true_eq]; rw [if_neg c_89]]; exact hk)
          · skip
            refine g_aload_n dX9_next_92 rfl ?_
            refine g_getR (f := 9) dX9_next_93 cl10 hm.1 (by decide) (Or.inl (iw_6 2 rfl)) (Or.inl rfl) rfl hm.r_argB ?_
            refine g_iload dX9_next_96 rfl ?_
            refine g_iaload dX9_next_98 (j := s) hm.k_argB hm.n_argB rfl (by omega) (by decide) ?_
            rw [hT.2.2.1]
            refine g_i2l dX9_next_99 ?_
            refine g_goto (tgt := 111) dX9_next_100 (by decide) ?_
            rw [i_j]
            refine g_lstore dX9_next_111 (Nat.le_of_ble_eq_true rfl) ?_
            try rw [z0, nI_inj (by omega) (by omega)] at c_43
            try rw [z0, nI_inj (by omega) (by omega)] at c_48
            try rw [nI_inj (by omega) (by omega)] at c_60
            try rw [nI_inj (by omega) (by omega)] at c_71
            try rw [nI_inj (by omega) (by omega)] at c_77
            rw [z0, nI_inj (by omega) (by omega)] at c_89
            refine p_nx113 (i := decide ((k = 0 ∧ (u.1 = 0 ∨ u.1 = 10)) ∨ (k = 1 ∧ (u.1 = 10 ∨ u.1 = 5)))) hv hb (i_rng _) (by first | (rw [decide_eq_true (by omega)]; rfl) | (rw [decide_eq_false (by omega)]; rfl)) ?_
            refine g_iinc dX9_next_164 rfl (nI_1 k) (Nat.le_of_ble_eq_true rfl) ?_
            refine g_goto (tgt := 30) dX9_next_167 (by decide) ?_
            first
              | (rw [show (if decide ((k = 0 ∧ (u.1 = 0 ∨ u.1 = 10)) ∨ (k = 1 ∧ (u.1 = 10 ∨ u.1 = 5))) = true then nx1 up v best u.2.2.1.toInt else best) = nx2 u up v k best by unfold nx2; simp only [decide_eq_true_eq]; rw [if_pos c_89]]; exact hk)
              | (rw [show (if decide ((k = 0 ∧ (u.1 = 0 ∨ u.1 = 10)) ∨ (k = 1 ∧ (u.1 = 10 ∨ u.1 = 5))) = true then nx1 up v best u.2.2.2.toInt else best) = nx2 u up v k best by unfold nx2; simp only [decide_eq_true_eq]; rw [if_neg c_89]]; exact hk)
        · skip
          refine g_iload dX9_next_74 rfl ?_
          refine g_iconst (v := nI 1) dX9_next_76 rfl ?_
          refine g_icmp_ne (tgt := 84) dX9_next_77 (by decide) (fun c_77 => ?_) (fun c_77 => ?_)
          · skip
            refine g_iconst (v := nI 0) dX9_next_84 rfl ?_
            refine g_istore dX9_next_85 (Nat.le_of_ble_eq_true rfl) ?_
            refine g_iload dX9_next_87 rfl ?_
            refine g_if_ne (tgt := 103) dX9_next_89 (by decide) (fun c_89 => ?_) (fun c_89 => ?_)
            · skip
              refine g_aload_n dX9_next_103 rfl ?_
              refine g_getR (f := 10) dX9_next_104 cl10 hm.1 (by decide) (Or.inl (iw_6 3 rfl)) (Or.inl rfl) rfl hm.r_argC ?_
              refine g_iload dX9_next_107 rfl ?_
              refine g_iaload dX9_next_109 (j := s) hm.k_argC hm.n_argC rfl (by omega) (by decide) ?_
              rw [hT.2.2.2]
              refine g_i2l dX9_next_110 ?_
              rw [i_j]
              refine g_lstore dX9_next_111 (Nat.le_of_ble_eq_true rfl) ?_
              try rw [z0, nI_inj (by omega) (by omega)] at c_43
              try rw [z0, nI_inj (by omega) (by omega)] at c_48
              try rw [nI_inj (by omega) (by omega)] at c_60
              try rw [nI_inj (by omega) (by omega)] at c_71
              try rw [nI_inj (by omega) (by omega)] at c_77
              rw [z0, nI_inj (by omega) (by omega)] at c_89
              refine p_nx113 (i := decide ((k = 0 ∧ (u.1 = 0 ∨ u.1 = 10)) ∨ (k = 1 ∧ (u.1 = 10 ∨ u.1 = 5)))) hv hb (i_rng _) (by first | (rw [decide_eq_true (by omega)]; rfl) | (rw [decide_eq_false (by omega)]; rfl)) ?_
              refine g_iinc dX9_next_164 rfl (nI_1 k) (Nat.le_of_ble_eq_true rfl) ?_
              refine g_goto (tgt := 30) dX9_next_167 (by decide) ?_
              first
                | (rw [show (if decide ((k = 0 ∧ (u.1 = 0 ∨ u.1 = 10)) ∨ (k = 1 ∧ (u.1 = 10 ∨ u.1 = 5))) = true then nx1 up v best u.2.2.1.toInt else best) = nx2 u up v k best by unfold nx2; simp only [decide_eq_true_eq]; rw [if_pos c_89]]; exact hk)
                | (rw [show (if decide ((k = 0 ∧ (u.1 = 0 ∨ u.1 = 10)) ∨ (k = 1 ∧ (u.1 = 10 ∨ u.1 = 5))) = true then nx1 up v best u.2.2.2.toInt else best) = nx2 u up v k best by unfold nx2; simp only [decide_eq_true_eq]; rw [if_neg c_89]]; exact hk)
            · skip
              refine g_aload_n dX9_next_92 rfl ?_
              refine g_getR (f := 9) dX9_next_93 cl10 hm.1 (by decide) (Or.inl (iw_6 2 rfl)) (Or.inl rfl) rfl hm.r_argB ?_
              refine g_iload dX9_next_96 rfl ?_
              refine g_iaload dX9_next_98 (j := s) hm.k_argB hm.n_argB rfl (by omega) (by decide) ?_
              rw [hT.2.2.1]
              refine g_i2l dX9_next_99 ?_
              refine g_goto (tgt := 111) dX9_next_100 (by decide) ?_
              rw [i_j]
              refine g_lstore dX9_next_111 (Nat.le_of_ble_eq_true rfl) ?_
              try rw [z0, nI_inj (by omega) (by omega)] at c_43
              try rw [z0, nI_inj (by omega) (by omega)] at c_48
              try rw [nI_inj (by omega) (by omega)] at c_60
              try rw [nI_inj (by omega) (by omega)] at c_71
              try rw [nI_inj (by omega) (by omega)] at c_77
              rw [z0, nI_inj (by omega) (by omega)] at c_89
              refine p_nx113 (i := decide ((k = 0 ∧ (u.1 = 0 ∨ u.1 = 10)) ∨ (k = 1 ∧ (u.1 = 10 ∨ u.1 = 5)))) hv hb (i_rng _) (by first | (rw [decide_eq_true (by omega)]; rfl) | (rw [decide_eq_false (by omega)]; rfl)) ?_
              refine g_iinc dX9_next_164 rfl (nI_1 k) (Nat.le_of_ble_eq_true rfl) ?_
              refine g_goto (tgt := 30) dX9_next_167 (by decide) ?_
              first
                | (rw [show (if decide ((k = 0 ∧ (u.1 = 0 ∨ u.1 = 10)) ∨ (k = 1 ∧ (u.1 = 10 ∨ u.1 = 5))) = true then nx1 up v best u.2.2.1.toInt else best) = nx2 u up v k best by unfold nx2; simp only [decide_eq_true_eq]; rw [if_pos c_89]]; exact hk)
                | (rw [show (if decide ((k = 0 ∧ (u.1 = 0 ∨ u.1 = 10)) ∨ (k = 1 ∧ (u.1 = 10 ∨ u.1 = 5))) = true then nx1 up v best u.2.2.2.toInt else best) = nx2 u up v k best by unfold nx2; simp only [decide_eq_true_eq]; rw [if_neg c_89]]; exact hk)
          · skip
            refine g_iconst (v := nI 1) dX9_next_80 rfl ?_
            refine g_goto (tgt := 85) dX9_next_81 (by decide) ?_
            refine g_istore dX9_next_85 (Nat.le_of_ble_eq_true rfl) ?_
            refine g_iload dX9_next_87 rfl ?_
            refine g_if_ne (tgt := 103) dX9_next_89 (by decide) (fun c_89 => ?_) (fun c_89 => ?_)
            · skip
              refine g_aload_n dX9_next_103 rfl ?_
              refine g_getR (f := 10) dX9_next_104 cl10 hm.1 (by decide) (Or.inl (iw_6 3 rfl)) (Or.inl rfl) rfl hm.r_argC ?_
              refine g_iload dX9_next_107 rfl ?_
              refine g_iaload dX9_next_109 (j := s) hm.k_argC hm.n_argC rfl (by omega) (by decide) ?_
              rw [hT.2.2.2]
              refine g_i2l dX9_next_110 ?_
              rw [i_j]
              refine g_lstore dX9_next_111 (Nat.le_of_ble_eq_true rfl) ?_
              try rw [z0, nI_inj (by omega) (by omega)] at c_43
              try rw [z0, nI_inj (by omega) (by omega)] at c_48
              try rw [nI_inj (by omega) (by omega)] at c_60
              try rw [nI_inj (by omega) (by omega)] at c_71
              try rw [nI_inj (by omega) (by omega)] at c_77
              rw [z0, nI_inj (by omega) (by omega)] at c_89
              refine p_nx113 (i := decide ((k = 0 ∧ (u.1 = 0 ∨ u.1 = 10)) ∨ (k = 1 ∧ (u.1 = 10 ∨ u.1 = 5)))) hv hb (i_rng _) (by first | (rw [decide_eq_true (by omega)]; rfl) | (rw [decide_eq_false (by omega)]; rfl)) ?_
              refine g_iinc dX9_next_164 rfl (nI_1 k) (Nat.le_of_ble_eq_true rfl) ?_
              refine g_goto (tgt := 30) dX9_next_167 (by decide) ?_
              first
                | (rw [show (if decide ((k = 0 ∧ (u.1 = 0 ∨ u.1 = 10)) ∨ (k = 1 ∧ (u.1 = 10 ∨ u.1 = 5))) = true then nx1 up v best u.2.2.1.toInt else best) = nx2 u up v k best by unfold nx2; simp only [decide_eq_true_eq]; rw [if_pos c_89]]; exact hk)
                | (rw [show (if decide ((k = 0 ∧ (u.1 = 0 ∨ u.1 = 10)) ∨ (k = 1 ∧ (u.1 = 10 ∨ u.1 = 5))) = true then nx1 up v best u.2.2.2.toInt else best) = nx2 u up v k best by unfold nx2; simp only [decide_eq_true_eq]; rw [if_neg c_89]]; exact hk)
            · skip
              refine g_aload_n dX9_next_92 rfl ?_
              refine g_getR (f := 9) dX9_next_93 cl10 hm.1 (by decide) (Or.inl (iw_6 2 rfl)) (Or.inl rfl) rfl hm.r_argB ?_
              refine g_iload dX9_next_96 rfl ?_
              refine g_iaload dX9_next_98 (j := s) hm.k_argB hm.n_argB rfl (by omega) (by decide) ?_
              rw [hT.2.2.1]
              refine g_i2l dX9_next_99 ?_
              refine g_goto (tgt := 111) dX9_next_100 (by decide) ?_
              rw [i_j]
              refine g_lstore dX9_next_111 (Nat.le_of_ble_eq_true rfl) ?_
              try rw [z0, nI_inj (by omega) (by omega)] at c_43
              try rw [z0, nI_inj (by omega) (by omega)] at c_48
              try rw [nI_inj (by omega) (by omega)] at c_60
              try rw [nI_inj (by omega) (by omega)] at c_71
              try rw [nI_inj (by omega) (by omega)] at c_77
              rw [z0, nI_inj (by omega) (by omega)] at c_89
              refine p_nx113 (i := decide ((k = 0 ∧ (u.1 = 0 ∨ u.1 = 10)) ∨ (k = 1 ∧ (u.1 = 10 ∨ u.1 = 5)))) hv hb (i_rng _) (by first | (rw [decide_eq_true (by omega)]; rfl) | (rw [decide_eq_false (by omega)]; rfl)) ?_
              refine g_iinc dX9_next_164 rfl (nI_1 k) (Nat.le_of_ble_eq_true rfl) ?_
              refine g_goto (tgt := 30) dX9_next_167 (by decide) ?_
              first
                | (rw [show (if decide ((k = 0 ∧ (u.1 = 0 ∨ u.1 = 10)) ∨ (k = 1 ∧ (u.1 = 10 ∨ u.1 = 5))) = true then nx1 up v best u.2.2.1.toInt else best) = nx2 u up v k best by unfold nx2; simp only [decide_eq_true_eq]; rw [if_pos c_89]]; exact hk)
                | (rw [show (if decide ((k = 0 ∧ (u.1 = 0 ∨ u.1 = 10)) ∨ (k = 1 ∧ (u.1 = 10 ∨ u.1 = 5))) = true then nx1 up v best u.2.2.2.toInt else best) = nx2 u up v k best by unfold nx2; simp only [decide_eq_true_eq]; rw [if_neg c_89]]; exact hk)
    · skip
      refine g_iload dX9_next_46 rfl ?_
      refine g_if_eq (tgt := 80) dX9_next_48 (by decide) (fun c_48 => ?_) (fun c_48 => ?_)
      · skip
        refine g_iconst (v := nI 1) dX9_next_80 rfl ?_
        refine g_goto (tgt := 85) dX9_next_81 (by decide) ?_
        refine g_istore dX9_next_85 (Nat.le_of_ble_eq_true rfl) ?_
        refine g_iload dX9_next_87 rfl ?_
        refine g_if_ne (tgt := 103) dX9_next_89 (by decide) (fun c_89 => ?_) (fun c_89 => ?_)
        · skip
          refine g_aload_n dX9_next_103 rfl ?_
          refine g_getR (f := 10) dX9_next_104 cl10 hm.1 (by decide) (Or.inl (iw_6 3 rfl)) (Or.inl rfl) rfl hm.r_argC ?_
          refine g_iload dX9_next_107 rfl ?_
          refine g_iaload dX9_next_109 (j := s) hm.k_argC hm.n_argC rfl (by omega) (by decide) ?_
          rw [hT.2.2.2]
          refine g_i2l dX9_next_110 ?_
          rw [i_j]
          refine g_lstore dX9_next_111 (Nat.le_of_ble_eq_true rfl) ?_
          try rw [z0, nI_inj (by omega) (by omega)] at c_43
          try rw [z0, nI_inj (by omega) (by omega)] at c_48
          try rw [nI_inj (by omega) (by omega)] at c_60
          try rw [nI_inj (by omega) (by omega)] at c_71
          try rw [nI_inj (by omega) (by omega)] at c_77
          rw [z0, nI_inj (by omega) (by omega)] at c_89
          refine p_nx113 (i := decide ((k = 0 ∧ (u.1 = 0 ∨ u.1 = 10)) ∨ (k = 1 ∧ (u.1 = 10 ∨ u.1 = 5)))) hv hb (i_rng _) (by first | (rw [decide_eq_true (by omega)]; rfl) | (rw [decide_eq_false (by omega)]; rfl)) ?_
          refine g_iinc dX9_next_164 rfl (nI_1 k) (Nat.le_of_ble_eq_true rfl) ?_
          refine g_goto (tgt := 30) dX9_next_167 (by decide) ?_
          first
            | (rw [show (if decide ((k = 0 ∧ (u.1 = 0 ∨ u.1 = 10)) ∨ (k = 1 ∧ (u.1 = 10 ∨ u.1 = 5))) = true then nx1 up v best u.2.2.1.toInt else best) = nx2 u up v k best by unfold nx2; simp only [decide_eq_true_eq]; rw [if_pos c_89]]; exact hk)
            | (rw [show (if decide ((k = 0 ∧ (u.1 = 0 ∨ u.1 = 10)) ∨ (k = 1 ∧ (u.1 = 10 ∨ u.1 = 5))) = true then nx1 up v best u.2.2.2.toInt else best) = nx2 u up v k best by unfold nx2; simp only [decide_eq_true_eq]; rw [if_neg c_89]]; exact hk)
        · skip
          refine g_aload_n dX9_next_92 rfl ?_
          refine g_getR (f := 9) dX9_next_93 cl10 hm.1 (by decide) (Or.inl (iw_6 2 rfl)) (Or.inl rfl) rfl hm.r_argB ?_
          refine g_iload dX9_next_96 rfl ?_
          refine g_iaload dX9_next_98 (j := s) hm.k_argB hm.n_argB rfl (by omega) (by decide) ?_
          rw [hT.2.2.1]
          refine g_i2l dX9_next_99 ?_
          refine g_goto (tgt := 111) dX9_next_100 (by decide) ?_
          rw [i_j]
          refine g_lstore dX9_next_111 (Nat.le_of_ble_eq_true rfl) ?_
          try rw [z0, nI_inj (by omega) (by omega)] at c_43
          try rw [z0, nI_inj (by omega) (by omega)] at c_48
          try rw [nI_inj (by omega) (by omega)] at c_60
          try rw [nI_inj (by omega) (by omega)] at c_71
          try rw [nI_inj (by omega) (by omega)] at c_77
          rw [z0, nI_inj (by omega) (by omega)] at c_89
          refine p_nx113 (i := decide ((k = 0 ∧ (u.1 = 0 ∨ u.1 = 10)) ∨ (k = 1 ∧ (u.1 = 10 ∨ u.1 = 5)))) hv hb (i_rng _) (by first | (rw [decide_eq_true (by omega)]; rfl) | (rw [decide_eq_false (by omega)]; rfl)) ?_
          refine g_iinc dX9_next_164 rfl (nI_1 k) (Nat.le_of_ble_eq_true rfl) ?_
          refine g_goto (tgt := 30) dX9_next_167 (by decide) ?_
          first
            | (rw [show (if decide ((k = 0 ∧ (u.1 = 0 ∨ u.1 = 10)) ∨ (k = 1 ∧ (u.1 = 10 ∨ u.1 = 5))) = true then nx1 up v best u.2.2.1.toInt else best) = nx2 u up v k best by unfold nx2; simp only [decide_eq_true_eq]; rw [if_pos c_89]]; exact hk)
            | (rw [show (if decide ((k = 0 ∧ (u.1 = 0 ∨ u.1 = 10)) ∨ (k = 1 ∧ (u.1 = 10 ∨ u.1 = 5))) = true then nx1 up v best u.2.2.2.toInt else best) = nx2 u up v k best by unfold nx2; simp only [decide_eq_true_eq]; rw [if_neg c_89]]; exact hk)
      · skip
        refine g_aload_n dX9_next_51 rfl ?_
        refine g_getR (f := 7) dX9_next_52 cl10 hm.1 (by decide) (Or.inl (iw_6 0 rfl)) (Or.inl rfl) rfl hm.r_kind ?_
        refine g_iload dX9_next_55 rfl ?_
        refine g_iaload dX9_next_57 (j := s) hm.k_kind hm.n_kind rfl (by omega) (by decide) ?_
        rw [hT.1]
        refine g_bipush (v := nI 10) dX9_next_58 rfl ?_
        refine g_icmp_eq (tgt := 80) dX9_next_60 (by decide) (fun c_60 => ?_) (fun c_60 => ?_)
        · skip
          refine g_iconst (v := nI 1) dX9_next_80 rfl ?_
          refine g_goto (tgt := 85) dX9_next_81 (by decide) ?_
          refine g_istore dX9_next_85 (Nat.le_of_ble_eq_true rfl) ?_
          refine g_iload dX9_next_87 rfl ?_
          refine g_if_ne (tgt := 103) dX9_next_89 (by decide) (fun c_89 => ?_) (fun c_89 => ?_)
          · skip
            refine g_aload_n dX9_next_103 rfl ?_
            refine g_getR (f := 10) dX9_next_104 cl10 hm.1 (by decide) (Or.inl (iw_6 3 rfl)) (Or.inl rfl) rfl hm.r_argC ?_
            refine g_iload dX9_next_107 rfl ?_
            refine g_iaload dX9_next_109 (j := s) hm.k_argC hm.n_argC rfl (by omega) (by decide) ?_
            rw [hT.2.2.2]
            refine g_i2l dX9_next_110 ?_
            rw [i_j]
            refine g_lstore dX9_next_111 (Nat.le_of_ble_eq_true rfl) ?_
            try rw [z0, nI_inj (by omega) (by omega)] at c_43
            try rw [z0, nI_inj (by omega) (by omega)] at c_48
            try rw [nI_inj (by omega) (by omega)] at c_60
            try rw [nI_inj (by omega) (by omega)] at c_71
            try rw [nI_inj (by omega) (by omega)] at c_77
            rw [z0, nI_inj (by omega) (by omega)] at c_89
            refine p_nx113 (i := decide ((k = 0 ∧ (u.1 = 0 ∨ u.1 = 10)) ∨ (k = 1 ∧ (u.1 = 10 ∨ u.1 = 5)))) hv hb (i_rng _) (by first | (rw [decide_eq_true (by omega)]; rfl) | (rw [decide_eq_false (by omega)]; rfl)) ?_
            refine g_iinc dX9_next_164 rfl (nI_1 k) (Nat.le_of_ble_eq_true rfl) ?_
            refine g_goto (tgt := 30) dX9_next_167 (by decide) ?_
            first
              | (rw [show (if decide ((k = 0 ∧ (u.1 = 0 ∨ u.1 = 10)) ∨ (k = 1 ∧ (u.1 = 10 ∨ u.1 = 5))) = true then nx1 up v best u.2.2.1.toInt else best) = nx2 u up v k best by unfold nx2; simp only [decide_eq_true_eq]; rw [if_pos c_89]]; exact hk)
              | (rw [show (if decide ((k = 0 ∧ (u.1 = 0 ∨ u.1 = 10)) ∨ (k = 1 ∧ (u.1 = 10 ∨ u.1 = 5))) = true then nx1 up v best u.2.2.2.toInt else best) = nx2 u up v k best by unfold nx2; simp only [decide_eq_true_eq]; rw [if_neg c_89]]; exact hk)
          · skip
            refine g_aload_n dX9_next_92 rfl ?_
            refine g_getR (f := 9) dX9_next_93 cl10 hm.1 (by decide) (Or.inl (iw_6 2 rfl)) (Or.inl rfl) rfl hm.r_argB ?_
            refine g_iload dX9_next_96 rfl ?_
            refine g_iaload dX9_next_98 (j := s) hm.k_argB hm.n_argB rfl (by omega) (by decide) ?_
            rw [hT.2.2.1]
            refine g_i2l dX9_next_99 ?_
            refine g_goto (tgt := 111) dX9_next_100 (by decide) ?_
            rw [i_j]
            refine g_lstore dX9_next_111 (Nat.le_of_ble_eq_true rfl) ?_
            try rw [z0, nI_inj (by omega) (by omega)] at c_43
            try rw [z0, nI_inj (by omega) (by omega)] at c_48
            try rw [nI_inj (by omega) (by omega)] at c_60
            try rw [nI_inj (by omega) (by omega)] at c_71
            try rw [nI_inj (by omega) (by omega)] at c_77
            rw [z0, nI_inj (by omega) (by omega)] at c_89
            refine p_nx113 (i := decide ((k = 0 ∧ (u.1 = 0 ∨ u.1 = 10)) ∨ (k = 1 ∧ (u.1 = 10 ∨ u.1 = 5)))) hv hb (i_rng _) (by first | (rw [decide_eq_true (by omega)]; rfl) | (rw [decide_eq_false (by omega)]; rfl)) ?_
            refine g_iinc dX9_next_164 rfl (nI_1 k) (Nat.le_of_ble_eq_true rfl) ?_
            refine g_goto (tgt := 30) dX9_next_167 (by decide) ?_
            first
              | (rw [show (if decide ((k = 0 ∧ (u.1 = 0 ∨ u.1 = 10)) ∨ (k = 1 ∧ (u.1 = 10 ∨ u.1 = 5))) = true then nx1 up v best u.2.2.1.toInt else best) = nx2 u up v k best by unfold nx2; simp only [decide_eq_true_eq]; rw [if_pos c_89]]; exact hk)
              | (rw [show (if decide ((k = 0 ∧ (u.1 = 0 ∨ u.1 = 10)) ∨ (k = 1 ∧ (u.1 = 10 ∨ u.1 = 5))) = true then nx1 up v best u.2.2.2.toInt else best) = nx2 u up v k best by unfold nx2; simp only [decide_eq_true_eq]; rw [if_neg c_89]]; exact hk)
        · skip
          refine g_aload_n dX9_next_63 rfl ?_
          refine g_getR (f := 7) dX9_next_64 cl10 hm.1 (by decide) (Or.inl (iw_6 0 rfl)) (Or.inl rfl) rfl hm.r_kind ?_
          refine g_iload dX9_next_67 rfl ?_
          refine g_iaload dX9_next_69 (j := s) hm.k_kind hm.n_kind rfl (by omega) (by decide) ?_
          rw [hT.1]
          refine g_iconst (v := nI 5) dX9_next_70 rfl ?_
          refine g_icmp_ne (tgt := 84) dX9_next_71 (by decide) (fun c_71 => ?_) (fun c_71 => ?_)
          · skip
            refine g_iconst (v := nI 0) dX9_next_84 rfl ?_
            refine g_istore dX9_next_85 (Nat.le_of_ble_eq_true rfl) ?_
            refine g_iload dX9_next_87 rfl ?_
            refine g_if_ne (tgt := 103) dX9_next_89 (by decide) (fun c_89 => ?_) (fun c_89 => ?_)
            · skip
              refine g_aload_n dX9_next_103 rfl ?_
              refine g_getR (f := 10) dX9_next_104 cl10 hm.1 (by decide) (Or.inl (iw_6 3 rfl)) (Or.inl rfl) rfl hm.r_argC ?_
              refine g_iload dX9_next_107 rfl ?_
              refine g_iaload dX9_next_109 (j := s) hm.k_argC hm.n_argC rfl (by omega) (by decide) ?_
              rw [hT.2.2.2]
              refine g_i2l dX9_next_110 ?_
              rw [i_j]
              refine g_lstore dX9_next_111 (Nat.le_of_ble_eq_true rfl) ?_
              try rw [z0, nI_inj (by omega) (by omega)] at c_43
              try rw [z0, nI_inj (by omega) (by omega)] at c_48
              try rw [nI_inj (by omega) (by omega)] at c_60
              try rw [nI_inj (by omega) (by omega)] at c_71
              try rw [nI_inj (by omega) (by omega)] at c_77
              rw [z0, nI_inj (by omega) (by omega)] at c_89
              refine p_nx113 (i := decide ((k = 0 ∧ (u.1 = 0 ∨ u.1 = 10)) ∨ (k = 1 ∧ (u.1 = 10 ∨ u.1 = 5)))) hv hb (i_rng _) (by first | (rw [decide_eq_true (by omega)]; rfl) | (rw [decide_eq_false (by omega)]; rfl)) ?_
              refine g_iinc dX9_next_164 rfl (nI_1 k) (Nat.le_of_ble_eq_true rfl) ?_
              refine g_goto (tgt := 30) dX9_next_167 (by decide) ?_
              first
                | (rw [show (if decide ((k = 0 ∧ (u.1 = 0 ∨ u.1 = 10)) ∨ (k = 1 ∧ (u.1 = 10 ∨ u.1 = 5))) = true then nx1 up v best u.2.2.1.toInt else best) = nx2 u up v k best by unfold nx2; simp only [decide_eq_true_eq]; rw [if_pos c_89]]; exact hk)
                | (rw [show (if decide ((k = 0 ∧ (u.1 = 0 ∨ u.1 = 10)) ∨ (k = 1 ∧ (u.1 = 10 ∨ u.1 = 5))) = true then nx1 up v best u.2.2.2.toInt else best) = nx2 u up v k best by unfold nx2; simp only [decide_eq_true_eq]; rw [if_neg c_89]]; exact hk)
            · skip
              refine g_aload_n dX9_next_92 rfl ?_
              refine g_getR (f := 9) dX9_next_93 cl10 hm.1 (by decide) (Or.inl (iw_6 2 rfl)) (Or.inl rfl) rfl hm.r_argB ?_
              refine g_iload dX9_next_96 rfl ?_
              refine g_iaload dX9_next_98 (j := s) hm.k_argB hm.n_argB rfl (by omega) (by decide) ?_
              rw [hT.2.2.1]
              refine g_i2l dX9_next_99 ?_
              refine g_goto (tgt := 111) dX9_next_100 (by decide) ?_
              rw [i_j]
              refine g_lstore dX9_next_111 (Nat.le_of_ble_eq_true rfl) ?_
              try rw [z0, nI_inj (by omega) (by omega)] at c_43
              try rw [z0, nI_inj (by omega) (by omega)] at c_48
              try rw [nI_inj (by omega) (by omega)] at c_60
              try rw [nI_inj (by omega) (by omega)] at c_71
              try rw [nI_inj (by omega) (by omega)] at c_77
              rw [z0, nI_inj (by omega) (by omega)] at c_89
              refine p_nx113 (i := decide ((k = 0 ∧ (u.1 = 0 ∨ u.1 = 10)) ∨ (k = 1 ∧ (u.1 = 10 ∨ u.1 = 5)))) hv hb (i_rng _) (by first | (rw [decide_eq_true (by omega)]; rfl) | (rw [decide_eq_false (by omega)]; rfl)) ?_
              refine g_iinc dX9_next_164 rfl (nI_1 k) (Nat.le_of_ble_eq_true rfl) ?_
              refine g_goto (tgt := 30) dX9_next_167 (by decide) ?_
              first
                | (rw [show (if decide ((k = 0 ∧ (u.1 = 0 ∨ u.1 = 10)) ∨ (k = 1 ∧ (u.1 = 10 ∨ u.1 = 5))) = true then nx1 up v best u.2.2.1.toInt else best) = nx2 u up v k best by unfold nx2; simp only [decide_eq_true_eq]; rw [if_pos c_89]]; exact hk)
                | (rw [show (if decide ((k = 0 ∧ (u.1 = 0 ∨ u.1 = 10)) ∨ (k = 1 ∧ (u.1 = 10 ∨ u.1 = 5))) = true then nx1 up v best u.2.2.2.toInt else best) = nx2 u up v k best by unfold nx2; simp only [decide_eq_true_eq]; rw [if_neg c_89]]; exact hk)
          · skip
            refine g_iload dX9_next_74 rfl ?_
            refine g_iconst (v := nI 1) dX9_next_76 rfl ?_
            refine g_icmp_ne (tgt := 84) dX9_next_77 (by decide) (fun c_77 => ?_) (fun c_77 => ?_)
            · skip
              refine g_iconst (v := nI 0) dX9_next_84 rfl ?_
              refine g_istore dX9_next_85 (Nat.le_of_ble_eq_true rfl) ?_
              refine g_iload dX9_next_87 rfl ?_
              refine g_if_ne (tgt := 103) dX9_next_89 (by decide) (fun c_89 => ?_) (fun c_89 => ?_)
              · skip
                refine g_aload_n dX9_next_103 rfl ?_
                refine g_getR (f := 10) dX9_next_104 cl10 hm.1 (by decide) (Or.inl (iw_6 3 rfl)) (Or.inl rfl) rfl hm.r_argC ?_
                refine g_iload dX9_next_107 rfl ?_
                refine g_iaload dX9_next_109 (j := s) hm.k_argC hm.n_argC rfl (by omega) (by decide) ?_
                rw [hT.2.2.2]
                refine g_i2l dX9_next_110 ?_
                rw [i_j]
                refine g_lstore dX9_next_111 (Nat.le_of_ble_eq_true rfl) ?_
                try rw [z0, nI_inj (by omega) (by omega)] at c_43
                try rw [z0, nI_inj (by omega) (by omega)] at c_48
                try rw [nI_inj (by omega) (by omega)] at c_60
                try rw [nI_inj (by omega) (by omega)] at c_71
                try rw [nI_inj (by omega) (by omega)] at c_77
                rw [z0, nI_inj (by omega) (by omega)] at c_89
                refine p_nx113 (i := decide ((k = 0 ∧ (u.1 = 0 ∨ u.1 = 10)) ∨ (k = 1 ∧ (u.1 = 10 ∨ u.1 = 5)))) hv hb (i_rng _) (by first | (rw [decide_eq_true (by omega)]; rfl) | (rw [decide_eq_false (by omega)]; rfl)) ?_
                refine g_iinc dX9_next_164 rfl (nI_1 k) (Nat.le_of_ble_eq_true rfl) ?_
                refine g_goto (tgt := 30) dX9_next_167 (by decide) ?_
                first
                  | (rw [show (if decide ((k = 0 ∧ (u.1 = 0 ∨ u.1 = 10)) ∨ (k = 1 ∧ (u.1 = 10 ∨ u.1 = 5))) = true then nx1 up v best u.2.2.1.toInt else best) = nx2 u up v k best by unfold nx2; simp only [decide_eq_true_eq]; rw [if_pos c_89]]; exact hk)
                  | (rw [show (if decide ((k = 0 ∧ (u.1 = 0 ∨ u.1 = 10)) ∨ (k = 1 ∧ (u.1 = 10 ∨ u.1 = 5))) = true then nx1 up v best u.2.2.2.toInt else best) = nx2 u up v k best by unfold nx2; simp only [decide_eq_true_eq]; rw [if_neg c_89]]; exact hk)
              · skip
                refine g_aload_n dX9_next_92 rfl ?_
                refine g_getR (f := 9) dX9_next_93 cl10 hm.1 (by decide) (Or.inl (iw_6 2 rfl)) (Or.inl rfl) rfl hm.r_argB ?_
                refine g_iload dX9_next_96 rfl ?_
                refine g_iaload dX9_next_98 (j := s) hm.k_argB hm.n_argB rfl (by omega) (by decide) ?_
                rw [hT.2.2.1]
                refine g_i2l dX9_next_99 ?_
                refine g_goto (tgt := 111) dX9_next_100 (by decide) ?_
                rw [i_j]
                refine g_lstore dX9_next_111 (Nat.le_of_ble_eq_true rfl) ?_
                try rw [z0, nI_inj (by omega) (by omega)] at c_43
                try rw [z0, nI_inj (by omega) (by omega)] at c_48
                try rw [nI_inj (by omega) (by omega)] at c_60
                try rw [nI_inj (by omega) (by omega)] at c_71
                try rw [nI_inj (by omega) (by omega)] at c_77
                rw [z0, nI_inj (by omega) (by omega)] at c_89
                refine p_nx113 (i := decide ((k = 0 ∧ (u.1 = 0 ∨ u.1 = 10)) ∨ (k = 1 ∧ (u.1 = 10 ∨ u.1 = 5)))) hv hb (i_rng _) (by first | (rw [decide_eq_true (by omega)]; rfl) | (rw [decide_eq_false (by omega)]; rfl)) ?_
                refine g_iinc dX9_next_164 rfl (nI_1 k) (Nat.le_of_ble_eq_true rfl) ?_
                refine g_goto (tgt := 30) dX9_next_167 (by decide) ?_
                first
                  | (rw [show (if decide ((k = 0 ∧ (u.1 = 0 ∨ u.1 = 10)) ∨ (k = 1 ∧ (u.1 = 10 ∨ u.1 = 5))) = true then nx1 up v best u.2.2.1.toInt else best) = nx2 u up v k best by unfold nx2; simp only [decide_eq_true_eq]; rw [if_pos c_89]]; exact hk)
                  | (rw [show (if decide ((k = 0 ∧ (u.1 = 0 ∨ u.1 = 10)) ∨ (k = 1 ∧ (u.1 = 10 ∨ u.1 = 5))) = true then nx1 up v best u.2.2.2.toInt else best) = nx2 u up v k best by unfold nx2; simp only [decide_eq_true_eq]; rw [if_neg c_89]]; exact hk)
            · skip
              refine g_iconst (v := nI 1) dX9_next_80 rfl ?_
              refine g_goto (tgt := 85) dX9_next_81 (by decide) ?_
              refine g_istore dX9_next_85 (Nat.le_of_ble_eq_true rfl) ?_
              refine g_iload dX9_next_87 rfl ?_
              refine g_if_ne (tgt := 103) dX9_next_89 (by decide) (fun c_89 => ?_) (fun c_89 => ?_)
              · skip
                refine g_aload_n dX9_next_103 rfl ?_
                refine g_getR (f := 10) dX9_next_104 cl10 hm.1 (by decide) (Or.inl (iw_6 3 rfl)) (Or.inl rfl) rfl hm.r_argC ?_
                refine g_iload dX9_next_107 rfl ?_
                refine g_iaload dX9_next_109 (j := s) hm.k_argC hm.n_argC rfl (by omega) (by decide) ?_
                rw [hT.2.2.2]
                refine g_i2l dX9_next_110 ?_
                rw [i_j]
                refine g_lstore dX9_next_111 (Nat.le_of_ble_eq_true rfl) ?_
                try rw [z0, nI_inj (by omega) (by omega)] at c_43
                try rw [z0, nI_inj (by omega) (by omega)] at c_48
                try rw [nI_inj (by omega) (by omega)] at c_60
                try rw [nI_inj (by omega) (by omega)] at c_71
                try rw [nI_inj (by omega) (by omega)] at c_77
                rw [z0, nI_inj (by omega) (by omega)] at c_89
                refine p_nx113 (i := decide ((k = 0 ∧ (u.1 = 0 ∨ u.1 = 10)) ∨ (k = 1 ∧ (u.1 = 10 ∨ u.1 = 5)))) hv hb (i_rng _) (by first | (rw [decide_eq_true (by omega)]; rfl) | (rw [decide_eq_false (by omega)]; rfl)) ?_
                refine g_iinc dX9_next_164 rfl (nI_1 k) (Nat.le_of_ble_eq_true rfl) ?_
                refine g_goto (tgt := 30) dX9_next_167 (by decide) ?_
                first
                  | (rw [show (if decide ((k = 0 ∧ (u.1 = 0 ∨ u.1 = 10)) ∨ (k = 1 ∧ (u.1 = 10 ∨ u.1 = 5))) = true then nx1 up v best u.2.2.1.toInt else best) = nx2 u up v k best by unfold nx2; simp only [decide_eq_true_eq]; rw [if_pos c_89]]; exact hk)
                  | (rw [show (if decide ((k = 0 ∧ (u.1 = 0 ∨ u.1 = 10)) ∨ (k = 1 ∧ (u.1 = 10 ∨ u.1 = 5))) = true then nx1 up v best u.2.2.2.toInt else best) = nx2 u up v k best by unfold nx2; simp only [decide_eq_true_eq]; rw [if_neg c_89]]; exact hk)
              · skip
                refine g_aload_n dX9_next_92 rfl ?_
                refine g_getR (f := 9) dX9_next_93 cl10 hm.1 (by decide) (Or.inl (iw_6 2 rfl)) (Or.inl rfl) rfl hm.r_argB ?_
                refine g_iload dX9_next_96 rfl ?_
                refine g_iaload dX9_next_98 (j := s) hm.k_argB hm.n_argB rfl (by omega) (by decide) ?_
                rw [hT.2.2.1]
                refine g_i2l dX9_next_99 ?_
                refine g_goto (tgt := 111) dX9_next_100 (by decide) ?_
                rw [i_j]
                refine g_lstore dX9_next_111 (Nat.le_of_ble_eq_true rfl) ?_
                try rw [z0, nI_inj (by omega) (by omega)] at c_43
                try rw [z0, nI_inj (by omega) (by omega)] at c_48
                try rw [nI_inj (by omega) (by omega)] at c_60
                try rw [nI_inj (by omega) (by omega)] at c_71
                try rw [nI_inj (by omega) (by omega)] at c_77
                rw [z0, nI_inj (by omega) (by omega)] at c_89
                refine p_nx113 (i := decide ((k = 0 ∧ (u.1 = 0 ∨ u.1 = 10)) ∨ (k = 1 ∧ (u.1 = 10 ∨ u.1 = 5)))) hv hb (i_rng _) (by first | (rw [decide_eq_true (by omega)]; rfl) | (rw [decide_eq_false (by omega)]; rfl)) ?_
                refine g_iinc dX9_next_164 rfl (nI_1 k) (Nat.le_of_ble_eq_true rfl) ?_
                refine g_goto (tgt := 30) dX9_next_167 (by decide) ?_
                first
                  | (rw [show (if decide ((k = 0 ∧ (u.1 = 0 ∨ u.1 = 10)) ∨ (k = 1 ∧ (u.1 = 10 ∨ u.1 = 5))) = true then nx1 up v best u.2.2.1.toInt else best) = nx2 u up v k best by unfold nx2; simp only [decide_eq_true_eq]; rw [if_pos c_89]]; exact hk)
                  | (rw [show (if decide ((k = 0 ∧ (u.1 = 0 ∨ u.1 = 10)) ∨ (k = 1 ∧ (u.1 = 10 ∨ u.1 = 5))) = true then nx1 up v best u.2.2.2.toInt else best) = nx2 u up v k best by unfold nx2; simp only [decide_eq_true_eq]; rw [if_neg c_89]]; exact hk)

set_option maxHeartbeats 4000000 in
set_option maxRecDepth 100000 in
theorem l_next {M : gM} {n m : Nat} {P : List St} {v : Int} {up : Bool} {post : gPo} (hm : gMod M m) (hP : rP M m P) (hv : r6 v) (hq : post (some (.long (jI (nxt P v up)))) M n) : ∀ (d : Nat) (s : Nat), P.length - s < d → s ≤ P.length → GW μX9_next (gRm 0 0 0 0) (gTh post 0 0) 0 0 18 [some (.ref m), some (.long (jI v)), none, some (.int (bI up)), some (.long (jI (nxK P v up s))), none, some (.int (nI s)), none, none, none, none] [] M n := by
  intro d
  induction d with
  | zero =>
    intro s hd hs
    omega
  | succ d ih =>
    intro s hd hs
    have l40 := hP.2.1
    refine g_iload dX9_next_18 rfl ?_
    refine g_aload_n dX9_next_20 rfl ?_
    refine g_getI (f := 6) dX9_next_21 cl10 hm.1 (by decide) (Or.inl (iw_12 20 rfl)) (Or.inl rfl) (Or.inl rfl) ?_
    rw [hP.1]
    refine g_icmp_ge (tgt := 176) dX9_next_24 (by decide) (fun c_24 => ?_) (fun c_24 => ?_)
    · skip
      refine g_lload dX9_next_176 rfl ?_
      exact g_lret dX9_next_178 rfl (Nat.le_of_ble_eq_true rfl) (Nat.le_of_ble_eq_true rfl) (by
        rw [nI_leI (by omega) (by omega)] at c_24
        have e : nxK P v up s = nxt P v up := by unfold nxK nxt; rw [List.take_of_length_le (by omega)]
        rw [e]; exact hq)
    · skip
      refine g_iconst (v := nI 0) dX9_next_27 rfl ?_
      refine g_istore dX9_next_28 (Nat.le_of_ble_eq_true rfl) ?_
      rw [nI_leI (by omega) (by omega)] at c_24
      have hs2 : s < P.length := by omega
      have hT := (hP.2.2 s hs2).1
      have hu := (hP.2.2 s hs2).2
      refine p_nx30 hm (by omega) hT hu (by omega) hv (nxK_r P v up s) ?_
      refine p_nx30 hm (by omega) hT hu (by omega) hv (nx2_r (nxK_r P v up s)) ?_
      rw [nx2_2, ← nxK_1 v up hs2]
      refine g_iload dX9_next_30 rfl ?_
      refine g_iconst (v := nI 2) dX9_next_32 rfl ?_
      refine g_icmp_ge (tgt := 170) dX9_next_33 (by decide) (fun _ => ?_) (fun c => absurd (by decide) c)
      refine g_iinc dX9_next_170 rfl (nI_1 s) (Nat.le_of_ble_eq_true rfl) ?_
      refine g_goto (tgt := 18) dX9_next_173 (by decide) ?_
      refine g_msk [true, true, true, true, true, true, true, false, false, false, false] ?_
      exact ih (s + 1) (by omega) (by omega)

set_option maxHeartbeats 4000000 in
set_option maxRecDepth 100000 in
theorem m_next (M : gM) (n m : Nat) (P : List St) (v : Int) (up : Bool) (hm : gMod M m) (hP : rP M m P) (hv : r6 v) : GM μX9_next 0 0 0 0 [.ref m, .long (jI v), .int (bI up)] M n (fun r M1 n1 => r = some (.long (jI (nxt P v up))) ∧ M1 = M ∧ n1 = n) := by
  refine GM.ofW (by decide) rfl (Nat.le_of_ble_eq_true rfl) rfl ?_
  refine g_iload_n dX9_next_0 rfl ?_
  refine g_if_eq (tgt := 10) dX9_next_1 (by decide) (fun c_1 => ?_) (fun c_1 => ?_)
  · skip
    refine g_ldc2 (v := jI (-2147483648)) dX9_next_10 (iw_27 20 rfl) ?_
    refine g_lstore dX9_next_13 (Nat.le_of_ble_eq_true rfl) ?_
    refine g_iconst (v := nI 0) dX9_next_15 rfl ?_
    refine g_istore dX9_next_16 (Nat.le_of_ble_eq_true rfl) ?_
    have hl := l_next (n := n) (up := up) (post := fun r M1 n1 => r = some (.long (jI (nxt P v up))) ∧ M1 = M ∧ n1 = n) hm hP hv ⟨rfl, rfl, rfl⟩ (P.length + 1) 0 (by omega) (by omega)
    unfold nxK at hl
    first
      | (rw [bI_eq0, Bool.not_eq_false] at c_1; rw [c_1] at hl ⊢; exact hl)
      | (rw [bI_eq0] at c_1; rw [c_1] at hl ⊢; exact hl)
  · skip
    refine g_ldc2 (v := jI (2147483647)) dX9_next_4 (iw_27 21 rfl) ?_
    refine g_goto (tgt := 13) dX9_next_7 (by decide) ?_
    refine g_lstore dX9_next_13 (Nat.le_of_ble_eq_true rfl) ?_
    refine g_iconst (v := nI 0) dX9_next_15 rfl ?_
    refine g_istore dX9_next_16 (Nat.le_of_ble_eq_true rfl) ?_
    have hl := l_next (n := n) (up := up) (post := fun r M1 n1 => r = some (.long (jI (nxt P v up))) ∧ M1 = M ∧ n1 = n) hm hP hv ⟨rfl, rfl, rfl⟩ (P.length + 1) 0 (by omega) (by omega)
    unfold nxK at hl
    first
      | (rw [bI_eq0, Bool.not_eq_false] at c_1; rw [c_1] at hl ⊢; exact hl)
      | (rw [bI_eq0] at c_1; rw [c_1] at hl ⊢; exact hl)

