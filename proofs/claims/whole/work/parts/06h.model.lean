/-! the reference: rests, and the set that a statement makes -/
def gF1 (g : Int) (p : Sp) : Int := max g (max (-p.1) p.2)
def gsI (g s : Int) : Prop := (0 ≤ g ∧ g ≤ 2147483648) ∧ (0 ≤ s ∧ s ≤ 2147483648) ∧ (s ≠ 0 → 1 ≤ g)
theorem ow_r {p : Sp} (h1 : r5 p.1) (h2 : r5 p.2) (h3 : p.1 ≤ p.2) : 0 ≤ ow p ∧ ow p ≤ 2147483648 ∧ (0 < ow p → 1 ≤ max (-p.1) p.2) := by
  unfold ow
  split
  · omega
  · split
    · omega
    · split <;> omega
theorem gsI_fold : ∀ (Y : List Sp) (g s : Int), gsI g s → okL Y → r5L Y → gsI (Y.foldl gF1 g) (Y.foldl sF1 s)
  | [], _, _, h, _, _ => h
  | p :: l, g, s, h, ho, hr => by
    obtain ⟨a1, a2, a3⟩ := h
    obtain ⟨r1, r2⟩ := hr p List.mem_cons_self
    have o := ho p List.mem_cons_self
    obtain ⟨b1, b2, b3⟩ := ow_r r1 r2 o
    refine gsI_fold l (gF1 g p) (sF1 s p) ?_ (fun q hq => ho q (List.mem_cons_of_mem _ hq)) (fun q hq => hr q (List.mem_cons_of_mem _ hq))
    unfold gsI gF1 sF1
    split
    · rename_i c; have := b3 c.1; refine ⟨by omega, by omega, fun _ => by omega⟩
    · refine ⟨by omega, a2, fun q => by have := a3 q; omega⟩
theorem gsF {Y : List Sp} (ho : okL Y) (hr : r5L Y) : gsI (gF Y) (sF Y) := gsI_fold Y 0 0 ⟨by omega, by omega, fun h => absurd rfl h⟩ ho hr
theorem gF_take {Y : List Sp} {j : Nat} (hj : j < Y.length) : gF (Y.take (j + 1)) = max (gF (Y.take j)) (max (-(Y.getD j (0, 0)).1) (Y.getD j (0, 0)).2) := by
  rw [take_one hj]; unfold gF; rw [List.foldl_append]; rfl
theorem sF_take {Y : List Sp} {j : Nat} (hj : j < Y.length) : sF (Y.take (j + 1)) = sF1 (sF (Y.take j)) (Y.getD j (0, 0)) := by
  rw [take_one hj]; unfold sF; rw [List.foldl_append]; rfl
theorem okL_take {Y : List Sp} (h : okL Y) (j : Nat) : okL (Y.take j) := fun p hp => h p (List.mem_of_mem_take hp)
theorem r5L_take {Y : List Sp} (h : r5L Y) (j : Nat) : r5L (Y.take j) := fun p hp => h p (List.mem_of_mem_take hp)
set_option maxHeartbeats 4000000 in
set_option maxRecDepth 100000 in
theorem p_rs102 {M : gM} {n m c : Nat} {x y g s o z1 z2 : Int} {p : Sp} {jj : Nat} {Q : gθ} (hs : 0 ≤ s ∧ s ≤ 2147483648) (ho : o = ow p) (hr : 0 ≤ ow p ∧ ow p ≤ 2147483648) (hk : GW μX9_layRest (gRm 1 24 0 0) Q 0 0 133 [some (.ref m), some (.long (jI (x))), none, some (.long (jI (y))), none, some (.int (nI c)), some (.long (jI (g))), none, some (.long (jI (sF1 s p))), none, some (.int (nI jj)), some (.long (jI (z1))), none, some (.long (jI (z2))), none, some (.long (jI (o))), none] [] M n) : GW μX9_layRest (gRm 1 24 0 0) Q 0 0 102 [some (.ref m), some (.long (jI (x))), none, some (.long (jI (y))), none, some (.int (nI c)), some (.long (jI (g))), none, some (.long (jI (s))), none, some (.int (nI jj)), some (.long (jI (z1))), none, some (.long (jI (z2))), none, some (.long (jI (o))), none] [] M n := by
  refine g_lload dX9_layRest_102 rfl ?_
  refine g_lconst (v := jI 0) dX9_layRest_104 rfl ?_
  refine g_lcmp dX9_layRest_105 ?_
  refine g_if_le (tgt := 129) dX9_layRest_106 (by decide) (fun c_106 => ?_) (fun c_106 => ?_)
  · skip
    refine g_lload dX9_layRest_129 rfl ?_
    refine g_lstore dX9_layRest_131 (Nat.le_of_ble_eq_true rfl) ?_
    try rw [jc_le (by constructor <;> omega) (by constructor <;> omega)] at c_106
    try rw [jc_eq (by constructor <;> omega) (by constructor <;> omega)] at c_113
    try rw [jc_ge (by constructor <;> omega) (by constructor <;> omega)] at c_121
    unfold sF1 at hk
    first
      | (rw [if_pos (by omega), ← ho] at hk; exact hk)
      | (rw [if_neg (by omega)] at hk; exact hk)
  · skip
    refine g_lload dX9_layRest_109 rfl ?_
    refine g_lconst (v := jI 0) dX9_layRest_111 rfl ?_
    refine g_lcmp dX9_layRest_112 ?_
    refine g_if_eq (tgt := 124) dX9_layRest_113 (by decide) (fun c_113 => ?_) (fun c_113 => ?_)
    · skip
      refine g_lload dX9_layRest_124 rfl ?_
      refine g_goto (tgt := 131) dX9_layRest_126 (by decide) ?_
      refine g_lstore dX9_layRest_131 (Nat.le_of_ble_eq_true rfl) ?_
      try rw [jc_le (by constructor <;> omega) (by constructor <;> omega)] at c_106
      try rw [jc_eq (by constructor <;> omega) (by constructor <;> omega)] at c_113
      try rw [jc_ge (by constructor <;> omega) (by constructor <;> omega)] at c_121
      unfold sF1 at hk
      first
        | (rw [if_pos (by omega), ← ho] at hk; exact hk)
        | (rw [if_neg (by omega)] at hk; exact hk)
    · skip
      refine g_lload dX9_layRest_116 rfl ?_
      refine g_lload dX9_layRest_118 rfl ?_
      refine g_lcmp dX9_layRest_120 ?_
      refine g_if_ge (tgt := 129) dX9_layRest_121 (by decide) (fun c_121 => ?_) (fun c_121 => ?_)
      · skip
        refine g_lload dX9_layRest_129 rfl ?_
        refine g_lstore dX9_layRest_131 (Nat.le_of_ble_eq_true rfl) ?_
        try rw [jc_le (by constructor <;> omega) (by constructor <;> omega)] at c_106
        try rw [jc_eq (by constructor <;> omega) (by constructor <;> omega)] at c_113
        try rw [jc_ge (by constructor <;> omega) (by constructor <;> omega)] at c_121
        unfold sF1 at hk
        first
          | (rw [if_pos (by omega), ← ho] at hk; exact hk)
          | (rw [if_neg (by omega)] at hk; exact hk)
      · skip
        refine g_lload dX9_layRest_124 rfl ?_
        refine g_goto (tgt := 131) dX9_layRest_126 (by decide) ?_
        refine g_lstore dX9_layRest_131 (Nat.le_of_ble_eq_true rfl) ?_
        try rw [jc_le (by constructor <;> omega) (by constructor <;> omega)] at c_106
        try rw [jc_eq (by constructor <;> omega) (by constructor <;> omega)] at c_113
        try rw [jc_ge (by constructor <;> omega) (by constructor <;> omega)] at c_121
        unfold sF1 at hk
        first
          | (rw [if_pos (by omega), ← ho] at hk; exact hk)
          | (rw [if_neg (by omega)] at hk; exact hk)

set_option maxHeartbeats 4000000 in
set_option maxRecDepth 100000 in
theorem l_rs {M : gM} {n m c : Nat} {x y : Int} {Y : List Sp} {Q : gθ} (hm : gMod M m) (hc : c < 360) (hY : iS M m c Y) (oY : okX Y) (hk : GW μX9_layRest (gRm 1 24 0 0) Q 0 0 139 [some (.ref m), some (.long (jI (x))), none, some (.long (jI (y))), none, some (.int (nI c)), some (.long (jI (gF Y))), none, some (.long (jI (sF Y))), none, none, none, none, none, none, none, none] [] M n) : ∀ (d : Nat) (j : Nat), Y.length - j < d → j ≤ Y.length → GW μX9_layRest (gRm 1 24 0 0) Q 0 0 9 [some (.ref m), some (.long (jI (x))), none, some (.long (jI (y))), none, some (.int (nI c)), some (.long (jI (gF (Y.take j)))), none, some (.long (jI (sF (Y.take j)))), none, some (.int (nI j)), none, none, none, none, none, none] [] M n := by
  intro d
  induction d with
  | zero =>
    intro j hd hj
    omega
  | succ d ih =>
    intro j hd hj
    refine g_iload dX9_layRest_9 rfl ?_
    refine g_aload_n dX9_layRest_11 rfl ?_
    refine g_getR (f := 1) dX9_layRest_12 cl10 hm.1 (by decide) (Or.inl (iw_5 20 rfl)) (Or.inl rfl) rfl hm.r_many ?_
    refine g_iload dX9_layRest_15 rfl ?_
    refine g_iaload dX9_layRest_17 (j := c) hm.k_many hm.n_many rfl (by omega) (by decide) ?_
    rw [hY.2.1]
    have hY2 := oY.2.1
    refine g_icmp_ge (tgt := 139) dX9_layRest_18 (by decide) (fun c_18 => ?_) (fun c_18 => ?_)
    · skip
      rw [nI_leI (by omega) (by omega)] at c_18
      rw [List.take_of_length_le (by omega)]
      refine g_drop 10 ?_
      exact hk
    · skip
      rw [nI_leI (by omega) (by omega)] at c_18
      have hj2 : j < Y.length := by omega
      obtain ⟨r1, r2⟩ := r5_getD oY.2.2 hj2
      have ho := cn_okL oY.1 _ (getD_mem hj2)
      obtain ⟨a1, a2, a3⟩ := gsF (okL_take (cn_okL oY.1) j) (r5L_take oY.2.2 j)
      have hw := ow_r r1 r2 ho
      refine g_aload_n dX9_layRest_21 rfl ?_
      refine g_iload dX9_layRest_22 rfl ?_
      refine g_iload dX9_layRest_24 rfl ?_
      refine g_callV dX9_layRest_26 sX9_low (m_loX M n m c j Y hm hc hY hj2) cl10 hm.1 iX9_low vX9_low (iw_26 0 rfl) rfl rfl (Nat.le_of_ble_eq_true rfl) (Nat.le_of_ble_eq_true rfl) (Nat.le_of_ble_eq_true rfl) (Nat.le_of_ble_eq_true rfl) (Nat.le_of_ble_eq_true rfl) ?_
      intro r9 M9 n9 h9
      obtain ⟨h91, h92, h93⟩ := h9
      rw [h91, h92, h93]
      clear h91 h92 h93 r9 M9 n9
      refine g_lstore dX9_layRest_29 (Nat.le_of_ble_eq_true rfl) ?_
      refine g_aload_n dX9_layRest_31 rfl ?_
      refine g_iload dX9_layRest_32 rfl ?_
      refine g_iload dX9_layRest_34 rfl ?_
      refine g_callV dX9_layRest_36 sX9_high (m_hiX M n m c j Y hm hc hY hj2) cl10 hm.1 iX9_high vX9_high (iw_26 4 rfl) rfl rfl (Nat.le_of_ble_eq_true rfl) (Nat.le_of_ble_eq_true rfl) (Nat.le_of_ble_eq_true rfl) (Nat.le_of_ble_eq_true rfl) (Nat.le_of_ble_eq_true rfl) ?_
      intro r9 M9 n9 h9
      obtain ⟨h91, h92, h93⟩ := h9
      rw [h91, h92, h93]
      clear h91 h92 h93 r9 M9 n9
      refine g_lstore dX9_layRest_39 (Nat.le_of_ble_eq_true rfl) ?_
      refine g_lload dX9_layRest_41 rfl ?_
      refine g_lload dX9_layRest_43 rfl ?_
      refine g_lneg dX9_layRest_45 ?_
      rw [jI_neg]
      refine g_lload dX9_layRest_46 rfl ?_
      refine g_callS dX9_layRest_48 sX9_greater (m_mx M n (-(Y.getD j (0, 0)).1) ((Y.getD j (0, 0)).2) (by constructor <;> omega) (by constructor <;> omega)) tX9_greater (iw_27 7 rfl) rfl rfl (Nat.le_of_ble_eq_true rfl) (Nat.le_of_ble_eq_true rfl) (Nat.le_of_ble_eq_true rfl) (Nat.le_of_ble_eq_true rfl) (Nat.le_of_ble_eq_true rfl) ?_
      intro r9 M9 n9 h9
      obtain ⟨h91, h92, h93⟩ := h9
      rw [h91, h92, h93]
      clear h91 h92 h93 r9 M9 n9
      refine g_callS dX9_layRest_51 sX9_greater (m_mx M n (gF (Y.take j)) (max (-(Y.getD j (0, 0)).1) (Y.getD j (0, 0)).2) (by constructor <;> omega) (by constructor <;> omega)) tX9_greater (iw_27 7 rfl) rfl rfl (Nat.le_of_ble_eq_true rfl) (Nat.le_of_ble_eq_true rfl) (Nat.le_of_ble_eq_true rfl) (Nat.le_of_ble_eq_true rfl) (Nat.le_of_ble_eq_true rfl) ?_
      intro r9 M9 n9 h9
      obtain ⟨h91, h92, h93⟩ := h9
      rw [h91, h92, h93]
      clear h91 h92 h93 r9 M9 n9
      refine g_lstore dX9_layRest_54 (Nat.le_of_ble_eq_true rfl) ?_
      refine g_lload dX9_layRest_56 rfl ?_
      refine g_lconst (v := jI 0) dX9_layRest_58 rfl ?_
      refine g_lcmp dX9_layRest_59 ?_
      refine g_if_le (tgt := 68) dX9_layRest_60 (by decide) (fun c_60 => ?_) (fun c_60 => ?_)
      · skip
        refine g_lload dX9_layRest_68 rfl ?_
        refine g_lconst (v := jI 0) dX9_layRest_70 rfl ?_
        refine g_lcmp dX9_layRest_71 ?_
        refine g_if_ge (tgt := 81) dX9_layRest_72 (by decide) (fun c_72 => ?_) (fun c_72 => ?_)
        · skip
          refine g_lload dX9_layRest_81 rfl ?_
          refine g_lconst (v := jI 0) dX9_layRest_83 rfl ?_
          refine g_lcmp dX9_layRest_84 ?_
          refine g_if_lt (tgt := 95) dX9_layRest_85 (by decide) (fun c_85 => ?_) (fun c_85 => ?_)
          · skip
            refine g_lconst (v := jI 1) dX9_layRest_95 rfl ?_
            refine g_goto (tgt := 100) dX9_layRest_96 (by decide) ?_
            refine g_lstore dX9_layRest_100 (Nat.le_of_ble_eq_true rfl) ?_
            try rw [jc_le (by constructor <;> omega) (by constructor <;> omega)] at c_60
            try rw [jc_ge (by constructor <;> omega) (by constructor <;> omega)] at c_72
            try rw [jc_lt (by constructor <;> omega) (by constructor <;> omega)] at c_85
            try rw [jc_le (by constructor <;> omega) (by constructor <;> omega)] at c_92
            try rw [jI_neg]
            refine p_rs102 (p := Y.getD j (0, 0)) a2 (by unfold ow; first | rw [if_pos (by omega)] | rw [if_neg (by omega), if_pos (by omega)] | rw [if_neg (by omega), if_neg (by omega), if_pos (by omega)] | rw [if_neg (by omega), if_neg (by omega), if_neg (by omega)]) ⟨hw.1, hw.2.1⟩ ?_
            refine g_iinc dX9_layRest_133 rfl (nI_1 j) (Nat.le_of_ble_eq_true rfl) ?_
            refine g_goto (tgt := 9) dX9_layRest_136 (by decide) ?_
            refine g_drop 11 ?_
            refine g_drop 13 ?_
            refine g_drop 15 ?_
            have hg := ih (j + 1) (by omega) (by omega)
            rw [gF_take hj2, sF_take hj2] at hg
            exact hg
          · skip
            refine g_lload dX9_layRest_88 rfl ?_
            refine g_lconst (v := jI 0) dX9_layRest_90 rfl ?_
            refine g_lcmp dX9_layRest_91 ?_
            refine g_if_le (tgt := 99) dX9_layRest_92 (by decide) (fun c_92 => ?_) (fun c_92 => ?_)
            · skip
              refine g_lconst (v := jI 0) dX9_layRest_99 rfl ?_
              refine g_lstore dX9_layRest_100 (Nat.le_of_ble_eq_true rfl) ?_
              try rw [jc_le (by constructor <;> omega) (by constructor <;> omega)] at c_60
              try rw [jc_ge (by constructor <;> omega) (by constructor <;> omega)] at c_72
              try rw [jc_lt (by constructor <;> omega) (by constructor <;> omega)] at c_85
              try rw [jc_le (by constructor <;> omega) (by constructor <;> omega)] at c_92
              try rw [jI_neg]
              refine p_rs102 (p := Y.getD j (0, 0)) a2 (by unfold ow; first | rw [if_pos (by omega)] | rw [if_neg (by omega), if_pos (by omega)] | rw [if_neg (by omega), if_neg (by omega), if_pos (by omega)] | rw [if_neg (by omega), if_neg (by omega), if_neg (by omega)]) ⟨hw.1, hw.2.1⟩ ?_
              refine g_iinc dX9_layRest_133 rfl (nI_1 j) (Nat.le_of_ble_eq_true rfl) ?_
              refine g_goto (tgt := 9) dX9_layRest_136 (by decide) ?_
              refine g_drop 11 ?_
              refine g_drop 13 ?_
              refine g_drop 15 ?_
              have hg := ih (j + 1) (by omega) (by omega)
              rw [gF_take hj2, sF_take hj2] at hg
              exact hg
            · skip
              refine g_lconst (v := jI 1) dX9_layRest_95 rfl ?_
              refine g_goto (tgt := 100) dX9_layRest_96 (by decide) ?_
              refine g_lstore dX9_layRest_100 (Nat.le_of_ble_eq_true rfl) ?_
              try rw [jc_le (by constructor <;> omega) (by constructor <;> omega)] at c_60
              try rw [jc_ge (by constructor <;> omega) (by constructor <;> omega)] at c_72
              try rw [jc_lt (by constructor <;> omega) (by constructor <;> omega)] at c_85
              try rw [jc_le (by constructor <;> omega) (by constructor <;> omega)] at c_92
              try rw [jI_neg]
              refine p_rs102 (p := Y.getD j (0, 0)) a2 (by unfold ow; first | rw [if_pos (by omega)] | rw [if_neg (by omega), if_pos (by omega)] | rw [if_neg (by omega), if_neg (by omega), if_pos (by omega)] | rw [if_neg (by omega), if_neg (by omega), if_neg (by omega)]) ⟨hw.1, hw.2.1⟩ ?_
              refine g_iinc dX9_layRest_133 rfl (nI_1 j) (Nat.le_of_ble_eq_true rfl) ?_
              refine g_goto (tgt := 9) dX9_layRest_136 (by decide) ?_
              refine g_drop 11 ?_
              refine g_drop 13 ?_
              refine g_drop 15 ?_
              have hg := ih (j + 1) (by omega) (by omega)
              rw [gF_take hj2, sF_take hj2] at hg
              exact hg
        · skip
          refine g_lload dX9_layRest_75 rfl ?_
          refine g_lneg dX9_layRest_77 ?_
          refine g_goto (tgt := 100) dX9_layRest_78 (by decide) ?_
          refine g_lstore dX9_layRest_100 (Nat.le_of_ble_eq_true rfl) ?_
          try rw [jc_le (by constructor <;> omega) (by constructor <;> omega)] at c_60
          try rw [jc_ge (by constructor <;> omega) (by constructor <;> omega)] at c_72
          try rw [jc_lt (by constructor <;> omega) (by constructor <;> omega)] at c_85
          try rw [jc_le (by constructor <;> omega) (by constructor <;> omega)] at c_92
          try rw [jI_neg]
          refine p_rs102 (p := Y.getD j (0, 0)) a2 (by unfold ow; first | rw [if_pos (by omega)] | rw [if_neg (by omega), if_pos (by omega)] | rw [if_neg (by omega), if_neg (by omega), if_pos (by omega)] | rw [if_neg (by omega), if_neg (by omega), if_neg (by omega)]) ⟨hw.1, hw.2.1⟩ ?_
          refine g_iinc dX9_layRest_133 rfl (nI_1 j) (Nat.le_of_ble_eq_true rfl) ?_
          refine g_goto (tgt := 9) dX9_layRest_136 (by decide) ?_
          refine g_drop 11 ?_
          refine g_drop 13 ?_
          refine g_drop 15 ?_
          have hg := ih (j + 1) (by omega) (by omega)
          rw [gF_take hj2, sF_take hj2] at hg
          exact hg
      · skip
        refine g_lload dX9_layRest_63 rfl ?_
        refine g_goto (tgt := 100) dX9_layRest_65 (by decide) ?_
        refine g_lstore dX9_layRest_100 (Nat.le_of_ble_eq_true rfl) ?_
        try rw [jc_le (by constructor <;> omega) (by constructor <;> omega)] at c_60
        try rw [jc_ge (by constructor <;> omega) (by constructor <;> omega)] at c_72
        try rw [jc_lt (by constructor <;> omega) (by constructor <;> omega)] at c_85
        try rw [jc_le (by constructor <;> omega) (by constructor <;> omega)] at c_92
        try rw [jI_neg]
        refine p_rs102 (p := Y.getD j (0, 0)) a2 (by unfold ow; first | rw [if_pos (by omega)] | rw [if_neg (by omega), if_pos (by omega)] | rw [if_neg (by omega), if_neg (by omega), if_pos (by omega)] | rw [if_neg (by omega), if_neg (by omega), if_neg (by omega)]) ⟨hw.1, hw.2.1⟩ ?_
        refine g_iinc dX9_layRest_133 rfl (nI_1 j) (Nat.le_of_ble_eq_true rfl) ?_
        refine g_goto (tgt := 9) dX9_layRest_136 (by decide) ?_
        refine g_drop 11 ?_
        refine g_drop 13 ?_
        refine g_drop 15 ?_
        have hg := ih (j + 1) (by omega) (by omega)
        rw [gF_take hj2, sF_take hj2] at hg
        exact hg

set_option maxHeartbeats 4000000 in
set_option maxRecDepth 100000 in
theorem p_rs139 {M : gM} {n m c : Nat} {x y : Int} {Y L : List Sp} (hm : gMod M m) (oY : okX Y) (hL : iL M m L) (hl : L.length + 1 ≤ 64) (h1 : r5 x) (h2 : r5 y) (h3 : x ≤ y) : GW μX9_layRest (gRm 1 24 0 0) (gTh (fun r M1 n1 => r = none ∧ n1 = n ∧ Off M M1 (fL m) ∧ iL M1 m (L ++ restP Y (x, y))) 0 0) 0 0 139 [some (.ref m), some (.long (jI (x))), none, some (.long (jI (y))), none, some (.int (nI c)), some (.long (jI (gF Y))), none, some (.long (jI (sF Y))), none, none, none, none, none, none, none, none] [] M n := by
  obtain ⟨a1, a2, a3⟩ := gsF (cn_okL oY.1) oY.2.2
  refine g_lload dX9_layRest_139 rfl ?_
  refine g_lconst (v := jI 0) dX9_layRest_141 rfl ?_
  refine g_lcmp dX9_layRest_142 ?_
  refine g_if_ne (tgt := 147) dX9_layRest_143 (by decide) (fun c_143 => ?_) (fun c_143 => ?_)
  · skip
    rw [jc_eq (by constructor <;> omega) (by constructor <;> omega)] at c_143
    have a4 := a3 c_143
    refine g_lload_n dX9_layRest_147 rfl ?_
    refine g_lneg dX9_layRest_148 ?_
    rw [jI_neg]
    refine g_lload_n dX9_layRest_149 rfl ?_
    refine g_callS dX9_layRest_150 sX9_greater (m_mx M n (-x) (y) (by constructor <;> omega) (by constructor <;> omega)) tX9_greater (iw_27 7 rfl) rfl rfl (Nat.le_of_ble_eq_true rfl) (Nat.le_of_ble_eq_true rfl) (Nat.le_of_ble_eq_true rfl) (Nat.le_of_ble_eq_true rfl) (Nat.le_of_ble_eq_true rfl) ?_
    intro r9 M9 n9 h9
    obtain ⟨h91, h92, h93⟩ := h9
    rw [h91, h92, h93]
    clear h91 h92 h93 r9 M9 n9
    refine g_lload dX9_layRest_153 rfl ?_
    refine g_lcmp dX9_layRest_155 ?_
    refine g_if_ge (tgt := 204) dX9_layRest_156 (by decide) (fun c_156 => ?_) (fun c_156 => ?_)
    · skip
      try rw [jc_ge (by constructor <;> omega) (by constructor <;> omega)] at c_156
      try rw [jc_ge (by constructor <;> omega) (by constructor <;> omega)] at c_168
      try rw [jc_ge (by constructor <;> omega) (by constructor <;> omega)] at c_180
      try rw [jc_ge (by constructor <;> omega) (by constructor <;> omega)] at c_192
      refine g_aload_n dX9_layRest_204 rfl ?_
      refine g_lload_n dX9_layRest_205 rfl ?_
      refine g_lconst (v := jI 0) dX9_layRest_206 rfl ?_
      refine g_lcmp dX9_layRest_207 ?_
      refine g_if_lt (tgt := 215) dX9_layRest_208 (by decide) (fun c_208 => ?_) (fun c_208 => ?_)
      · skip
        rw [jc_lt (by constructor <;> omega) (by constructor <;> omega)] at c_208
        refine g_lload_n dX9_layRest_215 rfl ?_
        refine g_lconst (v := jI 1) dX9_layRest_216 rfl ?_
        refine g_lload dX9_layRest_217 rfl ?_
        refine g_lsub dX9_layRest_219 ?_
        rw [jI_sub]
        refine g_callS dX9_layRest_220 sX9_greater (m_mx M n (x) (1 - gF Y) (by constructor <;> omega) (by constructor <;> omega)) tX9_greater (iw_27 7 rfl) rfl rfl (Nat.le_of_ble_eq_true rfl) (Nat.le_of_ble_eq_true rfl) (Nat.le_of_ble_eq_true rfl) (Nat.le_of_ble_eq_true rfl) (Nat.le_of_ble_eq_true rfl) ?_
        intro r9 M9 n9 h9
        obtain ⟨h91, h92, h93⟩ := h9
        rw [h91, h92, h93]
        clear h91 h92 h93 r9 M9 n9
        refine g_lload_n dX9_layRest_223 rfl ?_
        refine g_lconst (v := jI 0) dX9_layRest_224 rfl ?_
        refine g_lcmp dX9_layRest_225 ?_
        refine g_if_gt (tgt := 233) dX9_layRest_226 (by decide) (fun c_226 => ?_) (fun c_226 => ?_)
        · skip
          rw [jc_gt (by constructor <;> omega) (by constructor <;> omega)] at c_226
          refine g_lload_n dX9_layRest_233 rfl ?_
          refine g_lload dX9_layRest_234 rfl ?_
          refine g_lconst (v := jI 1) dX9_layRest_236 rfl ?_
          refine g_lsub dX9_layRest_237 ?_
          rw [jI_sub]
          refine g_callS dX9_layRest_238 sX9_lesser (m_mn M n (y) (gF Y - 1) (by constructor <;> omega) (by constructor <;> omega)) tX9_lesser (iw_26 12 rfl) rfl rfl (Nat.le_of_ble_eq_true rfl) (Nat.le_of_ble_eq_true rfl) (Nat.le_of_ble_eq_true rfl) (Nat.le_of_ble_eq_true rfl) (Nat.le_of_ble_eq_true rfl) ?_
          intro r9 M9 n9 h9
          obtain ⟨h91, h92, h93⟩ := h9
          rw [h91, h92, h93]
          clear h91 h92 h93 r9 M9 n9
          refine g_callV dX9_layRest_241 sX9_lay (m_lay1 M n m (_) (_) L hm hL hl (by constructor <;> omega) (by constructor <;> omega) (by omega)) cl10 hm.1 iX9_lay vX9_lay (iw_25 15 rfl) rfl rfl (Nat.le_of_ble_eq_true rfl) (Nat.le_of_ble_eq_true rfl) (Nat.le_of_ble_eq_true rfl) (Nat.le_of_ble_eq_true rfl) (Nat.le_of_ble_eq_true rfl) ?_
          intro r9 M2 n9 h9
          obtain ⟨h91, h93, hO2, hI2⟩ := h9
          rw [h91, h93]
          clear h91 h93 r9 n9
          exact g_vret dX9_layRest_244 rfl (Nat.le_of_ble_eq_true rfl) (Nat.le_of_ble_eq_true rfl) (by
            refine ⟨rfl, rfl, hO2, ?_⟩
            unfold restP
            rw [if_neg c_143]
            simp only
            first
              | (rw [if_pos (by omega)]; exact hI2)
              | (rw [if_neg (by omega)]
                 first
                   | (rw [if_pos (by omega), if_pos (by omega)]; exact hI2)
                   | (rw [if_pos (by omega), if_neg (by omega)]; exact hI2)
                   | (rw [if_neg (by omega), if_pos (by omega)]; exact hI2)
                   | (rw [if_neg (by omega), if_neg (by omega)]; exact hI2)))
        · skip
          rw [jc_gt (by constructor <;> omega) (by constructor <;> omega)] at c_226
          refine g_lconst (v := jI 0) dX9_layRest_229 rfl ?_
          refine g_goto (tgt := 241) dX9_layRest_230 (by decide) ?_
          refine g_callV dX9_layRest_241 sX9_lay (m_lay1 M n m (_) (_) L hm hL hl (by constructor <;> omega) (by constructor <;> omega) (by omega)) cl10 hm.1 iX9_lay vX9_lay (iw_25 15 rfl) rfl rfl (Nat.le_of_ble_eq_true rfl) (Nat.le_of_ble_eq_true rfl) (Nat.le_of_ble_eq_true rfl) (Nat.le_of_ble_eq_true rfl) (Nat.le_of_ble_eq_true rfl) ?_
          intro r9 M2 n9 h9
          obtain ⟨h91, h93, hO2, hI2⟩ := h9
          rw [h91, h93]
          clear h91 h93 r9 n9
          exact g_vret dX9_layRest_244 rfl (Nat.le_of_ble_eq_true rfl) (Nat.le_of_ble_eq_true rfl) (by
            refine ⟨rfl, rfl, hO2, ?_⟩
            unfold restP
            rw [if_neg c_143]
            simp only
            first
              | (rw [if_pos (by omega)]; exact hI2)
              | (rw [if_neg (by omega)]
                 first
                   | (rw [if_pos (by omega), if_pos (by omega)]; exact hI2)
                   | (rw [if_pos (by omega), if_neg (by omega)]; exact hI2)
                   | (rw [if_neg (by omega), if_pos (by omega)]; exact hI2)
                   | (rw [if_neg (by omega), if_neg (by omega)]; exact hI2)))
      · skip
        rw [jc_lt (by constructor <;> omega) (by constructor <;> omega)] at c_208
        refine g_lconst (v := jI 0) dX9_layRest_211 rfl ?_
        refine g_goto (tgt := 223) dX9_layRest_212 (by decide) ?_
        refine g_lload_n dX9_layRest_223 rfl ?_
        refine g_lconst (v := jI 0) dX9_layRest_224 rfl ?_
        refine g_lcmp dX9_layRest_225 ?_
        refine g_if_gt (tgt := 233) dX9_layRest_226 (by decide) (fun c_226 => ?_) (fun c_226 => ?_)
        · skip
          rw [jc_gt (by constructor <;> omega) (by constructor <;> omega)] at c_226
          refine g_lload_n dX9_layRest_233 rfl ?_
          refine g_lload dX9_layRest_234 rfl ?_
          refine g_lconst (v := jI 1) dX9_layRest_236 rfl ?_
          refine g_lsub dX9_layRest_237 ?_
          rw [jI_sub]
          refine g_callS dX9_layRest_238 sX9_lesser (m_mn M n (y) (gF Y - 1) (by constructor <;> omega) (by constructor <;> omega)) tX9_lesser (iw_26 12 rfl) rfl rfl (Nat.le_of_ble_eq_true rfl) (Nat.le_of_ble_eq_true rfl) (Nat.le_of_ble_eq_true rfl) (Nat.le_of_ble_eq_true rfl) (Nat.le_of_ble_eq_true rfl) ?_
          intro r9 M9 n9 h9
          obtain ⟨h91, h92, h93⟩ := h9
          rw [h91, h92, h93]
          clear h91 h92 h93 r9 M9 n9
          refine g_callV dX9_layRest_241 sX9_lay (m_lay1 M n m (_) (_) L hm hL hl (by constructor <;> omega) (by constructor <;> omega) (by omega)) cl10 hm.1 iX9_lay vX9_lay (iw_25 15 rfl) rfl rfl (Nat.le_of_ble_eq_true rfl) (Nat.le_of_ble_eq_true rfl) (Nat.le_of_ble_eq_true rfl) (Nat.le_of_ble_eq_true rfl) (Nat.le_of_ble_eq_true rfl) ?_
          intro r9 M2 n9 h9
          obtain ⟨h91, h93, hO2, hI2⟩ := h9
          rw [h91, h93]
          clear h91 h93 r9 n9
          exact g_vret dX9_layRest_244 rfl (Nat.le_of_ble_eq_true rfl) (Nat.le_of_ble_eq_true rfl) (by
            refine ⟨rfl, rfl, hO2, ?_⟩
            unfold restP
            rw [if_neg c_143]
            simp only
            first
              | (rw [if_pos (by omega)]; exact hI2)
              | (rw [if_neg (by omega)]
                 first
                   | (rw [if_pos (by omega), if_pos (by omega)]; exact hI2)
                   | (rw [if_pos (by omega), if_neg (by omega)]; exact hI2)
                   | (rw [if_neg (by omega), if_pos (by omega)]; exact hI2)
                   | (rw [if_neg (by omega), if_neg (by omega)]; exact hI2)))
        · skip
          rw [jc_gt (by constructor <;> omega) (by constructor <;> omega)] at c_226
          refine g_lconst (v := jI 0) dX9_layRest_229 rfl ?_
          refine g_goto (tgt := 241) dX9_layRest_230 (by decide) ?_
          refine g_callV dX9_layRest_241 sX9_lay (m_lay1 M n m (_) (_) L hm hL hl (by constructor <;> omega) (by constructor <;> omega) (by omega)) cl10 hm.1 iX9_lay vX9_lay (iw_25 15 rfl) rfl rfl (Nat.le_of_ble_eq_true rfl) (Nat.le_of_ble_eq_true rfl) (Nat.le_of_ble_eq_true rfl) (Nat.le_of_ble_eq_true rfl) (Nat.le_of_ble_eq_true rfl) ?_
          intro r9 M2 n9 h9
          obtain ⟨h91, h93, hO2, hI2⟩ := h9
          rw [h91, h93]
          clear h91 h93 r9 n9
          exact g_vret dX9_layRest_244 rfl (Nat.le_of_ble_eq_true rfl) (Nat.le_of_ble_eq_true rfl) (by
            refine ⟨rfl, rfl, hO2, ?_⟩
            unfold restP
            rw [if_neg c_143]
            simp only
            first
              | (rw [if_pos (by omega)]; exact hI2)
              | (rw [if_neg (by omega)]
                 first
                   | (rw [if_pos (by omega), if_pos (by omega)]; exact hI2)
                   | (rw [if_pos (by omega), if_neg (by omega)]; exact hI2)
                   | (rw [if_neg (by omega), if_pos (by omega)]; exact hI2)
                   | (rw [if_neg (by omega), if_neg (by omega)]; exact hI2)))
    · skip
      rw [jc_ge (by constructor <;> omega) (by constructor <;> omega)] at c_156
      refine g_lload_n dX9_layRest_159 rfl ?_
      refine g_lload_n dX9_layRest_160 rfl ?_
      refine g_lneg dX9_layRest_161 ?_
      rw [jI_neg]
      refine g_callS dX9_layRest_162 sX9_greater (m_mx M n (x) (-y) (by constructor <;> omega) (by constructor <;> omega)) tX9_greater (iw_27 7 rfl) rfl rfl (Nat.le_of_ble_eq_true rfl) (Nat.le_of_ble_eq_true rfl) (Nat.le_of_ble_eq_true rfl) (Nat.le_of_ble_eq_true rfl) (Nat.le_of_ble_eq_true rfl) ?_
      intro r9 M9 n9 h9
      obtain ⟨h91, h92, h93⟩ := h9
      rw [h91, h92, h93]
      clear h91 h92 h93 r9 M9 n9
      refine g_lload dX9_layRest_165 rfl ?_
      refine g_lcmp dX9_layRest_167 ?_
      refine g_if_ge (tgt := 204) dX9_layRest_168 (by decide) (fun c_168 => ?_) (fun c_168 => ?_)
      · skip
        try rw [jc_ge (by constructor <;> omega) (by constructor <;> omega)] at c_156
        try rw [jc_ge (by constructor <;> omega) (by constructor <;> omega)] at c_168
        try rw [jc_ge (by constructor <;> omega) (by constructor <;> omega)] at c_180
        try rw [jc_ge (by constructor <;> omega) (by constructor <;> omega)] at c_192
        refine g_aload_n dX9_layRest_204 rfl ?_
        refine g_lload_n dX9_layRest_205 rfl ?_
        refine g_lconst (v := jI 0) dX9_layRest_206 rfl ?_
        refine g_lcmp dX9_layRest_207 ?_
        refine g_if_lt (tgt := 215) dX9_layRest_208 (by decide) (fun c_208 => ?_) (fun c_208 => ?_)
        · skip
          rw [jc_lt (by constructor <;> omega) (by constructor <;> omega)] at c_208
          refine g_lload_n dX9_layRest_215 rfl ?_
          refine g_lconst (v := jI 1) dX9_layRest_216 rfl ?_
          refine g_lload dX9_layRest_217 rfl ?_
          refine g_lsub dX9_layRest_219 ?_
          rw [jI_sub]
          refine g_callS dX9_layRest_220 sX9_greater (m_mx M n (x) (1 - gF Y) (by constructor <;> omega) (by constructor <;> omega)) tX9_greater (iw_27 7 rfl) rfl rfl (Nat.le_of_ble_eq_true rfl) (Nat.le_of_ble_eq_true rfl) (Nat.le_of_ble_eq_true rfl) (Nat.le_of_ble_eq_true rfl) (Nat.le_of_ble_eq_true rfl) ?_
          intro r9 M9 n9 h9
          obtain ⟨h91, h92, h93⟩ := h9
          rw [h91, h92, h93]
          clear h91 h92 h93 r9 M9 n9
          refine g_lload_n dX9_layRest_223 rfl ?_
          refine g_lconst (v := jI 0) dX9_layRest_224 rfl ?_
          refine g_lcmp dX9_layRest_225 ?_
          refine g_if_gt (tgt := 233) dX9_layRest_226 (by decide) (fun c_226 => ?_) (fun c_226 => ?_)
          · skip
            rw [jc_gt (by constructor <;> omega) (by constructor <;> omega)] at c_226
            refine g_lload_n dX9_layRest_233 rfl ?_
            refine g_lload dX9_layRest_234 rfl ?_
            refine g_lconst (v := jI 1) dX9_layRest_236 rfl ?_
            refine g_lsub dX9_layRest_237 ?_
            rw [jI_sub]
            refine g_callS dX9_layRest_238 sX9_lesser (m_mn M n (y) (gF Y - 1) (by constructor <;> omega) (by constructor <;> omega)) tX9_lesser (iw_26 12 rfl) rfl rfl (Nat.le_of_ble_eq_true rfl) (Nat.le_of_ble_eq_true rfl) (Nat.le_of_ble_eq_true rfl) (Nat.le_of_ble_eq_true rfl) (Nat.le_of_ble_eq_true rfl) ?_
            intro r9 M9 n9 h9
            obtain ⟨h91, h92, h93⟩ := h9
            rw [h91, h92, h93]
            clear h91 h92 h93 r9 M9 n9
            refine g_callV dX9_layRest_241 sX9_lay (m_lay1 M n m (_) (_) L hm hL hl (by constructor <;> omega) (by constructor <;> omega) (by omega)) cl10 hm.1 iX9_lay vX9_lay (iw_25 15 rfl) rfl rfl (Nat.le_of_ble_eq_true rfl) (Nat.le_of_ble_eq_true rfl) (Nat.le_of_ble_eq_true rfl) (Nat.le_of_ble_eq_true rfl) (Nat.le_of_ble_eq_true rfl) ?_
            intro r9 M2 n9 h9
            obtain ⟨h91, h93, hO2, hI2⟩ := h9
            rw [h91, h93]
            clear h91 h93 r9 n9
            exact g_vret dX9_layRest_244 rfl (Nat.le_of_ble_eq_true rfl) (Nat.le_of_ble_eq_true rfl) (by
              refine ⟨rfl, rfl, hO2, ?_⟩
              unfold restP
              rw [if_neg c_143]
              simp only
              first
                | (rw [if_pos (by omega)]; exact hI2)
                | (rw [if_neg (by omega)]
                   first
                     | (rw [if_pos (by omega), if_pos (by omega)]; exact hI2)
                     | (rw [if_pos (by omega), if_neg (by omega)]; exact hI2)
                     | (rw [if_neg (by omega), if_pos (by omega)]; exact hI2)
                     | (rw [if_neg (by omega), if_neg (by omega)]; exact hI2)))
          · skip
            rw [jc_gt (by constructor <;> omega) (by constructor <;> omega)] at c_226
            refine g_lconst (v := jI 0) dX9_layRest_229 rfl ?_
            refine g_goto (tgt := 241) dX9_layRest_230 (by decide) ?_
            refine g_callV dX9_layRest_241 sX9_lay (m_lay1 M n m (_) (_) L hm hL hl (by constructor <;> omega) (by constructor <;> omega) (by omega)) cl10 hm.1 iX9_lay vX9_lay (iw_25 15 rfl) rfl rfl (Nat.le_of_ble_eq_true rfl) (Nat.le_of_ble_eq_true rfl) (Nat.le_of_ble_eq_true rfl) (Nat.le_of_ble_eq_true rfl) (Nat.le_of_ble_eq_true rfl) ?_
            intro r9 M2 n9 h9
            obtain ⟨h91, h93, hO2, hI2⟩ := h9
            rw [h91, h93]
            clear h91 h93 r9 n9
            exact g_vret dX9_layRest_244 rfl (Nat.le_of_ble_eq_true rfl) (Nat.le_of_ble_eq_true rfl) (by
              refine ⟨rfl, rfl, hO2, ?_⟩
              unfold restP
              rw [if_neg c_143]
              simp only
              first
                | (rw [if_pos (by omega)]; exact hI2)
                | (rw [if_neg (by omega)]
                   first
                     | (rw [if_pos (by omega), if_pos (by omega)]; exact hI2)
                     | (rw [if_pos (by omega), if_neg (by omega)]; exact hI2)
                     | (rw [if_neg (by omega), if_pos (by omega)]; exact hI2)
                     | (rw [if_neg (by omega), if_neg (by omega)]; exact hI2)))
        · skip
          rw [jc_lt (by constructor <;> omega) (by constructor <;> omega)] at c_208
          refine g_lconst (v := jI 0) dX9_layRest_211 rfl ?_
          refine g_goto (tgt := 223) dX9_layRest_212 (by decide) ?_
          refine g_lload_n dX9_layRest_223 rfl ?_
          refine g_lconst (v := jI 0) dX9_layRest_224 rfl ?_
          refine g_lcmp dX9_layRest_225 ?_
          refine g_if_gt (tgt := 233) dX9_layRest_226 (by decide) (fun c_226 => ?_) (fun c_226 => ?_)
          · skip
            rw [jc_gt (by constructor <;> omega) (by constructor <;> omega)] at c_226
            refine g_lload_n dX9_layRest_233 rfl ?_
            refine g_lload dX9_layRest_234 rfl ?_
            refine g_lconst (v := jI 1) dX9_layRest_236 rfl ?_
            refine g_lsub dX9_layRest_237 ?_
            rw [jI_sub]
            refine g_callS dX9_layRest_238 sX9_lesser (m_mn M n (y) (gF Y - 1) (by constructor <;> omega) (by constructor <;> omega)) tX9_lesser (iw_26 12 rfl) rfl rfl (Nat.le_of_ble_eq_true rfl) (Nat.le_of_ble_eq_true rfl) (Nat.le_of_ble_eq_true rfl) (Nat.le_of_ble_eq_true rfl) (Nat.le_of_ble_eq_true rfl) ?_
            intro r9 M9 n9 h9
            obtain ⟨h91, h92, h93⟩ := h9
            rw [h91, h92, h93]
            clear h91 h92 h93 r9 M9 n9
            refine g_callV dX9_layRest_241 sX9_lay (m_lay1 M n m (_) (_) L hm hL hl (by constructor <;> omega) (by constructor <;> omega) (by omega)) cl10 hm.1 iX9_lay vX9_lay (iw_25 15 rfl) rfl rfl (Nat.le_of_ble_eq_true rfl) (Nat.le_of_ble_eq_true rfl) (Nat.le_of_ble_eq_true rfl) (Nat.le_of_ble_eq_true rfl) (Nat.le_of_ble_eq_true rfl) ?_
            intro r9 M2 n9 h9
            obtain ⟨h91, h93, hO2, hI2⟩ := h9
            rw [h91, h93]
            clear h91 h93 r9 n9
            exact g_vret dX9_layRest_244 rfl (Nat.le_of_ble_eq_true rfl) (Nat.le_of_ble_eq_true rfl) (by
              refine ⟨rfl, rfl, hO2, ?_⟩
              unfold restP
              rw [if_neg c_143]
              simp only
              first
                | (rw [if_pos (by omega)]; exact hI2)
                | (rw [if_neg (by omega)]
                   first
                     | (rw [if_pos (by omega), if_pos (by omega)]; exact hI2)
                     | (rw [if_pos (by omega), if_neg (by omega)]; exact hI2)
                     | (rw [if_neg (by omega), if_pos (by omega)]; exact hI2)
                     | (rw [if_neg (by omega), if_neg (by omega)]; exact hI2)))
          · skip
            rw [jc_gt (by constructor <;> omega) (by constructor <;> omega)] at c_226
            refine g_lconst (v := jI 0) dX9_layRest_229 rfl ?_
            refine g_goto (tgt := 241) dX9_layRest_230 (by decide) ?_
            refine g_callV dX9_layRest_241 sX9_lay (m_lay1 M n m (_) (_) L hm hL hl (by constructor <;> omega) (by constructor <;> omega) (by omega)) cl10 hm.1 iX9_lay vX9_lay (iw_25 15 rfl) rfl rfl (Nat.le_of_ble_eq_true rfl) (Nat.le_of_ble_eq_true rfl) (Nat.le_of_ble_eq_true rfl) (Nat.le_of_ble_eq_true rfl) (Nat.le_of_ble_eq_true rfl) ?_
            intro r9 M2 n9 h9
            obtain ⟨h91, h93, hO2, hI2⟩ := h9
            rw [h91, h93]
            clear h91 h93 r9 n9
            exact g_vret dX9_layRest_244 rfl (Nat.le_of_ble_eq_true rfl) (Nat.le_of_ble_eq_true rfl) (by
              refine ⟨rfl, rfl, hO2, ?_⟩
              unfold restP
              rw [if_neg c_143]
              simp only
              first
                | (rw [if_pos (by omega)]; exact hI2)
                | (rw [if_neg (by omega)]
                   first
                     | (rw [if_pos (by omega), if_pos (by omega)]; exact hI2)
                     | (rw [if_pos (by omega), if_neg (by omega)]; exact hI2)
                     | (rw [if_neg (by omega), if_pos (by omega)]; exact hI2)
                     | (rw [if_neg (by omega), if_neg (by omega)]; exact hI2)))
      · skip
        rw [jc_ge (by constructor <;> omega) (by constructor <;> omega)] at c_168
        refine g_lload_n dX9_layRest_171 rfl ?_
        refine g_lneg dX9_layRest_172 ?_
        rw [jI_neg]
        refine g_lload_n dX9_layRest_173 rfl ?_
        refine g_callS dX9_layRest_174 sX9_greater (m_mx M n (-x) (x) (by constructor <;> omega) (by constructor <;> omega)) tX9_greater (iw_27 7 rfl) rfl rfl (Nat.le_of_ble_eq_true rfl) (Nat.le_of_ble_eq_true rfl) (Nat.le_of_ble_eq_true rfl) (Nat.le_of_ble_eq_true rfl) (Nat.le_of_ble_eq_true rfl) ?_
        intro r9 M9 n9 h9
        obtain ⟨h91, h92, h93⟩ := h9
        rw [h91, h92, h93]
        clear h91 h92 h93 r9 M9 n9
        refine g_lload dX9_layRest_177 rfl ?_
        refine g_lcmp dX9_layRest_179 ?_
        refine g_if_ge (tgt := 204) dX9_layRest_180 (by decide) (fun c_180 => ?_) (fun c_180 => ?_)
        · skip
          try rw [jc_ge (by constructor <;> omega) (by constructor <;> omega)] at c_156
          try rw [jc_ge (by constructor <;> omega) (by constructor <;> omega)] at c_168
          try rw [jc_ge (by constructor <;> omega) (by constructor <;> omega)] at c_180
          try rw [jc_ge (by constructor <;> omega) (by constructor <;> omega)] at c_192
          refine g_aload_n dX9_layRest_204 rfl ?_
          refine g_lload_n dX9_layRest_205 rfl ?_
          refine g_lconst (v := jI 0) dX9_layRest_206 rfl ?_
          refine g_lcmp dX9_layRest_207 ?_
          refine g_if_lt (tgt := 215) dX9_layRest_208 (by decide) (fun c_208 => ?_) (fun c_208 => ?_)
          · skip
            rw [jc_lt (by constructor <;> omega) (by constructor <;> omega)] at c_208
            refine g_lload_n dX9_layRest_215 rfl ?_
            refine g_lconst (v := jI 1) dX9_layRest_216 rfl ?_
            refine g_lload dX9_layRest_217 rfl ?_
            refine g_lsub dX9_layRest_219 ?_
            rw [jI_sub]
            refine g_callS dX9_layRest_220 sX9_greater (m_mx M n (x) (1 - gF Y) (by constructor <;> omega) (by constructor <;> omega)) tX9_greater (iw_27 7 rfl) rfl rfl (Nat.le_of_ble_eq_true rfl) (Nat.le_of_ble_eq_true rfl) (Nat.le_of_ble_eq_true rfl) (Nat.le_of_ble_eq_true rfl) (Nat.le_of_ble_eq_true rfl) ?_
            intro r9 M9 n9 h9
            obtain ⟨h91, h92, h93⟩ := h9
            rw [h91, h92, h93]
            clear h91 h92 h93 r9 M9 n9
            refine g_lload_n dX9_layRest_223 rfl ?_
            refine g_lconst (v := jI 0) dX9_layRest_224 rfl ?_
            refine g_lcmp dX9_layRest_225 ?_
            refine g_if_gt (tgt := 233) dX9_layRest_226 (by decide) (fun c_226 => ?_) (fun c_226 => ?_)
            · skip
              rw [jc_gt (by constructor <;> omega) (by constructor <;> omega)] at c_226
              refine g_lload_n dX9_layRest_233 rfl ?_
              refine g_lload dX9_layRest_234 rfl ?_
              refine g_lconst (v := jI 1) dX9_layRest_236 rfl ?_
              refine g_lsub dX9_layRest_237 ?_
              rw [jI_sub]
              refine g_callS dX9_layRest_238 sX9_lesser (m_mn M n (y) (gF Y - 1) (by constructor <;> omega) (by constructor <;> omega)) tX9_lesser (iw_26 12 rfl) rfl rfl (Nat.le_of_ble_eq_true rfl) (Nat.le_of_ble_eq_true rfl) (Nat.le_of_ble_eq_true rfl) (Nat.le_of_ble_eq_true rfl) (Nat.le_of_ble_eq_true rfl) ?_
              intro r9 M9 n9 h9
              obtain ⟨h91, h92, h93⟩ := h9
              rw [h91, h92, h93]
              clear h91 h92 h93 r9 M9 n9
              refine g_callV dX9_layRest_241 sX9_lay (m_lay1 M n m (_) (_) L hm hL hl (by constructor <;> omega) (by constructor <;> omega) (by omega)) cl10 hm.1 iX9_lay vX9_lay (iw_25 15 rfl) rfl rfl (Nat.le_of_ble_eq_true rfl) (Nat.le_of_ble_eq_true rfl) (Nat.le_of_ble_eq_true rfl) (Nat.le_of_ble_eq_true rfl) (Nat.le_of_ble_eq_true rfl) ?_
              intro r9 M2 n9 h9
              obtain ⟨h91, h93, hO2, hI2⟩ := h9
              rw [h91, h93]
              clear h91 h93 r9 n9
              exact g_vret dX9_layRest_244 rfl (Nat.le_of_ble_eq_true rfl) (Nat.le_of_ble_eq_true rfl) (by
                refine ⟨rfl, rfl, hO2, ?_⟩
                unfold restP
                rw [if_neg c_143]
                simp only
                first
                  | (rw [if_pos (by omega)]; exact hI2)
                  | (rw [if_neg (by omega)]
                     first
                       | (rw [if_pos (by omega), if_pos (by omega)]; exact hI2)
                       | (rw [if_pos (by omega), if_neg (by omega)]; exact hI2)
                       | (rw [if_neg (by omega), if_pos (by omega)]; exact hI2)
                       | (rw [if_neg (by omega), if_neg (by omega)]; exact hI2)))
            · skip
              rw [jc_gt (by constructor <;> omega) (by constructor <;> omega)] at c_226
              refine g_lconst (v := jI 0) dX9_layRest_229 rfl ?_
              refine g_goto (tgt := 241) dX9_layRest_230 (by decide) ?_
              refine g_callV dX9_layRest_241 sX9_lay (m_lay1 M n m (_) (_) L hm hL hl (by constructor <;> omega) (by constructor <;> omega) (by omega)) cl10 hm.1 iX9_lay vX9_lay (iw_25 15 rfl) rfl rfl (Nat.le_of_ble_eq_true rfl) (Nat.le_of_ble_eq_true rfl) (Nat.le_of_ble_eq_true rfl) (Nat.le_of_ble_eq_true rfl) (Nat.le_of_ble_eq_true rfl) ?_
              intro r9 M2 n9 h9
              obtain ⟨h91, h93, hO2, hI2⟩ := h9
              rw [h91, h93]
              clear h91 h93 r9 n9
              exact g_vret dX9_layRest_244 rfl (Nat.le_of_ble_eq_true rfl) (Nat.le_of_ble_eq_true rfl) (by
                refine ⟨rfl, rfl, hO2, ?_⟩
                unfold restP
                rw [if_neg c_143]
                simp only
                first
                  | (rw [if_pos (by omega)]; exact hI2)
                  | (rw [if_neg (by omega)]
                     first
                       | (rw [if_pos (by omega), if_pos (by omega)]; exact hI2)
                       | (rw [if_pos (by omega), if_neg (by omega)]; exact hI2)
                       | (rw [if_neg (by omega), if_pos (by omega)]; exact hI2)
                       | (rw [if_neg (by omega), if_neg (by omega)]; exact hI2)))
          · skip
            rw [jc_lt (by constructor <;> omega) (by constructor <;> omega)] at c_208
            refine g_lconst (v := jI 0) dX9_layRest_211 rfl ?_
            refine g_goto (tgt := 223) dX9_layRest_212 (by decide) ?_
            refine g_lload_n dX9_layRest_223 rfl ?_
            refine g_lconst (v := jI 0) dX9_layRest_224 rfl ?_
            refine g_lcmp dX9_layRest_225 ?_
            refine g_if_gt (tgt := 233) dX9_layRest_226 (by decide) (fun c_226 => ?_) (fun c_226 => ?_)
            · skip
              rw [jc_gt (by constructor <;> omega) (by constructor <;> omega)] at c_226
              refine g_lload_n dX9_layRest_233 rfl ?_
              refine g_lload dX9_layRest_234 rfl ?_
              refine g_lconst (v := jI 1) dX9_layRest_236 rfl ?_
              refine g_lsub dX9_layRest_237 ?_
              rw [jI_sub]
              refine g_callS dX9_layRest_238 sX9_lesser (m_mn M n (y) (gF Y - 1) (by constructor <;> omega) (by constructor <;> omega)) tX9_lesser (iw_26 12 rfl) rfl rfl (Nat.le_of_ble_eq_true rfl) (Nat.le_of_ble_eq_true rfl) (Nat.le_of_ble_eq_true rfl) (Nat.le_of_ble_eq_true rfl) (Nat.le_of_ble_eq_true rfl) ?_
              intro r9 M9 n9 h9
              obtain ⟨h91, h92, h93⟩ := h9
              rw [h91, h92, h93]
              clear h91 h92 h93 r9 M9 n9
              refine g_callV dX9_layRest_241 sX9_lay (m_lay1 M n m (_) (_) L hm hL hl (by constructor <;> omega) (by constructor <;> omega) (by omega)) cl10 hm.1 iX9_lay vX9_lay (iw_25 15 rfl) rfl rfl (Nat.le_of_ble_eq_true rfl) (Nat.le_of_ble_eq_true rfl) (Nat.le_of_ble_eq_true rfl) (Nat.le_of_ble_eq_true rfl) (Nat.le_of_ble_eq_true rfl) ?_
              intro r9 M2 n9 h9
              obtain ⟨h91, h93, hO2, hI2⟩ := h9
              rw [h91, h93]
              clear h91 h93 r9 n9
              exact g_vret dX9_layRest_244 rfl (Nat.le_of_ble_eq_true rfl) (Nat.le_of_ble_eq_true rfl) (by
                refine ⟨rfl, rfl, hO2, ?_⟩
                unfold restP
                rw [if_neg c_143]
                simp only
                first
                  | (rw [if_pos (by omega)]; exact hI2)
                  | (rw [if_neg (by omega)]
                     first
                       | (rw [if_pos (by omega), if_pos (by omega)]; exact hI2)
                       | (rw [if_pos (by omega), if_neg (by omega)]; exact hI2)
                       | (rw [if_neg (by omega), if_pos (by omega)]; exact hI2)
                       | (rw [if_neg (by omega), if_neg (by omega)]; exact hI2)))
            · skip
              rw [jc_gt (by constructor <;> omega) (by constructor <;> omega)] at c_226
              refine g_lconst (v := jI 0) dX9_layRest_229 rfl ?_
              refine g_goto (tgt := 241) dX9_layRest_230 (by decide) ?_
              refine g_callV dX9_layRest_241 sX9_lay (m_lay1 M n m (_) (_) L hm hL hl (by constructor <;> omega) (by constructor <;> omega) (by omega)) cl10 hm.1 iX9_lay vX9_lay (iw_25 15 rfl) rfl rfl (Nat.le_of_ble_eq_true rfl) (Nat.le_of_ble_eq_true rfl) (Nat.le_of_ble_eq_true rfl) (Nat.le_of_ble_eq_true rfl) (Nat.le_of_ble_eq_true rfl) ?_
              intro r9 M2 n9 h9
              obtain ⟨h91, h93, hO2, hI2⟩ := h9
              rw [h91, h93]
              clear h91 h93 r9 n9
              exact g_vret dX9_layRest_244 rfl (Nat.le_of_ble_eq_true rfl) (Nat.le_of_ble_eq_true rfl) (by
                refine ⟨rfl, rfl, hO2, ?_⟩
                unfold restP
                rw [if_neg c_143]
                simp only
                first
                  | (rw [if_pos (by omega)]; exact hI2)
                  | (rw [if_neg (by omega)]
                     first
                       | (rw [if_pos (by omega), if_pos (by omega)]; exact hI2)
                       | (rw [if_pos (by omega), if_neg (by omega)]; exact hI2)
                       | (rw [if_neg (by omega), if_pos (by omega)]; exact hI2)
                       | (rw [if_neg (by omega), if_neg (by omega)]; exact hI2)))
        · skip
          rw [jc_ge (by constructor <;> omega) (by constructor <;> omega)] at c_180
          refine g_lload_n dX9_layRest_183 rfl ?_
          refine g_lneg dX9_layRest_184 ?_
          rw [jI_neg]
          refine g_lload_n dX9_layRest_185 rfl ?_
          refine g_callS dX9_layRest_186 sX9_greater (m_mx M n (-y) (y) (by constructor <;> omega) (by constructor <;> omega)) tX9_greater (iw_27 7 rfl) rfl rfl (Nat.le_of_ble_eq_true rfl) (Nat.le_of_ble_eq_true rfl) (Nat.le_of_ble_eq_true rfl) (Nat.le_of_ble_eq_true rfl) (Nat.le_of_ble_eq_true rfl) ?_
          intro r9 M9 n9 h9
          obtain ⟨h91, h92, h93⟩ := h9
          rw [h91, h92, h93]
          clear h91 h92 h93 r9 M9 n9
          refine g_lload dX9_layRest_189 rfl ?_
          refine g_lcmp dX9_layRest_191 ?_
          refine g_if_ge (tgt := 204) dX9_layRest_192 (by decide) (fun c_192 => ?_) (fun c_192 => ?_)
          · skip
            try rw [jc_ge (by constructor <;> omega) (by constructor <;> omega)] at c_156
            try rw [jc_ge (by constructor <;> omega) (by constructor <;> omega)] at c_168
            try rw [jc_ge (by constructor <;> omega) (by constructor <;> omega)] at c_180
            try rw [jc_ge (by constructor <;> omega) (by constructor <;> omega)] at c_192
            refine g_aload_n dX9_layRest_204 rfl ?_
            refine g_lload_n dX9_layRest_205 rfl ?_
            refine g_lconst (v := jI 0) dX9_layRest_206 rfl ?_
            refine g_lcmp dX9_layRest_207 ?_
            refine g_if_lt (tgt := 215) dX9_layRest_208 (by decide) (fun c_208 => ?_) (fun c_208 => ?_)
            · skip
              rw [jc_lt (by constructor <;> omega) (by constructor <;> omega)] at c_208
              refine g_lload_n dX9_layRest_215 rfl ?_
              refine g_lconst (v := jI 1) dX9_layRest_216 rfl ?_
              refine g_lload dX9_layRest_217 rfl ?_
              refine g_lsub dX9_layRest_219 ?_
              rw [jI_sub]
              refine g_callS dX9_layRest_220 sX9_greater (m_mx M n (x) (1 - gF Y) (by constructor <;> omega) (by constructor <;> omega)) tX9_greater (iw_27 7 rfl) rfl rfl (Nat.le_of_ble_eq_true rfl) (Nat.le_of_ble_eq_true rfl) (Nat.le_of_ble_eq_true rfl) (Nat.le_of_ble_eq_true rfl) (Nat.le_of_ble_eq_true rfl) ?_
              intro r9 M9 n9 h9
              obtain ⟨h91, h92, h93⟩ := h9
              rw [h91, h92, h93]
              clear h91 h92 h93 r9 M9 n9
              refine g_lload_n dX9_layRest_223 rfl ?_
              refine g_lconst (v := jI 0) dX9_layRest_224 rfl ?_
              refine g_lcmp dX9_layRest_225 ?_
              refine g_if_gt (tgt := 233) dX9_layRest_226 (by decide) (fun c_226 => ?_) (fun c_226 => ?_)
              · skip
                rw [jc_gt (by constructor <;> omega) (by constructor <;> omega)] at c_226
                refine g_lload_n dX9_layRest_233 rfl ?_
                refine g_lload dX9_layRest_234 rfl ?_
                refine g_lconst (v := jI 1) dX9_layRest_236 rfl ?_
                refine g_lsub dX9_layRest_237 ?_
                rw [jI_sub]
                refine g_callS dX9_layRest_238 sX9_lesser (m_mn M n (y) (gF Y - 1) (by constructor <;> omega) (by constructor <;> omega)) tX9_lesser (iw_26 12 rfl) rfl rfl (Nat.le_of_ble_eq_true rfl) (Nat.le_of_ble_eq_true rfl) (Nat.le_of_ble_eq_true rfl) (Nat.le_of_ble_eq_true rfl) (Nat.le_of_ble_eq_true rfl) ?_
                intro r9 M9 n9 h9
                obtain ⟨h91, h92, h93⟩ := h9
                rw [h91, h92, h93]
                clear h91 h92 h93 r9 M9 n9
                refine g_callV dX9_layRest_241 sX9_lay (m_lay1 M n m (_) (_) L hm hL hl (by constructor <;> omega) (by constructor <;> omega) (by omega)) cl10 hm.1 iX9_lay vX9_lay (iw_25 15 rfl) rfl rfl (Nat.le_of_ble_eq_true rfl) (Nat.le_of_ble_eq_true rfl) (Nat.le_of_ble_eq_true rfl) (Nat.le_of_ble_eq_true rfl) (Nat.le_of_ble_eq_true rfl) ?_
                intro r9 M2 n9 h9
                obtain ⟨h91, h93, hO2, hI2⟩ := h9
                rw [h91, h93]
                clear h91 h93 r9 n9
                exact g_vret dX9_layRest_244 rfl (Nat.le_of_ble_eq_true rfl) (Nat.le_of_ble_eq_true rfl) (by
                  refine ⟨rfl, rfl, hO2, ?_⟩
                  unfold restP
                  rw [if_neg c_143]
                  simp only
                  first
                    | (rw [if_pos (by omega)]; exact hI2)
                    | (rw [if_neg (by omega)]
                       first
                         | (rw [if_pos (by omega), if_pos (by omega)]; exact hI2)
                         | (rw [if_pos (by omega), if_neg (by omega)]; exact hI2)
                         | (rw [if_neg (by omega), if_pos (by omega)]; exact hI2)
                         | (rw [if_neg (by omega), if_neg (by omega)]; exact hI2)))
              · skip
                rw [jc_gt (by constructor <;> omega) (by constructor <;> omega)] at c_226
                refine g_lconst (v := jI 0) dX9_layRest_229 rfl ?_
                refine g_goto (tgt := 241) dX9_layRest_230 (by decide) ?_
                refine g_callV dX9_layRest_241 sX9_lay (m_lay1 M n m (_) (_) L hm hL hl (by constructor <;> omega) (by constructor <;> omega) (by omega)) cl10 hm.1 iX9_lay vX9_lay (iw_25 15 rfl) rfl rfl (Nat.le_of_ble_eq_true rfl) (Nat.le_of_ble_eq_true rfl) (Nat.le_of_ble_eq_true rfl) (Nat.le_of_ble_eq_true rfl) (Nat.le_of_ble_eq_true rfl) ?_
                intro r9 M2 n9 h9
                obtain ⟨h91, h93, hO2, hI2⟩ := h9
                rw [h91, h93]
                clear h91 h93 r9 n9
                exact g_vret dX9_layRest_244 rfl (Nat.le_of_ble_eq_true rfl) (Nat.le_of_ble_eq_true rfl) (by
                  refine ⟨rfl, rfl, hO2, ?_⟩
                  unfold restP
                  rw [if_neg c_143]
                  simp only
                  first
                    | (rw [if_pos (by omega)]; exact hI2)
                    | (rw [if_neg (by omega)]
                       first
                         | (rw [if_pos (by omega), if_pos (by omega)]; exact hI2)
                         | (rw [if_pos (by omega), if_neg (by omega)]; exact hI2)
                         | (rw [if_neg (by omega), if_pos (by omega)]; exact hI2)
                         | (rw [if_neg (by omega), if_neg (by omega)]; exact hI2)))
            · skip
              rw [jc_lt (by constructor <;> omega) (by constructor <;> omega)] at c_208
              refine g_lconst (v := jI 0) dX9_layRest_211 rfl ?_
              refine g_goto (tgt := 223) dX9_layRest_212 (by decide) ?_
              refine g_lload_n dX9_layRest_223 rfl ?_
              refine g_lconst (v := jI 0) dX9_layRest_224 rfl ?_
              refine g_lcmp dX9_layRest_225 ?_
              refine g_if_gt (tgt := 233) dX9_layRest_226 (by decide) (fun c_226 => ?_) (fun c_226 => ?_)
              · skip
                rw [jc_gt (by constructor <;> omega) (by constructor <;> omega)] at c_226
                refine g_lload_n dX9_layRest_233 rfl ?_
                refine g_lload dX9_layRest_234 rfl ?_
                refine g_lconst (v := jI 1) dX9_layRest_236 rfl ?_
                refine g_lsub dX9_layRest_237 ?_
                rw [jI_sub]
                refine g_callS dX9_layRest_238 sX9_lesser (m_mn M n (y) (gF Y - 1) (by constructor <;> omega) (by constructor <;> omega)) tX9_lesser (iw_26 12 rfl) rfl rfl (Nat.le_of_ble_eq_true rfl) (Nat.le_of_ble_eq_true rfl) (Nat.le_of_ble_eq_true rfl) (Nat.le_of_ble_eq_true rfl) (Nat.le_of_ble_eq_true rfl) ?_
                intro r9 M9 n9 h9
                obtain ⟨h91, h92, h93⟩ := h9
                rw [h91, h92, h93]
                clear h91 h92 h93 r9 M9 n9
                refine g_callV dX9_layRest_241 sX9_lay (m_lay1 M n m (_) (_) L hm hL hl (by constructor <;> omega) (by constructor <;> omega) (by omega)) cl10 hm.1 iX9_lay vX9_lay (iw_25 15 rfl) rfl rfl (Nat.le_of_ble_eq_true rfl) (Nat.le_of_ble_eq_true rfl) (Nat.le_of_ble_eq_true rfl) (Nat.le_of_ble_eq_true rfl) (Nat.le_of_ble_eq_true rfl) ?_
                intro r9 M2 n9 h9
                obtain ⟨h91, h93, hO2, hI2⟩ := h9
                rw [h91, h93]
                clear h91 h93 r9 n9
                exact g_vret dX9_layRest_244 rfl (Nat.le_of_ble_eq_true rfl) (Nat.le_of_ble_eq_true rfl) (by
                  refine ⟨rfl, rfl, hO2, ?_⟩
                  unfold restP
                  rw [if_neg c_143]
                  simp only
                  first
                    | (rw [if_pos (by omega)]; exact hI2)
                    | (rw [if_neg (by omega)]
                       first
                         | (rw [if_pos (by omega), if_pos (by omega)]; exact hI2)
                         | (rw [if_pos (by omega), if_neg (by omega)]; exact hI2)
                         | (rw [if_neg (by omega), if_pos (by omega)]; exact hI2)
                         | (rw [if_neg (by omega), if_neg (by omega)]; exact hI2)))
              · skip
                rw [jc_gt (by constructor <;> omega) (by constructor <;> omega)] at c_226
                refine g_lconst (v := jI 0) dX9_layRest_229 rfl ?_
                refine g_goto (tgt := 241) dX9_layRest_230 (by decide) ?_
                refine g_callV dX9_layRest_241 sX9_lay (m_lay1 M n m (_) (_) L hm hL hl (by constructor <;> omega) (by constructor <;> omega) (by omega)) cl10 hm.1 iX9_lay vX9_lay (iw_25 15 rfl) rfl rfl (Nat.le_of_ble_eq_true rfl) (Nat.le_of_ble_eq_true rfl) (Nat.le_of_ble_eq_true rfl) (Nat.le_of_ble_eq_true rfl) (Nat.le_of_ble_eq_true rfl) ?_
                intro r9 M2 n9 h9
                obtain ⟨h91, h93, hO2, hI2⟩ := h9
                rw [h91, h93]
                clear h91 h93 r9 n9
                exact g_vret dX9_layRest_244 rfl (Nat.le_of_ble_eq_true rfl) (Nat.le_of_ble_eq_true rfl) (by
                  refine ⟨rfl, rfl, hO2, ?_⟩
                  unfold restP
                  rw [if_neg c_143]
                  simp only
                  first
                    | (rw [if_pos (by omega)]; exact hI2)
                    | (rw [if_neg (by omega)]
                       first
                         | (rw [if_pos (by omega), if_pos (by omega)]; exact hI2)
                         | (rw [if_pos (by omega), if_neg (by omega)]; exact hI2)
                         | (rw [if_neg (by omega), if_pos (by omega)]; exact hI2)
                         | (rw [if_neg (by omega), if_neg (by omega)]; exact hI2)))
          · skip
            rw [jc_ge (by constructor <;> omega) (by constructor <;> omega)] at c_192
            refine g_aload_n dX9_layRest_195 rfl ?_
            refine g_lload_n dX9_layRest_196 rfl ?_
            refine g_lload_n dX9_layRest_197 rfl ?_
            refine g_callV dX9_layRest_198 sX9_lay (m_lay1 M n m (x) (y) L hm hL hl (by constructor <;> omega) (by constructor <;> omega) (by omega)) cl10 hm.1 iX9_lay vX9_lay (iw_25 15 rfl) rfl rfl (Nat.le_of_ble_eq_true rfl) (Nat.le_of_ble_eq_true rfl) (Nat.le_of_ble_eq_true rfl) (Nat.le_of_ble_eq_true rfl) (Nat.le_of_ble_eq_true rfl) ?_
            intro r9 M2 n9 h9
            obtain ⟨h91, h93, hO2, hI2⟩ := h9
            rw [h91, h93]
            clear h91 h93 r9 n9
            refine g_goto (tgt := 244) dX9_layRest_201 (by decide) ?_
            exact g_vret dX9_layRest_244 rfl (Nat.le_of_ble_eq_true rfl) (Nat.le_of_ble_eq_true rfl) (by
              refine ⟨rfl, rfl, hO2, ?_⟩
              unfold restP
              rw [if_neg c_143]
              simp only
              first
                | (rw [if_pos (by omega)]; exact hI2)
                | (rw [if_neg (by omega)]
                   first
                     | (rw [if_pos (by omega), if_pos (by omega)]; exact hI2)
                     | (rw [if_pos (by omega), if_neg (by omega)]; exact hI2)
                     | (rw [if_neg (by omega), if_pos (by omega)]; exact hI2)
                     | (rw [if_neg (by omega), if_neg (by omega)]; exact hI2)))
  · skip
    rw [jc_eq (by constructor <;> omega) (by constructor <;> omega)] at c_143
    exact g_vret dX9_layRest_146 rfl (Nat.le_of_ble_eq_true rfl) (Nat.le_of_ble_eq_true rfl) ⟨rfl, rfl, Off.rf, by unfold restP; rw [if_pos c_143, List.append_nil]; exact hL⟩

set_option maxHeartbeats 4000000 in
set_option maxRecDepth 100000 in
theorem m_layRest (M : gM) (n m c : Nat) (x y : Int) (Y L : List Sp) (hm : gMod M m) (hc : c < 360) (hY : iS M m c Y) (oY : okX Y) (hL : iL M m L) (hl : L.length + 1 ≤ 64) (h1 : r5 x) (h2 : r5 y) (h3 : x ≤ y) : GM μX9_layRest 1 24 0 0 [.ref m, .long (jI x), .long (jI y), .int (nI c)] M n (fun r M1 n1 => r = none ∧ n1 = n ∧ Off M M1 (fL m) ∧ iL M1 m (L ++ restP Y (x, y))) := by
  refine GM.ofW (by decide) rfl (Nat.le_of_ble_eq_true rfl) rfl ?_
  refine g_lconst (v := jI 0) dX9_layRest_0 rfl ?_
  refine g_lstore dX9_layRest_1 (Nat.le_of_ble_eq_true rfl) ?_
  refine g_lconst (v := jI 0) dX9_layRest_3 rfl ?_
  refine g_lstore dX9_layRest_4 (Nat.le_of_ble_eq_true rfl) ?_
  refine g_iconst (v := nI 0) dX9_layRest_6 rfl ?_
  refine g_istore dX9_layRest_7 (Nat.le_of_ble_eq_true rfl) ?_
  exact l_rs hm hc hY oY (p_rs139 hm oY hL hl h1 h2 h3) (Y.length + 1) 0 (by omega) (by omega)

