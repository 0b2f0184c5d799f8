/-! the reference: the trial -/
theorem jI_rem {x y : Int} (hx : 0 ≤ x ∧ x < 4611686018427387904) (hy : 0 < y ∧ y < 4611686018427387904) : jI x - jI x / jI y * jI y = jI (x % y) := by
  have hq : x.tdiv y = x / y := Int.tdiv_eq_ediv_of_nonneg hx.1
  have hq1 : 0 ≤ x / y := Int.ediv_nonneg hx.1 (by omega)
  have hq2 : x / y ≤ x := Int.ediv_le_self _ hx.1
  have e1 : jI x / jI y = jI (x / y) := by
    rw [← Int64.toInt_inj, Int64.toInt_div, jI_t (by omega) (by omega), jI_t (by omega) (by omega), jI_t (by omega) (by omega), hq]
    rw [Int.bmod_eq_of_le (by omega) (by omega)]
  rw [e1, jI_mul, jI_sub]
  congr 1
  have := Int.emod_def x y
  rw [this, Int.mul_comm]
def lk1 (l : Int) : Int := l * 48271 % 2147483647
def okK (l : Int) : Prop := 0 ≤ l ∧ l < 2147483648
theorem lk1_ok (l : Int) : okK (lk1 l) := by
  have h1 := Int.emod_nonneg (l * 48271) (show (2147483647 : Int) ≠ 0 by decide)
  have h2 := Int.emod_lt_of_pos (l * 48271) (show (0 : Int) < 2147483647 by decide)
  unfold lk1 okK
  omega
def drw (l lo hi : Int) : Int := lo + l % (hi - lo + 1)
theorem drw_r {l lo hi : Int} (h : lo ≤ hi) (h1 : r5 lo) (h2 : r5 hi) : r5 (drw l lo hi) := by
  have a := Int.emod_nonneg l (show hi - lo + 1 ≠ 0 by omega)
  have b := Int.emod_lt_of_pos l (show 0 < hi - lo + 1 by omega)
  unfold drw
  constructor <;> omega
def hlN (r : Nat) (a b : Int) : Bool := if r = 0 then decide (a < b) else if r = 1 then decide (a ≤ b) else if r = 2 then decide (a = b) else if r = 3 then decide (a ≠ b) else if r = 4 then decide (b ≤ a) else if r = 5 then decide (b < a) else decide (a % 4294967296 < b % 4294967296)
def wtK (F : Ev) (now : Nat → Int32) (b : Bool) : Nat → Bool
  | 0 => b
  | j + 1 => wtK F now b j && hasB (F j) (now j).toInt
theorem wtK_s (F : Ev) (now : Nat → Int32) (b : Bool) (j : Nat) : wtK F now b (j + 1) = (wtK F now b j && hasB (F j) (now j).toInt) := rfl
theorem i_lt {a b : Int32} : a < b ↔ a.toInt < b.toInt := Int32.lt_iff_toInt_lt
theorem i_le {a b : Int32} : a ≤ b ↔ a.toInt ≤ b.toInt := Int32.le_iff_toInt_le
theorem i_eq {a b : Int32} : a = b ↔ a.toInt = b.toInt := Int32.toInt_inj.symm
set_option maxHeartbeats 4000000 in
set_option maxRecDepth 100000 in
theorem m_drawn (M : gM) (n m : Nat) (l lo hi : Int) (hm : gMod M m) (hl : mJ M m 20 = jI l) (h0 : okK l) (h1 : r5 lo) (h2 : r5 hi) (h3 : lo ≤ hi) : GM μX9_drawn 0 0 0 0 [.ref m, .long (jI lo), .long (jI hi)] M n (fun r M1 n1 => r = some (.int (iZ (drw (lk1 l) lo hi))) ∧ M1 = stJ M m 20 (jI (lk1 l)) ∧ n1 = n) := by
  refine GM.ofW (by decide) rfl (Nat.le_of_ble_eq_true rfl) rfl ?_
  obtain ⟨k1, k2⟩ := h0
  have q := lk1_ok l
  obtain ⟨q1, q2⟩ := q
  refine g_aload_n dX9_drawn_0 rfl ?_
  refine g_aload_n dX9_drawn_1 rfl ?_
  refine g_getJ (f := 20) dX9_drawn_2 cl10 hm.1 (by decide) (Or.inl (iw_38 1 rfl)) (Or.inl rfl) rfl ?_
  rw [hl]
  refine g_ldc2 (v := jI (48271)) dX9_drawn_5 (iw_38 6 rfl) ?_
  refine g_lmul dX9_drawn_8 ?_
  rw [jI_mul]
  refine g_ldc2 (v := jI (2147483647)) dX9_drawn_9 (iw_27 21 rfl) ?_
  refine g_lrem dX9_drawn_12 (jI_ne (by constructor <;> omega) (by omega)) ?_
  rw [jI_rem (by omega) (by omega)]
  refine g_putJ (f := 20) dX9_drawn_13 cl10 hm.1 (by decide) (Or.inl (iw_38 1 rfl)) (Or.inl rfl) (Or.inl rfl) rfl ?_
  refine g_lload_n dX9_drawn_16 rfl ?_
  refine g_aload_n dX9_drawn_17 rfl ?_
  refine g_getJ (f := 20) dX9_drawn_18 cl10 hm.1 (by decide) (Or.inl (iw_38 1 rfl)) (Or.inl rfl) rfl ?_
  rw [show mJ (stJ M m 20 (jI (l * 48271 % 2147483647))) m 20 = jI (lk1 l) by rw [mJ_st, if_pos ⟨rfl, rfl⟩]; rfl]
  refine g_lload_n dX9_drawn_21 rfl ?_
  refine g_lload_n dX9_drawn_22 rfl ?_
  refine g_lsub dX9_drawn_23 ?_
  rw [jI_sub]
  refine g_lconst (v := jI 1) dX9_drawn_24 rfl ?_
  refine g_ladd dX9_drawn_25 ?_
  rw [jI_add]
  refine g_lrem dX9_drawn_26 (jI_ne (by constructor <;> omega) (by omega)) ?_
  rw [jI_rem (by omega) (by omega)]
  refine g_ladd dX9_drawn_27 ?_
  rw [jI_add]
  refine g_l2i dX9_drawn_28 ?_
  rw [jI_i]
  exact g_iret dX9_drawn_29 (Or.inl rfl) (Nat.le_of_ble_eq_true rfl) (Nat.le_of_ble_eq_true rfl) ⟨rfl, rfl, rfl⟩

set_option maxHeartbeats 4000000 in
set_option maxRecDepth 100000 in
theorem m_holdsNow (M : gM) (n q : Nat) (a b : Int32) (hq : q < 7) : GM μX9_holdsNow 0 0 0 0 [.int (nI q), .int a, .int b] M n (fun r M1 n1 => r = some (.int (bI (hlN q a.toInt b.toInt))) ∧ M1 = M ∧ n1 = n) := by
  refine GM.ofW (by decide) rfl (Nat.le_of_ble_eq_true rfl) rfl ?_
  have ar := i_rng a
  have br := i_rng b
  refine g_iload_n dX9_holdsNow_0 rfl ?_
  by_cases t_1_0 : q = 0
  · skip
    refine g_tableIn (off := 39) (tgt := 40) dX9_holdsNow_1 (by rw [nI_t (by omega)]; omega) (by rw [nI_t (by omega)]; omega) (by rw [nI_t (by omega)]; rw [t_1_0]; rfl) (by decide) ?_
    refine g_iload_n dX9_holdsNow_40 rfl ?_
    refine g_iload_n dX9_holdsNow_41 rfl ?_
    refine g_icmp_ge (tgt := 49) dX9_holdsNow_42 (by decide) (fun c_42 => ?_) (fun c_42 => ?_)
    · skip
      refine g_iconst (v := nI 0) dX9_holdsNow_49 rfl ?_
      exact g_iret dX9_holdsNow_50 (Or.inr ⟨rfl, by first | exact Or.inl rfl | exact Or.inr rfl⟩) (Nat.le_of_ble_eq_true rfl) (Nat.le_of_ble_eq_true rfl) ⟨by
        have a1 := Int.emod_nonneg a.toInt (show (4294967296 : Int) ≠ 0 by decide)
        have a2 := Int.emod_lt_of_pos a.toInt (show (0 : Int) < 4294967296 by decide)
        have b1 := Int.emod_nonneg b.toInt (show (4294967296 : Int) ≠ 0 by decide)
        have b2 := Int.emod_lt_of_pos b.toInt (show (0 : Int) < 4294967296 by decide)
        try rw [i_le] at c_42
        try rw [i_lt] at c_53
        try rw [i_eq] at c_64
        try rw [i_eq] at c_75
        try rw [i_lt] at c_86
        try rw [i_le] at c_97
        try rw [jc_ge (by constructor <;> omega) (by constructor <;> omega)] at c_119
        unfold hlN
        first
          | (rw [if_pos (by omega)]
             first
               | (rw [decide_eq_true (by omega)]; rfl)
               | (rw [decide_eq_false (by omega)]; rfl))
          | (rw [if_neg (by omega), if_pos (by omega)]
             first
               | (rw [decide_eq_true (by omega)]; rfl)
               | (rw [decide_eq_false (by omega)]; rfl))
          | (rw [if_neg (by omega), if_neg (by omega), if_pos (by omega)]
             first
               | (rw [decide_eq_true (by omega)]; rfl)
               | (rw [decide_eq_false (by omega)]; rfl))
          | (rw [if_neg (by omega), if_neg (by omega), if_neg (by omega), if_pos (by omega)]
             first
               | (rw [decide_eq_true (by omega)]; rfl)
               | (rw [decide_eq_false (by omega)]; rfl))
          | (rw [if_neg (by omega), if_neg (by omega), if_neg (by omega), if_neg (by omega), if_pos (by omega)]
             first
               | (rw [decide_eq_true (by omega)]; rfl)
               | (rw [decide_eq_false (by omega)]; rfl))
          | (rw [if_neg (by omega), if_neg (by omega), if_neg (by omega), if_neg (by omega), if_neg (by omega), if_pos (by omega)]
             first
               | (rw [decide_eq_true (by omega)]; rfl)
               | (rw [decide_eq_false (by omega)]; rfl))
          | (rw [if_neg (by omega), if_neg (by omega), if_neg (by omega), if_neg (by omega), if_neg (by omega), if_neg (by omega)]
             first
               | (rw [decide_eq_true (by omega)]; rfl)
               | (rw [decide_eq_false (by omega)]; rfl)), rfl, rfl⟩
    · skip
      refine g_iconst (v := nI 1) dX9_holdsNow_45 rfl ?_
      refine g_goto (tgt := 50) dX9_holdsNow_46 (by decide) ?_
      exact g_iret dX9_holdsNow_50 (Or.inr ⟨rfl, by first | exact Or.inl rfl | exact Or.inr rfl⟩) (Nat.le_of_ble_eq_true rfl) (Nat.le_of_ble_eq_true rfl) ⟨by
        have a1 := Int.emod_nonneg a.toInt (show (4294967296 : Int) ≠ 0 by decide)
        have a2 := Int.emod_lt_of_pos a.toInt (show (0 : Int) < 4294967296 by decide)
        have b1 := Int.emod_nonneg b.toInt (show (4294967296 : Int) ≠ 0 by decide)
        have b2 := Int.emod_lt_of_pos b.toInt (show (0 : Int) < 4294967296 by decide)
        try rw [i_le] at c_42
        try rw [i_lt] at c_53
        try rw [i_eq] at c_64
        try rw [i_eq] at c_75
        try rw [i_lt] at c_86
        try rw [i_le] at c_97
        try rw [jc_ge (by constructor <;> omega) (by constructor <;> omega)] at c_119
        unfold hlN
        first
          | (rw [if_pos (by omega)]
             first
               | (rw [decide_eq_true (by omega)]; rfl)
               | (rw [decide_eq_false (by omega)]; rfl))
          | (rw [if_neg (by omega), if_pos (by omega)]
             first
               | (rw [decide_eq_true (by omega)]; rfl)
               | (rw [decide_eq_false (by omega)]; rfl))
          | (rw [if_neg (by omega), if_neg (by omega), if_pos (by omega)]
             first
               | (rw [decide_eq_true (by omega)]; rfl)
               | (rw [decide_eq_false (by omega)]; rfl))
          | (rw [if_neg (by omega), if_neg (by omega), if_neg (by omega), if_pos (by omega)]
             first
               | (rw [decide_eq_true (by omega)]; rfl)
               | (rw [decide_eq_false (by omega)]; rfl))
          | (rw [if_neg (by omega), if_neg (by omega), if_neg (by omega), if_neg (by omega), if_pos (by omega)]
             first
               | (rw [decide_eq_true (by omega)]; rfl)
               | (rw [decide_eq_false (by omega)]; rfl))
          | (rw [if_neg (by omega), if_neg (by omega), if_neg (by omega), if_neg (by omega), if_neg (by omega), if_pos (by omega)]
             first
               | (rw [decide_eq_true (by omega)]; rfl)
               | (rw [decide_eq_false (by omega)]; rfl))
          | (rw [if_neg (by omega), if_neg (by omega), if_neg (by omega), if_neg (by omega), if_neg (by omega), if_neg (by omega)]
             first
               | (rw [decide_eq_true (by omega)]; rfl)
               | (rw [decide_eq_false (by omega)]; rfl)), rfl, rfl⟩
  · skip
    by_cases t_1_1 : q = 1
    · skip
      refine g_tableIn (off := 50) (tgt := 51) dX9_holdsNow_1 (by rw [nI_t (by omega)]; omega) (by rw [nI_t (by omega)]; omega) (by rw [nI_t (by omega)]; rw [t_1_1]; rfl) (by decide) ?_
      refine g_iload_n dX9_holdsNow_51 rfl ?_
      refine g_iload_n dX9_holdsNow_52 rfl ?_
      refine g_icmp_gt (tgt := 60) dX9_holdsNow_53 (by decide) (fun c_53 => ?_) (fun c_53 => ?_)
      · skip
        refine g_iconst (v := nI 0) dX9_holdsNow_60 rfl ?_
        exact g_iret dX9_holdsNow_61 (Or.inr ⟨rfl, by first | exact Or.inl rfl | exact Or.inr rfl⟩) (Nat.le_of_ble_eq_true rfl) (Nat.le_of_ble_eq_true rfl) ⟨by
          have a1 := Int.emod_nonneg a.toInt (show (4294967296 : Int) ≠ 0 by decide)
          have a2 := Int.emod_lt_of_pos a.toInt (show (0 : Int) < 4294967296 by decide)
          have b1 := Int.emod_nonneg b.toInt (show (4294967296 : Int) ≠ 0 by decide)
          have b2 := Int.emod_lt_of_pos b.toInt (show (0 : Int) < 4294967296 by decide)
          try rw [i_le] at c_42
          try rw [i_lt] at c_53
          try rw [i_eq] at c_64
          try rw [i_eq] at c_75
          try rw [i_lt] at c_86
          try rw [i_le] at c_97
          try rw [jc_ge (by constructor <;> omega) (by constructor <;> omega)] at c_119
          unfold hlN
          first
            | (rw [if_pos (by omega)]
               first
                 | (rw [decide_eq_true (by omega)]; rfl)
                 | (rw [decide_eq_false (by omega)]; rfl))
            | (rw [if_neg (by omega), if_pos (by omega)]
               first
                 | (rw [decide_eq_true (by omega)]; rfl)
                 | (rw [decide_eq_false (by omega)]; rfl))
            | (rw [if_neg (by omega), if_neg (by omega), if_pos (by omega)]
               first
                 | (rw [decide_eq_true (by omega)]; rfl)
                 | (rw [decide_eq_false (by omega)]; rfl))
            | (rw [if_neg (by omega), if_neg (by omega), if_neg (by omega), if_pos (by omega)]
               first
                 | (rw [decide_eq_true (by omega)]; rfl)
                 | (rw [decide_eq_false (by omega)]; rfl))
            | (rw [if_neg (by omega), if_neg (by omega), if_neg (by omega), if_neg (by omega), if_pos (by omega)]
               first
                 | (rw [decide_eq_true (by omega)]; rfl)
                 | (rw [decide_eq_false (by omega)]; rfl))
            | (rw [if_neg (by omega), if_neg (by omega), if_neg (by omega), if_neg (by omega), if_neg (by omega), if_pos (by omega)]
               first
                 | (rw [decide_eq_true (by omega)]; rfl)
                 | (rw [decide_eq_false (by omega)]; rfl))
            | (rw [if_neg (by omega), if_neg (by omega), if_neg (by omega), if_neg (by omega), if_neg (by omega), if_neg (by omega)]
               first
                 | (rw [decide_eq_true (by omega)]; rfl)
                 | (rw [decide_eq_false (by omega)]; rfl)), rfl, rfl⟩
      · skip
        refine g_iconst (v := nI 1) dX9_holdsNow_56 rfl ?_
        refine g_goto (tgt := 61) dX9_holdsNow_57 (by decide) ?_
        exact g_iret dX9_holdsNow_61 (Or.inr ⟨rfl, by first | exact Or.inl rfl | exact Or.inr rfl⟩) (Nat.le_of_ble_eq_true rfl) (Nat.le_of_ble_eq_true rfl) ⟨by
          have a1 := Int.emod_nonneg a.toInt (show (4294967296 : Int) ≠ 0 by decide)
          have a2 := Int.emod_lt_of_pos a.toInt (show (0 : Int) < 4294967296 by decide)
          have b1 := Int.emod_nonneg b.toInt (show (4294967296 : Int) ≠ 0 by decide)
          have b2 := Int.emod_lt_of_pos b.toInt (show (0 : Int) < 4294967296 by decide)
          try rw [i_le] at c_42
          try rw [i_lt] at c_53
          try rw [i_eq] at c_64
          try rw [i_eq] at c_75
          try rw [i_lt] at c_86
          try rw [i_le] at c_97
          try rw [jc_ge (by constructor <;> omega) (by constructor <;> omega)] at c_119
          unfold hlN
          first
            | (rw [if_pos (by omega)]
               first
                 | (rw [decide_eq_true (by omega)]; rfl)
                 | (rw [decide_eq_false (by omega)]; rfl))
            | (rw [if_neg (by omega), if_pos (by omega)]
               first
                 | (rw [decide_eq_true (by omega)]; rfl)
                 | (rw [decide_eq_false (by omega)]; rfl))
            | (rw [if_neg (by omega), if_neg (by omega), if_pos (by omega)]
               first
                 | (rw [decide_eq_true (by omega)]; rfl)
                 | (rw [decide_eq_false (by omega)]; rfl))
            | (rw [if_neg (by omega), if_neg (by omega), if_neg (by omega), if_pos (by omega)]
               first
                 | (rw [decide_eq_true (by omega)]; rfl)
                 | (rw [decide_eq_false (by omega)]; rfl))
            | (rw [if_neg (by omega), if_neg (by omega), if_neg (by omega), if_neg (by omega), if_pos (by omega)]
               first
                 | (rw [decide_eq_true (by omega)]; rfl)
                 | (rw [decide_eq_false (by omega)]; rfl))
            | (rw [if_neg (by omega), if_neg (by omega), if_neg (by omega), if_neg (by omega), if_neg (by omega), if_pos (by omega)]
               first
                 | (rw [decide_eq_true (by omega)]; rfl)
                 | (rw [decide_eq_false (by omega)]; rfl))
            | (rw [if_neg (by omega), if_neg (by omega), if_neg (by omega), if_neg (by omega), if_neg (by omega), if_neg (by omega)]
               first
                 | (rw [decide_eq_true (by omega)]; rfl)
                 | (rw [decide_eq_false (by omega)]; rfl)), rfl, rfl⟩
    · skip
      by_cases t_1_2 : q = 2
      · skip
        refine g_tableIn (off := 61) (tgt := 62) dX9_holdsNow_1 (by rw [nI_t (by omega)]; omega) (by rw [nI_t (by omega)]; omega) (by rw [nI_t (by omega)]; rw [t_1_2]; rfl) (by decide) ?_
        refine g_iload_n dX9_holdsNow_62 rfl ?_
        refine g_iload_n dX9_holdsNow_63 rfl ?_
        refine g_icmp_ne (tgt := 71) dX9_holdsNow_64 (by decide) (fun c_64 => ?_) (fun c_64 => ?_)
        · skip
          refine g_iconst (v := nI 0) dX9_holdsNow_71 rfl ?_
          exact g_iret dX9_holdsNow_72 (Or.inr ⟨rfl, by first | exact Or.inl rfl | exact Or.inr rfl⟩) (Nat.le_of_ble_eq_true rfl) (Nat.le_of_ble_eq_true rfl) ⟨by
            have a1 := Int.emod_nonneg a.toInt (show (4294967296 : Int) ≠ 0 by decide)
            have a2 := Int.emod_lt_of_pos a.toInt (show (0 : Int) < 4294967296 by decide)
            have b1 := Int.emod_nonneg b.toInt (show (4294967296 : Int) ≠ 0 by decide)
            have b2 := Int.emod_lt_of_pos b.toInt (show (0 : Int) < 4294967296 by decide)
            try rw [i_le] at c_42
            try rw [i_lt] at c_53
            try rw [i_eq] at c_64
            try rw [i_eq] at c_75
            try rw [i_lt] at c_86
            try rw [i_le] at c_97
            try rw [jc_ge (by constructor <;> omega) (by constructor <;> omega)] at c_119
            unfold hlN
            first
              | (rw [if_pos (by omega)]
                 first
                   | (rw [decide_eq_true (by omega)]; rfl)
                   | (rw [decide_eq_false (by omega)]; rfl))
              | (rw [if_neg (by omega), if_pos (by omega)]
                 first
                   | (rw [decide_eq_true (by omega)]; rfl)
                   | (rw [decide_eq_false (by omega)]; rfl))
              | (rw [if_neg (by omega), if_neg (by omega), if_pos (by omega)]
                 first
                   | (rw [decide_eq_true (by omega)]; rfl)
                   | (rw [decide_eq_false (by omega)]; rfl))
              | (rw [if_neg (by omega), if_neg (by omega), if_neg (by omega), if_pos (by omega)]
                 first
                   | (rw [decide_eq_true (by omega)]; rfl)
                   | (rw [decide_eq_false (by omega)]; rfl))
              | (rw [if_neg (by omega), if_neg (by omega), if_neg (by omega), if_neg (by omega), if_pos (by omega)]
                 first
                   | (rw [decide_eq_true (by omega)]; rfl)
                   | (rw [decide_eq_false (by omega)]; rfl))
              | (rw [if_neg (by omega), if_neg (by omega), if_neg (by omega), if_neg (by omega), if_neg (by omega), if_pos (by omega)]
                 first
                   | (rw [decide_eq_true (by omega)]; rfl)
                   | (rw [decide_eq_false (by omega)]; rfl))
              | (rw [if_neg (by omega), if_neg (by omega), if_neg (by omega), if_neg (by omega), if_neg (by omega), if_neg (by omega)]
                 first
                   | (rw [decide_eq_true (by omega)]; rfl)
                   | (rw [decide_eq_false (by omega)]; rfl)), rfl, rfl⟩
        · skip
          refine g_iconst (v := nI 1) dX9_holdsNow_67 rfl ?_
          refine g_goto (tgt := 72) dX9_holdsNow_68 (by decide) ?_
          exact g_iret dX9_holdsNow_72 (Or.inr ⟨rfl, by first | exact Or.inl rfl | exact Or.inr rfl⟩) (Nat.le_of_ble_eq_true rfl) (Nat.le_of_ble_eq_true rfl) ⟨by
            have a1 := Int.emod_nonneg a.toInt (show (4294967296 : Int) ≠ 0 by decide)
            have a2 := Int.emod_lt_of_pos a.toInt (show (0 : Int) < 4294967296 by decide)
            have b1 := Int.emod_nonneg b.toInt (show (4294967296 : Int) ≠ 0 by decide)
            have b2 := Int.emod_lt_of_pos b.toInt (show (0 : Int) < 4294967296 by decide)
            try rw [i_le] at c_42
            try rw [i_lt] at c_53
            try rw [i_eq] at c_64
            try rw [i_eq] at c_75
            try rw [i_lt] at c_86
            try rw [i_le] at c_97
            try rw [jc_ge (by constructor <;> omega) (by constructor <;> omega)] at c_119
            unfold hlN
            first
              | (rw [if_pos (by omega)]
                 first
                   | (rw [decide_eq_true (by omega)]; rfl)
                   | (rw [decide_eq_false (by omega)]; rfl))
              | (rw [if_neg (by omega), if_pos (by omega)]
                 first
                   | (rw [decide_eq_true (by omega)]; rfl)
                   | (rw [decide_eq_false (by omega)]; rfl))
              | (rw [if_neg (by omega), if_neg (by omega), if_pos (by omega)]
                 first
                   | (rw [decide_eq_true (by omega)]; rfl)
                   | (rw [decide_eq_false (by omega)]; rfl))
              | (rw [if_neg (by omega), if_neg (by omega), if_neg (by omega), if_pos (by omega)]
                 first
                   | (rw [decide_eq_true (by omega)]; rfl)
                   | (rw [decide_eq_false (by omega)]; rfl))
              | (rw [if_neg (by omega), if_neg (by omega), if_neg (by omega), if_neg (by omega), if_pos (by omega)]
                 first
                   | (rw [decide_eq_true (by omega)]; rfl)
                   | (rw [decide_eq_false (by omega)]; rfl))
              | (rw [if_neg (by omega), if_neg (by omega), if_neg (by omega), if_neg (by omega), if_neg (by omega), if_pos (by omega)]
                 first
                   | (rw [decide_eq_true (by omega)]; rfl)
                   | (rw [decide_eq_false (by omega)]; rfl))
              | (rw [if_neg (by omega), if_neg (by omega), if_neg (by omega), if_neg (by omega), if_neg (by omega), if_neg (by omega)]
                 first
                   | (rw [decide_eq_true (by omega)]; rfl)
                   | (rw [decide_eq_false (by omega)]; rfl)), rfl, rfl⟩
      · skip
        by_cases t_1_3 : q = 3
        · skip
          refine g_tableIn (off := 72) (tgt := 73) dX9_holdsNow_1 (by rw [nI_t (by omega)]; omega) (by rw [nI_t (by omega)]; omega) (by rw [nI_t (by omega)]; rw [t_1_3]; rfl) (by decide) ?_
          refine g_iload_n dX9_holdsNow_73 rfl ?_
          refine g_iload_n dX9_holdsNow_74 rfl ?_
          refine g_icmp_eq (tgt := 82) dX9_holdsNow_75 (by decide) (fun c_75 => ?_) (fun c_75 => ?_)
          · skip
            refine g_iconst (v := nI 0) dX9_holdsNow_82 rfl ?_
            exact g_iret dX9_holdsNow_83 (Or.inr ⟨rfl, by first | exact Or.inl rfl | exact Or.inr rfl⟩) (Nat.le_of_ble_eq_true rfl) (Nat.le_of_ble_eq_true rfl) ⟨by
              have a1 := Int.emod_nonneg a.toInt (show (4294967296 : Int) ≠ 0 by decide)
              have a2 := Int.emod_lt_of_pos a.toInt (show (0 : Int) < 4294967296 by decide)
              have b1 := Int.emod_nonneg b.toInt (show (4294967296 : Int) ≠ 0 by decide)
              have b2 := Int.emod_lt_of_pos b.toInt (show (0 : Int) < 4294967296 by decide)
              try rw [i_le] at c_42
              try rw [i_lt] at c_53
              try rw [i_eq] at c_64
              try rw [i_eq] at c_75
              try rw [i_lt] at c_86
              try rw [i_le] at c_97
              try rw [jc_ge (by constructor <;> omega) (by constructor <;> omega)] at c_119
              unfold hlN
              first
                | (rw [if_pos (by omega)]
                   first
                     | (rw [decide_eq_true (by omega)]; rfl)
                     | (rw [decide_eq_false (by omega)]; rfl))
                | (rw [if_neg (by omega), if_pos (by omega)]
                   first
                     | (rw [decide_eq_true (by omega)]; rfl)
                     | (rw [decide_eq_false (by omega)]; rfl))
                | (rw [if_neg (by omega), if_neg (by omega), if_pos (by omega)]
                   first
                     | (rw [decide_eq_true (by omega)]; rfl)
                     | (rw [decide_eq_false (by omega)]; rfl))
                | (rw [if_neg (by omega), if_neg (by omega), if_neg (by omega), if_pos (by omega)]
                   first
                     | (rw [decide_eq_true (by omega)]; rfl)
                     | (rw [decide_eq_false (by omega)]; rfl))
                | (rw [if_neg (by omega), if_neg (by omega), if_neg (by omega), if_neg (by omega), if_pos (by omega)]
                   first
                     | (rw [decide_eq_true (by omega)]; rfl)
                     | (rw [decide_eq_false (by omega)]; rfl))
                | (rw [if_neg (by omega), if_neg (by omega), if_neg (by omega), if_neg (by omega), if_neg (by omega), if_pos (by omega)]
                   first
                     | (rw [decide_eq_true (by omega)]; rfl)
                     | (rw [decide_eq_false (by omega)]; rfl))
                | (rw [if_neg (by omega), if_neg (by omega), if_neg (by omega), if_neg (by omega), if_neg (by omega), if_neg (by omega)]
                   first
                     | (rw [decide_eq_true (by omega)]; rfl)
                     | (rw [decide_eq_false (by omega)]; rfl)), rfl, rfl⟩
          · skip
            refine g_iconst (v := nI 1) dX9_holdsNow_78 rfl ?_
            refine g_goto (tgt := 83) dX9_holdsNow_79 (by decide) ?_
            exact g_iret dX9_holdsNow_83 (Or.inr ⟨rfl, by first | exact Or.inl rfl | exact Or.inr rfl⟩) (Nat.le_of_ble_eq_true rfl) (Nat.le_of_ble_eq_true rfl) ⟨by
              have a1 := Int.emod_nonneg a.toInt (show (4294967296 : Int) ≠ 0 by decide)
              have a2 := Int.emod_lt_of_pos a.toInt (show (0 : Int) < 4294967296 by decide)
              have b1 := Int.emod_nonneg b.toInt (show (4294967296 : Int) ≠ 0 by decide)
              have b2 := Int.emod_lt_of_pos b.toInt (show (0 : Int) < 4294967296 by decide)
              try rw [i_le] at c_42
              try rw [i_lt] at c_53
              try rw [i_eq] at c_64
              try rw [i_eq] at c_75
              try rw [i_lt] at c_86
              try rw [i_le] at c_97
              try rw [jc_ge (by constructor <;> omega) (by constructor <;> omega)] at c_119
              unfold hlN
              first
                | (rw [if_pos (by omega)]
                   first
                     | (rw [decide_eq_true (by omega)]; rfl)
                     | (rw [decide_eq_false (by omega)]; rfl))
                | (rw [if_neg (by omega), if_pos (by omega)]
                   first
                     | (rw [decide_eq_true (by omega)]; rfl)
                     | (rw [decide_eq_false (by omega)]; rfl))
                | (rw [if_neg (by omega), if_neg (by omega), if_pos (by omega)]
                   first
                     | (rw [decide_eq_true (by omega)]; rfl)
                     | (rw [decide_eq_false (by omega)]; rfl))
                | (rw [if_neg (by omega), if_neg (by omega), if_neg (by omega), if_pos (by omega)]
                   first
                     | (rw [decide_eq_true (by omega)]; rfl)
                     | (rw [decide_eq_false (by omega)]; rfl))
                | (rw [if_neg (by omega), if_neg (by omega), if_neg (by omega), if_neg (by omega), if_pos (by omega)]
                   first
                     | (rw [decide_eq_true (by omega)]; rfl)
                     | (rw [decide_eq_false (by omega)]; rfl))
                | (rw [if_neg (by omega), if_neg (by omega), if_neg (by omega), if_neg (by omega), if_neg (by omega), if_pos (by omega)]
                   first
                     | (rw [decide_eq_true (by omega)]; rfl)
                     | (rw [decide_eq_false (by omega)]; rfl))
                | (rw [if_neg (by omega), if_neg (by omega), if_neg (by omega), if_neg (by omega), if_neg (by omega), if_neg (by omega)]
                   first
                     | (rw [decide_eq_true (by omega)]; rfl)
                     | (rw [decide_eq_false (by omega)]; rfl)), rfl, rfl⟩
        · skip
          by_cases t_1_4 : q = 4
          · skip
            refine g_tableIn (off := 83) (tgt := 84) dX9_holdsNow_1 (by rw [nI_t (by omega)]; omega) (by rw [nI_t (by omega)]; omega) (by rw [nI_t (by omega)]; rw [t_1_4]; rfl) (by decide) ?_
            refine g_iload_n dX9_holdsNow_84 rfl ?_
            refine g_iload_n dX9_holdsNow_85 rfl ?_
            refine g_icmp_lt (tgt := 93) dX9_holdsNow_86 (by decide) (fun c_86 => ?_) (fun c_86 => ?_)
            · skip
              refine g_iconst (v := nI 0) dX9_holdsNow_93 rfl ?_
              exact g_iret dX9_holdsNow_94 (Or.inr ⟨rfl, by first | exact Or.inl rfl | exact Or.inr rfl⟩) (Nat.le_of_ble_eq_true rfl) (Nat.le_of_ble_eq_true rfl) ⟨by
                have a1 := Int.emod_nonneg a.toInt (show (4294967296 : Int) ≠ 0 by decide)
                have a2 := Int.emod_lt_of_pos a.toInt (show (0 : Int) < 4294967296 by decide)
                have b1 := Int.emod_nonneg b.toInt (show (4294967296 : Int) ≠ 0 by decide)
                have b2 := Int.emod_lt_of_pos b.toInt (show (0 : Int) < 4294967296 by decide)
                try rw [i_le] at c_42
                try rw [i_lt] at c_53
                try rw [i_eq] at c_64
                try rw [i_eq] at c_75
                try rw [i_lt] at c_86
                try rw [i_le] at c_97
                try rw [jc_ge (by constructor <;> omega) (by constructor <;> omega)] at c_119
                unfold hlN
                first
                  | (rw [if_pos (by omega)]
                     first
                       | (rw [decide_eq_true (by omega)]; rfl)
                       | (rw [decide_eq_false (by omega)]; rfl))
                  | (rw [if_neg (by omega), if_pos (by omega)]
                     first
                       | (rw [decide_eq_true (by omega)]; rfl)
                       | (rw [decide_eq_false (by omega)]; rfl))
                  | (rw [if_neg (by omega), if_neg (by omega), if_pos (by omega)]
                     first
                       | (rw [decide_eq_true (by omega)]; rfl)
                       | (rw [decide_eq_false (by omega)]; rfl))
                  | (rw [if_neg (by omega), if_neg (by omega), if_neg (by omega), if_pos (by omega)]
                     first
                       | (rw [decide_eq_true (by omega)]; rfl)
                       | (rw [decide_eq_false (by omega)]; rfl))
                  | (rw [if_neg (by omega), if_neg (by omega), if_neg (by omega), if_neg (by omega), if_pos (by omega)]
                     first
                       | (rw [decide_eq_true (by omega)]; rfl)
                       | (rw [decide_eq_false (by omega)]; rfl))
                  | (rw [if_neg (by omega), if_neg (by omega), if_neg (by omega), if_neg (by omega), if_neg (by omega), if_pos (by omega)]
                     first
                       | (rw [decide_eq_true (by omega)]; rfl)
                       | (rw [decide_eq_false (by omega)]; rfl))
                  | (rw [if_neg (by omega), if_neg (by omega), if_neg (by omega), if_neg (by omega), if_neg (by omega), if_neg (by omega)]
                     first
                       | (rw [decide_eq_true (by omega)]; rfl)
                       | (rw [decide_eq_false (by omega)]; rfl)), rfl, rfl⟩
            · skip
              refine g_iconst (v := nI 1) dX9_holdsNow_89 rfl ?_
              refine g_goto (tgt := 94) dX9_holdsNow_90 (by decide) ?_
              exact g_iret dX9_holdsNow_94 (Or.inr ⟨rfl, by first | exact Or.inl rfl | exact Or.inr rfl⟩) (Nat.le_of_ble_eq_true rfl) (Nat.le_of_ble_eq_true rfl) ⟨by
                have a1 := Int.emod_nonneg a.toInt (show (4294967296 : Int) ≠ 0 by decide)
                have a2 := Int.emod_lt_of_pos a.toInt (show (0 : Int) < 4294967296 by decide)
                have b1 := Int.emod_nonneg b.toInt (show (4294967296 : Int) ≠ 0 by decide)
                have b2 := Int.emod_lt_of_pos b.toInt (show (0 : Int) < 4294967296 by decide)
                try rw [i_le] at c_42
                try rw [i_lt] at c_53
                try rw [i_eq] at c_64
                try rw [i_eq] at c_75
                try rw [i_lt] at c_86
                try rw [i_le] at c_97
                try rw [jc_ge (by constructor <;> omega) (by constructor <;> omega)] at c_119
                unfold hlN
                first
                  | (rw [if_pos (by omega)]
                     first
                       | (rw [decide_eq_true (by omega)]; rfl)
                       | (rw [decide_eq_false (by omega)]; rfl))
                  | (rw [if_neg (by omega), if_pos (by omega)]
                     first
                       | (rw [decide_eq_true (by omega)]; rfl)
                       | (rw [decide_eq_false (by omega)]; rfl))
                  | (rw [if_neg (by omega), if_neg (by omega), if_pos (by omega)]
                     first
                       | (rw [decide_eq_true (by omega)]; rfl)
                       | (rw [decide_eq_false (by omega)]; rfl))
                  | (rw [if_neg (by omega), if_neg (by omega), if_neg (by omega), if_pos (by omega)]
                     first
                       | (rw [decide_eq_true (by omega)]; rfl)
                       | (rw [decide_eq_false (by omega)]; rfl))
                  | (rw [if_neg (by omega), if_neg (by omega), if_neg (by omega), if_neg (by omega), if_pos (by omega)]
                     first
                       | (rw [decide_eq_true (by omega)]; rfl)
                       | (rw [decide_eq_false (by omega)]; rfl))
                  | (rw [if_neg (by omega), if_neg (by omega), if_neg (by omega), if_neg (by omega), if_neg (by omega), if_pos (by omega)]
                     first
                       | (rw [decide_eq_true (by omega)]; rfl)
                       | (rw [decide_eq_false (by omega)]; rfl))
                  | (rw [if_neg (by omega), if_neg (by omega), if_neg (by omega), if_neg (by omega), if_neg (by omega), if_neg (by omega)]
                     first
                       | (rw [decide_eq_true (by omega)]; rfl)
                       | (rw [decide_eq_false (by omega)]; rfl)), rfl, rfl⟩
          · skip
            by_cases t_1_5 : q = 5
            · skip
              refine g_tableIn (off := 94) (tgt := 95) dX9_holdsNow_1 (by rw [nI_t (by omega)]; omega) (by rw [nI_t (by omega)]; omega) (by rw [nI_t (by omega)]; rw [t_1_5]; rfl) (by decide) ?_
              refine g_iload_n dX9_holdsNow_95 rfl ?_
              refine g_iload_n dX9_holdsNow_96 rfl ?_
              refine g_icmp_le (tgt := 104) dX9_holdsNow_97 (by decide) (fun c_97 => ?_) (fun c_97 => ?_)
              · skip
                refine g_iconst (v := nI 0) dX9_holdsNow_104 rfl ?_
                exact g_iret dX9_holdsNow_105 (Or.inr ⟨rfl, by first | exact Or.inl rfl | exact Or.inr rfl⟩) (Nat.le_of_ble_eq_true rfl) (Nat.le_of_ble_eq_true rfl) ⟨by
                  have a1 := Int.emod_nonneg a.toInt (show (4294967296 : Int) ≠ 0 by decide)
                  have a2 := Int.emod_lt_of_pos a.toInt (show (0 : Int) < 4294967296 by decide)
                  have b1 := Int.emod_nonneg b.toInt (show (4294967296 : Int) ≠ 0 by decide)
                  have b2 := Int.emod_lt_of_pos b.toInt (show (0 : Int) < 4294967296 by decide)
                  try rw [i_le] at c_42
                  try rw [i_lt] at c_53
                  try rw [i_eq] at c_64
                  try rw [i_eq] at c_75
                  try rw [i_lt] at c_86
                  try rw [i_le] at c_97
                  try rw [jc_ge (by constructor <;> omega) (by constructor <;> omega)] at c_119
                  unfold hlN
                  first
                    | (rw [if_pos (by omega)]
                       first
                         | (rw [decide_eq_true (by omega)]; rfl)
                         | (rw [decide_eq_false (by omega)]; rfl))
                    | (rw [if_neg (by omega), if_pos (by omega)]
                       first
                         | (rw [decide_eq_true (by omega)]; rfl)
                         | (rw [decide_eq_false (by omega)]; rfl))
                    | (rw [if_neg (by omega), if_neg (by omega), if_pos (by omega)]
                       first
                         | (rw [decide_eq_true (by omega)]; rfl)
                         | (rw [decide_eq_false (by omega)]; rfl))
                    | (rw [if_neg (by omega), if_neg (by omega), if_neg (by omega), if_pos (by omega)]
                       first
                         | (rw [decide_eq_true (by omega)]; rfl)
                         | (rw [decide_eq_false (by omega)]; rfl))
                    | (rw [if_neg (by omega), if_neg (by omega), if_neg (by omega), if_neg (by omega), if_pos (by omega)]
                       first
                         | (rw [decide_eq_true (by omega)]; rfl)
                         | (rw [decide_eq_false (by omega)]; rfl))
                    | (rw [if_neg (by omega), if_neg (by omega), if_neg (by omega), if_neg (by omega), if_neg (by omega), if_pos (by omega)]
                       first
                         | (rw [decide_eq_true (by omega)]; rfl)
                         | (rw [decide_eq_false (by omega)]; rfl))
                    | (rw [if_neg (by omega), if_neg (by omega), if_neg (by omega), if_neg (by omega), if_neg (by omega), if_neg (by omega)]
                       first
                         | (rw [decide_eq_true (by omega)]; rfl)
                         | (rw [decide_eq_false (by omega)]; rfl)), rfl, rfl⟩
              · skip
                refine g_iconst (v := nI 1) dX9_holdsNow_100 rfl ?_
                refine g_goto (tgt := 105) dX9_holdsNow_101 (by decide) ?_
                exact g_iret dX9_holdsNow_105 (Or.inr ⟨rfl, by first | exact Or.inl rfl | exact Or.inr rfl⟩) (Nat.le_of_ble_eq_true rfl) (Nat.le_of_ble_eq_true rfl) ⟨by
                  have a1 := Int.emod_nonneg a.toInt (show (4294967296 : Int) ≠ 0 by decide)
                  have a2 := Int.emod_lt_of_pos a.toInt (show (0 : Int) < 4294967296 by decide)
                  have b1 := Int.emod_nonneg b.toInt (show (4294967296 : Int) ≠ 0 by decide)
                  have b2 := Int.emod_lt_of_pos b.toInt (show (0 : Int) < 4294967296 by decide)
                  try rw [i_le] at c_42
                  try rw [i_lt] at c_53
                  try rw [i_eq] at c_64
                  try rw [i_eq] at c_75
                  try rw [i_lt] at c_86
                  try rw [i_le] at c_97
                  try rw [jc_ge (by constructor <;> omega) (by constructor <;> omega)] at c_119
                  unfold hlN
                  first
                    | (rw [if_pos (by omega)]
                       first
                         | (rw [decide_eq_true (by omega)]; rfl)
                         | (rw [decide_eq_false (by omega)]; rfl))
                    | (rw [if_neg (by omega), if_pos (by omega)]
                       first
                         | (rw [decide_eq_true (by omega)]; rfl)
                         | (rw [decide_eq_false (by omega)]; rfl))
                    | (rw [if_neg (by omega), if_neg (by omega), if_pos (by omega)]
                       first
                         | (rw [decide_eq_true (by omega)]; rfl)
                         | (rw [decide_eq_false (by omega)]; rfl))
                    | (rw [if_neg (by omega), if_neg (by omega), if_neg (by omega), if_pos (by omega)]
                       first
                         | (rw [decide_eq_true (by omega)]; rfl)
                         | (rw [decide_eq_false (by omega)]; rfl))
                    | (rw [if_neg (by omega), if_neg (by omega), if_neg (by omega), if_neg (by omega), if_pos (by omega)]
                       first
                         | (rw [decide_eq_true (by omega)]; rfl)
                         | (rw [decide_eq_false (by omega)]; rfl))
                    | (rw [if_neg (by omega), if_neg (by omega), if_neg (by omega), if_neg (by omega), if_neg (by omega), if_pos (by omega)]
                       first
                         | (rw [decide_eq_true (by omega)]; rfl)
                         | (rw [decide_eq_false (by omega)]; rfl))
                    | (rw [if_neg (by omega), if_neg (by omega), if_neg (by omega), if_neg (by omega), if_neg (by omega), if_neg (by omega)]
                       first
                         | (rw [decide_eq_true (by omega)]; rfl)
                         | (rw [decide_eq_false (by omega)]; rfl)), rfl, rfl⟩
            · skip
              refine g_tableOut (tgt := 106) dX9_holdsNow_1 (by rw [nI_t (by omega)]; omega) (by decide) ?_
              refine g_iload_n dX9_holdsNow_106 rfl ?_
              refine g_i2l dX9_holdsNow_107 ?_
              rw [i_j]
              refine g_ldc2 (v := jI (4294967295)) dX9_holdsNow_108 (iw_27 19 rfl) ?_
              refine g_land dX9_holdsNow_111 ?_
              rw [jI_m32]
              refine g_iload_n dX9_holdsNow_112 rfl ?_
              refine g_i2l dX9_holdsNow_113 ?_
              rw [i_j]
              refine g_ldc2 (v := jI (4294967295)) dX9_holdsNow_114 (iw_27 19 rfl) ?_
              refine g_land dX9_holdsNow_117 ?_
              rw [jI_m32]
              refine g_lcmp dX9_holdsNow_118 ?_
              refine g_if_ge (tgt := 126) dX9_holdsNow_119 (by decide) (fun c_119 => ?_) (fun c_119 => ?_)
              · skip
                refine g_iconst (v := nI 0) dX9_holdsNow_126 rfl ?_
                exact g_iret dX9_holdsNow_127 (Or.inr ⟨rfl, by first | exact Or.inl rfl | exact Or.inr rfl⟩) (Nat.le_of_ble_eq_true rfl) (Nat.le_of_ble_eq_true rfl) ⟨by
                  have a1 := Int.emod_nonneg a.toInt (show (4294967296 : Int) ≠ 0 by decide)
                  have a2 := Int.emod_lt_of_pos a.toInt (show (0 : Int) < 4294967296 by decide)
                  have b1 := Int.emod_nonneg b.toInt (show (4294967296 : Int) ≠ 0 by decide)
                  have b2 := Int.emod_lt_of_pos b.toInt (show (0 : Int) < 4294967296 by decide)
                  try rw [i_le] at c_42
                  try rw [i_lt] at c_53
                  try rw [i_eq] at c_64
                  try rw [i_eq] at c_75
                  try rw [i_lt] at c_86
                  try rw [i_le] at c_97
                  try rw [jc_ge (by constructor <;> omega) (by constructor <;> omega)] at c_119
                  unfold hlN
                  first
                    | (rw [if_pos (by omega)]
                       first
                         | (rw [decide_eq_true (by omega)]; rfl)
                         | (rw [decide_eq_false (by omega)]; rfl))
                    | (rw [if_neg (by omega), if_pos (by omega)]
                       first
                         | (rw [decide_eq_true (by omega)]; rfl)
                         | (rw [decide_eq_false (by omega)]; rfl))
                    | (rw [if_neg (by omega), if_neg (by omega), if_pos (by omega)]
                       first
                         | (rw [decide_eq_true (by omega)]; rfl)
                         | (rw [decide_eq_false (by omega)]; rfl))
                    | (rw [if_neg (by omega), if_neg (by omega), if_neg (by omega), if_pos (by omega)]
                       first
                         | (rw [decide_eq_true (by omega)]; rfl)
                         | (rw [decide_eq_false (by omega)]; rfl))
                    | (rw [if_neg (by omega), if_neg (by omega), if_neg (by omega), if_neg (by omega), if_pos (by omega)]
                       first
                         | (rw [decide_eq_true (by omega)]; rfl)
                         | (rw [decide_eq_false (by omega)]; rfl))
                    | (rw [if_neg (by omega), if_neg (by omega), if_neg (by omega), if_neg (by omega), if_neg (by omega), if_pos (by omega)]
                       first
                         | (rw [decide_eq_true (by omega)]; rfl)
                         | (rw [decide_eq_false (by omega)]; rfl))
                    | (rw [if_neg (by omega), if_neg (by omega), if_neg (by omega), if_neg (by omega), if_neg (by omega), if_neg (by omega)]
                       first
                         | (rw [decide_eq_true (by omega)]; rfl)
                         | (rw [decide_eq_false (by omega)]; rfl)), rfl, rfl⟩
              · skip
                refine g_iconst (v := nI 1) dX9_holdsNow_122 rfl ?_
                refine g_goto (tgt := 127) dX9_holdsNow_123 (by decide) ?_
                exact g_iret dX9_holdsNow_127 (Or.inr ⟨rfl, by first | exact Or.inl rfl | exact Or.inr rfl⟩) (Nat.le_of_ble_eq_true rfl) (Nat.le_of_ble_eq_true rfl) ⟨by
                  have a1 := Int.emod_nonneg a.toInt (show (4294967296 : Int) ≠ 0 by decide)
                  have a2 := Int.emod_lt_of_pos a.toInt (show (0 : Int) < 4294967296 by decide)
                  have b1 := Int.emod_nonneg b.toInt (show (4294967296 : Int) ≠ 0 by decide)
                  have b2 := Int.emod_lt_of_pos b.toInt (show (0 : Int) < 4294967296 by decide)
                  try rw [i_le] at c_42
                  try rw [i_lt] at c_53
                  try rw [i_eq] at c_64
                  try rw [i_eq] at c_75
                  try rw [i_lt] at c_86
                  try rw [i_le] at c_97
                  try rw [jc_ge (by constructor <;> omega) (by constructor <;> omega)] at c_119
                  unfold hlN
                  first
                    | (rw [if_pos (by omega)]
                       first
                         | (rw [decide_eq_true (by omega)]; rfl)
                         | (rw [decide_eq_false (by omega)]; rfl))
                    | (rw [if_neg (by omega), if_pos (by omega)]
                       first
                         | (rw [decide_eq_true (by omega)]; rfl)
                         | (rw [decide_eq_false (by omega)]; rfl))
                    | (rw [if_neg (by omega), if_neg (by omega), if_pos (by omega)]
                       first
                         | (rw [decide_eq_true (by omega)]; rfl)
                         | (rw [decide_eq_false (by omega)]; rfl))
                    | (rw [if_neg (by omega), if_neg (by omega), if_neg (by omega), if_pos (by omega)]
                       first
                         | (rw [decide_eq_true (by omega)]; rfl)
                         | (rw [decide_eq_false (by omega)]; rfl))
                    | (rw [if_neg (by omega), if_neg (by omega), if_neg (by omega), if_neg (by omega), if_pos (by omega)]
                       first
                         | (rw [decide_eq_true (by omega)]; rfl)
                         | (rw [decide_eq_false (by omega)]; rfl))
                    | (rw [if_neg (by omega), if_neg (by omega), if_neg (by omega), if_neg (by omega), if_neg (by omega), if_pos (by omega)]
                       first
                         | (rw [decide_eq_true (by omega)]; rfl)
                         | (rw [decide_eq_false (by omega)]; rfl))
                    | (rw [if_neg (by omega), if_neg (by omega), if_neg (by omega), if_neg (by omega), if_neg (by omega), if_neg (by omega)]
                       first
                         | (rw [decide_eq_true (by omega)]; rfl)
                         | (rw [decide_eq_false (by omega)]; rfl)), rfl, rfl⟩

set_option maxHeartbeats 4000000 in
set_option maxRecDepth 100000 in
theorem l_with {M : gM} {n m a : Nat} {S : Nat → List Sp} {A : RA} {now : Nat → Int32} {post : gPo} (hG : rS M m S) (hA : rA M m A S) (ha : a < 40) (hd : aR A a = true → gdF (aF A a)) (hN : ∀ p, p < 8 → mI M (m + 11) p = now p) (hq : post (some (.int (bI (wtK (aF A a) now (aR A a) 8)))) M n) : ∀ (d : Nat) (j : Nat), 8 - j < d → j ≤ 8 → GW μX9_isWithin (gRm 2 47 0 0) (gTh post 0 0) 0 0 9 [some (.ref m), some (.int (nI a)), some (.int (bI (wtK (aF A a) now (aR A a) j))), some (.int (nI j))] [] M n := by
  intro d
  induction d with
  | zero =>
    intro j hd2 hj
    omega
  | succ d ih =>
    intro j hd2 hj
    refine g_iload_n dX9_isWithin_9 rfl ?_
    refine g_bipush (v := nI 8) dX9_isWithin_10 rfl ?_
    refine g_icmp_ge (tgt := 51) dX9_isWithin_12 (by decide) (fun c_12 => ?_) (fun c_12 => ?_)
    · skip
      rw [nI_leI (by omega) (by omega)] at c_12
      have e8 : j = 8 := by omega
      subst e8
      refine g_iload_n dX9_isWithin_51 rfl ?_
      exact g_iret dX9_isWithin_52 (Or.inr ⟨rfl, bI_01 _⟩) (Nat.le_of_ble_eq_true rfl) (Nat.le_of_ble_eq_true rfl) hq
    · skip
      rw [nI_leI (by omega) (by omega)] at c_12
      refine g_iload_n dX9_isWithin_15 rfl ?_
      refine g_if_eq (tgt := 43) dX9_isWithin_16 (by decide) (fun c_16 => ?_) (fun c_16 => ?_)
      · skip
        try rw [bI_eq0] at c_16
        try rw [bI_eq0] at c_36
        refine g_iconst (v := nI 0) dX9_isWithin_43 rfl ?_
        refine g_istore_n dX9_isWithin_44 (Nat.le_of_ble_eq_true rfl) ?_
        refine g_iinc dX9_isWithin_45 rfl (nI_1 j) (Nat.le_of_ble_eq_true rfl) ?_
        refine g_goto (tgt := 9) dX9_isWithin_48 (by decide) ?_
        have hg := ih (j + 1) (by omega) (by omega)
        rw [wtK_s] at hg
        first
          | (rw [c_16, c_36] at hg; exact hg)
          | (rw [c_16, Bool.false_and] at hg; exact hg)
      · skip
        rw [bI_eq0, Bool.not_eq_false] at c_16
        have hR : aR A a = true := by
          have key : ∀ j, wtK (aF A a) now (aR A a) j = true → aR A a = true := by
            intro j
            induction j with
            | zero => exact fun h => h
            | succ j ih => intro h; rw [wtK_s, Bool.and_eq_true] at h; exact ih h.1
          exact key j c_16
        have hS := (hG.2.1 (8 * a + j) (by omega)).1
        rw [hA.2.2.2 a ha hR j (by omega)] at hS
        have hr5 := (hd hR j (by omega)).1.2.2
        have nr := i_rng (now j)
        refine g_aload_n dX9_isWithin_19 rfl ?_
        refine g_aload_n dX9_isWithin_20 rfl ?_
        refine g_iload_n dX9_isWithin_21 rfl ?_
        refine g_iload_n dX9_isWithin_22 rfl ?_
        refine g_callV dX9_isWithin_23 sX9_fact (m_fact M n m a j) cl10 hG.1.1 iX9_fact vX9_fact (iw_24 23 rfl) rfl rfl (Nat.le_of_ble_eq_true rfl) (Nat.le_of_ble_eq_true rfl) (Nat.le_of_ble_eq_true rfl) (Nat.le_of_ble_eq_true rfl) (Nat.le_of_ble_eq_true rfl) ?_
        intro r9 M9 n9 h9
        obtain ⟨h91, h92, h93⟩ := h9
        rw [h91, h92, h93]
        clear h91 h92 h93 r9 M9 n9
        refine g_aload_n dX9_isWithin_26 rfl ?_
        refine g_getR (f := 18) dX9_isWithin_27 cl10 hG.1.1 (by decide) (Or.inl (iw_6 7 rfl)) (Or.inl rfl) rfl hG.1.r_now ?_
        refine g_iload_n dX9_isWithin_30 rfl ?_
        refine g_iaload dX9_isWithin_31 (j := j) hG.1.k_now hG.1.n_now rfl (by omega) (by decide) ?_
        rw [hN j (by omega)]
        refine g_i2l dX9_isWithin_32 ?_
        rw [i_j]
        refine g_callV dX9_isWithin_33 sX9_has (m_has M n m (8 * a + j) (now j).toInt (aF A a j) hG.1 (by omega) hS hr5 (by constructor <;> omega)) cl10 hG.1.1 iX9_has vX9_has (iw_34 8 rfl) rfl rfl (Nat.le_of_ble_eq_true rfl) (Nat.le_of_ble_eq_true rfl) (Nat.le_of_ble_eq_true rfl) (Nat.le_of_ble_eq_true rfl) (Nat.le_of_ble_eq_true rfl) ?_
        intro r9 M9 n9 h9
        obtain ⟨h91, h92, h93⟩ := h9
        rw [h91, h92, h93]
        clear h91 h92 h93 r9 M9 n9
        refine g_if_eq (tgt := 43) dX9_isWithin_36 (by decide) (fun c_36 => ?_) (fun c_36 => ?_)
        · skip
          try rw [bI_eq0] at c_16
          try rw [bI_eq0] at c_36
          refine g_iconst (v := nI 0) dX9_isWithin_43 rfl ?_
          refine g_istore_n dX9_isWithin_44 (Nat.le_of_ble_eq_true rfl) ?_
          refine g_iinc dX9_isWithin_45 rfl (nI_1 j) (Nat.le_of_ble_eq_true rfl) ?_
          refine g_goto (tgt := 9) dX9_isWithin_48 (by decide) ?_
          have hg := ih (j + 1) (by omega) (by omega)
          rw [wtK_s] at hg
          first
            | (rw [c_16, c_36] at hg; exact hg)
            | (rw [c_16, Bool.false_and] at hg; exact hg)
        · skip
          rw [bI_eq0, Bool.not_eq_false] at c_36
          refine g_iconst (v := nI 1) dX9_isWithin_39 rfl ?_
          refine g_goto (tgt := 44) dX9_isWithin_40 (by decide) ?_
          refine g_istore_n dX9_isWithin_44 (Nat.le_of_ble_eq_true rfl) ?_
          refine g_iinc dX9_isWithin_45 rfl (nI_1 j) (Nat.le_of_ble_eq_true rfl) ?_
          refine g_goto (tgt := 9) dX9_isWithin_48 (by decide) ?_
          have hg := ih (j + 1) (by omega) (by omega)
          rw [wtK_s] at hg
          first
            | (rw [c_16, c_36] at hg; exact hg)
            | (rw [c_16, Bool.false_and] at hg; exact hg)

set_option maxHeartbeats 4000000 in
set_option maxRecDepth 100000 in
theorem m_isWithin (M : gM) (n m a : Nat) (S : Nat → List Sp) (A : RA) (now : Nat → Int32) (hG : rS M m S) (hA : rA M m A S) (ha : a < 40) (hd : aR A a = true → gdF (aF A a)) (hN : ∀ p, p < 8 → mI M (m + 11) p = now p) : GM μX9_isWithin 2 47 0 0 [.ref m, .int (nI a)] M n (fun r M1 n1 => r = some (.int (bI (wtK (aF A a) now (aR A a) 8))) ∧ M1 = M ∧ n1 = n) := by
  refine GM.ofW (by decide) rfl (Nat.le_of_ble_eq_true rfl) rfl ?_
  refine g_aload_n dX9_isWithin_0 rfl ?_
  refine g_getR (f := 12) dX9_isWithin_1 cl10 hG.1.1 (by decide) (Or.inl (iw_6 5 rfl)) (Or.inl rfl) rfl hG.1.r_reached ?_
  refine g_iload_n dX9_isWithin_4 rfl ?_
  refine g_baload dX9_isWithin_5 (j := a) hG.1.k_reached hG.1.n_reached rfl (by omega) (by decide) ?_
  rw [hA.1 a ha]
  refine g_istore_n dX9_isWithin_6 (Nat.le_of_ble_eq_true rfl) ?_
  refine g_iconst (v := nI 0) dX9_isWithin_7 rfl ?_
  refine g_istore_n dX9_isWithin_8 (Nat.le_of_ble_eq_true rfl) ?_
  exact l_with hG hA ha hd hN ⟨rfl, rfl, rfl⟩ 9 0 (by omega) (by omega)

