/-! statements, and the spans that one makes -/
/-- a statement: kind, a, b, c -/
abbrev St : Type := Nat × Int32 × Int32 × Int32
def vS (s : St) : Prop := s.1 ≤ 19 ∧ (s.1 ≤ 17 → isP s.2.1) ∧ ((1 ≤ s.1 ∧ s.1 ≤ 9) ∨ (11 ≤ s.1 ∧ s.1 ≤ 17) → isP s.2.2.1) ∧ (s.1 = 2 ∨ s.1 = 3 ∨ s.1 = 4 ∨ s.1 = 7 ∨ s.1 = 8 → isP s.2.2.2) ∧ (s.1 = 5 → 0 ≤ s.2.2.2.toInt) ∧ (s.1 = 6 → 0 ≤ s.2.2.2.toInt ∧ s.2.2.2.toInt ≤ 31) ∧ (s.1 = 9 → 0 ≤ s.2.2.2.toInt ∧ s.2.2.2.toInt ≤ 2) ∧ (s.1 = 10 → s.2.2.1.toInt ≤ s.2.2.2.toInt) ∧ (11 ≤ s.1 ∧ s.1 ≤ 17 → 0 ≤ s.2.2.2.toInt ∧ s.2.2.2.toInt ≤ 40) ∧ (s.1 = 18 → 0 ≤ s.2.1.toInt ∧ s.2.1.toInt ≤ 40)
/-- what one span of the first operand brings -/
def oneP (s : St) (F : Nat → List Sp) (x : Sp) : List Sp := if s.1 = 5 then andP s.2.2.2.toInt x else if s.1 = 6 then [(shZ (pl s.2.2.2) x.1, shZ (pl s.2.2.2) x.2)] else if s.1 = 9 then rnd (cE s.2.2.2) (cW s.2.2.2) x.1 x.2 else if s.1 = 8 then restP (F (pl s.2.2.2)) x else (F (pl s.2.2.2)).flatMap (bothP (nI s.1) x)
def makL (s : St) (F : Nat → List Sp) : List Sp := if s.1 = 0 then [(s.2.2.1.toInt, s.2.2.1.toInt)] else if s.1 = 10 then [(s.2.2.1.toInt, s.2.2.2.toInt)] else if s.1 = 1 then F (pl s.2.2.1) else (F (pl s.2.2.1)).flatMap (oneP s F)
theorem jI_shr (x : Int) {t : Nat} (ht : t < 32) (hx : r5 x) : jI x >>> ((nI t).toInt64 &&& 63) = jI (shZ t x) := by
  have key : ∀ t : Fin 32, ((nI t.val).toInt64 &&& 63).toBitVec.smod 64 = BitVec.ofNat 64 t.val := by decide +kernel
  have k1 := key ⟨t, ht⟩
  rw [← Int64.toInt_inj]
  have h1 : (jI x >>> ((nI t).toInt64 &&& 63)).toInt = ((jI x).toBitVec.sshiftRight' (((nI t).toInt64 &&& 63).toBitVec.smod 64)).toInt := rfl
  rw [h1, k1, BitVec.toInt_sshiftRight', BitVec.toNat_ofNat, Nat.mod_eq_of_lt (by omega)]
  have h2 : (jI x).toBitVec.toInt = x := jI_t (by omega) (by omega)
  rw [h2]
  unfold shZ
  have h3 : -2147483648 ≤ x >>> t ∧ x >>> t ≤ 2147483647 := by
    rw [Int.shiftRight_eq_div_pow]
    have hp : 0 < ((2 ^ t : Nat) : Int) := Int.natCast_pos.mpr (Nat.pos_of_ne_zero (by simp))
    constructor
    · exact Int.le_ediv_of_mul_le hp (by
        have h9 : (1 : Int) ≤ ((2 ^ t : Nat) : Int) := by omega
        have := Int.mul_le_mul_of_nonneg_left h9 (show (0 : Int) ≤ 2147483648 by decide)
        omega)
    · refine Int.ediv_le_of_le_mul hp ?_
      have h9 : (1 : Int) ≤ ((2 ^ t : Nat) : Int) := by omega
      have := Int.mul_le_mul_of_nonneg_left h9 (show (0 : Int) ≤ 2147483647 by decide)
      omega
  rw [jI_t (by omega) (by omega)]
theorem shZ_r {x : Int} (hx : r5 x) (t : Nat) : r5 (shZ t x) := by
  unfold shZ
  rw [Int.shiftRight_eq_div_pow]
  have hp : 0 < ((2 ^ t : Nat) : Int) := Int.natCast_pos.mpr (Nat.pos_of_ne_zero (by simp))
  constructor
  · exact Int.le_ediv_of_mul_le hp (by
      have h9 : (1 : Int) ≤ ((2 ^ t : Nat) : Int) := by omega
      have := Int.mul_le_mul_of_nonneg_left h9 (show (0 : Int) ≤ 2147483648 by decide)
      omega)
  · refine Int.ediv_le_of_le_mul hp ?_
    have h9 : (1 : Int) ≤ ((2 ^ t : Nat) : Int) := by omega
    have := Int.mul_le_mul_of_nonneg_left h9 (show (0 : Int) ≤ 2147483647 by decide)
    omega
theorem shZ_le {x y : Int} (h : x ≤ y) (t : Nat) : shZ t x ≤ shZ t y := by
  unfold shZ
  rw [Int.shiftRight_eq_div_pow, Int.shiftRight_eq_div_pow]
  exact Int.ediv_le_ediv (Int.natCast_pos.mpr (Nat.pos_of_ne_zero (by simp))) h
/-- well laid: not empty, of 32 bits -/
def wl (L : List Sp) : Prop := okL L ∧ r5L L
theorem wl_app {L K : List Sp} (h : wl L) (h2 : wl K) : wl (L ++ K) := ⟨okL_app.mpr ⟨h.1, h2.1⟩, r5L_app.mpr ⟨h.2, h2.2⟩⟩
theorem wl_nil : wl [] := ⟨fun p hp => absurd hp (by simp), fun p hp => absurd hp (by simp)⟩
theorem wl_one {p : Sp} (h : p.1 ≤ p.2) (h1 : r5 p.1) (h2 : r5 p.2) : wl [p] := ⟨fun q hq => by simp at hq; rw [hq]; exact h, fun q hq => by simp at hq; rw [hq]; exact ⟨h1, h2⟩⟩
theorem wl_flat {X : List Sp} {f : Sp → List Sp} (h : ∀ p ∈ X, wl (f p)) : wl (X.flatMap f) := by
  induction X with
  | nil => exact wl_nil
  | cons p l ih => rw [List.flatMap_cons]; exact wl_app (h p List.mem_cons_self) (ih (fun q hq => h q (List.mem_cons_of_mem _ hq)))
theorem okX.wl {X : List Sp} (h : okX X) : wl X := ⟨cn_okL h.1, h.2.2⟩
theorem wl_wrW (lo hi : Int) : wl (wrW lo hi) := ⟨wrW_ok lo hi, wrW_r5 lo hi⟩
theorem bothP_wl (k : Int32) (x y : Sp) : wl (bothP k x y) := by
  unfold bothP byP fourW
  split
  · exact wl_wrW _ _
  · split
    · exact wl_wrW _ _
    · split
      · exact wl_wrW _ _
      · refine wl_app ?_ ?_
        · split
          · exact wl_wrW _ _
          · exact wl_nil
        · split
          · exact wl_wrW _ _
          · exact wl_nil
theorem bothP_len (k : Int32) (x y : Sp) : (bothP k x y).length ≤ 4 := by
  unfold bothP byP fourW
  split
  · have := wrW_len (x.1 + y.1) (x.2 + y.2); omega
  · split
    · have := wrW_len (x.1 - y.2) (x.2 - y.1); omega
    · split
      · exact Nat.le_trans (wrW_len _ _) (by omega)
      · rw [List.length_append]
        refine Nat.le_trans (Nat.add_le_add (b := 2) (d := 2) ?_ ?_) (by omega)
        · split
          · exact wrW_len _ _
          · simp
        · split
          · exact wrW_len _ _
          · simp
theorem flat_len {X : List Sp} {f : Sp → List Sp} {c : Nat} (h : ∀ p ∈ X, (f p).length ≤ c) : (X.flatMap f).length ≤ X.length * c := by
  induction X with
  | nil => simp
  | cons p l ih =>
    rw [List.flatMap_cons, List.length_append, List.length_cons, Nat.succ_mul]
    have h1 := h p List.mem_cons_self
    have h2 := ih (fun q hq => h q (List.mem_cons_of_mem _ hq))
    omega
theorem andP_wl {c : Int} {p : Sp} (hc : 0 ≤ c ∧ c ≤ 2147483647) (h : p.1 ≤ p.2) (h1 : r5 p.1) (h2 : r5 p.2) : wl (andP c p) := by
  unfold andP
  split
  · exact wl_one h h1 h2
  · split
    · exact wl_one (by simp only; omega) (by constructor <;> simp) (by constructor <;> simp only <;> omega)
    · exact wl_one (by simp only; omega) (by constructor <;> simp) (by constructor <;> simp only <;> omega)
theorem andP_len (c : Int) (p : Sp) : (andP c p).length = 1 := by
  unfold andP
  split <;> simp
theorem restP_wl {Y : List Sp} {p : Sp} (hY : wl Y) (h : p.1 ≤ p.2) (h1 : r5 p.1) (h2 : r5 p.2) : wl (restP Y p) := by
  obtain ⟨a1, a2, a3⟩ := gsF hY.1 hY.2
  unfold restP
  split
  · exact wl_nil
  · rename_i c
    have a4 := a3 c
    split
    · exact wl_one h h1 h2
    · split <;> split <;> exact wl_one (by simp only; omega) (by constructor <;> simp only <;> omega) (by constructor <;> simp only <;> omega)
theorem restP_len (Y : List Sp) (p : Sp) : (restP Y p).length ≤ 1 := by
  unfold restP
  split
  · simp
  · split <;> simp
theorem oneP_wl {s : St} {F : Nat → List Sp} {x : Sp} (hs : vS s) (hF : s.1 = 8 → okX (F (pl s.2.2.2))) (h : x.1 ≤ x.2) (h1 : r5 x.1) (h2 : r5 x.2) : wl (oneP s F x) := by
  unfold oneP
  split
  · rename_i c; exact andP_wl ⟨hs.2.2.2.2.1 c, (i_rng _).2⟩ h h1 h2
  · split
    · exact wl_one (shZ_le h _) (shZ_r h1 _) (shZ_r h2 _)
    · split
      · have := cE_r s.2.2.2
        exact ⟨rnd_ok _ _ (by omega), rnd_r5 _ _ (by omega) (by omega) (by omega)⟩
      · split
        · rename_i c; exact restP_wl (hF c).wl h h1 h2
        · exact wl_flat (fun p _ => bothP_wl _ _ _)
theorem oneP_len {s : St} {F : Nat → List Sp} {x : Sp} (hF : (F (pl s.2.2.2)).length ≤ 2) : (oneP s F x).length ≤ 8 := by
  unfold oneP
  split
  · rw [andP_len]; omega
  · split
    · simp
    · split
      · exact Nat.le_trans (rnd_len _ _ _ _) (by omega)
      · split
        · exact Nat.le_trans (restP_len _ _) (by omega)
        · exact Nat.le_trans (flat_len (c := 4) (fun p _ => bothP_len _ _ _)) (by omega)
