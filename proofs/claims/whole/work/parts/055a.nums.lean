/-! numbers: 64 and 32 bits as whole numbers -/
def jI (z : Int) : Int64 := Int64.ofInt z
def iZ (z : Int) : Int32 := Int32.ofInt z
theorem jI_t {z : Int} (h1 : -9223372036854775808 ≤ z) (h2 : z < 9223372036854775808) : (jI z).toInt = z := Int64.toInt_ofInt_of_le (by simpa using h1) (by simpa using h2)
theorem iZ_t {z : Int} (h1 : -2147483648 ≤ z) (h2 : z ≤ 2147483647) : (iZ z).toInt = z := Int32.toInt_ofInt_of_le (by simpa using h1) (by omega)
theorem jI_of (x : Int64) : x = jI x.toInt := (Int64.ofInt_toInt x).symm
theorem iZ_of (x : Int32) : x = iZ x.toInt := (Int32.ofInt_toInt x).symm
theorem i_rng (x : Int32) : -2147483648 ≤ x.toInt ∧ x.toInt ≤ 2147483647 := by
  have h1 := x.le_toInt
  have h2 := x.toInt_lt
  omega
theorem jI_add (a b : Int) : jI a + jI b = jI (a + b) := (Int64.ofInt_add a b).symm
theorem jI_sub (a b : Int) : jI a - jI b = jI (a - b) := (Int64.ofInt_sub a b).symm
theorem jI_mul (a b : Int) : jI a * jI b = jI (a * b) := (Int64.ofInt_mul a b).symm
theorem jI_neg (a : Int) : - jI a = jI (-a) := (Int64.ofInt_neg a).symm
theorem iZ_add (a b : Int) : iZ a + iZ b = iZ (a + b) := (Int32.ofInt_add a b).symm
theorem iZ_sub (a b : Int) : iZ a - iZ b = iZ (a - b) := (Int32.ofInt_sub a b).symm
theorem iZ_mul (a b : Int) : iZ a * iZ b = iZ (a * b) := (Int32.ofInt_mul a b).symm
theorem nI_iZ (n : Nat) : nI n = iZ (n : Int) := Int32.ofInt_eq_ofNat.symm
theorem jI_0 : (0 : Int64) = jI 0 := rfl
theorem jI_1 : (1 : Int64) = jI 1 := rfl
theorem jI_i (z : Int) : (jI z).toInt32 = iZ z := Int64.toInt32_ofInt
theorem iZ_j {z : Int} (h1 : -2147483648 ≤ z) (h2 : z ≤ 2147483647) : (iZ z).toInt64 = jI z := Int32.toInt64_ofInt (by show (-2147483648 : Int) ≤ z; exact h1) (by show z ≤ (2147483647 : Int); exact h2)
theorem i_j (x : Int32) : x.toInt64 = jI x.toInt := by
  have h := i_rng x
  rw [← iZ_j h.1 h.2, ← iZ_of]
theorem nI_j {n : Nat} (h : n < 2147483648) : (nI n).toInt64 = jI (n : Int) := by
  rw [nI_iZ, iZ_j (by omega) (by omega)]
/-- small enough for all that is done with 64 bits here -/
abbrev r6 (z : Int) : Prop := -4611686018427387904 ≤ z ∧ z ≤ 4611686018427387904
theorem jI_lt {a b : Int} (ha : r6 a) (hb : r6 b) : jI a < jI b ↔ a < b := by
  rw [Int64.lt_iff_toInt_lt, jI_t (by omega) (by omega), jI_t (by omega) (by omega)]
theorem jI_le {a b : Int} (ha : r6 a) (hb : r6 b) : jI a ≤ jI b ↔ a ≤ b := by
  rw [Int64.le_iff_toInt_le, jI_t (by omega) (by omega), jI_t (by omega) (by omega)]
theorem jI_eq {a b : Int} (ha : r6 a) (hb : r6 b) : jI a = jI b ↔ a = b := by
  rw [← Int64.toInt_inj, jI_t (by omega) (by omega), jI_t (by omega) (by omega)]
abbrev r5 (z : Int) : Prop := -2147483648 ≤ z ∧ z ≤ 2147483647
theorem iZ_lt {a b : Int} (ha : r5 a) (hb : r5 b) : iZ a < iZ b ↔ a < b := by
  rw [Int32.lt_iff_toInt_lt, iZ_t ha.1 ha.2, iZ_t hb.1 hb.2]
theorem iZ_le {a b : Int} (ha : r5 a) (hb : r5 b) : iZ a ≤ iZ b ↔ a ≤ b := by
  rw [Int32.le_iff_toInt_le, iZ_t ha.1 ha.2, iZ_t hb.1 hb.2]
theorem iZ_eq {a b : Int} (ha : r5 a) (hb : r5 b) : iZ a = iZ b ↔ a = b := by
  rw [← Int32.toInt_inj, iZ_t ha.1 ha.2, iZ_t hb.1 hb.2]
theorem jc_lt {a b : Int} (ha : r6 a) (hb : r6 b) : lg_cmp (jI a) (jI b) < 0 ↔ a < b := by rw [lg_cmp_lt, jI_lt ha hb]
theorem jc_le {a b : Int} (ha : r6 a) (hb : r6 b) : lg_cmp (jI a) (jI b) ≤ 0 ↔ a ≤ b := by rw [lg_cmp_le, jI_le ha hb]
theorem jc_gt {a b : Int} (ha : r6 a) (hb : r6 b) : 0 < lg_cmp (jI a) (jI b) ↔ b < a := by rw [lg_cmp_gt, jI_lt hb ha]
theorem jc_ge {a b : Int} (ha : r6 a) (hb : r6 b) : 0 ≤ lg_cmp (jI a) (jI b) ↔ b ≤ a := by rw [lg_cmp_ge, jI_le hb ha]
theorem jc_eq {a b : Int} (ha : r6 a) (hb : r6 b) : lg_cmp (jI a) (jI b) = 0 ↔ a = b := by rw [lg_cmp_eq, jI_eq ha hb]
theorem jI_min {a b : Int} (ha : r6 a) (hb : r6 b) : (if jI a < jI b then jI a else jI b) = jI (min a b) := by
  by_cases h : a < b
  · rw [if_pos ((jI_lt ha hb).mpr h), show min a b = a by omega]
  · rw [if_neg (fun q => h ((jI_lt ha hb).mp q)), show min a b = b by omega]
theorem jI_max {a b : Int} (ha : r6 a) (hb : r6 b) : (if jI b < jI a then jI a else jI b) = jI (max a b) := by
  by_cases h : b < a
  · rw [if_pos ((jI_lt hb ha).mpr h), show max a b = a by omega]
  · rw [if_neg (fun q => h ((jI_lt hb ha).mp q)), show max a b = b by omega]
