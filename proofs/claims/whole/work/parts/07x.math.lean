theorem i_of_j {y : Int32} {w : Int} (hw : r5 w) (h : y.toInt64 = jI w) : y = iZ w := by
  have h1 := i_rng y
  rw [i_j y, jI_eq (by constructor <;> omega) (by constructor <;> omega)] at h
  rw [← h]
  exact iZ_of y
theorem i_cutb (x : Int32) : x.toInt8.toInt32 = iZ (-128 + (x.toInt - -128) % 256) := by
  have h := cut_b x.toInt
  rw [jI_i, ← iZ_of x] at h
  exact i_of_j (by constructor <;> omega) h
theorem i_cuts (x : Int32) : x.toInt16.toInt32 = iZ (-32768 + (x.toInt - -32768) % 65536) := by
  have h := cut_s x.toInt
  rw [jI_i, ← iZ_of x] at h
  exact i_of_j (by constructor <;> omega) h
theorem i_cutc (x : Int32) : (x.toUInt32 % 65536).toInt32 = iZ (x.toInt % 65536) := by
  rw [← Int32.toInt_inj, iZ_t (by omega) (by omega)]
  have h1 : (x.toUInt32 % 65536).toInt32.toInt = ((x.toUInt32 % 65536).toNat : Int) := by
    have h2 : (x.toUInt32 % 65536).toNat < 65536 := by
      rw [UInt32.toNat_mod]
      exact Nat.mod_lt _ (by decide)
    show (x.toUInt32 % 65536).toBitVec.toInt = _
    rw [BitVec.toInt_eq_toNat_of_lt (by have : (x.toUInt32 % 65536).toBitVec.toNat < 65536 := h2; omega)]
    rfl
  rw [h1, UInt32.toNat_mod]
  have h3 : (x.toUInt32.toNat : Int) = x.toInt % 4294967296 := by
    show (x.toBitVec.toNat : Int) = x.toBitVec.toInt % 4294967296
    rw [BitVec.toInt_eq_toNat_cond]
    have := x.toBitVec.isLt
    split <;> omega
  have h4 : ((65536 : UInt32)).toNat = 65536 := rfl
  rw [h4]
  omega
theorem i_div (a b : Int32) : a / b = iZ (a.toInt.tdiv b.toInt) := by
  rw [← Int32.toInt_inj, Int32.toInt_div]
  show _ = (Int32.ofInt (a.toInt.tdiv b.toInt)).toInt
  rw [Int32.toInt_ofInt]
theorem i_mod (a b : Int32) : a - a / b * b = iZ (a.toInt.tmod b.toInt) := by
  rw [i_div, Int.tmod_def]
  conv => lhs; rw [iZ_of a, iZ_of b]
  rw [iZ_t (i_rng a).1 (i_rng a).2, iZ_t (i_rng b).1 (i_rng b).2, iZ_mul, iZ_sub, Int.mul_comm]
theorem i_min (x : Int32) : (x + (-2147483648)).toInt = x.toInt % 4294967296 - 2147483648 := by
  have e : (x + (-2147483648)) = iZ (x.toInt - 2147483648) := by
    conv => lhs; rw [iZ_of x, show (-2147483648 : Int32) = iZ (-2147483648) from rfl]
    rw [iZ_add]; rfl
  rw [e]
  have h := wrp_m (x.toInt - 2147483648)
  unfold wrp at h
  rw [h]
  rw [show x.toInt - 2147483648 - -2147483648 = x.toInt by omega]
  omega
