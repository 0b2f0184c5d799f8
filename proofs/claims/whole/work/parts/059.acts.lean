/-! what is laid, act by act -/
theorem jI_toBV (z : Int) : (jI z).toBitVec = BitVec.ofInt 64 z := rfl
theorem iZ_toBV (z : Int) : (iZ z).toBitVec = BitVec.ofInt 32 z := rfl
theorem jI_and_mask (z : Int) {k : Nat} (hk : k ≤ 62) : jI z &&& jI ((2 ^ k : Nat) - 1 : Int) = jI (z % (2 ^ k : Nat)) := by
  apply Int64.toBitVec_inj.mp
  rw [Int64.toBitVec_and, jI_toBV, jI_toBV, jI_toBV]
  apply BitVec.eq_of_toNat_eq
  have hp : 2 ^ k ≤ 2 ^ 62 := Nat.pow_le_pow_right (by decide) hk
  have h0 : 0 < 2 ^ k := Nat.pos_of_ne_zero (by simp)
  have e1 : (BitVec.ofInt 64 ((2 ^ k : Nat) - 1 : Int)).toNat = 2 ^ k - 1 := by
    rw [BitVec.toNat_ofInt]
    have : (((2 ^ k : Nat) : Int) - 1) % ((2 ^ 64 : Nat) : Int) = (2 ^ k : Nat) - 1 := Int.emod_eq_of_lt (by omega) (by omega)
    rw [this]
    omega
  rw [BitVec.toNat_and, e1, Nat.and_two_pow_sub_one_eq_mod, BitVec.toNat_ofInt, BitVec.toNat_ofInt]
  have e2 : z % ((2 ^ k : Nat) : Int) % ((2 ^ 64 : Nat) : Int) = z % ((2 ^ k : Nat) : Int) := Int.emod_eq_of_lt (Int.emod_nonneg _ (by omega)) (Int.lt_of_lt_of_le (Int.emod_lt_of_pos _ (by omega)) (by omega))
  rw [e2]
  have hd : ((2 ^ k : Nat) : Int) ∣ ((2 ^ 64 : Nat) : Int) := by
    refine ⟨((2 ^ (64 - k) : Nat) : Int), ?_⟩
    rw [← Int.natCast_mul, ← Nat.pow_add, show k + (64 - k) = 64 by omega]
  have e3 : z % ((2 ^ k : Nat) : Int) = (z % ((2 ^ 64 : Nat) : Int)) % ((2 ^ k : Nat) : Int) := (Int.emod_emod_of_dvd z hd).symm
  rw [e3]
  have hz : 0 ≤ z % ((2 ^ 64 : Nat) : Int) := Int.emod_nonneg _ (by decide)
  obtain ⟨w, hw⟩ := Int.eq_ofNat_of_zero_le hz
  rw [hw]
  rfl
theorem jI_m8 (z : Int) : jI z &&& jI 255 = jI (z % 256) := jI_and_mask z (k := 8) (by decide)
theorem jI_m16 (z : Int) : jI z &&& jI 65535 = jI (z % 65536) := jI_and_mask z (k := 16) (by decide)
theorem jI_m32 (z : Int) : jI z &&& jI 4294967295 = jI (z % 4294967296) := jI_and_mask z (k := 32) (by decide)
theorem bm_r {z e w : Int} (hw : 0 < w) : e ≤ e + (z - e) % w ∧ e + (z - e) % w ≤ e + w - 1 := by
  have h1 := Int.emod_nonneg (z - e) (show w ≠ 0 by omega)
  have h2 := Int.emod_lt_of_pos (z - e) hw
  omega
theorem wrp_m (z : Int) : wrp z = -2147483648 + (z - -2147483648) % 4294967296 := by
  have h : wrp z = z.bmod 4294967296 := Int32.toInt_ofInt
  rw [h, Int.bmod_def]
  split <;> omega
/-- lo .. hi goes round among w numbers from e on -/
def rnd (e w lo hi : Int) : List Sp := if w - 1 ≤ hi - lo then [(e, e + w - 1)] else if e + (lo - e) % w ≤ e + (hi - e) % w then [(e + (lo - e) % w, e + (hi - e) % w)] else [(e, e + (hi - e) % w), (e + (lo - e) % w, e + w - 1)]
theorem wrW_rnd (lo hi : Int) : wrW lo hi = rnd (-2147483648) 4294967296 lo hi := by
  unfold wrW rnd
  rw [wrp_m, wrp_m]
  rfl
theorem rnd_ok {e w : Int} (lo hi : Int) (hw : 0 < w) : okL (rnd e w lo hi) := by
  have h1 := bm_r (z := lo) (e := e) hw
  have h2 := bm_r (z := hi) (e := e) hw
  unfold rnd okL
  split
  · intro p hp; simp at hp; rw [hp]; simp; omega
  · split
    · intro p hp; simp at hp; rw [hp]; simp; omega
    · intro p hp
      simp at hp
      rcases hp with rfl | rfl <;> simp <;> omega
theorem rnd_r5 {e w : Int} (lo hi : Int) (hw : 0 < w) (h3 : -2147483648 ≤ e) (h4 : e + w - 1 ≤ 2147483647) : r5L (rnd e w lo hi) := by
  have h1 := bm_r (z := lo) (e := e) hw
  have h2 := bm_r (z := hi) (e := e) hw
  unfold rnd r5L
  split
  · intro p hp; simp at hp; rw [hp]; simp only; constructor <;> constructor <;> omega
  · split
    · intro p hp; simp at hp; rw [hp]; simp only; constructor <;> constructor <;> omega
    · intro p hp
      simp at hp
      rcases hp with rfl | rfl <;> simp only <;> constructor <;> constructor <;> omega
theorem rnd_len (e w lo hi : Int) : (rnd e w lo hi).length ≤ 2 := by
  unfold rnd
  split
  · simp
  · split <;> simp
/-- cut to 8 bits, 16 bits, 16 bits without sign -/
def cE (t : Int32) : Int := if t = 0 then -128 else if t = 1 then -32768 else 0
def cW (t : Int32) : Int := if t = 0 then 256 else 65536
def cutZ (t : Int32) (v : Int) : Int := cE t + (v - cE t) % cW t
theorem cut_b (z : Int) : ((jI z).toInt32.toInt8.toInt32).toInt64 = jI (-128 + (z - -128) % 256) := by
  rw [i_j]
  congr 1
  rw [Int8.toInt_toInt32, Int32.toInt_toInt8, jI_i]
  have h : (iZ z).toInt = z.bmod 4294967296 := Int32.toInt_ofInt
  rw [h, Int.bmod_def, Int.bmod_def]
  omega
theorem cut_s (z : Int) : ((jI z).toInt32.toInt16.toInt32).toInt64 = jI (-32768 + (z - -32768) % 65536) := by
  rw [i_j]
  congr 1
  rw [Int16.toInt_toInt32, Int32.toInt_toInt16, jI_i]
  have h : (iZ z).toInt = z.bmod 4294967296 := Int32.toInt_ofInt
  rw [h, Int.bmod_def, Int.bmod_def]
  omega
/-- all ones -/
def pwB (c : Int) : Bool := decide (c.toNat &&& (c.toNat + 1) = 0)
theorem bv64_nat {c : Int} (h0 : 0 ≤ c) (h1 : c < 18446744073709551616) : (BitVec.ofInt 64 c).toNat = c.toNat := by
  rw [BitVec.toNat_ofInt]
  have : c % ((2 ^ 64 : Nat) : Int) = c := Int.emod_eq_of_lt h0 (by omega)
  rw [this]
theorem bv32_nat {c : Int} (h0 : 0 ≤ c) (h1 : c < 4294967296) : (BitVec.ofInt 32 c).toNat = c.toNat := by
  rw [BitVec.toNat_ofInt]
  have : c % ((2 ^ 32 : Nat) : Int) = c := Int.emod_eq_of_lt h0 (by omega)
  rw [this]
theorem pw_j {c : Int} (h0 : 0 ≤ c) (h1 : c ≤ 2147483647) : jI (c + 1) &&& jI c = jI 0 ↔ pwB c = true := by
  unfold pwB
  rw [decide_eq_true_eq, ← Int64.toBitVec_inj, Int64.toBitVec_and, jI_toBV, jI_toBV, jI_toBV, ← BitVec.toNat_inj, BitVec.toNat_and, bv64_nat (by omega) (by omega), bv64_nat h0 (by omega), bv64_nat (by omega) (by omega), Nat.and_comm, show (c + 1).toNat = c.toNat + 1 by omega]
  rfl
theorem pw_i {c : Int} (h0 : 0 ≤ c) (h1 : c ≤ 2147483647) : iZ c &&& iZ (c + 1) = 0 ↔ pwB c = true := by
  unfold pwB
  rw [decide_eq_true_eq, ← Int32.toBitVec_inj, Int32.toBitVec_and, iZ_toBV, iZ_toBV, ← BitVec.toNat_inj, BitVec.toNat_and, bv32_nat h0 (by omega), bv32_nat (by omega) (by omega), show (c + 1).toNat = c.toNat + 1 by omega]
  rfl
def andP (c : Int) (p : Sp) : List Sp := if 0 ≤ p.1 ∧ p.2 ≤ c ∧ pwB c = true then [p] else [(0, if 0 ≤ p.1 then min c p.2 else c)]
/-- moved right -/
def shZ (c : Nat) (z : Int) : Int := z >>> c
/-- the divisor's greatest and least size -/
def gF (Y : List Sp) : Int := Y.foldl (fun g p => max g (max (-p.1) p.2)) 0
def ow (p : Sp) : Int := if 0 < p.1 then p.1 else if p.2 < 0 then -p.2 else if p.1 < 0 ∨ 0 < p.2 then 1 else 0
def sF1 (s : Int) (p : Sp) : Int := if 0 < ow p ∧ (s = 0 ∨ ow p < s) then ow p else s
def sF (Y : List Sp) : Int := Y.foldl sF1 0
def restP (Y : List Sp) (p : Sp) : List Sp := if sF Y = 0 then [] else if (-sF Y < p.1 ∧ p.1 < sF Y) ∧ -sF Y < p.2 ∧ p.2 < sF Y then [p] else [(if 0 ≤ p.1 then 0 else max p.1 (1 - gF Y), if p.2 ≤ 0 then 0 else min p.2 (gF Y - 1))]
def fourW (a b c d : Int) : List Sp := wrW (min (min a b) (min c d)) (max (max a b) (max c d))
def byP (x y : Sp) : List Sp := (if y.1 < 0 then fourW (x.1.tdiv y.1) (x.1.tdiv (min y.2 (-1))) (x.2.tdiv y.1) (x.2.tdiv (min y.2 (-1))) else []) ++ (if 0 < y.2 then fourW (x.1.tdiv (max y.1 1)) (x.1.tdiv y.2) (x.2.tdiv (max y.1 1)) (x.2.tdiv y.2) else [])
def bothP (k : Int32) (x y : Sp) : List Sp := if k = 2 then wrW (x.1 + y.1) (x.2 + y.2) else if k = 3 then wrW (x.1 - y.2) (x.2 - y.1) else if k = 4 then fourW (x.1 * y.1) (x.1 * y.2) (x.2 * y.1) (x.2 * y.2) else byP x y
theorem mul_r {x p : Int} (hx : r5 x) (hp : r5 p) : -4611686016279904256 ≤ x * p ∧ x * p ≤ 4611686018427387904 := by
  have h1 := Int.mul_nonneg (show 0 ≤ x + 2147483648 by omega) (show 0 ≤ p + 2147483648 by omega)
  have h2 := Int.mul_nonneg (show 0 ≤ 2147483647 - x by omega) (show 0 ≤ 2147483647 - p by omega)
  have h3 := Int.mul_nonneg (show 0 ≤ 2147483648 - x by omega) (show 0 ≤ 2147483648 + p by omega)
  have h4 := Int.mul_nonneg (show 0 ≤ 2147483648 + x by omega) (show 0 ≤ 2147483648 - p by omega)
  rw [Int.add_mul, Int.mul_add, Int.mul_add] at h1
  rw [Int.sub_mul, Int.mul_sub, Int.mul_sub] at h2
  rw [Int.sub_mul, Int.mul_add, Int.mul_add] at h3
  rw [Int.add_mul, Int.mul_sub, Int.mul_sub] at h4
  omega
theorem tdiv_r {x p : Int} (hx : r5 x) (hp : p ≠ 0) : -2147483648 ≤ x.tdiv p ∧ x.tdiv p ≤ 2147483648 := by
  have h : (x.tdiv p).natAbs ≤ x.natAbs := by
    rw [Int.natAbs_tdiv]; exact Nat.div_le_self _ _
  omega
theorem jI_div {x p : Int} (hx : r5 x) (hp : r5 p) (h0 : p ≠ 0) : jI x / jI p = jI (x.tdiv p) := by
  have hr := tdiv_r hx h0
  rw [← Int64.toInt_inj, Int64.toInt_div, jI_t (by omega) (by omega), jI_t (by omega) (by omega), jI_t (by omega) (by omega)]
  rw [Int.bmod_eq_of_le (by omega) (by omega)]
