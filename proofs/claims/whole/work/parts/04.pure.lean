/-! Numbers: the words of both sides, no machine. -/
abbrev lus (x : Int64) (k : Int32) : Int64 := (x.toUInt64 >>> (k.toInt64.toUInt64 &&& Int64.toUInt64 63)).toInt64
abbrev ius (x k : Int32) : Int32 := (x.toUInt32 >>> (k.toUInt32 &&& Int32.toUInt32 31)).toInt32
/-- an int read unsigned -/
def uB (x : Int32) : Nat := x.toBitVec.toNat
theorem uB_lt (x : Int32) : uB x < 4294967296 := x.toBitVec.isLt
theorem nI_uB (x : Int32) : nI (uB x) = x := by
  apply Int32.toBitVec_inj.1
  show BitVec.ofNat 32 x.toBitVec.toNat = x.toBitVec
  simp
theorem uB_nI (n : Nat) : uB (nI n) = n % 4294967296 := by
  show (BitVec.ofNat 32 n).toNat = _
  simp
theorem uB_pos {x : Int32} (h : ¬ x < 0) : x.toInt = (uB x : Int) := by
  obtain ⟨j, hj, rfl⟩ := nI_of h
  rw [nI_toInt hj, uB_nI, Nat.mod_eq_of_lt (by omega)]
theorem toInt_uB (x : Int32) : x.toInt = if 2 * uB x < 4294967296 then (uB x : Int) else (uB x : Int) - 4294967296 := by
  show x.toBitVec.toInt = _
  rw [BitVec.toInt_eq_toNat_cond]
  rfl
def uL (x : Int64) : Nat := x.toBitVec.toNat
theorem uL_lt (x : Int64) : uL x < 18446744073709551616 := x.toBitVec.isLt
theorem lN_uL (x : Int64) : lN (uL x) = x := by
  apply Int64.toBitVec_inj.1
  show BitVec.ofNat 64 x.toBitVec.toNat = x.toBitVec
  simp
theorem uL_lN (n : Nat) : uL (lN n) = n % 18446744073709551616 := by
  show (BitVec.ofNat 64 n).toNat = _
  simp
theorem uL_inj {x y : Int64} (h : uL x = uL y) : x = y := by rw [← lN_uL x, ← lN_uL y, h]
theorem uB_inj {x y : Int32} (h : uB x = uB y) : x = y := by rw [← nI_uB x, ← nI_uB y, h]
theorem toInt_uL (x : Int64) : x.toInt = if 2 * uL x < 18446744073709551616 then (uL x : Int) else (uL x : Int) - 18446744073709551616 := by
  show x.toBitVec.toInt = _
  rw [BitVec.toInt_eq_toNat_cond]
  rfl
theorem uL_add (x y : Int64) : uL (x + y) = (uL x + uL y) % 18446744073709551616 := by
  show (x + y).toBitVec.toNat = _
  rw [Int64.toBitVec_add, BitVec.toNat_add]; rfl
theorem uL_mul (x y : Int64) : uL (x * y) = (uL x * uL y) % 18446744073709551616 := by
  show (x * y).toBitVec.toNat = _
  rw [Int64.toBitVec_mul, BitVec.toNat_mul]; rfl
theorem uB_l2i (x : Int64) : uB x.toInt32 = uL x % 4294967296 := by
  show x.toInt32.toBitVec.toNat = _
  rw [Int64.toBitVec_toInt32, BitVec.signExtend_eq_setWidth_of_le _ (by omega), BitVec.toNat_setWidth]; rfl
theorem uL_i2l (x : Int32) : uL x.toInt64 = if 2 * uB x < 4294967296 then uB x else uB x + 18446744069414584320 := by
  show x.toInt64.toBitVec.toNat = _
  rw [Int32.toBitVec_toInt64]
  have h := toInt_uB x
  have h2 : (x.toBitVec.signExtend 64).toInt = x.toInt := by
    show _ = x.toBitVec.toInt
    rw [BitVec.toInt_signExtend_of_le (by omega)]
  have h3 := BitVec.toInt_eq_toNat_cond (x.toBitVec.signExtend 64)
  have h4 := (x.toBitVec.signExtend 64).isLt
  have h5 := uB_lt x
  rw [h2] at h3
  split at h <;> split at h3 <;> split <;> omega
/-- asNumber -/
def nU (x : Int32) : Int64 := x.toInt64 &&& 4294967295
theorem uL_and32 (x : Int64) : uL (x &&& 4294967295) = uL x % 4294967296 := by
  show (x &&& 4294967295).toBitVec.toNat = _
  rw [Int64.toBitVec_and, BitVec.toNat_and]
  show uL x &&& (2 ^ 32 - 1) = _
  rw [Nat.and_two_pow_sub_one_eq_mod]
theorem uL_nU (x : Int32) : uL (nU x) = uB x := by
  have h := uB_lt x
  unfold nU
  rw [uL_and32, uL_i2l]
  split <;> omega
theorem nU_lN (x : Int32) : nU x = lN (uB x) := uL_inj (by rw [uL_nU, uL_lN, Nat.mod_eq_of_lt (by have := uB_lt x; omega)])
theorem nU_nI (n : Nat) : nU (nI n) = lN (n % 4294967296) := by rw [nU_lN, uB_nI]
/-- number, as the reference has it -/
theorem num_nU (x : Int32) : (if x.toInt64 < 0 then x.toInt64 + 4294967296 else x.toInt64) = nU x := by
  have h := uB_lt x
  have h1 := uL_i2l x
  have h2 := toInt_uL x.toInt64
  have h0 : (0 : Int64).toInt = 0 := by decide
  have h3 : uL (4294967296 : Int64) = 4294967296 := by decide
  apply uL_inj
  rw [uL_nU]
  split
  · rename_i hn
    rw [Int64.lt_iff_toInt_lt, h0] at hn
    rw [uL_add, h3]
    split at h1 <;> split at h2 <;> omega
  · rename_i hn
    rw [Int64.lt_iff_toInt_lt, h0] at hn
    split at h1 <;> split at h2 <;> omega
theorem uL_lus (x : Int64) {k : Int32} {n : Nat} (h : (k.toInt64.toUInt64 &&& Int64.toUInt64 63).toNat % 64 = n) : uL (lus x k) = uL x / 2 ^ n := by
  show (x.toUInt64 >>> (k.toInt64.toUInt64 &&& Int64.toUInt64 63)).toNat = x.toUInt64.toNat / 2 ^ n
  rw [UInt64.toNat_shiftRight, h, Nat.shiftRight_eq_div_pow]
theorem lus32 (x : Int64) : uL (lus x 32) = uL x / 4294967296 := uL_lus x (n := 32) (by decide)
/-- the two halves of a product of two words -/
theorem prod_hi {a b : Nat} (ha : a < 4294967296) (hb : b < 4294967296) : (lus (lN a * lN b) 32).toInt32 = nI (a * b / 4294967296) := by
  have h : a * b < 18446744073709551616 := by
    calc a * b ≤ 4294967295 * 4294967295 := Nat.mul_le_mul (by omega) (by omega)
      _ < _ := by decide
  apply uB_inj
  rw [uB_l2i, lus32, lN_mul, uL_lN, Nat.mod_eq_of_lt h, uB_nI]
theorem prod_lo (a b : Nat) : (lN a * lN b).toInt32 = nI (a * b) := by rw [lN_mul, lN_i]
/-- the reference's product of halves -/
def mLo (x y : Int64) : Int64 :=
  ((x - x / 65536 * 65536) * (y / 65536) + ((x / 65536) * (y - y / 65536 * 65536) + ((x - x / 65536 * 65536) * (y - y / 65536 * 65536)) / 65536 - ((x / 65536) * (y - y / 65536 * 65536) + ((x - x / 65536 * 65536) * (y - y / 65536 * 65536)) / 65536) / 65536 * 65536) - ((x - x / 65536 * 65536) * (y / 65536) + ((x / 65536) * (y - y / 65536 * 65536) + ((x - x / 65536 * 65536) * (y - y / 65536 * 65536)) / 65536 - ((x / 65536) * (y - y / 65536 * 65536) + ((x - x / 65536 * 65536) * (y - y / 65536 * 65536)) / 65536) / 65536 * 65536)) / 65536 * 65536) * 65536 + ((x - x / 65536 * 65536) * (y - y / 65536 * 65536) - ((x - x / 65536 * 65536) * (y - y / 65536 * 65536)) / 65536 * 65536)
def mHi (x y : Int64) : Int64 :=
  (x / 65536) * (y / 65536) + ((x / 65536) * (y - y / 65536 * 65536) + ((x - x / 65536 * 65536) * (y - y / 65536 * 65536)) / 65536) / 65536 + ((x - x / 65536 * 65536) * (y / 65536) + ((x / 65536) * (y - y / 65536 * 65536) + ((x - x / 65536 * 65536) * (y - y / 65536 * 65536)) / 65536 - ((x / 65536) * (y - y / 65536 * 65536) + ((x - x / 65536 * 65536) * (y - y / 65536 * 65536)) / 65536) / 65536 * 65536)) / 65536
theorem nat_mul_split (A B C E : Nat) : (65536 * A + B) * (65536 * C + E) = 4294967296 * (A * C) + 65536 * (A * E) + 65536 * (B * C) + B * E := by
  grind
theorem mul_lN {a b : Nat} (ha : a < 4294967296) (hb : b < 4294967296) : mLo (lN a) (lN b) = lN (a * b % 4294967296) ∧ mHi (lN a) (lN b) = lN (a * b / 4294967296) := by
  have dv : ∀ n : Nat, n < 2 ^ 63 → lN n / 65536 = lN (n / 65536) := fun n h => pk_lDiv (b := 65536) h (by omega) (by omega)
  have rm : ∀ n : Nat, n < 2 ^ 63 → lN n - lN n / 65536 * 65536 = lN (n % 65536) := fun n h => pk_lRem (b := 65536) h (by omega) (by omega)
  have e1 := Nat.div_add_mod a 65536
  have e2 := Nat.div_add_mod b 65536
  have hs := nat_mul_split (a / 65536) (a % 65536) (b / 65536) (b % 65536)
  rw [e1, e2] at hs
  have hA : a / 65536 ≤ 65535 := by omega
  have hC : b / 65536 ≤ 65535 := by omega
  have hB : a % 65536 ≤ 65535 := by omega
  have hE : b % 65536 ≤ 65535 := by omega
  unfold mLo mHi
  rw [rm a (by omega), rm b (by omega), dv a (by omega), dv b (by omega)]
  generalize a / 65536 = A at *
  generalize a % 65536 = B at *
  generalize b / 65536 = C at *
  generalize b % 65536 = E at *
  have p1 := Nat.mul_le_mul hA hC
  have p2 := Nat.mul_le_mul hA hE
  have p3 := Nat.mul_le_mul hB hC
  have p4 := Nat.mul_le_mul hB hE
  rw [lN_mul B E, lN_mul A E, lN_mul B C, lN_mul A C]
  generalize A * C = P1 at *
  generalize A * E = P2 at *
  generalize B * C = P3 at *
  generalize B * E = P4 at *
  rw [rm P4 (by omega), dv P4 (by omega), lN_add P2, rm (P2 + P4 / 65536) (by omega), dv (P2 + P4 / 65536) (by omega), lN_add P3, rm (P3 + (P2 + P4 / 65536) % 65536) (by omega), dv (P3 + (P2 + P4 / 65536) % 65536) (by omega), lN_add P1, lN_add]
  have h65 : (65536 : Int64) = lN 65536 := by decide
  rw [h65, lN_mul, lN_add]
  constructor <;> congr 1 <;> omega
