/-! Turns, steps, draws: the words of both sides, no machine. -/
/-- Integer.rotateLeft, Integer.rotateRight; the reference's turns by one -/
def rol (x d : Int32) : Int32 := (x <<< (d &&& 31)) ||| ius x (-d)
def ror (x d : Int32) : Int32 := ius x d ||| (x <<< (-d &&& 31))
def rt1 (y : Int32) : Int32 := (y <<< ((1 : Int32) &&& 31)) + (if y < 0 then 1 else 0)
def rtN : Nat → Int32 → Int32
  | 0, y => y
  | n + 1, y => rt1 (rtN n y)
theorem uB_add (x y : Int32) : uB (x + y) = (uB x + uB y) % 4294967296 := by
  show (x + y).toBitVec.toNat = _
  rw [Int32.toBitVec_add, BitVec.toNat_add]; rfl
theorem uB_neg {x : Int32} : x < 0 ↔ 2147483648 ≤ uB x := by
  have h := toInt_uB x
  have h1 := uB_lt x
  have h0 : (0 : Int32).toInt = 0 := by decide
  rw [Int32.lt_iff_toInt_lt, h0]
  split at h <;> omega
theorem uB_rt1 (y : Int32) : uB (rt1 y) = (2 * uB y) % 4294967296 + uB y / 2147483648 := by
  have h1 : uB (y <<< ((1 : Int32) &&& 31)) = uB y * 2 ^ 1 % 2 ^ 32 := pk_shl y ((1 : Int32) &&& 31) 1 (by decide)
  have h2 := uB_lt y
  have e1 : uB (1 : Int32) = 1 := by decide
  have e0 : uB (0 : Int32) = 0 := by decide
  unfold rt1
  rw [uB_add, h1]
  by_cases h : y < 0
  · rw [if_pos h, e1]
    rw [uB_neg] at h
    omega
  · rw [if_neg h, e0]
    rw [uB_neg] at h
    omega
theorem rot_gen {t p u : Nat} (htp : t * p = 2147483648) (hp : 0 < p) (ht : 0 < t) (hu : u < 4294967296) : (2 * (u * t % 4294967296 + u / (2 * p))) % 4294967296 + (u * t % 4294967296 + u / (2 * p)) / 2147483648 = u * (2 * t) % 4294967296 + u / p := by
  obtain ⟨h, b, r, hb, hr, e⟩ : ∃ h b r, b ≤ 1 ∧ r < p ∧ u = p * (2 * h + b) + r := by
    refine ⟨u / p / 2, u / p % 2, u % p, by omega, Nat.mod_lt _ hp, ?_⟩
    rw [Nat.div_add_mod (u / p) 2, Nat.div_add_mod]
  have e1 : u * t = 4294967296 * h + (2147483648 * b + t * r) := by
    rw [e]
    have : (p * (2 * h + b) + r) * t = t * p * (2 * h + b) + t * r := by grind
    rw [this, htp]
    omega
  have e2 : u * (2 * t) = 2 * (u * t) := by grind
  have hX : t * r + t ≤ 2147483648 := by
    rw [← htp, ← Nat.mul_succ]
    exact Nat.mul_le_mul_left t hr
  have e3 : u / p = 2 * h + b := by
    rw [e, Nat.mul_add_div hp, Nat.div_eq_of_lt hr, Nat.add_zero]
  have e4 : u / (2 * p) = h := by
    rw [Nat.mul_comm 2 p, ← Nat.div_div_eq_div_mul, e3]
    omega
  have hh : h < t := by
    apply Nat.lt_of_not_le
    intro q
    have h1 := Nat.mul_le_mul_left p q
    have h2 : p * t = 2147483648 := by rw [Nat.mul_comm]; exact htp
    have h3 : p * (2 * h + b) = 2 * (p * h) + p * b := by grind
    omega
  rw [e2, e1, e3, e4]
  generalize t * r = X at *
  clear e e1 e2 e3 e4 htp hu
  rcases (by omega : b = 0 ∨ b = 1) with rfl | rfl <;> omega
theorem rot_step (u n : Nat) (hn : n < 32) (hu : u < 4294967296) : (2 * (u * 2 ^ n % 4294967296 + u / 2 ^ (32 - n))) % 4294967296 + (u * 2 ^ n % 4294967296 + u / 2 ^ (32 - n)) / 2147483648 = u * 2 ^ (n + 1) % 4294967296 + u / 2 ^ (32 - (n + 1)) := by
  have h1 : 2 ^ (32 - n) = 2 * 2 ^ (31 - n) := by rw [show 32 - n = (31 - n) + 1 by omega, Nat.pow_succ, Nat.mul_comm]
  have h2 : 2 ^ (n + 1) = 2 * 2 ^ n := by rw [Nat.pow_succ, Nat.mul_comm]
  have h3 : 32 - (n + 1) = 31 - n := by omega
  have h4 : 2 ^ n * 2 ^ (31 - n) = 2147483648 := by rw [← Nat.pow_add, show n + (31 - n) = 31 by omega]
  rw [h1, h2, h3]
  exact rot_gen h4 (Nat.two_pow_pos _) (Nat.two_pow_pos _) hu
theorem uB_rtN (y : Int32) : ∀ n, n ≤ 32 → uB (rtN n y) = uB y * 2 ^ n % 4294967296 + uB y / 2 ^ (32 - n)
  | 0, _ => by
    have h := uB_lt y
    show uB y = _
    simp only [Nat.pow_zero, Nat.mul_one, Nat.sub_zero, Nat.reducePow]
    omega
  | n + 1, h => by
    show uB (rt1 (rtN n y)) = _
    rw [uB_rt1, uB_rtN y n (by omega)]
    exact rot_step (uB y) n (by omega) (uB_lt y)
/-- a word's two pieces side by side -/
theorem or_add (u n : Nat) (hn : n ≤ 32) (hu : u < 4294967296) : (u * 2 ^ n % 4294967296) ||| (u / 2 ^ (32 - n)) = u * 2 ^ n % 4294967296 + u / 2 ^ (32 - n) := by
  have hp : 2 ^ n * 2 ^ (32 - n) = 4294967296 := by rw [← Nat.pow_add, show n + (32 - n) = 32 by omega]
  have h1 : u * 2 ^ n % 4294967296 = 2 ^ n * (u % 2 ^ (32 - n)) := by rw [← hp, Nat.mul_comm u, Nat.mul_mod_mul_left]
  have h2 : u / 2 ^ (32 - n) < 2 ^ n := by
    rw [Nat.div_lt_iff_lt_mul (Nat.two_pow_pos _), hp]; exact hu
  rw [h1, Nat.two_pow_add_eq_or_of_lt h2]
theorem uB_or (x y : Int32) : uB (x ||| y) = uB x ||| uB y := by
  show (x ||| y).toBitVec.toNat = _
  rw [Int32.toBitVec_or, BitVec.toNat_or]; rfl
theorem rol_amt : ∀ n, n < 32 → 0 < n → ((nI n &&& 31).toBitVec.smod 32).toNat = n ∧ (((-(nI n)).toUInt32 &&& Int32.toUInt32 31).toBitVec % 32).toNat = 32 - n := by decide +kernel
theorem ror_amt : ∀ n, n < 32 → 0 < n → (((-(nI n)) &&& 31).toBitVec.smod 32).toNat = 32 - n ∧ (((nI n).toUInt32 &&& Int32.toUInt32 31).toBitVec % 32).toNat = n := by decide +kernel
theorem rol_rtN {n : Nat} (h : n < 32) (h0 : 0 < n) (x : Int32) : rol x (nI n) = rtN n x := by
  apply uB_inj
  have a1 : uB (x <<< (nI n &&& 31)) = uB x * 2 ^ n % 2 ^ 32 := pk_shl x (nI n &&& 31) n (rol_amt n h h0).1
  have a2 : uB (ius x (-(nI n))) = uB x / 2 ^ (32 - n) := pk_ushr x (-(nI n)) (32 - n) (rol_amt n h h0).2
  unfold rol
  rw [uB_or, a1, a2, uB_rtN x n (by omega)]
  exact or_add (uB x) n (by omega) (uB_lt x)
theorem ror_rtN {n : Nat} (h : n < 32) (x : Int32) : ror x (nI n) = rtN (32 - n) x := by
  apply uB_inj
  rcases Nat.eq_zero_or_pos n with rfl | h0
  · have e : ror x (nI 0) = x ||| x := by
      have a1 : ius x (nI 0) = x := by
        apply uB_inj
        have := pk_ushr x (nI 0) 0 (by decide)
        show (ius x (nI 0)).toBitVec.toNat = _
        rw [this]; simp [uB]
      have a2 : x <<< (-(nI 0) &&& 31) = x := by
        apply uB_inj
        have := pk_shl x (-(nI 0) &&& 31) 0 (by decide)
        show (x <<< (-(nI 0) &&& 31)).toBitVec.toNat = _
        rw [this]
        have := uB_lt x
        unfold uB at *
        simp only [Nat.pow_zero, Nat.mul_one, Nat.reducePow]
        omega
      unfold ror
      rw [a1, a2]
    rw [e, uB_or, Nat.or_self, uB_rtN x (32 - 0) (by omega)]
    have := uB_lt x
    simp only [Nat.sub_zero, Nat.reducePow, Nat.sub_self, Nat.pow_zero, Nat.div_one]
    omega
  · have a1 : uB (x <<< (-(nI n) &&& 31)) = uB x * 2 ^ (32 - n) % 2 ^ 32 := pk_shl x (-(nI n) &&& 31) (32 - n) (ror_amt n h h0).1
    have a2 : uB (ius x (nI n)) = uB x / 2 ^ n := pk_ushr x (nI n) n (ror_amt n h h0).2
    unfold ror
    rw [uB_or, a1, a2, uB_rtN x (32 - n) (by omega), Nat.or_comm]
    have := or_add (uB x) (32 - n) (by omega) (uB_lt x)
    rw [show 32 - (32 - n) = n by omega] at this ⊢
    exact this
/-- the remainder's step, the counter's rounds -/
def nxR (f s : Int64) : Int64 := (1403580 * f + 810728 * s) - (1403580 * f + 810728 * s) / 2147483647 * 2147483647
def mxR (t : Int32 × Int32 × Int32) : Int32 × Int32 × Int32 := ((lus (nU t.1 * 3528905107) 32).toInt32 ^^^ t.2.2 ^^^ t.2.1, (nU t.1 * 3528905107).toInt32, t.2.2 + (-1640531527))
def mxN : Nat → Int32 × Int32 × Int32 → Int32 × Int32 × Int32
  | 0, t => t
  | n + 1, t => mxR (mxN n t)
def mx0 (f s : Int64) : Int32 × Int32 × Int32 := ((lus s 1).toInt32, (lus s 33).toInt32, f.toInt32)
def mxO (f s : Int64) : Int32 := if s &&& 1 = 0 then (mxN 10 (mx0 f s)).1 else (mxN 10 (mx0 f s)).2.1
/-- a step: the state behind it, and its word -/
def mvF (k : Int32) (f s : Int64) : Int64 := if k = 0 then f * 6364136223846793005 + s else if k = 1 then (rol f.toInt32 26 ^^^ (s.toInt32 ^^^ f.toInt32) ^^^ ((s.toInt32 ^^^ f.toInt32) <<< ((9 : Int32) &&& 31))).toInt64 else if k = 2 then f else nxR f s
def mvS (k : Int32) (f s : Int64) : Int64 := if k = 0 then s else if k = 1 then (rol (s.toInt32 ^^^ f.toInt32) 13).toInt64 else if k = 2 then (if s = 9223372036854775807 then 0 else s + 1) else f
def otp (k : Int32) (f s : Int64) : Int32 := if k = 0 then ror (lus (lus f 18 ^^^ f) 27).toInt32 (lus f 59).toInt32 else if k = 1 then rol (f.toInt32 * (-1640531525)) 5 * 5 else if k = 2 then mxO f s else (2 * nxR f s + (f &&& 1)).toInt32
/-- n steps -/
def mvN (k : Int32) : Nat → Int64 × Int64 → Int64 × Int64
  | 0, t => t
  | n + 1, t => mvN k n (mvF k t.1 t.2, mvS k t.1 t.2)
/-- a draw below n: t words are left -/
def lst (n : Int32) : Int64 := 4294967296 - 4294967296 / n.toInt64 * n.toInt64
def prd (n k : Int32) (f s : Int64) : Int64 := nU (otp k f s) * n.toInt64
def bel (n k : Int32) : Nat → Int64 × Int64 → Int32 × Int64 × Int64
  | 0, t => (0, t)
  | j + 1, t => if j = 0 ∨ ¬ nU (prd n k t.1 t.2).toInt32 < lst n then ((lus (prd n k t.1 t.2) 32).toInt32, mvF k t.1 t.2, mvS k t.1 t.2) else bel n k j (mvF k t.1 t.2, mvS k t.1 t.2)
/-- what a state of a kind keeps -/
def okS (k : Int32) (f s : Int64) : Prop := (k = 2 → 0 ≤ s) ∧ (k = 3 → (0 ≤ f ∧ f < 2147483647) ∧ (0 ≤ s ∧ s < 2147483647))
theorem nxR_lN {a b : Nat} (ha : a < 2147483647) (hb : b < 2147483647) : nxR (lN a) (lN b) = lN ((1403580 * a + 810728 * b) % 2147483647) := by
  have e1 : (1403580 : Int64) = lN 1403580 := by decide
  have e2 : (810728 : Int64) = lN 810728 := by decide
  have e3 : (2147483647 : Int64) = lN 2147483647 := by decide
  unfold nxR
  rw [e1, e2, e3, lN_mul, lN_mul, lN_add]
  exact pk_lRem (by omega) (by omega) (by omega)
theorem rem_of {x : Int64} (h0 : 0 ≤ x) (h : x < 2147483647) : ∃ a : Nat, a < 2147483647 ∧ x = lN a := by
  obtain ⟨a, ha, rfl⟩ := pk_lOf (x := x) (by
    intro q
    have h3 : (0 : Int64).toInt = 0 := by decide
    rw [Int64.lt_iff_toInt_lt] at q
    rw [Int64.le_iff_toInt_le] at h0
    omega)
  refine ⟨a, ?_, rfl⟩
  have e3 : (2147483647 : Int64) = lN 2147483647 := by decide
  rw [e3, pk_lLT ha (by omega)] at h
  exact h
theorem lN_nn {a : Nat} (h : a < 2 ^ 63) : (0 : Int64) ≤ lN a := by
  have e : (0 : Int64) = lN 0 := by decide
  rw [e, pk_lLE (by omega) h]
  omega
theorem lN_ltM {a : Nat} (h : a < 2147483647) : lN a < 2147483647 := by
  have e : (2147483647 : Int64) = lN 2147483647 := by decide
  rw [e, pk_lLT (by omega) (by omega)]
  exact h
theorem okS_mv {k : Int32} {f s : Int64} (h : okS k f s) : okS k (mvF k f s) (mvS k f s) := by
  refine ⟨fun hk => ?_, fun hk => ?_⟩
  · subst hk
    have h1 := h.1 rfl
    show 0 ≤ (if s = 9223372036854775807 then 0 else s + 1)
    split
    · decide
    · rename_i hne
      obtain ⟨a, ha, rfl⟩ := pk_lOf (x := s) (by
        intro q
        rw [Int64.lt_iff_toInt_lt] at q
        rw [Int64.le_iff_toInt_le] at h1
        omega)
      have e : (9223372036854775807 : Int64) = lN 9223372036854775807 := by decide
      rw [e, pk_lEQ ha (by omega)] at hne
      rw [lN_1]
      exact lN_nn (by omega)
  · subst hk
    obtain ⟨⟨h1, h2⟩, h3, h4⟩ := h.2 rfl
    obtain ⟨a, ha, rfl⟩ := rem_of h1 h2
    obtain ⟨b, hb, rfl⟩ := rem_of h3 h4
    have hm : (1403580 * a + 810728 * b) % 2147483647 < 2147483647 := Nat.mod_lt _ (by omega)
    show (0 ≤ nxR (lN a) (lN b) ∧ nxR (lN a) (lN b) < 2147483647) ∧ (0 ≤ lN a ∧ lN a < 2147483647)
    rw [nxR_lN ha hb]
    exact ⟨⟨lN_nn (by omega), lN_ltM hm⟩, h1, h2⟩
theorem nn_of {s : Int64} (h : 0 ≤ s) : ∃ a : Nat, a < 2 ^ 63 ∧ s = lN a := pk_lOf (x := s) (by
  intro q
  have h3 : (0 : Int64).toInt = 0 := by decide
  rw [Int64.lt_iff_toInt_lt] at q
  rw [Int64.le_iff_toInt_le] at h
  omega)
theorem uL_and1 (x : Int64) : uL (x &&& 1) = uL x % 2 := by
  show (x &&& 1).toBitVec.toNat = _
  rw [Int64.toBitVec_and, BitVec.toNat_and]
  show uL x &&& (2 ^ 1 - 1) = _
  rw [Nat.and_two_pow_sub_one_eq_mod]
theorem half_nn {s : Int64} (h : 0 ≤ s) : s / 2 = lus s 1 := by
  obtain ⟨a, ha, rfl⟩ := nn_of h
  have e : (2 : Int64) = lN 2 := by decide
  rw [e, pk_lDiv ha (by omega) (by omega)]
  apply uL_inj
  rw [uL_lus (lN a) (k := 1) (n := 1) (by decide), uL_lN, uL_lN]
  omega
theorem odd_nn {s : Int64} (h : 0 ≤ s) : s - s / 2 * 2 = s &&& 1 := by
  obtain ⟨a, ha, rfl⟩ := nn_of h
  have e : (2 : Int64) = lN 2 := by decide
  rw [e, pk_lRem ha (by omega) (by omega)]
  apply uL_inj
  rw [uL_and1, uL_lN, uL_lN]
  omega
theorem mx_mul (x : Int32) : (mHi (nU x) 3528905107).toInt32 = (lus (nU x * 3528905107) 32).toInt32 ∧ (mLo (nU x) 3528905107).toInt32 = (nU x * 3528905107).toInt32 := by
  have e : (3528905107 : Int64) = lN 3528905107 := by decide
  have h := mul_lN (uB_lt x) (show 3528905107 < 4294967296 by decide)
  rw [nU_lN, e, h.1, h.2, prod_hi (uB_lt x) (by decide), prod_lo, lN_i, lN_i]
  refine ⟨rfl, uB_inj ?_⟩
  rw [uB_nI, uB_nI, Nat.mod_mod]
theorem i64_nI {n : Nat} (h : n < 2 ^ 31) : (nI n).toInt64 = lN n := nI_l h
theorem dr_mul (o : Int32) {N : Nat} (hN : N < 2 ^ 31) : (mHi (nU o) (nI N).toInt64).toInt32 = (lus (nU o * (nI N).toInt64) 32).toInt32 ∧ mLo (nU o) (nI N).toInt64 = nU (nU o * (nI N).toInt64).toInt32 := by
  have h := mul_lN (uB_lt o) (show N < 4294967296 by omega)
  rw [i64_nI hN, nU_lN o, h.1, h.2, prod_hi (uB_lt o) (by omega), prod_lo, lN_i, nU_nI]
  exact ⟨rfl, rfl⟩
/-- what is drawn lies below -/
theorem bel_lt {N : Nat} (h0 : 0 < N) (hN : N < 2 ^ 31) (k : Int32) : ∀ (j : Nat) (t : Int64 × Int64), ∃ r : Nat, r < N ∧ (bel (nI N) k j t).1 = nI r
  | 0, t => ⟨0, h0, nI_0.symm⟩
  | j + 1, t => by
    unfold bel
    split
    · refine ⟨uB (otp k t.1 t.2) * N / 4294967296, ?_, ?_⟩
      · rw [Nat.div_lt_iff_lt_mul (by omega)]
        have := uB_lt (otp k t.1 t.2)
        rw [Nat.mul_comm N]
        exact (Nat.mul_lt_mul_right h0).mpr this
      · show (lus (nU (otp k t.1 t.2) * (nI N).toInt64) 32).toInt32 = _
        rw [i64_nI hN, nU_lN, prod_hi (uB_lt _) (by omega)]
    · exact bel_lt h0 hN k j _
theorem bel_ok {n k : Int32} : ∀ (j : Nat) (t : Int64 × Int64), okS k t.1 t.2 → okS k (bel n k j t).2.1 (bel n k j t).2.2
  | 0, t, h => h
  | j + 1, t, h => by
    unfold bel
    split
    · exact okS_mv h
    · exact bel_ok j _ (okS_mv h)
theorem mvN_ok {k : Int32} : ∀ (j : Nat) (t : Int64 × Int64), okS k t.1 t.2 → okS k (mvN k j t).1 (mvN k j t).2
  | 0, t, h => h
  | j + 1, t, h => mvN_ok j _ (okS_mv h)
/-- the reference's word of kind 0 -/
theorem r59 (x : Int64) : ∃ j : Nat, j < 32 ∧ (lus x 59).toInt32 = nI j := by
  have h := uL_lus x (k := 59) (n := 59) (by decide)
  have h2 := uL_lt x
  refine ⟨uL x / 2 ^ 59, ?_, ?_⟩
  · rw [Nat.div_lt_iff_lt_mul (Nat.two_pow_pos _)]
    exact h2
  · apply uB_inj
    rw [uB_l2i, h, uB_nI]
theorem rot0 (v : Int32) (x : Int64) : rtN (32 - (lus x 59).toInt32).toNatClampNeg v = ror v (lus x 59).toInt32 := by
  obtain ⟨j, hj, e⟩ := r59 x
  have e2 : (32 : Int32) - nI j = nI (32 - j) := pk_sub (a := 32) (b := j) (by omega)
  rw [e, e2, nI_clamp (by omega), ror_rtN hj]
/-- joined, twoWords, make -/
def jnd (a b : Int32) : Int64 := (a.toInt64 <<< ((32 : Int32).toInt64 &&& 63)) ||| nU b
theorem jnd_eq (a b : Int32) : a.toInt64 * 4294967296 + nU b = jnd a b := by
  apply uL_inj
  have h1 : uL (a.toInt64 <<< ((32 : Int32).toInt64 &&& 63)) = uL a.toInt64 * 4294967296 % 18446744073709551616 := by
    show (a.toInt64 <<< ((32 : Int32).toInt64 &&& 63)).toBitVec.toNat = _
    rw [Int64.toBitVec_shiftLeft]
    show (a.toInt64.toBitVec <<< (((32 : Int32).toInt64 &&& 63).toBitVec.smod 64).toNat).toNat = _
    rw [show (((32 : Int32).toInt64 &&& 63).toBitVec.smod 64).toNat = 32 by decide, BitVec.toNat_shiftLeft, Nat.shiftLeft_eq]
    rfl
  have h2 := uB_lt b
  have h3 : uL a.toInt64 * 4294967296 % 18446744073709551616 = 2 ^ 32 * (uL a.toInt64 % 4294967296) := by omega
  have e : uL (4294967296 : Int64) = 4294967296 := by decide
  show _ = (a.toInt64 <<< ((32 : Int32).toInt64 &&& 63) ||| nU b).toBitVec.toNat
  rw [Int64.toBitVec_or, BitVec.toNat_or]
  show _ = uL (a.toInt64 <<< ((32 : Int32).toInt64 &&& 63)) ||| uL (nU b)
  rw [h1, uL_nU, h3, ← Nat.two_pow_add_eq_or_of_lt (i := 32) (by omega), ← h3, uL_add, uL_mul, uL_nU, e]
  omega
