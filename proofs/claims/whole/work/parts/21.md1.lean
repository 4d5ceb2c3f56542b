/-! The reference: its object and its eight arrays, a list of nine cells. -/
abbrev mW (K : Nat → ClassId) (q : Nat → Nat) (kd : Nat → Int32) (f1 f2 : Nat → Int64) (ou nk : Int32) (nf ns hi lo : Int64) (rc : Int32) (zi sd : Nat → Int32) (ix : Int32) (mm wt cd : Nat → Int32) : va_W :=
  [(q 0, .inr (4, [.ref (q 1), .ref (q 2), .ref (q 3), .int ou, .int nk, .long nf, .long ns, .long hi, .long lo, .int rc, .ref (q 4), .ref (q 5), .int ix, .ref (q 6), .ref (q 7), .ref (q 8)])), (q 1, arI K 8 kd), (q 2, arJ K 8 f1), (q 3, arJ K 8 f2), (q 4, arI K 6 zi), (q 5, arI K 36 sd), (q 6, arI K 24 mm), (q 7, arI K 16 wt), (q 8, arI K 16 cd)]
section MW
variable {K : Nat → ClassId} {q : Nat → Nat} {kd : Nat → Int32} {f1 f2 : Nat → Int64} {ou nk : Int32} {nf ns hi lo : Int64} {rc : Int32} {zi sd : Nat → Int32} {ix : Int32} {mm wt cd : Nat → Int32}
theorem mw_0 : (mW K q kd f1 f2 ou nk nf ns hi lo rc zi sd ix mm wt cd)[0]? = some (q 0, .inr (4, [.ref (q 1), .ref (q 2), .ref (q 3), .int ou, .int nk, .long nf, .long ns, .long hi, .long lo, .int rc, .ref (q 4), .ref (q 5), .int ix, .ref (q 6), .ref (q 7), .ref (q 8)])) := rfl
theorem mw_1 : (mW K q kd f1 f2 ou nk nf ns hi lo rc zi sd ix mm wt cd)[1]? = some (q 1, arI K 8 kd) := rfl
theorem mw_2 : (mW K q kd f1 f2 ou nk nf ns hi lo rc zi sd ix mm wt cd)[2]? = some (q 2, arJ K 8 f1) := rfl
theorem mw_3 : (mW K q kd f1 f2 ou nk nf ns hi lo rc zi sd ix mm wt cd)[3]? = some (q 3, arJ K 8 f2) := rfl
theorem mw_4 : (mW K q kd f1 f2 ou nk nf ns hi lo rc zi sd ix mm wt cd)[4]? = some (q 4, arI K 6 zi) := rfl
theorem mw_5 : (mW K q kd f1 f2 ou nk nf ns hi lo rc zi sd ix mm wt cd)[5]? = some (q 5, arI K 36 sd) := rfl
theorem mw_6 : (mW K q kd f1 f2 ou nk nf ns hi lo rc zi sd ix mm wt cd)[6]? = some (q 6, arI K 24 mm) := rfl
theorem mw_7 : (mW K q kd f1 f2 ou nk nf ns hi lo rc zi sd ix mm wt cd)[7]? = some (q 7, arI K 16 wt) := rfl
theorem mw_8 : (mW K q kd f1 f2 ou nk nf ns hi lo rc zi sd ix mm wt cd)[8]? = some (q 8, arI K 16 cd) := rfl
end MW
theorem hd_case (kd : Nat → Int32) (x : Int32) : (hdS kd x = none ∧ rlA kd x = 0) ∨ ∃ k, k < 8 ∧ x = nI k ∧ hdS kd (nI k) = some k ∧ ¬ kd k < 0 ∧ rlA kd (nI k) = 1 := by
  by_cases h0 : x < 0
  · have e : hdS kd x = none := if_pos h0
    exact Or.inl ⟨e, by unfold rlA; rw [onS_n e]⟩
  by_cases h8 : x < 8
  · obtain ⟨k, hk, rfl⟩ := slot_of h0 (n := 8) (by omega) h8
    by_cases hd : kd k < 0
    · have e : hdS kd (nI k) = none := by
        unfold hdS
        rw [if_neg h0, if_pos h8, nI_clamp (by omega), if_pos hd]
      exact Or.inl ⟨e, by unfold rlA; rw [onS_n e]⟩
    · have e := hdS_nI hk hd
      exact Or.inr ⟨k, hk, rfl, e, hd, by unfold rlA; rw [onS_s e]⟩
  · have e : hdS kd x = none := by
      unfold hdS
      rw [if_neg h0, if_neg h8]
    exact Or.inl ⟨e, by unfold rlA; rw [onS_n e]⟩
theorem rl_no {kd : Nat → Int32} {x : Int32} (h : hdS kd x = none) : rlA kd x = 0 := by unfold rlA; rw [onS_n h]
theorem odd_any (x : Int64) : x - x / 2 * 2 = 0 ↔ x &&& 1 = 0 := by
  have h1 := uL_and1 x
  have h2 := toInt_uL x
  have hlt := uL_lt x
  have e2 : (2 : Int64).toInt = 2 := by decide
  have e0 : (0 : Int64).toInt = 0 := by decide
  have hd : (x / 2).toInt = x.toInt.tdiv 2 := by
    rw [Int64.toInt_div_of_ne_right x 2 (by decide), e2]
  have hx1 : x.toInt < 9223372036854775808 := by split at h2 <;> omega
  have hx0 : -9223372036854775808 ≤ x.toInt := by split at h2 <;> omega
  have h3 := Int.mul_tdiv_add_tmod x.toInt 2
  have h4 := tmod_bounds (a := x.toInt) (M := 2) (by omega)
  have h5 : 0 ≤ x.toInt → 0 ≤ x.toInt.tmod 2 := fun z => Int.tmod_nonneg 2 z
  generalize x.toInt.tdiv 2 = t at *
  generalize x.toInt.tmod 2 = u at *
  have hm : (x / 2 * 2).toInt = t * 2 := by
    rw [Int64.toInt_mul, hd, e2]
    apply Int.bmod_eq_of_le <;> omega
  have hs : (x - x / 2 * 2).toInt = x.toInt - t * 2 := by
    rw [Int64.toInt_sub, hm]
    apply Int.bmod_eq_of_le <;> omega
  rw [← Int64.toInt_inj, hs, e0]
  have hz : x &&& 1 = 0 ↔ uL x % 2 = 0 := by
    constructor
    · intro q
      rw [q] at h1
      have : uL (0 : Int64) = 0 := by decide
      omega
    · intro q
      apply uL_inj
      rw [h1, q]
      decide
  rw [hz]
  split at h2 <;> omega
theorem and1_01 (x : Int64) : x &&& 1 = 0 ∨ x &&& 1 = 1 := by
  have h1 := uL_and1 x
  rcases Nat.mod_two_eq_zero_or_one (uL x) with h | h
  · exact Or.inl (uL_inj (by rw [h1, h]; decide))
  · exact Or.inr (uL_inj (by rw [h1, h]; decide))
theorem isR_le (x : Int64) : isR x = if x < 0 then 0 else if 2147483646 < x then 0 else 1 := by
  have h : (2147483647 ≤ x) ↔ (2147483646 < x) := by
    have a : (2147483647 : Int64).toInt = 2147483647 := by decide
    have b : (2147483646 : Int64).toInt = 2147483646 := by decide
    rw [Int64.le_iff_toInt_le, Int64.lt_iff_toInt_lt, a, b]
    omega
  unfold isR
  by_cases h0 : x < 0
  · rw [if_pos h0, if_pos h0]
  · rw [if_neg h0, if_neg h0]
    by_cases h1 : 2147483646 < x
    · rw [if_pos (h.mpr h1), if_pos h1]
    · rw [if_neg (fun q => h1 (h.mp q)), if_neg h1]
set_option maxRecDepth 100000 in
set_option maxHeartbeats 4000000 in
theorem c_MD_number {l : Launch} {D : va_G} {K : Nat → ClassId} {A : Nat → Prop} {wl : va_W} {x : Int32} : ctL l y_MD_number prog_6_method_2_code 3 0 0 0 [.int x] D K A (wl) (fun r w => r = nU x ∧ w = wl) := by
  refine mt_of (by decide) (Nat.le_of_ble_eq_true rfl) ?_
  intro p e s m below meth c ls B hw hl
  have hx := B.1
  have hb := B.2.1
  have hl : lv_has ls 3 [(0, .int x)] := hl
  refine lv_iload_n hx hb d_MD_number_0 rfl (lv_at hl 0 rfl) ?_
  refine lv_i2l hx hb d_MD_number_1 rfl ?_
  refine lv_lstore_n hx hb d_MD_number_2 rfl hl (by decide) rfl (fun ls (hl : lv_has ls 3 [(1, .long _), (0, .int _)]) => ?_)
  refine lv_lload_n hx hb d_MD_number_3 rfl (lv_at hl 0 rfl) ?_
  refine lv_lconst (v := 0) hx hb d_MD_number_4 (by decide) ?_
  refine W.lcmp hx hb d_MD_number_5 ?_
  refine lv_if_ge (tgt := 17) hx hb d_MD_number_6 rfl (fun h6 => ?_) (fun h6 => ?_)
  · rw [lg_cmp_ge] at h6
    have ez := num_nU x
    rw [if_neg (Int64.not_lt.mpr h6)] at ez
    refine lv_lload_n hx hb d_MD_number_17 rfl (lv_at hl 0 rfl) ?_
    exact r_l B hw d_MD_number_18 ⟨ez, rfl⟩
  · rw [lg_cmp_ge] at h6
    have ez := num_nU x
    rw [if_pos (Int64.not_le.mp h6)] at ez
    refine lv_lload_n hx hb d_MD_number_9 rfl (lv_at hl 0 rfl) ?_
    refine g_ldc2 B kc_MD_35 d_MD_number_10 ?_
    refine lv_ladd hx hb d_MD_number_13 ?_
    refine lv_goto (tgt := 18) hx hb d_MD_number_14 rfl ?_
    exact r_l B hw d_MD_number_18 ⟨ez, rfl⟩
set_option maxRecDepth 100000 in
set_option maxHeartbeats 4000000 in
theorem c_MD_rotl {l : Launch} {D : va_G} {K : Nat → ClassId} {A : Nat → Prop} {wl : va_W} {x : Int32} {n : Nat} (hn : n < 2 ^ 30) : ctI l y_MD_rotl prog_6_method_3_code 4 (some .int) 0 0 0 [.int x, .int (nI n)] D K A (wl) (fun r w => r = rtN n x ∧ w = wl) := by
  refine mt_of (by decide) (Nat.le_of_ble_eq_true rfl) ?_
  intro p e s m below meth c ls B hw hl
  have hx := B.1
  have hb := B.2.1
  have hl : lv_has ls 4 [(0, .int x), (1, .int (nI n))] := hl
  refine lv_iload_n hx hb d_MD_rotl_0 rfl (lv_at hl 0 rfl) ?_
  refine lv_istore_n hx hb d_MD_rotl_1 rfl hl (by decide) rfl (fun ls (hl : lv_has ls 4 [(2, .int _), (0, .int _), (1, .int _)]) => ?_)
  refine lv_iconst (v := 0) hx hb d_MD_rotl_2 (by decide) ?_
  refine lv_istore_n hx hb d_MD_rotl_3 rfl hl (by decide) rfl (fun ls (hl : lv_has ls 4 [(3, .int _), (2, .int _), (0, .int _), (1, .int _)]) => ?_)
  refine lp_w (σ := Nat) (fun i => n - i) (fun i H locs ls => i ≤ n ∧ lv_has ls 4 [(3, .int (nI i)), (2, .int (rtN i x)), (0, .int x), (1, .int (nI n))] ∧ wd D A wl s H locs) ?_ 0 _ _ _ ⟨by omega, lv_sub hl [0, 1, 2, 3] rfl, hw⟩
  rintro i H locs ls ⟨hi, hl, hw⟩ ih
  refine lv_iload_n hx hb d_MD_rotl_4 rfl (lv_at hl 0 rfl) ?_
  refine lv_iload_n hx hb d_MD_rotl_5 rfl (lv_at hl 3 rfl) ?_
  refine lv_icmp_ge (tgt := 29) hx hb d_MD_rotl_6 rfl (fun h6 => ?_) (fun h6 => ?_)
  · have h6 : n ≤ i := (nI_leI (a := n) (by omega) (by omega)).mp h6
    have hend : i = n := by omega
    refine lv_iload_n hx hb d_MD_rotl_29 rfl (lv_at hl 1 rfl) ?_
    exact r_i B hw d_MD_rotl_30 ⟨by rw [hend], rfl⟩
  · have h6 : i < n := Nat.lt_of_not_le (fun q => h6 ((nI_leI (a := n) (by omega) (by omega)).mpr q))
    refine lv_iload_n hx hb d_MD_rotl_9 rfl (lv_at hl 1 rfl) ?_
    refine lv_iconst (v := 1) hx hb d_MD_rotl_10 (by decide) ?_
    refine lv_ishl hx hb d_MD_rotl_11 ?_
    refine lv_iload_n hx hb d_MD_rotl_12 rfl (lv_at hl 1 rfl) ?_
    refine lv_if_ge (tgt := 20) hx hb d_MD_rotl_13 rfl (fun h13 => ?_) (fun h13 => ?_)
    · have ez : rtN (i + 1) x = (rtN i x <<< ((1 : Int32) &&& 31)) + 0 := by show (_ + (if rtN i x < 0 then 1 else 0)) = _; rw [if_neg (Int32.not_lt.mpr h13)]
      refine lv_iconst (v := 0) hx hb d_MD_rotl_20 (by decide) ?_
      refine lv_iadd hx hb d_MD_rotl_21 ?_
      refine lv_istore_n hx hb d_MD_rotl_22 rfl hl (by decide) rfl (fun ls (hl : lv_has ls 4 [(2, .int _), (3, .int _), (0, .int _), (1, .int _)]) => ?_)
      refine lv_iinc (k := 1) hx hb d_MD_rotl_23 hl rfl (show nI i + Int32.ofInt 1 = nI (i + 1) from (nI_succ i).symm) (by decide) rfl (fun ls (hl : lv_has ls 4 [(3, .int (nI (i + 1))), (2, .int _), (0, .int _), (1, .int _)]) => ?_)
      refine lv_goto (tgt := 4) hx hb d_MD_rotl_26 rfl ?_
      exact ih (i + 1) _ _ _ (by omega) ⟨by omega, by rw [ez]; exact lv_sub hl [0, 1, 2, 3] rfl, hw⟩
    · have ez : rtN (i + 1) x = (rtN i x <<< ((1 : Int32) &&& 31)) + 1 := by show (_ + (if rtN i x < 0 then 1 else 0)) = _; rw [if_pos (Int32.not_le.mp h13)]
      refine lv_iconst (v := 1) hx hb d_MD_rotl_16 (by decide) ?_
      refine lv_goto (tgt := 21) hx hb d_MD_rotl_17 rfl ?_
      refine lv_iadd hx hb d_MD_rotl_21 ?_
      refine lv_istore_n hx hb d_MD_rotl_22 rfl hl (by decide) rfl (fun ls (hl : lv_has ls 4 [(2, .int _), (3, .int _), (0, .int _), (1, .int _)]) => ?_)
      refine lv_iinc (k := 1) hx hb d_MD_rotl_23 hl rfl (show nI i + Int32.ofInt 1 = nI (i + 1) from (nI_succ i).symm) (by decide) rfl (fun ls (hl : lv_has ls 4 [(3, .int (nI (i + 1))), (2, .int _), (0, .int _), (1, .int _)]) => ?_)
      refine lv_goto (tgt := 4) hx hb d_MD_rotl_26 rfl ?_
      exact ih (i + 1) _ _ _ (by omega) ⟨by omega, by rw [ez]; exact lv_sub hl [0, 1, 2, 3] rfl, hw⟩
set_option maxRecDepth 100000 in
set_option maxHeartbeats 4000000 in
theorem c_MD_multiply {l : Launch} {D : va_G} {K : Nat → ClassId} {A : Nat → Prop} {q : Nat → Nat} {kd : Nat → Int32} {f1 f2 : Nat → Int64} {ou nk : Int32} {nf ns hi lo : Int64} {rc : Int32} {zi sd : Nat → Int32} {ix : Int32} {mm wt cd : Nat → Int32} {x y : Int64} : ctV l y_MD_multiply prog_6_method_4_code 19 0 0 0 [.ref (q 0), .long x, .long y] D K A (mW K q kd f1 f2 ou nk nf ns hi lo rc zi sd ix mm wt cd) (fun w => w = (mW K q kd f1 f2 ou nk nf ns (mHi x y) (mLo x y) rc zi sd ix mm wt cd)) := by
  refine mt_of (by decide) (Nat.le_of_ble_eq_true rfl) ?_
  intro p e s m below meth c ls B hw hl
  have hx := B.1
  have hb := B.2.1
  have hl : lv_has ls 19 [(0, .ref (q 0)), (1, .long x), (3, .long y)] := hl
  refine lv_lload_n hx hb d_MD_multiply_0 rfl (lv_at hl 1 rfl) ?_
  refine g_ldc2 B kc_MD_37 d_MD_multiply_1 ?_
  refine lv_ldiv hx hb d_MD_multiply_4 (by decide) ?_
  refine lv_lstore hx hb d_MD_multiply_5 hl (by decide) rfl (fun ls (hl : lv_has ls 19 [(5, .long _), (0, .ref _), (1, .long _), (3, .long _)]) => ?_)
  refine lv_lload_n hx hb d_MD_multiply_7 rfl (lv_at hl 2 rfl) ?_
  refine g_ldc2 B kc_MD_37 d_MD_multiply_8 ?_
  refine lv_lrem hx hb d_MD_multiply_11 (by decide) ?_
  refine lv_lstore hx hb d_MD_multiply_12 hl (by decide) rfl (fun ls (hl : lv_has ls 19 [(7, .long _), (5, .long _), (0, .ref _), (1, .long _), (3, .long _)]) => ?_)
  refine lv_lload_n hx hb d_MD_multiply_14 rfl (lv_at hl 4 rfl) ?_
  refine g_ldc2 B kc_MD_37 d_MD_multiply_15 ?_
  refine lv_ldiv hx hb d_MD_multiply_18 (by decide) ?_
  refine lv_lstore hx hb d_MD_multiply_19 hl (by decide) rfl (fun ls (hl : lv_has ls 19 [(9, .long _), (7, .long _), (5, .long _), (0, .ref _), (1, .long _), (3, .long _)]) => ?_)
  refine lv_lload_n hx hb d_MD_multiply_21 rfl (lv_at hl 5 rfl) ?_
  refine g_ldc2 B kc_MD_37 d_MD_multiply_22 ?_
  refine lv_lrem hx hb d_MD_multiply_25 (by decide) ?_
  refine lv_lstore hx hb d_MD_multiply_26 hl (by decide) rfl (fun ls (hl : lv_has ls 19 [(11, .long _), (9, .long _), (7, .long _), (5, .long _), (0, .ref _), (1, .long _), (3, .long _)]) => ?_)
  refine lv_lload hx hb d_MD_multiply_28 (lv_at hl 2 rfl) ?_
  refine lv_lload hx hb d_MD_multiply_30 (lv_at hl 0 rfl) ?_
  refine lv_lmul hx hb d_MD_multiply_32 ?_
  refine lv_lstore hx hb d_MD_multiply_33 hl (by decide) rfl (fun ls (hl : lv_has ls 19 [(13, .long _), (11, .long _), (9, .long _), (7, .long _), (5, .long _), (0, .ref _), (1, .long _), (3, .long _)]) => ?_)
  refine lv_lload hx hb d_MD_multiply_35 (lv_at hl 4 rfl) ?_
  refine lv_lload hx hb d_MD_multiply_37 (lv_at hl 1 rfl) ?_
  refine lv_lmul hx hb d_MD_multiply_39 ?_
  refine lv_lload hx hb d_MD_multiply_40 (lv_at hl 0 rfl) ?_
  refine g_ldc2 B kc_MD_37 d_MD_multiply_42 ?_
  refine lv_ldiv hx hb d_MD_multiply_45 (by decide) ?_
  refine lv_ladd hx hb d_MD_multiply_46 ?_
  refine lv_lstore hx hb d_MD_multiply_47 hl (by decide) rfl (fun ls (hl : lv_has ls 19 [(15, .long _), (13, .long _), (11, .long _), (9, .long _), (7, .long _), (5, .long _), (0, .ref _), (1, .long _), (3, .long _)]) => ?_)
  refine lv_lload hx hb d_MD_multiply_49 (lv_at hl 4 rfl) ?_
  refine lv_lload hx hb d_MD_multiply_51 (lv_at hl 3 rfl) ?_
  refine lv_lmul hx hb d_MD_multiply_53 ?_
  refine lv_lload hx hb d_MD_multiply_54 (lv_at hl 0 rfl) ?_
  refine g_ldc2 B kc_MD_37 d_MD_multiply_56 ?_
  refine lv_lrem hx hb d_MD_multiply_59 (by decide) ?_
  refine lv_ladd hx hb d_MD_multiply_60 ?_
  refine lv_lstore hx hb d_MD_multiply_61 hl (by decide) rfl (fun ls (hl : lv_has ls 19 [(17, .long _), (15, .long _), (13, .long _), (11, .long _), (9, .long _), (7, .long _), (5, .long _), (0, .ref _), (1, .long _), (3, .long _)]) => ?_)
  refine lv_aload_n hx hb d_MD_multiply_63 rfl (lv_at hl 7 rfl) ?_
  refine lv_lload hx hb d_MD_multiply_64 (lv_at hl 0 rfl) ?_
  refine g_ldc2 B kc_MD_37 d_MD_multiply_66 ?_
  refine lv_lrem hx hb d_MD_multiply_69 (by decide) ?_
  refine g_ldc2 B kc_MD_37 d_MD_multiply_70 ?_
  refine lv_lmul hx hb d_MD_multiply_73 ?_
  refine lv_lload hx hb d_MD_multiply_74 (lv_at hl 2 rfl) ?_
  refine g_ldc2 B kc_MD_37 d_MD_multiply_76 ?_
  refine lv_lrem hx hb d_MD_multiply_79 (by decide) ?_
  refine lv_ladd hx hb d_MD_multiply_80 ?_
  refine g_put B hw fl_MD_39 ck_MD mw_0 rfl rfl rfl (Nat.le_of_ble_eq_true rfl) d_MD_multiply_81 (fun H locs (hw : wd D A (mW K q _ _ _ _ _ _ _ _ _ _ _ _ _ _ _ _) s H locs) => ?_)
  refine lv_aload_n hx hb d_MD_multiply_84 rfl (lv_at hl 7 rfl) ?_
  refine lv_lload hx hb d_MD_multiply_85 (lv_at hl 6 rfl) ?_
  refine lv_lload hx hb d_MD_multiply_87 (lv_at hl 4 rfl) ?_
  refine lv_lmul hx hb d_MD_multiply_89 ?_
  refine lv_lload hx hb d_MD_multiply_90 (lv_at hl 1 rfl) ?_
  refine g_ldc2 B kc_MD_37 d_MD_multiply_92 ?_
  refine lv_ldiv hx hb d_MD_multiply_95 (by decide) ?_
  refine lv_ladd hx hb d_MD_multiply_96 ?_
  refine lv_lload hx hb d_MD_multiply_97 (lv_at hl 0 rfl) ?_
  refine g_ldc2 B kc_MD_37 d_MD_multiply_99 ?_
  refine lv_ldiv hx hb d_MD_multiply_102 (by decide) ?_
  refine lv_ladd hx hb d_MD_multiply_103 ?_
  refine g_put B hw fl_MD_43 ck_MD mw_0 rfl rfl rfl (Nat.le_of_ble_eq_true rfl) d_MD_multiply_104 (fun H locs (hw : wd D A (mW K q _ _ _ _ _ _ _ _ _ _ _ _ _ _ _ _) s H locs) => ?_)
  exact r_v B hw d_MD_multiply_107 rfl
set_option maxRecDepth 100000 in
set_option maxHeartbeats 4000000 in
theorem c_MD_rounds {l : Launch} {D : va_G} {K : Nat → ClassId} {A : Nat → Prop} {q : Nat → Nat} {kd : Nat → Int32} {f1 f2 : Nat → Int64} {ou nk : Int32} {nf ns hi lo : Int64} {rc : Int32} {zi sd : Nat → Int32} {ix : Int32} {mm wt cd : Nat → Int32} {f g : Int64} (hg : 0 ≤ g) : ctV l y_MD_rounds prog_6_method_6_code 8 1 0 0 [.ref (q 0), .int f.toInt32, .long g] D K A (mW K q kd f1 f2 ou nk nf ns hi lo rc zi sd ix mm wt cd) (fun w => ∃ h2 l2, w = (mW K q kd f1 f2 (mxO f g) nk nf ns h2 l2 rc zi sd ix mm wt cd)) := by
  refine mt_of (by decide) (Nat.le_of_ble_eq_true rfl) ?_
  intro p e s m below meth c ls B hw hl
  have hx := B.1
  have hb := B.2.1
  have hl : lv_has ls 8 [(0, .ref (q 0)), (1, .int f.toInt32), (2, .long g)] := hl
  refine lv_lload_n hx hb d_MD_rounds_0 rfl (lv_at hl 2 rfl) ?_
  refine g_ldc2 B kc_MD_69 d_MD_rounds_1 ?_
  refine lv_ldiv hx hb d_MD_rounds_4 (by decide) ?_
  rw [half_nn hg]
  refine lv_l2i hx hb d_MD_rounds_5 rfl ?_
  refine lv_istore hx hb d_MD_rounds_6 hl (by decide) rfl (fun ls (hl : lv_has ls 8 [(4, .int _), (0, .ref _), (1, .int _), (2, .long _)]) => ?_)
  refine lv_lload_n hx hb d_MD_rounds_8 rfl (lv_at hl 3 rfl) ?_
  refine lv_bipush (v := 33) hx hb d_MD_rounds_9 (by decide) ?_
  refine lv_lushr hx hb d_MD_rounds_11 rfl ?_
  refine lv_l2i hx hb d_MD_rounds_12 rfl ?_
  refine lv_istore hx hb d_MD_rounds_13 hl (by decide) rfl (fun ls (hl : lv_has ls 8 [(5, .int _), (4, .int _), (0, .ref _), (1, .int _), (2, .long _)]) => ?_)
  refine lv_iload_n hx hb d_MD_rounds_15 rfl (lv_at hl 3 rfl) ?_
  refine lv_istore hx hb d_MD_rounds_16 hl (by decide) rfl (fun ls (hl : lv_has ls 8 [(6, .int _), (5, .int _), (4, .int _), (0, .ref _), (1, .int _), (2, .long _)]) => ?_)
  refine lv_iconst (v := 0) hx hb d_MD_rounds_18 (by decide) ?_
  refine lv_istore hx hb d_MD_rounds_19 hl (by decide) rfl (fun ls (hl : lv_has ls 8 [(7, .int _), (6, .int _), (5, .int _), (4, .int _), (0, .ref _), (1, .int _), (2, .long _)]) => ?_)
  refine lp_w (σ := Nat × Int64 × Int64) (fun x => 10 - x.1) (fun x H locs ls => x.1 ≤ 10 ∧ lv_has ls 8 [(7, .int (nI x.1)), (6, .int (mxN x.1 (mx0 f g)).2.2), (5, .int (mxN x.1 (mx0 f g)).2.1), (4, .int (mxN x.1 (mx0 f g)).1), (0, .ref (q 0)), (1, .int f.toInt32), (2, .long g)] ∧ wd D A (mW K q kd f1 f2 ou nk nf ns x.2.1 x.2.2 rc zi sd ix mm wt cd) s H locs) ?_ (0, hi, lo) _ _ _ ⟨by show 0 ≤ 10; omega, lv_sub hl [0, 1, 2, 3, 4, 5, 6] rfl, hw⟩
  rintro ⟨i, h2, l2⟩ H locs ls ⟨hi10, hl, hw⟩ ih
  dsimp only at hi10 hl hw
  refine lv_iload hx hb d_MD_rounds_21 (lv_at hl 0 rfl) ?_
  refine lv_bipush (v := 10) hx hb d_MD_rounds_23 (by decide) ?_
  refine lv_icmp_ge (tgt := 73) hx hb d_MD_rounds_25 rfl (fun h25 => ?_) (fun h25 => ?_)
  · have h25 : 10 ≤ i := (nI_leI (a := 10) (by omega) (by omega)).mp h25
    have hend : i = 10 := by omega
    refine lv_aload_n hx hb d_MD_rounds_73 rfl (lv_at hl 4 rfl) ?_
    refine lv_lload_n hx hb d_MD_rounds_74 rfl (lv_at hl 6 rfl) ?_
    refine g_ldc2 B kc_MD_69 d_MD_rounds_75 ?_
    refine lv_lrem hx hb d_MD_rounds_78 (by decide) ?_
    rw [odd_nn hg]
    refine lv_lconst (v := 0) hx hb d_MD_rounds_79 (by decide) ?_
    refine W.lcmp hx hb d_MD_rounds_80 ?_
    refine lv_if_ne (tgt := 89) hx hb d_MD_rounds_81 rfl (fun h81 => ?_) (fun h81 => ?_)
    · rw [lg_cmp_eq] at h81
      have hz := mxO_od (f := f) h81
      refine lv_iload hx hb d_MD_rounds_89 (lv_at hl 2 rfl) ?_
      rw [hend, ← hz]
      refine g_put B hw fl_MD_50 ck_MD mw_0 rfl rfl rfl (Nat.le_of_ble_eq_true rfl) d_MD_rounds_91 (fun H locs (hw : wd D A (mW K q _ _ _ _ _ _ _ _ _ _ _ _ _ _ _ _) s H locs) => ?_)
      exact r_v B hw d_MD_rounds_94 ⟨_, _, rfl⟩
    · rw [lg_cmp_eq] at h81
      have hz := mxO_ev (f := f) h81
      refine lv_iload hx hb d_MD_rounds_84 (lv_at hl 3 rfl) ?_
      refine lv_goto (tgt := 91) hx hb d_MD_rounds_86 rfl ?_
      rw [hend, ← hz]
      refine g_put B hw fl_MD_50 ck_MD mw_0 rfl rfl rfl (Nat.le_of_ble_eq_true rfl) d_MD_rounds_91 (fun H locs (hw : wd D A (mW K q _ _ _ _ _ _ _ _ _ _ _ _ _ _ _ _) s H locs) => ?_)
      exact r_v B hw d_MD_rounds_94 ⟨_, _, rfl⟩
  · have h25 : i < 10 := Nat.lt_of_not_le (fun q => h25 ((nI_leI (a := 10) (by omega) (by omega)).mpr q))
    refine lv_aload_n hx hb d_MD_rounds_28 rfl (lv_at hl 4 rfl) ?_
    refine lv_iload hx hb d_MD_rounds_29 (lv_at hl 3 rfl) ?_
    refine k_l (k_runS B hw c_MD_number rfl rfl cf_MD_71 ⟨Nat.le_of_ble_eq_true rfl, Nat.le_of_ble_eq_true rfl⟩ rfl hl.1 rfl (Nat.le_of_ble_eq_true rfl) d_MD_rounds_31 ⟨Nat.le_of_ble_eq_true rfl, Nat.le_of_ble_eq_true rfl⟩) hw (fun r31 w1 H locs hq hw => ?_)
    obtain ⟨rfl, ew⟩ := hq
    rw [ew] at hw
    refine g_ldc2 B kc_MD_75 d_MD_rounds_34 ?_
    refine k_v (k_runV B hw c_MD_multiply rfl rfl cf_MD_77 mw_0 rfl rfl ⟨Nat.le_of_ble_eq_true rfl, Nat.le_of_ble_eq_true rfl⟩ rfl hl.1 rfl (Nat.le_of_ble_eq_true rfl) d_MD_rounds_37 ⟨Nat.le_of_ble_eq_true rfl, Nat.le_of_ble_eq_true rfl⟩) hw (fun w1 H locs hq hw => ?_)
    rw [hq] at hw
    refine lv_aload_n hx hb d_MD_rounds_40 rfl (lv_at hl 4 rfl) ?_
    refine g_get B hw fl_MD_43 mw_0 rfl d_MD_rounds_41 ?_
    refine lv_l2i hx hb d_MD_rounds_44 rfl ?_
    rw [(mx_mul _).1]
    refine lv_iload hx hb d_MD_rounds_45 (lv_at hl 1 rfl) ?_
    refine lv_ixor hx hb d_MD_rounds_47 ?_
    refine lv_iload hx hb d_MD_rounds_48 (lv_at hl 2 rfl) ?_
    refine lv_ixor hx hb d_MD_rounds_50 ?_
    refine lv_istore hx hb d_MD_rounds_51 hl (by decide) rfl (fun ls (hl : lv_has ls 8 [(4, .int _), (7, .int _), (6, .int _), (5, .int _), (0, .ref _), (1, .int _), (2, .long _)]) => ?_)
    refine lv_aload_n hx hb d_MD_rounds_53 rfl (lv_at hl 4 rfl) ?_
    refine g_get B hw fl_MD_39 mw_0 rfl d_MD_rounds_54 ?_
    refine lv_l2i hx hb d_MD_rounds_57 rfl ?_
    rw [(mx_mul _).2]
    refine lv_istore hx hb d_MD_rounds_58 hl (by decide) rfl (fun ls (hl : lv_has ls 8 [(5, .int _), (4, .int _), (7, .int _), (6, .int _), (0, .ref _), (1, .int _), (2, .long _)]) => ?_)
    refine lv_iload hx hb d_MD_rounds_60 (lv_at hl 3 rfl) ?_
    refine g_ldc B kc_MD_81 d_MD_rounds_62 ?_
    refine lv_iadd hx hb d_MD_rounds_64 ?_
    refine lv_istore hx hb d_MD_rounds_65 hl (by decide) rfl (fun ls (hl : lv_has ls 8 [(6, .int _), (5, .int _), (4, .int _), (7, .int _), (0, .ref _), (1, .int _), (2, .long _)]) => ?_)
    refine lv_iinc (k := 3) hx hb d_MD_rounds_67 hl rfl (show nI i + Int32.ofInt 1 = nI (i + 1) from (nI_succ i).symm) (by decide) rfl (fun ls (hl : lv_has ls 8 [(7, .int (nI (i + 1))), (6, .int _), (5, .int _), (4, .int _), (0, .ref _), (1, .int _), (2, .long _)]) => ?_)
    refine lv_goto (tgt := 21) hx hb d_MD_rounds_70 rfl ?_
    exact ih (i + 1, _, _) _ _ _ (by show 10 - (i + 1) < 10 - i; omega) ⟨by show i + 1 ≤ 10; omega, lv_sub hl [0, 1, 2, 3, 4, 5, 6] rfl, hw⟩
set_option maxRecDepth 100000 in
set_option maxHeartbeats 4000000 in
theorem c_MD_holds {l : Launch} {D : va_G} {K : Nat → ClassId} {A : Nat → Prop} {q : Nat → Nat} {kd : Nat → Int32} {f1 f2 : Nat → Int64} {ou nk : Int32} {nf ns hi lo : Int64} {rc : Int32} {zi sd : Nat → Int32} {ix : Int32} {mm wt cd : Nat → Int32} {x : Int32} : ctI l y_MD_holds prog_6_method_7_code 2 (some .boolean) 0 0 0 [.ref (q 0), .int x] D K A (mW K q kd f1 f2 ou nk nf ns hi lo rc zi sd ix mm wt cd) (fun r w => r = rlA kd x ∧ w = mW K q kd f1 f2 ou nk nf ns hi lo rc zi sd ix mm wt cd) := by
  refine mt_of (by decide) (Nat.le_of_ble_eq_true rfl) ?_
  intro p e s m below meth c ls B hw hl
  have hx := B.1
  have hb := B.2.1
  have hl : lv_has ls 2 [(0, .ref (q 0)), (1, .int x)] := hl
  refine lv_iload_n hx hb d_MD_holds_0 rfl (lv_at hl 1 rfl) ?_
  refine lv_if_lt (tgt := 23) hx hb d_MD_holds_1 rfl (fun h1 => ?_) (fun h1 => ?_)
  · have ez := rl_no (kd := kd) (x := x) (if_pos h1)
    refine lv_iconst (v := 0) hx hb d_MD_holds_23 (by decide) ?_
    exact r_z B hw (by decide) d_MD_holds_24 ⟨ez.symm, rfl⟩
  · refine lv_iload_n hx hb d_MD_holds_4 rfl (lv_at hl 1 rfl) ?_
    refine lv_bipush (v := 7) hx hb d_MD_holds_5 (by decide) ?_
    refine lv_icmp_gt (tgt := 23) hx hb d_MD_holds_7 rfl (fun h7 => ?_) (fun h7 => ?_)
    · have ez := rl_no (kd := kd) (x := x) (by unfold hdS; rw [if_neg h1, if_neg (fun q => by rw [Int32.lt_iff_toInt_lt] at q h7; rw [show (8 : Int32).toInt = 8 by decide] at q; rw [show (7 : Int32).toInt = 7 by decide] at h7; omega)])
      refine lv_iconst (v := 0) hx hb d_MD_holds_23 (by decide) ?_
      exact r_z B hw (by decide) d_MD_holds_24 ⟨ez.symm, rfl⟩
    · obtain ⟨k, hk8, rfl⟩ := slot_of h1 (n := 8) (by omega) (by rw [Int32.lt_iff_toInt_lt] at h7 ⊢; rw [show (nI 8).toInt = 8 by decide]; rw [show (7 : Int32).toInt = 7 by decide] at h7; omega)
      refine lv_aload_n hx hb d_MD_holds_10 rfl (lv_at hl 0 rfl) ?_
      refine g_get B hw fl_MD_7 mw_0 rfl d_MD_holds_11 ?_
      refine lv_iload_n hx hb d_MD_holds_14 rfl (lv_at hl 1 rfl) ?_
      refine g_iald B hw mw_1 (vp_in_nI hk8 (by omega)) d_MD_holds_15 ?_
      rw [nI_clamp (by omega)]
      refine lv_if_lt (tgt := 23) hx hb d_MD_holds_16 rfl (fun h16 => ?_) (fun h16 => ?_)
      · have ez := rl_no (kd := kd) (x := nI k) (by unfold hdS; rw [if_neg h1, if_pos (show nI k < 8 from nI_lt (b := 8) hk8 (by omega)), nI_clamp (by omega), if_pos h16])
        refine lv_iconst (v := 0) hx hb d_MD_holds_23 (by decide) ?_
        exact r_z B hw (by decide) d_MD_holds_24 ⟨ez.symm, rfl⟩
      · have ez : rlA kd (nI k) = 1 := by unfold rlA; rw [onS_s (hdS_nI hk8 h16)]
        refine lv_iconst (v := 1) hx hb d_MD_holds_19 (by decide) ?_
        refine lv_goto (tgt := 24) hx hb d_MD_holds_20 rfl ?_
        exact r_z B hw (by decide) d_MD_holds_24 ⟨ez.symm, rfl⟩
set_option maxRecDepth 100000 in
set_option maxHeartbeats 4000000 in
theorem c_MD_freeSlot {l : Launch} {D : va_G} {K : Nat → ClassId} {A : Nat → Prop} {q : Nat → Nat} {kd : Nat → Int32} {f1 f2 : Nat → Int64} {ou nk : Int32} {nf ns hi lo : Int64} {rc : Int32} {zi sd : Nat → Int32} {ix : Int32} {mm wt cd : Nat → Int32}  : ctI l y_MD_freeSlot prog_6_method_8_code 2 (some .int) 0 0 0 [.ref (q 0)] D K A (mW K q kd f1 f2 ou nk nf ns hi lo rc zi sd ix mm wt cd) (fun r w => r = frI kd ∧ w = mW K q kd f1 f2 ou nk nf ns hi lo rc zi sd ix mm wt cd) := by
  refine mt_of (by decide) (Nat.le_of_ble_eq_true rfl) ?_
  intro p e s m below meth c ls B hw hl
  have hx := B.1
  have hb := B.2.1
  have hl : lv_has ls 2 [(0, .ref (q 0))] := hl
  refine lv_iconst (v := 0) hx hb d_MD_freeSlot_0 (by decide) ?_
  refine lv_istore_n hx hb d_MD_freeSlot_1 rfl hl (by decide) rfl (fun ls (hl : lv_has ls 2 [(1, .int _), (0, .ref _)]) => ?_)
  refine lp_w (σ := Nat) (fun i => 8 - i) (fun i H locs ls => i ≤ 8 ∧ frI kd = frN kd i (8 - i) ∧ lv_has ls 2 [(1, .int (nI i)), (0, .ref (q 0))] ∧ wd D A (mW K q kd f1 f2 ou nk nf ns hi lo rc zi sd ix mm wt cd) s H locs) ?_ 0 _ _ _ ⟨by omega, rfl, lv_sub hl [0, 1] rfl, hw⟩
  rintro i H locs ls ⟨hi8, hfr, hl, hw⟩ ih
  refine lv_iload_n hx hb d_MD_freeSlot_2 rfl (lv_at hl 0 rfl) ?_
  refine lv_bipush (v := 8) hx hb d_MD_freeSlot_3 (by decide) ?_
  refine lv_icmp_ge (tgt := 25) hx hb d_MD_freeSlot_5 rfl (fun h5 => ?_) (fun h5 => ?_)
  · have h5 : 8 ≤ i := (nI_leI (a := 8) (by omega) (by omega)).mp h5
    have hend : i = 8 := by omega
    refine lv_iconst (v := (-1)) hx hb d_MD_freeSlot_25 (by decide) ?_
    exact r_i B hw d_MD_freeSlot_26 ⟨by rw [hfr, hend]; rfl, rfl⟩
  · have h5 : i < 8 := Nat.lt_of_not_le (fun q => h5 ((nI_leI (a := 8) (by omega) (by omega)).mpr q))
    refine lv_aload_n hx hb d_MD_freeSlot_8 rfl (lv_at hl 1 rfl) ?_
    refine g_get B hw fl_MD_7 mw_0 rfl d_MD_freeSlot_9 ?_
    refine lv_iload_n hx hb d_MD_freeSlot_12 rfl (lv_at hl 0 rfl) ?_
    refine g_iald B hw mw_1 (vp_in_nI h5 (by omega)) d_MD_freeSlot_13 ?_
    rw [nI_clamp (by omega)]
    refine lv_if_ge (tgt := 19) hx hb d_MD_freeSlot_14 rfl (fun h14 => ?_) (fun h14 => ?_)
    · refine lv_iinc (k := 0) hx hb d_MD_freeSlot_19 hl rfl (show nI i + Int32.ofInt 1 = nI (i + 1) from (nI_succ i).symm) (by decide) rfl (fun ls (hl : lv_has ls 2 [(1, .int (nI (i + 1))), (0, .ref _)]) => ?_)
      refine lv_goto (tgt := 2) hx hb d_MD_freeSlot_22 rfl ?_
      exact ih (i + 1) _ _ _ (by omega) ⟨by omega, hfr.trans (frN_miss h5 (Int32.not_lt.mpr h14)), lv_sub hl [0, 1] rfl, hw⟩
    · have h14 := Int32.not_le.mp h14
      refine lv_iload_n hx hb d_MD_freeSlot_17 rfl (lv_at hl 0 rfl) ?_
      exact r_i B hw d_MD_freeSlot_18 ⟨by rw [hfr, frN_hit h5 h14], rfl⟩
set_option maxRecDepth 100000 in
set_option maxHeartbeats 4000000 in
theorem c_MD_residue {l : Launch} {D : va_G} {K : Nat → ClassId} {A : Nat → Prop} {wl : va_W} {x : Int64} : ctI l y_MD_residue prog_6_method_9_code 2 (some .boolean) 0 0 0 [.long x] D K A (wl) (fun r w => r = isR x ∧ w = wl) := by
  refine mt_of (by decide) (Nat.le_of_ble_eq_true rfl) ?_
  intro p e s m below meth c ls B hw hl
  have hx := B.1
  have hb := B.2.1
  have hl : lv_has ls 2 [(0, .long x)] := hl
  refine lv_lload_n hx hb d_MD_residue_0 rfl (lv_at hl 0 rfl) ?_
  refine lv_lconst (v := 0) hx hb d_MD_residue_1 (by decide) ?_
  refine W.lcmp hx hb d_MD_residue_2 ?_
  refine lv_if_lt (tgt := 18) hx hb d_MD_residue_3 rfl (fun h3 => ?_) (fun h3 => ?_)
  · rw [lg_cmp_lt] at h3
    refine lv_iconst (v := 0) hx hb d_MD_residue_18 (by decide) ?_
    exact r_z B hw (by decide) d_MD_residue_19 ⟨by rw [isR_le]; simp [*], rfl⟩
  · rw [lg_cmp_lt] at h3
    refine lv_lload_n hx hb d_MD_residue_6 rfl (lv_at hl 0 rfl) ?_
    refine g_ldc2 B kc_MD_82 d_MD_residue_7 ?_
    refine W.lcmp hx hb d_MD_residue_10 ?_
    refine lv_if_gt (tgt := 18) hx hb d_MD_residue_11 rfl (fun h11 => ?_) (fun h11 => ?_)
    · rw [lg_cmp_gt] at h11
      refine lv_iconst (v := 0) hx hb d_MD_residue_18 (by decide) ?_
      exact r_z B hw (by decide) d_MD_residue_19 ⟨by rw [isR_le]; simp [*], rfl⟩
    · rw [lg_cmp_gt] at h11
      refine lv_iconst (v := 1) hx hb d_MD_residue_14 (by decide) ?_
      refine lv_goto (tgt := 19) hx hb d_MD_residue_15 rfl ?_
      exact r_z B hw (by decide) d_MD_residue_19 ⟨by rw [isR_le]; simp [*], rfl⟩
set_option maxRecDepth 100000 in
set_option maxHeartbeats 4000000 in
theorem c_MD_sound {l : Launch} {D : va_G} {K : Nat → ClassId} {A : Nat → Prop} {q : Nat → Nat} {kd : Nat → Int32} {f1 f2 : Nat → Int64} {ou nk : Int32} {nf ns hi lo : Int64} {rc : Int32} {zi sd : Nat → Int32} {ix : Int32} {mm wt cd : Nat → Int32} (hk3 : nk = 0 ∨ nk = 1 ∨ nk = 2 ∨ nk = 3) : ctI l y_MD_sound prog_6_method_10_code 2 (some .boolean) 1 0 0 [.ref (q 0)] D K A (mW K q kd f1 f2 ou nk nf ns hi lo rc zi sd ix mm wt cd) (fun r w => r = isSt nk nf ns ∧ w = mW K q kd f1 f2 ou nk nf ns hi lo rc zi sd ix mm wt cd) := by
  refine mt_of (by decide) (Nat.le_of_ble_eq_true rfl) ?_
  intro p e s m below meth c ls B hw hl
  have hx := B.1
  have hb := B.2.1
  have hl : lv_has ls 2 [(0, .ref (q 0))] := hl
  refine lv_aload_n hx hb d_MD_sound_0 rfl (lv_at hl 0 rfl) ?_
  refine g_get B hw fl_MD_84 mw_0 rfl d_MD_sound_1 ?_
  refine lv_lconst (v := 0) hx hb d_MD_sound_4 (by decide) ?_
  refine W.lcmp hx hb d_MD_sound_5 ?_
  refine lv_if_ne (tgt := 22) hx hb d_MD_sound_6 rfl (fun h6 => ?_) (fun h6 => ?_)
  · rw [lg_cmp_eq] at h6
    have hz : ¬ (nf = 0 ∧ ns = 0) := fun z => h6 z.1
    refine lv_iconst (v := 0) hx hb d_MD_sound_22 (by decide) ?_
    refine lv_istore_n hx hb d_MD_sound_23 rfl hl (by decide) rfl (fun ls (hl : lv_has ls 2 [(1, .int _), (0, .ref _)]) => ?_)
    refine lv_aload_n hx hb d_MD_sound_24 rfl (lv_at hl 1 rfl) ?_
    refine g_get B hw fl_MD_90 mw_0 rfl d_MD_sound_25 ?_
    refine lv_if_ne (tgt := 50) hx hb d_MD_sound_28 rfl (fun h28 => ?_) (fun h28 => ?_)
    · have ez : isSt nk nf ns = _ := if_neg h28
      refine lv_aload_n hx hb d_MD_sound_50 rfl (lv_at hl 1 rfl) ?_
      refine g_get B hw fl_MD_90 mw_0 rfl d_MD_sound_51 ?_
      refine lv_iconst (v := 1) hx hb d_MD_sound_54 (by decide) ?_
      refine lv_icmp_ne (tgt := 68) hx hb d_MD_sound_55 rfl (fun h55 => ?_) (fun h55 => ?_)
      · rw [if_neg h55] at ez
        refine lv_aload_n hx hb d_MD_sound_68 rfl (lv_at hl 1 rfl) ?_
        refine g_get B hw fl_MD_90 mw_0 rfl d_MD_sound_69 ?_
        refine lv_iconst (v := 2) hx hb d_MD_sound_72 (by decide) ?_
        refine lv_icmp_ne (tgt := 91) hx hb d_MD_sound_73 rfl (fun h73 => ?_) (fun h73 => ?_)
        · rw [if_neg h73, if_pos (hk3.elim (fun z => absurd z h28) (fun z => z.elim (fun z => absurd z h55) (fun z => z.elim (fun z => absurd z h73) id)))] at ez
          refine lv_iload_n hx hb d_MD_sound_91 rfl (lv_at hl 0 rfl) ?_
          refine lv_if_ne (tgt := 119) hx hb d_MD_sound_92 rfl (fun h92 => ?_) (fun h92 => ?_)
          · exact absurd rfl h92
          · refine lv_aload_n hx hb d_MD_sound_95 rfl (lv_at hl 1 rfl) ?_
            refine g_get B hw fl_MD_84 mw_0 rfl d_MD_sound_96 ?_
            refine k_i (k_runS B hw c_MD_residue rfl rfl cf_MD_93 ⟨Nat.le_of_ble_eq_true rfl, Nat.le_of_ble_eq_true rfl⟩ rfl hl.1 rfl (Nat.le_of_ble_eq_true rfl) d_MD_sound_99 ⟨Nat.le_of_ble_eq_true rfl, Nat.le_of_ble_eq_true rfl⟩) hw (fun r99 w1 H locs hq hw => ?_)
            obtain ⟨rfl, ew⟩ := hq
            rw [ew] at hw
            refine lv_if_eq (tgt := 119) hx hb d_MD_sound_102 rfl (fun h102 => ?_) (fun h102 => ?_)
            · rw [if_pos h102] at ez
              refine lv_iconst (v := 0) hx hb d_MD_sound_119 (by decide) ?_
              exact r_z B hw (by decide) d_MD_sound_120 ⟨ez.symm, rfl⟩
            · rw [if_neg h102] at ez
              refine lv_aload_n hx hb d_MD_sound_105 rfl (lv_at hl 1 rfl) ?_
              refine g_get B hw fl_MD_87 mw_0 rfl d_MD_sound_106 ?_
              refine k_i (k_runS B hw c_MD_residue rfl rfl cf_MD_93 ⟨Nat.le_of_ble_eq_true rfl, Nat.le_of_ble_eq_true rfl⟩ rfl hl.1 rfl (Nat.le_of_ble_eq_true rfl) d_MD_sound_109 ⟨Nat.le_of_ble_eq_true rfl, Nat.le_of_ble_eq_true rfl⟩) hw (fun r109 w1 H locs hq hw => ?_)
              obtain ⟨rfl, ew⟩ := hq
              rw [ew] at hw
              refine lv_if_eq (tgt := 119) hx hb d_MD_sound_112 rfl (fun h112 => ?_) (fun h112 => ?_)
              · rw [if_pos h112] at ez
                refine lv_iconst (v := 0) hx hb d_MD_sound_119 (by decide) ?_
                exact r_z B hw (by decide) d_MD_sound_120 ⟨ez.symm, rfl⟩
              · rw [if_neg h112, if_neg hz] at ez
                refine lv_iconst (v := 1) hx hb d_MD_sound_115 (by decide) ?_
                refine lv_goto (tgt := 120) hx hb d_MD_sound_116 rfl ?_
                exact r_z B hw (by decide) d_MD_sound_120 ⟨ez.symm, rfl⟩
        · rw [if_pos h73] at ez
          refine lv_aload_n hx hb d_MD_sound_76 rfl (lv_at hl 1 rfl) ?_
          refine g_get B hw fl_MD_87 mw_0 rfl d_MD_sound_77 ?_
          refine lv_lconst (v := 0) hx hb d_MD_sound_80 (by decide) ?_
          refine W.lcmp hx hb d_MD_sound_81 ?_
          refine lv_if_lt (tgt := 89) hx hb d_MD_sound_82 rfl (fun h82 => ?_) (fun h82 => ?_)
          · rw [lg_cmp_lt] at h82
            rw [if_pos h82] at ez
            refine lv_iconst (v := 0) hx hb d_MD_sound_89 (by decide) ?_
            exact r_z B hw (by decide) d_MD_sound_90 ⟨ez.symm, rfl⟩
          · rw [lg_cmp_lt] at h82
            rw [if_neg h82] at ez
            refine lv_iconst (v := 1) hx hb d_MD_sound_85 (by decide) ?_
            refine lv_goto (tgt := 90) hx hb d_MD_sound_86 rfl ?_
            exact r_z B hw (by decide) d_MD_sound_90 ⟨ez.symm, rfl⟩
      · rw [if_pos h55] at ez
        refine lv_iload_n hx hb d_MD_sound_58 rfl (lv_at hl 0 rfl) ?_
        refine lv_if_ne (tgt := 66) hx hb d_MD_sound_59 rfl (fun h59 => ?_) (fun h59 => ?_)
        · exact absurd rfl h59
        · rw [if_neg hz] at ez
          refine lv_iconst (v := 1) hx hb d_MD_sound_62 (by decide) ?_
          refine lv_goto (tgt := 67) hx hb d_MD_sound_63 rfl ?_
          exact r_z B hw (by decide) d_MD_sound_67 ⟨ez.symm, rfl⟩
    · have ez : isSt nk nf ns = _ := if_pos h28
      refine lv_aload_n hx hb d_MD_sound_31 rfl (lv_at hl 1 rfl) ?_
      refine g_get B hw fl_MD_87 mw_0 rfl d_MD_sound_32 ?_
      refine g_ldc2 B kc_MD_69 d_MD_sound_35 ?_
      refine lv_lrem hx hb d_MD_sound_38 (by decide) ?_
      refine lv_lconst (v := 0) hx hb d_MD_sound_39 (by decide) ?_
      refine W.lcmp hx hb d_MD_sound_40 ?_
      refine lv_if_eq (tgt := 48) hx hb d_MD_sound_41 rfl (fun h41 => ?_) (fun h41 => ?_)
      · rw [lg_cmp_eq, odd_any] at h41
        rw [if_neg (by rw [h41]; decide)] at ez
        refine lv_iconst (v := 0) hx hb d_MD_sound_48 (by decide) ?_
        exact r_z B hw (by decide) d_MD_sound_49 ⟨ez.symm, rfl⟩
      · rw [lg_cmp_eq, odd_any] at h41
        rw [if_pos ((and1_01 ns).resolve_left h41)] at ez
        refine lv_iconst (v := 1) hx hb d_MD_sound_44 (by decide) ?_
        refine lv_goto (tgt := 49) hx hb d_MD_sound_45 rfl ?_
        exact r_z B hw (by decide) d_MD_sound_49 ⟨ez.symm, rfl⟩
  · rw [lg_cmp_eq] at h6
    refine lv_aload_n hx hb d_MD_sound_9 rfl (lv_at hl 0 rfl) ?_
    refine g_get B hw fl_MD_87 mw_0 rfl d_MD_sound_10 ?_
    refine lv_lconst (v := 0) hx hb d_MD_sound_13 (by decide) ?_
    refine W.lcmp hx hb d_MD_sound_14 ?_
    refine lv_if_ne (tgt := 22) hx hb d_MD_sound_15 rfl (fun h15 => ?_) (fun h15 => ?_)
    · rw [lg_cmp_eq] at h15
      have hz : ¬ (nf = 0 ∧ ns = 0) := fun z => h15 z.2
      refine lv_iconst (v := 0) hx hb d_MD_sound_22 (by decide) ?_
      refine lv_istore_n hx hb d_MD_sound_23 rfl hl (by decide) rfl (fun ls (hl : lv_has ls 2 [(1, .int _), (0, .ref _)]) => ?_)
      refine lv_aload_n hx hb d_MD_sound_24 rfl (lv_at hl 1 rfl) ?_
      refine g_get B hw fl_MD_90 mw_0 rfl d_MD_sound_25 ?_
      refine lv_if_ne (tgt := 50) hx hb d_MD_sound_28 rfl (fun h28 => ?_) (fun h28 => ?_)
      · have ez : isSt nk nf ns = _ := if_neg h28
        refine lv_aload_n hx hb d_MD_sound_50 rfl (lv_at hl 1 rfl) ?_
        refine g_get B hw fl_MD_90 mw_0 rfl d_MD_sound_51 ?_
        refine lv_iconst (v := 1) hx hb d_MD_sound_54 (by decide) ?_
        refine lv_icmp_ne (tgt := 68) hx hb d_MD_sound_55 rfl (fun h55 => ?_) (fun h55 => ?_)
        · rw [if_neg h55] at ez
          refine lv_aload_n hx hb d_MD_sound_68 rfl (lv_at hl 1 rfl) ?_
          refine g_get B hw fl_MD_90 mw_0 rfl d_MD_sound_69 ?_
          refine lv_iconst (v := 2) hx hb d_MD_sound_72 (by decide) ?_
          refine lv_icmp_ne (tgt := 91) hx hb d_MD_sound_73 rfl (fun h73 => ?_) (fun h73 => ?_)
          · rw [if_neg h73, if_pos (hk3.elim (fun z => absurd z h28) (fun z => z.elim (fun z => absurd z h55) (fun z => z.elim (fun z => absurd z h73) id)))] at ez
            refine lv_iload_n hx hb d_MD_sound_91 rfl (lv_at hl 0 rfl) ?_
            refine lv_if_ne (tgt := 119) hx hb d_MD_sound_92 rfl (fun h92 => ?_) (fun h92 => ?_)
            · exact absurd rfl h92
            · refine lv_aload_n hx hb d_MD_sound_95 rfl (lv_at hl 1 rfl) ?_
              refine g_get B hw fl_MD_84 mw_0 rfl d_MD_sound_96 ?_
              refine k_i (k_runS B hw c_MD_residue rfl rfl cf_MD_93 ⟨Nat.le_of_ble_eq_true rfl, Nat.le_of_ble_eq_true rfl⟩ rfl hl.1 rfl (Nat.le_of_ble_eq_true rfl) d_MD_sound_99 ⟨Nat.le_of_ble_eq_true rfl, Nat.le_of_ble_eq_true rfl⟩) hw (fun r99 w1 H locs hq hw => ?_)
              obtain ⟨rfl, ew⟩ := hq
              rw [ew] at hw
              refine lv_if_eq (tgt := 119) hx hb d_MD_sound_102 rfl (fun h102 => ?_) (fun h102 => ?_)
              · rw [if_pos h102] at ez
                refine lv_iconst (v := 0) hx hb d_MD_sound_119 (by decide) ?_
                exact r_z B hw (by decide) d_MD_sound_120 ⟨ez.symm, rfl⟩
              · rw [if_neg h102] at ez
                refine lv_aload_n hx hb d_MD_sound_105 rfl (lv_at hl 1 rfl) ?_
                refine g_get B hw fl_MD_87 mw_0 rfl d_MD_sound_106 ?_
                refine k_i (k_runS B hw c_MD_residue rfl rfl cf_MD_93 ⟨Nat.le_of_ble_eq_true rfl, Nat.le_of_ble_eq_true rfl⟩ rfl hl.1 rfl (Nat.le_of_ble_eq_true rfl) d_MD_sound_109 ⟨Nat.le_of_ble_eq_true rfl, Nat.le_of_ble_eq_true rfl⟩) hw (fun r109 w1 H locs hq hw => ?_)
                obtain ⟨rfl, ew⟩ := hq
                rw [ew] at hw
                refine lv_if_eq (tgt := 119) hx hb d_MD_sound_112 rfl (fun h112 => ?_) (fun h112 => ?_)
                · rw [if_pos h112] at ez
                  refine lv_iconst (v := 0) hx hb d_MD_sound_119 (by decide) ?_
                  exact r_z B hw (by decide) d_MD_sound_120 ⟨ez.symm, rfl⟩
                · rw [if_neg h112, if_neg hz] at ez
                  refine lv_iconst (v := 1) hx hb d_MD_sound_115 (by decide) ?_
                  refine lv_goto (tgt := 120) hx hb d_MD_sound_116 rfl ?_
                  exact r_z B hw (by decide) d_MD_sound_120 ⟨ez.symm, rfl⟩
          · rw [if_pos h73] at ez
            refine lv_aload_n hx hb d_MD_sound_76 rfl (lv_at hl 1 rfl) ?_
            refine g_get B hw fl_MD_87 mw_0 rfl d_MD_sound_77 ?_
            refine lv_lconst (v := 0) hx hb d_MD_sound_80 (by decide) ?_
            refine W.lcmp hx hb d_MD_sound_81 ?_
            refine lv_if_lt (tgt := 89) hx hb d_MD_sound_82 rfl (fun h82 => ?_) (fun h82 => ?_)
            · rw [lg_cmp_lt] at h82
              rw [if_pos h82] at ez
              refine lv_iconst (v := 0) hx hb d_MD_sound_89 (by decide) ?_
              exact r_z B hw (by decide) d_MD_sound_90 ⟨ez.symm, rfl⟩
            · rw [lg_cmp_lt] at h82
              rw [if_neg h82] at ez
              refine lv_iconst (v := 1) hx hb d_MD_sound_85 (by decide) ?_
              refine lv_goto (tgt := 90) hx hb d_MD_sound_86 rfl ?_
              exact r_z B hw (by decide) d_MD_sound_90 ⟨ez.symm, rfl⟩
        · rw [if_pos h55] at ez
          refine lv_iload_n hx hb d_MD_sound_58 rfl (lv_at hl 0 rfl) ?_
          refine lv_if_ne (tgt := 66) hx hb d_MD_sound_59 rfl (fun h59 => ?_) (fun h59 => ?_)
          · exact absurd rfl h59
          · rw [if_neg hz] at ez
            refine lv_iconst (v := 1) hx hb d_MD_sound_62 (by decide) ?_
            refine lv_goto (tgt := 67) hx hb d_MD_sound_63 rfl ?_
            exact r_z B hw (by decide) d_MD_sound_67 ⟨ez.symm, rfl⟩
      · have ez : isSt nk nf ns = _ := if_pos h28
        refine lv_aload_n hx hb d_MD_sound_31 rfl (lv_at hl 1 rfl) ?_
        refine g_get B hw fl_MD_87 mw_0 rfl d_MD_sound_32 ?_
        refine g_ldc2 B kc_MD_69 d_MD_sound_35 ?_
        refine lv_lrem hx hb d_MD_sound_38 (by decide) ?_
        refine lv_lconst (v := 0) hx hb d_MD_sound_39 (by decide) ?_
        refine W.lcmp hx hb d_MD_sound_40 ?_
        refine lv_if_eq (tgt := 48) hx hb d_MD_sound_41 rfl (fun h41 => ?_) (fun h41 => ?_)
        · rw [lg_cmp_eq, odd_any] at h41
          rw [if_neg (by rw [h41]; decide)] at ez
          refine lv_iconst (v := 0) hx hb d_MD_sound_48 (by decide) ?_
          exact r_z B hw (by decide) d_MD_sound_49 ⟨ez.symm, rfl⟩
        · rw [lg_cmp_eq, odd_any] at h41
          rw [if_pos ((and1_01 ns).resolve_left h41)] at ez
          refine lv_iconst (v := 1) hx hb d_MD_sound_44 (by decide) ?_
          refine lv_goto (tgt := 49) hx hb d_MD_sound_45 rfl ?_
          exact r_z B hw (by decide) d_MD_sound_49 ⟨ez.symm, rfl⟩
    · rw [lg_cmp_eq] at h15
      have hz : nf = 0 ∧ ns = 0 := ⟨h6, h15⟩
      refine lv_iconst (v := 1) hx hb d_MD_sound_18 (by decide) ?_
      refine lv_goto (tgt := 23) hx hb d_MD_sound_19 rfl ?_
      refine lv_istore_n hx hb d_MD_sound_23 rfl hl (by decide) rfl (fun ls (hl : lv_has ls 2 [(1, .int _), (0, .ref _)]) => ?_)
      refine lv_aload_n hx hb d_MD_sound_24 rfl (lv_at hl 1 rfl) ?_
      refine g_get B hw fl_MD_90 mw_0 rfl d_MD_sound_25 ?_
      refine lv_if_ne (tgt := 50) hx hb d_MD_sound_28 rfl (fun h28 => ?_) (fun h28 => ?_)
      · have ez : isSt nk nf ns = _ := if_neg h28
        refine lv_aload_n hx hb d_MD_sound_50 rfl (lv_at hl 1 rfl) ?_
        refine g_get B hw fl_MD_90 mw_0 rfl d_MD_sound_51 ?_
        refine lv_iconst (v := 1) hx hb d_MD_sound_54 (by decide) ?_
        refine lv_icmp_ne (tgt := 68) hx hb d_MD_sound_55 rfl (fun h55 => ?_) (fun h55 => ?_)
        · rw [if_neg h55] at ez
          refine lv_aload_n hx hb d_MD_sound_68 rfl (lv_at hl 1 rfl) ?_
          refine g_get B hw fl_MD_90 mw_0 rfl d_MD_sound_69 ?_
          refine lv_iconst (v := 2) hx hb d_MD_sound_72 (by decide) ?_
          refine lv_icmp_ne (tgt := 91) hx hb d_MD_sound_73 rfl (fun h73 => ?_) (fun h73 => ?_)
          · rw [if_neg h73, if_pos (hk3.elim (fun z => absurd z h28) (fun z => z.elim (fun z => absurd z h55) (fun z => z.elim (fun z => absurd z h73) id)))] at ez
            refine lv_iload_n hx hb d_MD_sound_91 rfl (lv_at hl 0 rfl) ?_
            refine lv_if_ne (tgt := 119) hx hb d_MD_sound_92 rfl (fun h92 => ?_) (fun h92 => ?_)
            · have ez2 : isSt nk nf ns = 0 := by rw [ez]; split <;> first | rfl | (split <;> first | rfl | exact if_pos hz)
              have ez := ez2
              refine lv_iconst (v := 0) hx hb d_MD_sound_119 (by decide) ?_
              exact r_z B hw (by decide) d_MD_sound_120 ⟨ez.symm, rfl⟩
            · exact absurd h92 (by decide)
          · rw [if_pos h73] at ez
            refine lv_aload_n hx hb d_MD_sound_76 rfl (lv_at hl 1 rfl) ?_
            refine g_get B hw fl_MD_87 mw_0 rfl d_MD_sound_77 ?_
            refine lv_lconst (v := 0) hx hb d_MD_sound_80 (by decide) ?_
            refine W.lcmp hx hb d_MD_sound_81 ?_
            refine lv_if_lt (tgt := 89) hx hb d_MD_sound_82 rfl (fun h82 => ?_) (fun h82 => ?_)
            · rw [lg_cmp_lt] at h82
              rw [if_pos h82] at ez
              refine lv_iconst (v := 0) hx hb d_MD_sound_89 (by decide) ?_
              exact r_z B hw (by decide) d_MD_sound_90 ⟨ez.symm, rfl⟩
            · rw [lg_cmp_lt] at h82
              rw [if_neg h82] at ez
              refine lv_iconst (v := 1) hx hb d_MD_sound_85 (by decide) ?_
              refine lv_goto (tgt := 90) hx hb d_MD_sound_86 rfl ?_
              exact r_z B hw (by decide) d_MD_sound_90 ⟨ez.symm, rfl⟩
        · rw [if_pos h55] at ez
          refine lv_iload_n hx hb d_MD_sound_58 rfl (lv_at hl 0 rfl) ?_
          refine lv_if_ne (tgt := 66) hx hb d_MD_sound_59 rfl (fun h59 => ?_) (fun h59 => ?_)
          · rw [if_pos hz] at ez
            refine lv_iconst (v := 0) hx hb d_MD_sound_66 (by decide) ?_
            exact r_z B hw (by decide) d_MD_sound_67 ⟨ez.symm, rfl⟩
          · exact absurd h59 (by decide)
      · have ez : isSt nk nf ns = _ := if_pos h28
        refine lv_aload_n hx hb d_MD_sound_31 rfl (lv_at hl 1 rfl) ?_
        refine g_get B hw fl_MD_87 mw_0 rfl d_MD_sound_32 ?_
        refine g_ldc2 B kc_MD_69 d_MD_sound_35 ?_
        refine lv_lrem hx hb d_MD_sound_38 (by decide) ?_
        refine lv_lconst (v := 0) hx hb d_MD_sound_39 (by decide) ?_
        refine W.lcmp hx hb d_MD_sound_40 ?_
        refine lv_if_eq (tgt := 48) hx hb d_MD_sound_41 rfl (fun h41 => ?_) (fun h41 => ?_)
        · rw [lg_cmp_eq, odd_any] at h41
          rw [if_neg (by rw [h41]; decide)] at ez
          refine lv_iconst (v := 0) hx hb d_MD_sound_48 (by decide) ?_
          exact r_z B hw (by decide) d_MD_sound_49 ⟨ez.symm, rfl⟩
        · rw [lg_cmp_eq, odd_any] at h41
          rw [if_pos ((and1_01 ns).resolve_left h41)] at ez
          refine lv_iconst (v := 1) hx hb d_MD_sound_44 (by decide) ?_
          refine lv_goto (tgt := 49) hx hb d_MD_sound_45 rfl ?_
          exact r_z B hw (by decide) d_MD_sound_49 ⟨ez.symm, rfl⟩
set_option maxRecDepth 100000 in
set_option maxHeartbeats 4000000 in
theorem c_MD_settle {l : Launch} {D : va_G} {K : Nat → ClassId} {A : Nat → Prop} {q : Nat → Nat} {kd : Nat → Int32} {f1 f2 : Nat → Int64} {ou nk : Int32} {nf ns hi lo : Int64} {rc : Int32} {zi sd : Nat → Int32} {ix : Int32} {mm wt cd : Nat → Int32} {k : Nat} (hk8 : k < 8) : ctI l y_MD_settle prog_6_method_11_code 2 (some .int) 0 0 0 [.ref (q 0), .int (nI k)] D K A (mW K q kd f1 f2 ou nk nf ns hi lo rc zi sd ix mm wt cd) (fun r w => r = nI k ∧ w = (mW K q (upd kd k nk) (vp_updL f1 k nf) (vp_updL f2 k ns) ou nk nf ns hi lo rc zi sd ix mm wt cd)) := by
  refine mt_of (by decide) (Nat.le_of_ble_eq_true rfl) ?_
  intro p e s m below meth c ls B hw hl
  have hx := B.1
  have hb := B.2.1
  have hl : lv_has ls 2 [(0, .ref (q 0)), (1, .int (nI k))] := hl
  refine lv_aload_n hx hb d_MD_settle_0 rfl (lv_at hl 0 rfl) ?_
  refine g_get B hw fl_MD_7 mw_0 rfl d_MD_settle_1 ?_
  refine lv_iload_n hx hb d_MD_settle_4 rfl (lv_at hl 1 rfl) ?_
  refine lv_aload_n hx hb d_MD_settle_5 rfl (lv_at hl 0 rfl) ?_
  refine g_get B hw fl_MD_90 mw_0 rfl d_MD_settle_6 ?_
  refine g_iast B hw mw_1 (vp_in_nI hk8 (by omega)) d_MD_settle_9 (fun H locs (hw : wd D A (mW K q _ _ _ _ _ _ _ _ _ _ _ _ _ _ _ _) s H locs) => ?_)
  rw [nI_clamp (by omega)] at hw
  refine lv_aload_n hx hb d_MD_settle_10 rfl (lv_at hl 0 rfl) ?_
  refine g_get B hw fl_MD_13 mw_0 rfl d_MD_settle_11 ?_
  refine lv_iload_n hx hb d_MD_settle_14 rfl (lv_at hl 1 rfl) ?_
  refine lv_aload_n hx hb d_MD_settle_15 rfl (lv_at hl 0 rfl) ?_
  refine g_get B hw fl_MD_84 mw_0 rfl d_MD_settle_16 ?_
  refine g_last B hw mw_2 (vp_in_nI hk8 (by omega)) d_MD_settle_19 (fun H locs (hw : wd D A (mW K q _ _ _ _ _ _ _ _ _ _ _ _ _ _ _ _) s H locs) => ?_)
  rw [nI_clamp (by omega)] at hw
  refine lv_aload_n hx hb d_MD_settle_20 rfl (lv_at hl 0 rfl) ?_
  refine g_get B hw fl_MD_17 mw_0 rfl d_MD_settle_21 ?_
  refine lv_iload_n hx hb d_MD_settle_24 rfl (lv_at hl 1 rfl) ?_
  refine lv_aload_n hx hb d_MD_settle_25 rfl (lv_at hl 0 rfl) ?_
  refine g_get B hw fl_MD_87 mw_0 rfl d_MD_settle_26 ?_
  refine g_last B hw mw_3 (vp_in_nI hk8 (by omega)) d_MD_settle_29 (fun H locs (hw : wd D A (mW K q _ _ _ _ _ _ _ _ _ _ _ _ _ _ _ _) s H locs) => ?_)
  rw [nI_clamp (by omega)] at hw
  refine lv_iload_n hx hb d_MD_settle_30 rfl (lv_at hl 1 rfl) ?_
  exact r_i B hw d_MD_settle_31 ⟨rfl, rfl⟩
