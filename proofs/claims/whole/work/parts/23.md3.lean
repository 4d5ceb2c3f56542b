/-! The reference: records. -/
theorem blk_0 {sd : Nat → Int32} {b : Nat} {w : Nat → Int32} : blk sd b 0 w = sd := by
  funext t
  exact blk_out (by omega)
theorem blk_upd {sd : Nat → Int32} {b n : Nat} {w : Nat → Int32} {x : Int32} : upd (blk sd b n w) (b + n) x = blk sd b (n + 1) (upd w n x) := by
  funext t
  by_cases e : t = b + n
  · subst e
    rw [pk_us, blk_in (by omega), pk_us]
  · rw [pk_un e]
    by_cases h : b ≤ t ∧ t < b + n
    · obtain ⟨u, rfl⟩ : ∃ u, t = b + u := ⟨t - b, by omega⟩
      rw [blk_in (by omega), blk_in (by omega), pk_un (by omega)]
    · rw [blk_out (by omega), blk_out (by omega)]
theorem upd_upd {f : Nat → Int32} {k : Nat} {x y : Int32} : upd (upd f k x) k y = upd f k y := by
  funext j
  by_cases e : j = k
  · subst e; rw [pk_us, pk_us]
  · rw [pk_un e, pk_un e, pk_un e]
theorem sar32 (x : Int64) : (x >>> ((32 : Int32).toInt64 &&& 63)).toInt32 = (lus x 32).toInt32 := by
  apply uB_inj
  rw [uB_l2i, uB_l2i, lus32]
  have h1 : (x >>> ((32 : Int32).toInt64 &&& 63)).toInt = x.toInt / 4294967296 := by
    show (x >>> ((32 : Int32).toInt64 &&& 63)).toBitVec.toInt = _
    rw [Int64.toBitVec_shiftRight]
    show (x.toBitVec.sshiftRight (((32 : Int32).toInt64 &&& 63).toBitVec.smod 64).toNat).toInt = _
    rw [show (((32 : Int32).toInt64 &&& 63).toBitVec.smod 64).toNat = 32 by decide, BitVec.toInt_sshiftRight, Int.shiftRight_eq_div_pow]
    rfl
  have h2 := toInt_uL (x >>> ((32 : Int32).toInt64 &&& 63))
  have h3 := toInt_uL x
  have h4 := uL_lt (x >>> ((32 : Int32).toInt64 &&& 63))
  have h5 := uL_lt x
  rw [h1] at h2
  split at h2 <;> split at h3 <;> omega
def zN (sz : Nat → Nat) : Nat → Int32 := fun r => nI (sz r)
theorem zN_upd {sz : Nat → Nat} {r n : Nat} : upd (zN sz) r (nI n) = zN (updN sz r n) := by
  funext j
  by_cases e : j = r
  · subst e; rw [pk_us]; show _ = nI (updN sz j n j); rw [updN_s]
  · rw [pk_un e]; show nI (sz j) = nI (updN sz r n j); rw [updN_n e]
theorem ckF_blk {sd : Nat → Int32} {r n : Nat} {w : Nat → Int32} : ckF (wOf (blk sd (6 * r) n w) r) n = ckF w n := by
  unfold ckF
  rw [ckN_congr (w := wOf (blk sd (6 * r) n w) r) (v := w) n (fun t ht => blk_in ht)]
theorem isFL_1 {k : Int32} (h : k = 0) : isFL k = 1 := if_pos h
theorem isFL_0 {k : Int32} (h : ¬ k = 0) : isFL k = 0 := if_neg h
theorem sN2_l {k : Int32} (h : k = 0) : sN2 k = 3 := by unfold sN2; rw [isFL_1 h]; rfl
theorem sN2_s {k : Int32} (h : ¬ k = 0) : sN2 k = 2 := by unfold sN2; rw [isFL_0 h]; rfl
theorem sW2_l {k : Int32} (h : k = 0) (f : Int64) : sW2 k f = upd (upd (sW1 k) 1 (lus f 32).toInt32) (1 + 1) f.toInt32 := by unfold sW2; rw [isFL_1 h]; rfl
theorem sW2_s {k : Int32} (h : ¬ k = 0) (f : Int64) : sW2 k f = upd (sW1 k) 1 f.toInt32 := by unfold sW2; rw [isFL_0 h]; rfl
theorem sN3_l {k : Int32} (h : isSL k = 1) : sN3 k = sN2 k + 1 + 1 := by unfold sN3; rw [h]; rfl
theorem sN3_s {k : Int32} (h : isSL k = 0) : sN3 k = sN2 k + 1 := by unfold sN3; rw [h]; rfl
theorem sW3_l {k : Int32} (h : isSL k = 1) (f g : Int64) : sW3 k f g = upd (upd (sW2 k f) (sN2 k) (lus g 32).toInt32) (sN2 k + 1) g.toInt32 := by unfold sW3; rw [h]; rfl
theorem sW3_s {k : Int32} (h : isSL k = 0) (f g : Int64) : sW3 k f g = upd (sW2 k f) (sN2 k) g.toInt32 := by unfold sW3; rw [h]; rfl
theorem wOK_0 : wOK 0 = 6 := by decide
theorem wOK_2 : wOK 2 = 5 := by decide
theorem wOK_n {k : Int32} (h0 : ¬ k = 0) (h2 : ¬ k = 2) : wOK k = 4 := by
  unfold wOK
  rw [isFL_0 h0, show isSL k = 0 from by unfold isSL; rw [if_neg h0, if_neg h2]]
  rfl
theorem mrc_case {rn : Nat} (h6 : rn ≤ 6) (x : Int32) : (rcS rn x = none ∧ (x < 0 ∨ nI rn ≤ x)) ∨ ∃ r, r < rn ∧ x = nI r ∧ rcS rn (nI r) = some r := by
  by_cases h0 : x < 0
  · exact Or.inl ⟨if_pos h0, Or.inl h0⟩
  by_cases h8 : x < nI rn
  · obtain ⟨k, hk, rfl⟩ := slot_of h0 (by omega) h8
    refine Or.inr ⟨k, hk, rfl, ?_⟩
    unfold rcS
    rw [if_neg h0, if_pos h8, nI_clamp (by omega)]
  · refine Or.inl ⟨?_, Or.inr (Int32.not_lt.mp h8)⟩
    unfold rcS
    rw [if_neg h0, if_neg h8]
theorem mhw_case {rn : Nat} {sz : Nat → Nat} (h6 : rn ≤ 6) (hs : ∀ r, r < rn → sz r ≤ 6) (x y : Int32) : (hwB rn sz x y = false) ∨ (hwB rn sz x y = true ∧ ∃ r t, r < rn ∧ t < sz r ∧ x = nI r ∧ y = nI t ∧ rcS rn (nI r) = some r) := by
  rcases mrc_case h6 x with ⟨hn, -⟩ | ⟨r, hr, rfl, hn⟩
  · exact Or.inl (hw_none hn)
  · rcases hw_case (y := y) hn (hs r hr) with ⟨-, h⟩ | ⟨-, h, t, ht, e⟩
    · exact Or.inl h
    · exact Or.inr ⟨h, r, t, hr, ht, rfl, e, hn⟩
set_option maxRecDepth 100000 in
set_option maxHeartbeats 4000000 in
theorem c_MD_append {l : Launch} {D : va_G} {K : Nat → ClassId} {A : Nat → Prop} {q : Nat → Nat} {kd : Nat → Int32} {f1 f2 : Nat → Int64} {ou nk : Int32} {nf ns hi lo : Int64} {rn : Nat} {zi sd : Nat → Int32} {ix : Int32} {mm wt cd : Nat → Int32} {n : Nat} {w : Nat → Int32} (hr : rn < 6) (hn : n < 6) {x : Int32} : ctV l y_MD_append prog_6_method_20_code 2 0 0 0 [.ref (q 0), .int x] D K A ((mW K q kd f1 f2 ou nk nf ns hi lo (nI rn) (upd zi rn (nI n)) (blk sd (6 * rn) n w) ix mm wt cd)) (fun v => v = (mW K q kd f1 f2 ou nk nf ns hi lo (nI rn) (upd zi rn (nI (n + 1))) (blk sd (6 * rn) (n + 1) (upd w n x)) ix mm wt cd)) := by
  refine mt_of (by decide) (Nat.le_of_ble_eq_true rfl) ?_
  intro p e s m below meth c ls B hw hl
  have hx := B.1
  have hb := B.2.1
  have hl : lv_has ls 2 [(0, .ref (q 0)), (1, .int x)] := hl
  refine lv_aload_n hx hb d_MD_append_0 rfl (lv_at hl 0 rfl) ?_
  refine g_get B hw fl_MD_23 mw_0 rfl d_MD_append_1 ?_
  refine lv_bipush (v := 6) hx hb d_MD_append_4 (by decide) ?_
  refine lv_aload_n hx hb d_MD_append_6 rfl (lv_at hl 0 rfl) ?_
  refine g_get B hw fl_MD_123 mw_0 rfl d_MD_append_7 ?_
  refine lv_imul hx hb d_MD_append_10 ?_
  rw [show (6 : Int32) * nI rn = nI (6 * rn) from pk_mul 6 rn]
  refine lv_aload_n hx hb d_MD_append_11 rfl (lv_at hl 0 rfl) ?_
  refine g_get B hw fl_MD_20 mw_0 rfl d_MD_append_12 ?_
  refine lv_aload_n hx hb d_MD_append_15 rfl (lv_at hl 0 rfl) ?_
  refine g_get B hw fl_MD_123 mw_0 rfl d_MD_append_16 ?_
  refine g_iald B hw mw_4 (vp_in_nI hr (by omega)) d_MD_append_19 ?_
  rw [nI_clamp (by omega), pk_us]
  refine lv_iadd hx hb d_MD_append_20 ?_
  rw [nI_add]
  refine lv_iload_n hx hb d_MD_append_21 rfl (lv_at hl 1 rfl) ?_
  refine g_iast B hw mw_5 (vp_in_nI (by omega) (by omega)) d_MD_append_22 (fun H locs (hw : wd D A (mW K q _ _ _ _ _ _ _ _ _ _ _ _ _ _ _ _) s H locs) => ?_)
  rw [nI_clamp (by omega), blk_upd] at hw
  refine lv_aload_n hx hb d_MD_append_23 rfl (lv_at hl 0 rfl) ?_
  refine g_get B hw fl_MD_20 mw_0 rfl d_MD_append_24 ?_
  refine lv_aload_n hx hb d_MD_append_27 rfl (lv_at hl 0 rfl) ?_
  refine g_get B hw fl_MD_123 mw_0 rfl d_MD_append_28 ?_
  refine lv_dup2_11 hx hb d_MD_append_31 rfl rfl ?_
  refine g_iald B hw mw_4 (vp_in_nI hr (by omega)) d_MD_append_32 ?_
  rw [nI_clamp (by omega), pk_us]
  refine lv_iconst (v := 1) hx hb d_MD_append_33 (by decide) ?_
  refine lv_iadd hx hb d_MD_append_34 ?_
  rw [← nI_succ n]
  refine g_iast B hw mw_4 (vp_in_nI hr (by omega)) d_MD_append_35 (fun H locs (hw : wd D A (mW K q _ _ _ _ _ _ _ _ _ _ _ _ _ _ _ _) s H locs) => ?_)
  rw [nI_clamp (by omega), upd_upd] at hw
  exact r_v B hw d_MD_append_36 rfl
set_option maxRecDepth 100000 in
set_option maxHeartbeats 4000000 in
theorem c_MD_appendLong {l : Launch} {D : va_G} {K : Nat → ClassId} {A : Nat → Prop} {q : Nat → Nat} {kd : Nat → Int32} {f1 f2 : Nat → Int64} {ou nk : Int32} {nf ns hi lo : Int64} {rn : Nat} {zi sd : Nat → Int32} {ix : Int32} {mm wt cd : Nat → Int32} {n : Nat} {w : Nat → Int32} (hr : rn < 6) (hn : n + 1 < 6) {x : Int64} : ctV l y_MD_appendLong prog_6_method_21_code 3 1 0 0 [.ref (q 0), .long x] D K A ((mW K q kd f1 f2 ou nk nf ns hi lo (nI rn) (upd zi rn (nI n)) (blk sd (6 * rn) n w) ix mm wt cd)) (fun v => v = (mW K q kd f1 f2 ou nk nf ns hi lo (nI rn) (upd zi rn (nI (n + 1 + 1))) (blk sd (6 * rn) (n + 1 + 1) (upd (upd w n (lus x 32).toInt32) (n + 1) x.toInt32)) ix mm wt cd)) := by
  refine mt_of (by decide) (Nat.le_of_ble_eq_true rfl) ?_
  intro p e s m below meth c ls B hw hl
  have hx := B.1
  have hb := B.2.1
  have hl : lv_has ls 3 [(0, .ref (q 0)), (1, .long x)] := hl
  refine lv_aload_n hx hb d_MD_appendLong_0 rfl (lv_at hl 0 rfl) ?_
  refine lv_lload_n hx hb d_MD_appendLong_1 rfl (lv_at hl 1 rfl) ?_
  refine lv_bipush (v := 32) hx hb d_MD_appendLong_2 (by decide) ?_
  refine lv_lshr hx hb d_MD_appendLong_4 rfl ?_
  refine lv_l2i hx hb d_MD_appendLong_5 rfl ?_
  rw [sar32]
  refine k_v (k_runV B hw (c_MD_append hr (by omega)) rfl rfl cf_MD_126 mw_0 rfl rfl ⟨Nat.le_of_ble_eq_true rfl, Nat.le_of_ble_eq_true rfl⟩ rfl hl.1 rfl (Nat.le_of_ble_eq_true rfl) d_MD_appendLong_6 ⟨Nat.le_of_ble_eq_true rfl, Nat.le_of_ble_eq_true rfl⟩) hw (fun w1 H locs hq hw => ?_)
  rw [hq] at hw
  refine lv_aload_n hx hb d_MD_appendLong_9 rfl (lv_at hl 0 rfl) ?_
  refine lv_lload_n hx hb d_MD_appendLong_10 rfl (lv_at hl 1 rfl) ?_
  refine lv_l2i hx hb d_MD_appendLong_11 rfl ?_
  refine k_v (k_runV B hw (c_MD_append hr hn) rfl rfl cf_MD_126 mw_0 rfl rfl ⟨Nat.le_of_ble_eq_true rfl, Nat.le_of_ble_eq_true rfl⟩ rfl hl.1 rfl (Nat.le_of_ble_eq_true rfl) d_MD_appendLong_12 ⟨Nat.le_of_ble_eq_true rfl, Nat.le_of_ble_eq_true rfl⟩) hw (fun w1 H locs hq hw => ?_)
  rw [hq] at hw
  exact r_v B hw d_MD_appendLong_15 rfl
set_option maxRecDepth 100000 in
set_option maxHeartbeats 4000000 in
theorem c_MD_check {l : Launch} {D : va_G} {K : Nat → ClassId} {A : Nat → Prop} {q : Nat → Nat} {kd : Nat → Int32} {f1 f2 : Nat → Int64} {ou nk : Int32} {nf ns hi lo : Int64} {rn : Nat} {zi sd : Nat → Int32} {ix : Int32} {mm wt cd : Nat → Int32} {r z : Nat} (hr : r < 6) (hz : z ≤ 6) : ctI l y_MD_check prog_6_method_22_code 5 (some .int) 0 0 0 [.ref (q 0), .int (nI r), .int (nI z)] D K A ((mW K q kd f1 f2 ou nk nf ns hi lo (nI rn) zi sd ix mm wt cd)) (fun t v => t = ckF (wOf sd r) z ∧ v = (mW K q kd f1 f2 ou nk nf ns hi lo (nI rn) zi sd ix mm wt cd)) := by
  refine mt_of (by decide) (Nat.le_of_ble_eq_true rfl) ?_
  intro p e s m below meth c ls B hw hl
  have hx := B.1
  have hb := B.2.1
  have hl : lv_has ls 5 [(0, .ref (q 0)), (1, .int (nI r)), (2, .int (nI z))] := hl
  refine lv_iconst (v := 1) hx hb d_MD_check_0 (by decide) ?_
  refine lv_istore_n hx hb d_MD_check_1 rfl hl (by decide) rfl (fun ls (hl : lv_has ls 5 [(3, .int _), (0, .ref _), (1, .int _), (2, .int _)]) => ?_)
  refine lv_iconst (v := 0) hx hb d_MD_check_2 (by decide) ?_
  refine lv_istore hx hb d_MD_check_3 hl (by decide) rfl (fun ls (hl : lv_has ls 5 [(4, .int _), (3, .int _), (0, .ref _), (1, .int _), (2, .int _)]) => ?_)
  refine lp_w (σ := Nat) (fun i => z - i) (fun i H locs ls => i ≤ z ∧ lv_has ls 5 [(4, .int (nI i)), (3, .int (ckN (wOf sd r) i)), (0, .ref (q 0)), (1, .int (nI r)), (2, .int (nI z))] ∧ wd D A (mW K q kd f1 f2 ou nk nf ns hi lo (nI rn) zi sd ix mm wt cd) s H locs) ?_ 0 _ _ _ ⟨by omega, lv_sub hl [0, 1, 2, 3, 4] rfl, hw⟩
  rintro i H locs ls ⟨hi6, hl, hw⟩ ih
  refine lv_iload hx hb d_MD_check_5 (lv_at hl 0 rfl) ?_
  refine lv_iload_n hx hb d_MD_check_7 rfl (lv_at hl 4 rfl) ?_
  refine lv_icmp_ge (tgt := 35) hx hb d_MD_check_8 rfl (fun h8 => ?_) (fun h8 => ?_)
  · have h8 : z ≤ i := (nI_leI (a := z) (by omega) (by omega)).mp h8
    have hend : i = z := by omega
    refine lv_iload_n hx hb d_MD_check_35 rfl (lv_at hl 1 rfl) ?_
    refine lv_iload_n hx hb d_MD_check_36 rfl (lv_at hl 1 rfl) ?_
    refine lv_bipush (v := 15) hx hb d_MD_check_37 (by decide) ?_
    refine lv_iushr hx hb d_MD_check_39 rfl ?_
    refine lv_ixor hx hb d_MD_check_40 ?_
    exact r_i B hw d_MD_check_41 ⟨by rw [hend]; rfl, rfl⟩
  · have h8 : i < z := Nat.lt_of_not_le (fun q => h8 ((nI_leI (a := z) (by omega) (by omega)).mpr q))
    refine lv_bipush (v := 31) hx hb d_MD_check_11 (by decide) ?_
    refine lv_iload_n hx hb d_MD_check_13 rfl (lv_at hl 1 rfl) ?_
    refine lv_imul hx hb d_MD_check_14 ?_
    refine lv_aload_n hx hb d_MD_check_15 rfl (lv_at hl 2 rfl) ?_
    refine g_get B hw fl_MD_23 mw_0 rfl d_MD_check_16 ?_
    refine lv_bipush (v := 6) hx hb d_MD_check_19 (by decide) ?_
    refine lv_iload_n hx hb d_MD_check_21 rfl (lv_at hl 3 rfl) ?_
    refine lv_imul hx hb d_MD_check_22 ?_
    rw [show (6 : Int32) * nI r = nI (6 * r) from pk_mul 6 r]
    refine lv_iload hx hb d_MD_check_23 (lv_at hl 0 rfl) ?_
    refine lv_iadd hx hb d_MD_check_25 ?_
    rw [nI_add]
    refine g_iald B hw mw_5 (vp_in_nI (by omega) (by omega)) d_MD_check_26 ?_
    rw [nI_clamp (by omega)]
    refine lv_iadd hx hb d_MD_check_27 ?_
    refine lv_istore_n hx hb d_MD_check_28 rfl hl (by decide) rfl (fun ls (hl : lv_has ls 5 [(3, .int _), (4, .int _), (0, .ref _), (1, .int _), (2, .int _)]) => ?_)
    refine lv_iinc (k := 1) hx hb d_MD_check_29 hl rfl (show nI i + Int32.ofInt 1 = nI (i + 1) from (nI_succ i).symm) (by decide) rfl (fun ls (hl : lv_has ls 5 [(4, .int (nI (i + 1))), (3, .int _), (0, .ref _), (1, .int _), (2, .int _)]) => ?_)
    refine lv_goto (tgt := 5) hx hb d_MD_check_32 rfl ?_
    exact ih (i + 1) _ _ _ (by omega) ⟨by omega, lv_sub hl [0, 1, 2, 3, 4] rfl, hw⟩
set_option maxRecDepth 100000 in
set_option maxHeartbeats 4000000 in
theorem c_MD_save {l : Launch} {D : va_G} {K : Nat → ClassId} {A : Nat → Prop} {q : Nat → Nat} {kd : Nat → Int32} {f1 f2 : Nat → Int64} {ou nk : Int32} {nf ns hi lo : Int64} {rn : Nat} {sd : Nat → Int32} {ix : Int32} {mm wt cd : Nat → Int32} {sz : Nat → Nat} (h6 : rn ≤ 6) {x : Int32} : ctI l y_MD_save prog_6_method_23_code 3 (some .int) 2 0 0 [.ref (q 0), .int x] D K A ((mW K q kd f1 f2 ou nk nf ns hi lo (nI rn) (zN sz) sd ix mm wt cd)) (fun r w => r = saA kd rn x ∧ MR K q kd f1 f2 (nI (saR kd rn x)) (zN (saZ kd rn sz x)) (saD kd f1 f2 rn sd x) ix wt cd w) := by
  refine mt_of (by decide) (Nat.le_of_ble_eq_true rfl) ?_
  intro p e s m below meth c ls B hw hl
  have hx := B.1
  have hb := B.2.1
  have hl : lv_has ls 3 [(0, .ref (q 0)), (1, .int x)] := hl
  refine lv_aload_n hx hb d_MD_save_0 rfl (lv_at hl 0 rfl) ?_
  refine lv_iload_n hx hb d_MD_save_1 rfl (lv_at hl 1 rfl) ?_
  refine k_i (k_runV B hw c_MD_holds rfl rfl cf_MD_109 mw_0 rfl rfl ⟨Nat.le_of_ble_eq_true rfl, Nat.le_of_ble_eq_true rfl⟩ rfl hl.1 rfl (Nat.le_of_ble_eq_true rfl) d_MD_save_2 ⟨Nat.le_of_ble_eq_true rfl, Nat.le_of_ble_eq_true rfl⟩) hw (fun r2 w1 H locs hq hw => ?_)
  obtain ⟨rfl, ew⟩ := hq
  rw [ew] at hw
  rcases hd_case kd x with ⟨hn, hz⟩ | ⟨k, hk8, rfl, hn, hkd, hz⟩
  · rw [hz]
    refine lv_if_eq (tgt := 17) hx hb d_MD_save_5 rfl (fun b5 => ?_) (fun b5 => ?_)
    · refine lv_iconst (v := (-1)) hx hb d_MD_save_17 (by decide) ?_
      exact r_i B hw d_MD_save_18 ⟨by unfold saA; rw [onS_n hn], by unfold saR saZ saD; rw [onS_n hn, onS_n hn, onS_n hn]; exact ⟨_, _, _, _, _, _, _, rfl⟩⟩
    · exact absurd rfl b5
  · rw [hz]
    obtain ⟨c2, c3, c4⟩ := svN_le (kd k)
    refine lv_if_eq (tgt := 17) hx hb d_MD_save_5 rfl (fun b5 => ?_) (fun b5 => ?_)
    · exact absurd b5 (by decide)
    · refine lv_aload_n hx hb d_MD_save_8 rfl (lv_at hl 0 rfl) ?_
      refine g_get B hw fl_MD_123 mw_0 rfl d_MD_save_9 ?_
      refine lv_bipush (v := 6) hx hb d_MD_save_12 (by decide) ?_
      refine lv_icmp_ne (tgt := 19) hx hb d_MD_save_14 rfl (fun h14 => ?_) (fun h14 => ?_)
      · have h14 : rn < 6 := Nat.lt_of_not_le (fun z => h14 (by rw [show rn = 6 by omega]; rfl))
        refine lv_aload_n hx hb d_MD_save_19 rfl (lv_at hl 0 rfl) ?_
        refine g_get B hw fl_MD_20 mw_0 rfl d_MD_save_20 ?_
        refine lv_aload_n hx hb d_MD_save_23 rfl (lv_at hl 0 rfl) ?_
        refine g_get B hw fl_MD_123 mw_0 rfl d_MD_save_24 ?_
        refine lv_iconst (v := 0) hx hb d_MD_save_27 (by decide) ?_
        refine g_iast B hw mw_4 (vp_in_nI h14 (by omega)) d_MD_save_28 (fun H locs (hw : wd D A (mW K q _ _ _ _ _ _ _ _ _ _ _ _ _ _ _ _) s H locs) => ?_)
        rw [nI_clamp (by omega)] at hw
        have hw : wd D A (mW K q kd f1 f2 ou nk nf ns hi lo (nI rn) (upd (zN sz) rn (nI (0))) (blk sd (6 * rn) (0) (fun _ => 0)) ix mm wt cd) s H locs := by rw [blk_0]; exact hw
        refine lv_aload_n hx hb d_MD_save_29 rfl (lv_at hl 0 rfl) ?_
        refine g_ldc B kc_MD_129 d_MD_save_30 ?_
        refine lv_aload_n hx hb d_MD_save_32 rfl (lv_at hl 0 rfl) ?_
        refine g_get B hw fl_MD_7 mw_0 rfl d_MD_save_33 ?_
        refine lv_iload_n hx hb d_MD_save_36 rfl (lv_at hl 1 rfl) ?_
        refine g_iald B hw mw_1 (vp_in_nI hk8 (by omega)) d_MD_save_37 ?_
        rw [nI_clamp (by omega)]
        refine lv_iadd hx hb d_MD_save_38 ?_
        refine k_v (k_runV B hw (c_MD_append h14 (by omega)) rfl rfl cf_MD_126 mw_0 rfl rfl ⟨Nat.le_of_ble_eq_true rfl, Nat.le_of_ble_eq_true rfl⟩ rfl hl.1 rfl (Nat.le_of_ble_eq_true rfl) d_MD_save_39 ⟨Nat.le_of_ble_eq_true rfl, Nat.le_of_ble_eq_true rfl⟩) hw (fun w1 H locs hq hw => ?_)
        rw [hq] at hw
        have hw : wd D A (mW K q kd f1 f2 ou nk nf ns hi lo (nI rn) (upd (zN sz) rn (nI (1))) (blk sd (6 * rn) (1) (sW1 (kd k))) ix mm wt cd) s H locs := hw
        refine lv_aload_n hx hb d_MD_save_42 rfl (lv_at hl 0 rfl) ?_
        refine g_get B hw fl_MD_7 mw_0 rfl d_MD_save_43 ?_
        refine lv_iload_n hx hb d_MD_save_46 rfl (lv_at hl 1 rfl) ?_
        refine g_iald B hw mw_1 (vp_in_nI hk8 (by omega)) d_MD_save_47 ?_
        rw [nI_clamp (by omega)]
        refine lv_if_ne (tgt := 64) hx hb d_MD_save_48 rfl (fun h48 => ?_) (fun h48 => ?_)
        · refine lv_aload_n hx hb d_MD_save_64 rfl (lv_at hl 0 rfl) ?_
          refine lv_aload_n hx hb d_MD_save_65 rfl (lv_at hl 0 rfl) ?_
          refine g_get B hw fl_MD_13 mw_0 rfl d_MD_save_66 ?_
          refine lv_iload_n hx hb d_MD_save_69 rfl (lv_at hl 1 rfl) ?_
          refine g_lald B hw mw_2 (vp_in_nI hk8 (by omega)) d_MD_save_70 ?_
          rw [nI_clamp (by omega)]
          refine lv_l2i hx hb d_MD_save_71 rfl ?_
          refine k_v (k_runV B hw (c_MD_append h14 (by omega)) rfl rfl cf_MD_126 mw_0 rfl rfl ⟨Nat.le_of_ble_eq_true rfl, Nat.le_of_ble_eq_true rfl⟩ rfl hl.1 rfl (Nat.le_of_ble_eq_true rfl) d_MD_save_72 ⟨Nat.le_of_ble_eq_true rfl, Nat.le_of_ble_eq_true rfl⟩) hw (fun w1 H locs hq hw => ?_)
          rw [hq] at hw
          have hw : wd D A (mW K q kd f1 f2 ou nk nf ns hi lo (nI rn) (upd (zN sz) rn (nI (sN2 (kd k)))) (blk sd (6 * rn) (sN2 (kd k)) (sW2 (kd k) (f1 k))) ix mm wt cd) s H locs := by rw [sN2_s h48, sW2_s h48]; exact hw
          refine lv_aload_n hx hb d_MD_save_75 rfl (lv_at hl 0 rfl) ?_
          refine g_get B hw fl_MD_7 mw_0 rfl d_MD_save_76 ?_
          refine lv_iload_n hx hb d_MD_save_79 rfl (lv_at hl 1 rfl) ?_
          refine g_iald B hw mw_1 (vp_in_nI hk8 (by omega)) d_MD_save_80 ?_
          rw [nI_clamp (by omega)]
          refine lv_if_eq (tgt := 94) hx hb d_MD_save_81 rfl (fun h81 => ?_) (fun h81 => ?_)
          · have hsl : isSL (kd k) = 1 := if_pos h81
            refine lv_aload_n hx hb d_MD_save_94 rfl (lv_at hl 0 rfl) ?_
            refine lv_aload_n hx hb d_MD_save_95 rfl (lv_at hl 0 rfl) ?_
            refine g_get B hw fl_MD_17 mw_0 rfl d_MD_save_96 ?_
            refine lv_iload_n hx hb d_MD_save_99 rfl (lv_at hl 1 rfl) ?_
            refine g_lald B hw mw_3 (vp_in_nI hk8 (by omega)) d_MD_save_100 ?_
            rw [nI_clamp (by omega)]
            refine k_v (k_runV B hw (c_MD_appendLong h14 (by have := sN3_l hsl; omega)) rfl rfl cf_MD_130 mw_0 rfl rfl ⟨Nat.le_of_ble_eq_true rfl, Nat.le_of_ble_eq_true rfl⟩ rfl hl.1 rfl (Nat.le_of_ble_eq_true rfl) d_MD_save_101 ⟨Nat.le_of_ble_eq_true rfl, Nat.le_of_ble_eq_true rfl⟩) hw (fun w1 H locs hq hw => ?_)
            rw [hq] at hw
            have hw : wd D A (mW K q kd f1 f2 ou nk nf ns hi lo (nI rn) (upd (zN sz) rn (nI (sN3 (kd k)))) (blk sd (6 * rn) (sN3 (kd k)) (sW3 (kd k) (f1 k) (f2 k))) ix mm wt cd) s H locs := by rw [sN3_l hsl, sW3_l hsl]; exact hw
            refine lv_goto (tgt := 118) hx hb d_MD_save_104 rfl ?_
            refine lv_aload_n hx hb d_MD_save_118 rfl (lv_at hl 0 rfl) ?_
            refine lv_aload_n hx hb d_MD_save_119 rfl (lv_at hl 0 rfl) ?_
            refine g_get B hw fl_MD_123 mw_0 rfl d_MD_save_120 ?_
            refine lv_aload_n hx hb d_MD_save_123 rfl (lv_at hl 0 rfl) ?_
            refine g_get B hw fl_MD_20 mw_0 rfl d_MD_save_124 ?_
            refine lv_aload_n hx hb d_MD_save_127 rfl (lv_at hl 0 rfl) ?_
            refine g_get B hw fl_MD_123 mw_0 rfl d_MD_save_128 ?_
            refine g_iald B hw mw_4 (vp_in_nI h14 (by omega)) d_MD_save_131 ?_
            rw [nI_clamp (by omega), pk_us]
            refine k_i (k_runV B hw (c_MD_check h14 (by omega)) rfl rfl cf_MD_134 mw_0 rfl rfl ⟨Nat.le_of_ble_eq_true rfl, Nat.le_of_ble_eq_true rfl⟩ rfl hl.1 rfl (Nat.le_of_ble_eq_true rfl) d_MD_save_132 ⟨Nat.le_of_ble_eq_true rfl, Nat.le_of_ble_eq_true rfl⟩) hw (fun r132 w1 H locs hq hw => ?_)
            have er := hq.1
            have ew := hq.2
            rw [ew] at hw
            rw [er, ckF_blk]
            refine lv_istore_n hx hb d_MD_save_135 rfl hl (by decide) rfl (fun ls (hl : lv_has ls 3 [(2, .int _), (0, .ref _), (1, .int _)]) => ?_)
            refine lv_aload_n hx hb d_MD_save_136 rfl (lv_at hl 1 rfl) ?_
            refine lv_iload_n hx hb d_MD_save_137 rfl (lv_at hl 0 rfl) ?_
            refine k_v (k_runV B hw (c_MD_append h14 (by omega)) rfl rfl cf_MD_126 mw_0 rfl rfl ⟨Nat.le_of_ble_eq_true rfl, Nat.le_of_ble_eq_true rfl⟩ rfl hl.1 rfl (Nat.le_of_ble_eq_true rfl) d_MD_save_138 ⟨Nat.le_of_ble_eq_true rfl, Nat.le_of_ble_eq_true rfl⟩) hw (fun w1 H locs hq hw => ?_)
            rw [hq] at hw
            have hw : wd D A (mW K q kd f1 f2 ou nk nf ns hi lo (nI rn) (upd (zN sz) rn (nI (svN (kd k)))) (blk sd (6 * rn) (svN (kd k)) (svF (kd k) (f1 k) (f2 k))) ix mm wt cd) s H locs := hw
            refine lv_aload_n hx hb d_MD_save_141 rfl (lv_at hl 1 rfl) ?_
            refine lv_dup hx hb d_MD_save_142 rfl ?_
            refine g_get B hw fl_MD_123 mw_0 rfl d_MD_save_143 ?_
            refine lv_iconst (v := 1) hx hb d_MD_save_146 (by decide) ?_
            refine lv_iadd hx hb d_MD_save_147 ?_
            rw [← nI_succ rn]
            refine g_put B hw fl_MD_123 ck_MD mw_0 rfl rfl rfl (Nat.le_of_ble_eq_true rfl) d_MD_save_148 (fun H locs (hw : wd D A (mW K q _ _ _ _ _ _ _ _ _ _ _ _ _ _ _ _) s H locs) => ?_)
            refine lv_aload_n hx hb d_MD_save_151 rfl (lv_at hl 1 rfl) ?_
            refine g_get B hw fl_MD_123 mw_0 rfl d_MD_save_152 ?_
            refine lv_iconst (v := 1) hx hb d_MD_save_155 (by decide) ?_
            refine lv_isub hx hb d_MD_save_156 ?_
            rw [nI_pred]
            exact r_i B hw d_MD_save_157 ⟨by unfold saA; rw [onS_s hn]; exact (if_pos h14).symm, by unfold saR saZ saD; rw [onS_s hn, onS_s hn, onS_s hn]; (try dsimp only); rw [if_pos h14, if_pos h14, if_pos h14, ← zN_upd]; exact ⟨_, _, _, _, _, _, _, rfl⟩⟩
          · refine lv_aload_n hx hb d_MD_save_84 rfl (lv_at hl 0 rfl) ?_
            refine g_get B hw fl_MD_7 mw_0 rfl d_MD_save_85 ?_
            refine lv_iload_n hx hb d_MD_save_88 rfl (lv_at hl 1 rfl) ?_
            refine g_iald B hw mw_1 (vp_in_nI hk8 (by omega)) d_MD_save_89 ?_
            rw [nI_clamp (by omega)]
            refine lv_iconst (v := 2) hx hb d_MD_save_90 (by decide) ?_
            refine lv_icmp_ne (tgt := 107) hx hb d_MD_save_91 rfl (fun h91 => ?_) (fun h91 => ?_)
            · have hsl : isSL (kd k) = 0 := by unfold isSL; rw [if_neg h81, if_neg h91]
              refine lv_aload_n hx hb d_MD_save_107 rfl (lv_at hl 0 rfl) ?_
              refine lv_aload_n hx hb d_MD_save_108 rfl (lv_at hl 0 rfl) ?_
              refine g_get B hw fl_MD_17 mw_0 rfl d_MD_save_109 ?_
              refine lv_iload_n hx hb d_MD_save_112 rfl (lv_at hl 1 rfl) ?_
              refine g_lald B hw mw_3 (vp_in_nI hk8 (by omega)) d_MD_save_113 ?_
              rw [nI_clamp (by omega)]
              refine lv_l2i hx hb d_MD_save_114 rfl ?_
              refine k_v (k_runV B hw (c_MD_append h14 (by omega)) rfl rfl cf_MD_126 mw_0 rfl rfl ⟨Nat.le_of_ble_eq_true rfl, Nat.le_of_ble_eq_true rfl⟩ rfl hl.1 rfl (Nat.le_of_ble_eq_true rfl) d_MD_save_115 ⟨Nat.le_of_ble_eq_true rfl, Nat.le_of_ble_eq_true rfl⟩) hw (fun w1 H locs hq hw => ?_)
              rw [hq] at hw
              have hw : wd D A (mW K q kd f1 f2 ou nk nf ns hi lo (nI rn) (upd (zN sz) rn (nI (sN3 (kd k)))) (blk sd (6 * rn) (sN3 (kd k)) (sW3 (kd k) (f1 k) (f2 k))) ix mm wt cd) s H locs := by rw [sN3_s hsl, sW3_s hsl]; exact hw
              refine lv_aload_n hx hb d_MD_save_118 rfl (lv_at hl 0 rfl) ?_
              refine lv_aload_n hx hb d_MD_save_119 rfl (lv_at hl 0 rfl) ?_
              refine g_get B hw fl_MD_123 mw_0 rfl d_MD_save_120 ?_
              refine lv_aload_n hx hb d_MD_save_123 rfl (lv_at hl 0 rfl) ?_
              refine g_get B hw fl_MD_20 mw_0 rfl d_MD_save_124 ?_
              refine lv_aload_n hx hb d_MD_save_127 rfl (lv_at hl 0 rfl) ?_
              refine g_get B hw fl_MD_123 mw_0 rfl d_MD_save_128 ?_
              refine g_iald B hw mw_4 (vp_in_nI h14 (by omega)) d_MD_save_131 ?_
              rw [nI_clamp (by omega), pk_us]
              refine k_i (k_runV B hw (c_MD_check h14 (by omega)) rfl rfl cf_MD_134 mw_0 rfl rfl ⟨Nat.le_of_ble_eq_true rfl, Nat.le_of_ble_eq_true rfl⟩ rfl hl.1 rfl (Nat.le_of_ble_eq_true rfl) d_MD_save_132 ⟨Nat.le_of_ble_eq_true rfl, Nat.le_of_ble_eq_true rfl⟩) hw (fun r132 w1 H locs hq hw => ?_)
              have er := hq.1
              have ew := hq.2
              rw [ew] at hw
              rw [er, ckF_blk]
              refine lv_istore_n hx hb d_MD_save_135 rfl hl (by decide) rfl (fun ls (hl : lv_has ls 3 [(2, .int _), (0, .ref _), (1, .int _)]) => ?_)
              refine lv_aload_n hx hb d_MD_save_136 rfl (lv_at hl 1 rfl) ?_
              refine lv_iload_n hx hb d_MD_save_137 rfl (lv_at hl 0 rfl) ?_
              refine k_v (k_runV B hw (c_MD_append h14 (by omega)) rfl rfl cf_MD_126 mw_0 rfl rfl ⟨Nat.le_of_ble_eq_true rfl, Nat.le_of_ble_eq_true rfl⟩ rfl hl.1 rfl (Nat.le_of_ble_eq_true rfl) d_MD_save_138 ⟨Nat.le_of_ble_eq_true rfl, Nat.le_of_ble_eq_true rfl⟩) hw (fun w1 H locs hq hw => ?_)
              rw [hq] at hw
              have hw : wd D A (mW K q kd f1 f2 ou nk nf ns hi lo (nI rn) (upd (zN sz) rn (nI (svN (kd k)))) (blk sd (6 * rn) (svN (kd k)) (svF (kd k) (f1 k) (f2 k))) ix mm wt cd) s H locs := hw
              refine lv_aload_n hx hb d_MD_save_141 rfl (lv_at hl 1 rfl) ?_
              refine lv_dup hx hb d_MD_save_142 rfl ?_
              refine g_get B hw fl_MD_123 mw_0 rfl d_MD_save_143 ?_
              refine lv_iconst (v := 1) hx hb d_MD_save_146 (by decide) ?_
              refine lv_iadd hx hb d_MD_save_147 ?_
              rw [← nI_succ rn]
              refine g_put B hw fl_MD_123 ck_MD mw_0 rfl rfl rfl (Nat.le_of_ble_eq_true rfl) d_MD_save_148 (fun H locs (hw : wd D A (mW K q _ _ _ _ _ _ _ _ _ _ _ _ _ _ _ _) s H locs) => ?_)
              refine lv_aload_n hx hb d_MD_save_151 rfl (lv_at hl 1 rfl) ?_
              refine g_get B hw fl_MD_123 mw_0 rfl d_MD_save_152 ?_
              refine lv_iconst (v := 1) hx hb d_MD_save_155 (by decide) ?_
              refine lv_isub hx hb d_MD_save_156 ?_
              rw [nI_pred]
              exact r_i B hw d_MD_save_157 ⟨by unfold saA; rw [onS_s hn]; exact (if_pos h14).symm, by unfold saR saZ saD; rw [onS_s hn, onS_s hn, onS_s hn]; (try dsimp only); rw [if_pos h14, if_pos h14, if_pos h14, ← zN_upd]; exact ⟨_, _, _, _, _, _, _, rfl⟩⟩
            · have hsl : isSL (kd k) = 1 := by unfold isSL; rw [if_neg h81, if_pos h91]
              refine lv_aload_n hx hb d_MD_save_94 rfl (lv_at hl 0 rfl) ?_
              refine lv_aload_n hx hb d_MD_save_95 rfl (lv_at hl 0 rfl) ?_
              refine g_get B hw fl_MD_17 mw_0 rfl d_MD_save_96 ?_
              refine lv_iload_n hx hb d_MD_save_99 rfl (lv_at hl 1 rfl) ?_
              refine g_lald B hw mw_3 (vp_in_nI hk8 (by omega)) d_MD_save_100 ?_
              rw [nI_clamp (by omega)]
              refine k_v (k_runV B hw (c_MD_appendLong h14 (by have := sN3_l hsl; omega)) rfl rfl cf_MD_130 mw_0 rfl rfl ⟨Nat.le_of_ble_eq_true rfl, Nat.le_of_ble_eq_true rfl⟩ rfl hl.1 rfl (Nat.le_of_ble_eq_true rfl) d_MD_save_101 ⟨Nat.le_of_ble_eq_true rfl, Nat.le_of_ble_eq_true rfl⟩) hw (fun w1 H locs hq hw => ?_)
              rw [hq] at hw
              have hw : wd D A (mW K q kd f1 f2 ou nk nf ns hi lo (nI rn) (upd (zN sz) rn (nI (sN3 (kd k)))) (blk sd (6 * rn) (sN3 (kd k)) (sW3 (kd k) (f1 k) (f2 k))) ix mm wt cd) s H locs := by rw [sN3_l hsl, sW3_l hsl]; exact hw
              refine lv_goto (tgt := 118) hx hb d_MD_save_104 rfl ?_
              refine lv_aload_n hx hb d_MD_save_118 rfl (lv_at hl 0 rfl) ?_
              refine lv_aload_n hx hb d_MD_save_119 rfl (lv_at hl 0 rfl) ?_
              refine g_get B hw fl_MD_123 mw_0 rfl d_MD_save_120 ?_
              refine lv_aload_n hx hb d_MD_save_123 rfl (lv_at hl 0 rfl) ?_
              refine g_get B hw fl_MD_20 mw_0 rfl d_MD_save_124 ?_
              refine lv_aload_n hx hb d_MD_save_127 rfl (lv_at hl 0 rfl) ?_
              refine g_get B hw fl_MD_123 mw_0 rfl d_MD_save_128 ?_
              refine g_iald B hw mw_4 (vp_in_nI h14 (by omega)) d_MD_save_131 ?_
              rw [nI_clamp (by omega), pk_us]
              refine k_i (k_runV B hw (c_MD_check h14 (by omega)) rfl rfl cf_MD_134 mw_0 rfl rfl ⟨Nat.le_of_ble_eq_true rfl, Nat.le_of_ble_eq_true rfl⟩ rfl hl.1 rfl (Nat.le_of_ble_eq_true rfl) d_MD_save_132 ⟨Nat.le_of_ble_eq_true rfl, Nat.le_of_ble_eq_true rfl⟩) hw (fun r132 w1 H locs hq hw => ?_)
              have er := hq.1
              have ew := hq.2
              rw [ew] at hw
              rw [er, ckF_blk]
              refine lv_istore_n hx hb d_MD_save_135 rfl hl (by decide) rfl (fun ls (hl : lv_has ls 3 [(2, .int _), (0, .ref _), (1, .int _)]) => ?_)
              refine lv_aload_n hx hb d_MD_save_136 rfl (lv_at hl 1 rfl) ?_
              refine lv_iload_n hx hb d_MD_save_137 rfl (lv_at hl 0 rfl) ?_
              refine k_v (k_runV B hw (c_MD_append h14 (by omega)) rfl rfl cf_MD_126 mw_0 rfl rfl ⟨Nat.le_of_ble_eq_true rfl, Nat.le_of_ble_eq_true rfl⟩ rfl hl.1 rfl (Nat.le_of_ble_eq_true rfl) d_MD_save_138 ⟨Nat.le_of_ble_eq_true rfl, Nat.le_of_ble_eq_true rfl⟩) hw (fun w1 H locs hq hw => ?_)
              rw [hq] at hw
              have hw : wd D A (mW K q kd f1 f2 ou nk nf ns hi lo (nI rn) (upd (zN sz) rn (nI (svN (kd k)))) (blk sd (6 * rn) (svN (kd k)) (svF (kd k) (f1 k) (f2 k))) ix mm wt cd) s H locs := hw
              refine lv_aload_n hx hb d_MD_save_141 rfl (lv_at hl 1 rfl) ?_
              refine lv_dup hx hb d_MD_save_142 rfl ?_
              refine g_get B hw fl_MD_123 mw_0 rfl d_MD_save_143 ?_
              refine lv_iconst (v := 1) hx hb d_MD_save_146 (by decide) ?_
              refine lv_iadd hx hb d_MD_save_147 ?_
              rw [← nI_succ rn]
              refine g_put B hw fl_MD_123 ck_MD mw_0 rfl rfl rfl (Nat.le_of_ble_eq_true rfl) d_MD_save_148 (fun H locs (hw : wd D A (mW K q _ _ _ _ _ _ _ _ _ _ _ _ _ _ _ _) s H locs) => ?_)
              refine lv_aload_n hx hb d_MD_save_151 rfl (lv_at hl 1 rfl) ?_
              refine g_get B hw fl_MD_123 mw_0 rfl d_MD_save_152 ?_
              refine lv_iconst (v := 1) hx hb d_MD_save_155 (by decide) ?_
              refine lv_isub hx hb d_MD_save_156 ?_
              rw [nI_pred]
              exact r_i B hw d_MD_save_157 ⟨by unfold saA; rw [onS_s hn]; exact (if_pos h14).symm, by unfold saR saZ saD; rw [onS_s hn, onS_s hn, onS_s hn]; (try dsimp only); rw [if_pos h14, if_pos h14, if_pos h14, ← zN_upd]; exact ⟨_, _, _, _, _, _, _, rfl⟩⟩
        · refine lv_aload_n hx hb d_MD_save_51 rfl (lv_at hl 0 rfl) ?_
          refine lv_aload_n hx hb d_MD_save_52 rfl (lv_at hl 0 rfl) ?_
          refine g_get B hw fl_MD_13 mw_0 rfl d_MD_save_53 ?_
          refine lv_iload_n hx hb d_MD_save_56 rfl (lv_at hl 1 rfl) ?_
          refine g_lald B hw mw_2 (vp_in_nI hk8 (by omega)) d_MD_save_57 ?_
          rw [nI_clamp (by omega)]
          refine k_v (k_runV B hw (c_MD_appendLong h14 (by omega)) rfl rfl cf_MD_130 mw_0 rfl rfl ⟨Nat.le_of_ble_eq_true rfl, Nat.le_of_ble_eq_true rfl⟩ rfl hl.1 rfl (Nat.le_of_ble_eq_true rfl) d_MD_save_58 ⟨Nat.le_of_ble_eq_true rfl, Nat.le_of_ble_eq_true rfl⟩) hw (fun w1 H locs hq hw => ?_)
          rw [hq] at hw
          have hw : wd D A (mW K q kd f1 f2 ou nk nf ns hi lo (nI rn) (upd (zN sz) rn (nI (sN2 (kd k)))) (blk sd (6 * rn) (sN2 (kd k)) (sW2 (kd k) (f1 k))) ix mm wt cd) s H locs := by rw [sN2_l h48, sW2_l h48]; exact hw
          refine lv_goto (tgt := 75) hx hb d_MD_save_61 rfl ?_
          refine lv_aload_n hx hb d_MD_save_75 rfl (lv_at hl 0 rfl) ?_
          refine g_get B hw fl_MD_7 mw_0 rfl d_MD_save_76 ?_
          refine lv_iload_n hx hb d_MD_save_79 rfl (lv_at hl 1 rfl) ?_
          refine g_iald B hw mw_1 (vp_in_nI hk8 (by omega)) d_MD_save_80 ?_
          rw [nI_clamp (by omega)]
          refine lv_if_eq (tgt := 94) hx hb d_MD_save_81 rfl (fun h81 => ?_) (fun h81 => ?_)
          · have hsl : isSL (kd k) = 1 := if_pos h81
            refine lv_aload_n hx hb d_MD_save_94 rfl (lv_at hl 0 rfl) ?_
            refine lv_aload_n hx hb d_MD_save_95 rfl (lv_at hl 0 rfl) ?_
            refine g_get B hw fl_MD_17 mw_0 rfl d_MD_save_96 ?_
            refine lv_iload_n hx hb d_MD_save_99 rfl (lv_at hl 1 rfl) ?_
            refine g_lald B hw mw_3 (vp_in_nI hk8 (by omega)) d_MD_save_100 ?_
            rw [nI_clamp (by omega)]
            refine k_v (k_runV B hw (c_MD_appendLong h14 (by have := sN3_l hsl; omega)) rfl rfl cf_MD_130 mw_0 rfl rfl ⟨Nat.le_of_ble_eq_true rfl, Nat.le_of_ble_eq_true rfl⟩ rfl hl.1 rfl (Nat.le_of_ble_eq_true rfl) d_MD_save_101 ⟨Nat.le_of_ble_eq_true rfl, Nat.le_of_ble_eq_true rfl⟩) hw (fun w1 H locs hq hw => ?_)
            rw [hq] at hw
            have hw : wd D A (mW K q kd f1 f2 ou nk nf ns hi lo (nI rn) (upd (zN sz) rn (nI (sN3 (kd k)))) (blk sd (6 * rn) (sN3 (kd k)) (sW3 (kd k) (f1 k) (f2 k))) ix mm wt cd) s H locs := by rw [sN3_l hsl, sW3_l hsl]; exact hw
            refine lv_goto (tgt := 118) hx hb d_MD_save_104 rfl ?_
            refine lv_aload_n hx hb d_MD_save_118 rfl (lv_at hl 0 rfl) ?_
            refine lv_aload_n hx hb d_MD_save_119 rfl (lv_at hl 0 rfl) ?_
            refine g_get B hw fl_MD_123 mw_0 rfl d_MD_save_120 ?_
            refine lv_aload_n hx hb d_MD_save_123 rfl (lv_at hl 0 rfl) ?_
            refine g_get B hw fl_MD_20 mw_0 rfl d_MD_save_124 ?_
            refine lv_aload_n hx hb d_MD_save_127 rfl (lv_at hl 0 rfl) ?_
            refine g_get B hw fl_MD_123 mw_0 rfl d_MD_save_128 ?_
            refine g_iald B hw mw_4 (vp_in_nI h14 (by omega)) d_MD_save_131 ?_
            rw [nI_clamp (by omega), pk_us]
            refine k_i (k_runV B hw (c_MD_check h14 (by omega)) rfl rfl cf_MD_134 mw_0 rfl rfl ⟨Nat.le_of_ble_eq_true rfl, Nat.le_of_ble_eq_true rfl⟩ rfl hl.1 rfl (Nat.le_of_ble_eq_true rfl) d_MD_save_132 ⟨Nat.le_of_ble_eq_true rfl, Nat.le_of_ble_eq_true rfl⟩) hw (fun r132 w1 H locs hq hw => ?_)
            have er := hq.1
            have ew := hq.2
            rw [ew] at hw
            rw [er, ckF_blk]
            refine lv_istore_n hx hb d_MD_save_135 rfl hl (by decide) rfl (fun ls (hl : lv_has ls 3 [(2, .int _), (0, .ref _), (1, .int _)]) => ?_)
            refine lv_aload_n hx hb d_MD_save_136 rfl (lv_at hl 1 rfl) ?_
            refine lv_iload_n hx hb d_MD_save_137 rfl (lv_at hl 0 rfl) ?_
            refine k_v (k_runV B hw (c_MD_append h14 (by omega)) rfl rfl cf_MD_126 mw_0 rfl rfl ⟨Nat.le_of_ble_eq_true rfl, Nat.le_of_ble_eq_true rfl⟩ rfl hl.1 rfl (Nat.le_of_ble_eq_true rfl) d_MD_save_138 ⟨Nat.le_of_ble_eq_true rfl, Nat.le_of_ble_eq_true rfl⟩) hw (fun w1 H locs hq hw => ?_)
            rw [hq] at hw
            have hw : wd D A (mW K q kd f1 f2 ou nk nf ns hi lo (nI rn) (upd (zN sz) rn (nI (svN (kd k)))) (blk sd (6 * rn) (svN (kd k)) (svF (kd k) (f1 k) (f2 k))) ix mm wt cd) s H locs := hw
            refine lv_aload_n hx hb d_MD_save_141 rfl (lv_at hl 1 rfl) ?_
            refine lv_dup hx hb d_MD_save_142 rfl ?_
            refine g_get B hw fl_MD_123 mw_0 rfl d_MD_save_143 ?_
            refine lv_iconst (v := 1) hx hb d_MD_save_146 (by decide) ?_
            refine lv_iadd hx hb d_MD_save_147 ?_
            rw [← nI_succ rn]
            refine g_put B hw fl_MD_123 ck_MD mw_0 rfl rfl rfl (Nat.le_of_ble_eq_true rfl) d_MD_save_148 (fun H locs (hw : wd D A (mW K q _ _ _ _ _ _ _ _ _ _ _ _ _ _ _ _) s H locs) => ?_)
            refine lv_aload_n hx hb d_MD_save_151 rfl (lv_at hl 1 rfl) ?_
            refine g_get B hw fl_MD_123 mw_0 rfl d_MD_save_152 ?_
            refine lv_iconst (v := 1) hx hb d_MD_save_155 (by decide) ?_
            refine lv_isub hx hb d_MD_save_156 ?_
            rw [nI_pred]
            exact r_i B hw d_MD_save_157 ⟨by unfold saA; rw [onS_s hn]; exact (if_pos h14).symm, by unfold saR saZ saD; rw [onS_s hn, onS_s hn, onS_s hn]; (try dsimp only); rw [if_pos h14, if_pos h14, if_pos h14, ← zN_upd]; exact ⟨_, _, _, _, _, _, _, rfl⟩⟩
          · refine lv_aload_n hx hb d_MD_save_84 rfl (lv_at hl 0 rfl) ?_
            refine g_get B hw fl_MD_7 mw_0 rfl d_MD_save_85 ?_
            refine lv_iload_n hx hb d_MD_save_88 rfl (lv_at hl 1 rfl) ?_
            refine g_iald B hw mw_1 (vp_in_nI hk8 (by omega)) d_MD_save_89 ?_
            rw [nI_clamp (by omega)]
            refine lv_iconst (v := 2) hx hb d_MD_save_90 (by decide) ?_
            refine lv_icmp_ne (tgt := 107) hx hb d_MD_save_91 rfl (fun h91 => ?_) (fun h91 => ?_)
            · have hsl : isSL (kd k) = 0 := by unfold isSL; rw [if_neg h81, if_neg h91]
              refine lv_aload_n hx hb d_MD_save_107 rfl (lv_at hl 0 rfl) ?_
              refine lv_aload_n hx hb d_MD_save_108 rfl (lv_at hl 0 rfl) ?_
              refine g_get B hw fl_MD_17 mw_0 rfl d_MD_save_109 ?_
              refine lv_iload_n hx hb d_MD_save_112 rfl (lv_at hl 1 rfl) ?_
              refine g_lald B hw mw_3 (vp_in_nI hk8 (by omega)) d_MD_save_113 ?_
              rw [nI_clamp (by omega)]
              refine lv_l2i hx hb d_MD_save_114 rfl ?_
              refine k_v (k_runV B hw (c_MD_append h14 (by omega)) rfl rfl cf_MD_126 mw_0 rfl rfl ⟨Nat.le_of_ble_eq_true rfl, Nat.le_of_ble_eq_true rfl⟩ rfl hl.1 rfl (Nat.le_of_ble_eq_true rfl) d_MD_save_115 ⟨Nat.le_of_ble_eq_true rfl, Nat.le_of_ble_eq_true rfl⟩) hw (fun w1 H locs hq hw => ?_)
              rw [hq] at hw
              have hw : wd D A (mW K q kd f1 f2 ou nk nf ns hi lo (nI rn) (upd (zN sz) rn (nI (sN3 (kd k)))) (blk sd (6 * rn) (sN3 (kd k)) (sW3 (kd k) (f1 k) (f2 k))) ix mm wt cd) s H locs := by rw [sN3_s hsl, sW3_s hsl]; exact hw
              refine lv_aload_n hx hb d_MD_save_118 rfl (lv_at hl 0 rfl) ?_
              refine lv_aload_n hx hb d_MD_save_119 rfl (lv_at hl 0 rfl) ?_
              refine g_get B hw fl_MD_123 mw_0 rfl d_MD_save_120 ?_
              refine lv_aload_n hx hb d_MD_save_123 rfl (lv_at hl 0 rfl) ?_
              refine g_get B hw fl_MD_20 mw_0 rfl d_MD_save_124 ?_
              refine lv_aload_n hx hb d_MD_save_127 rfl (lv_at hl 0 rfl) ?_
              refine g_get B hw fl_MD_123 mw_0 rfl d_MD_save_128 ?_
              refine g_iald B hw mw_4 (vp_in_nI h14 (by omega)) d_MD_save_131 ?_
              rw [nI_clamp (by omega), pk_us]
              refine k_i (k_runV B hw (c_MD_check h14 (by omega)) rfl rfl cf_MD_134 mw_0 rfl rfl ⟨Nat.le_of_ble_eq_true rfl, Nat.le_of_ble_eq_true rfl⟩ rfl hl.1 rfl (Nat.le_of_ble_eq_true rfl) d_MD_save_132 ⟨Nat.le_of_ble_eq_true rfl, Nat.le_of_ble_eq_true rfl⟩) hw (fun r132 w1 H locs hq hw => ?_)
              have er := hq.1
              have ew := hq.2
              rw [ew] at hw
              rw [er, ckF_blk]
              refine lv_istore_n hx hb d_MD_save_135 rfl hl (by decide) rfl (fun ls (hl : lv_has ls 3 [(2, .int _), (0, .ref _), (1, .int _)]) => ?_)
              refine lv_aload_n hx hb d_MD_save_136 rfl (lv_at hl 1 rfl) ?_
              refine lv_iload_n hx hb d_MD_save_137 rfl (lv_at hl 0 rfl) ?_
              refine k_v (k_runV B hw (c_MD_append h14 (by omega)) rfl rfl cf_MD_126 mw_0 rfl rfl ⟨Nat.le_of_ble_eq_true rfl, Nat.le_of_ble_eq_true rfl⟩ rfl hl.1 rfl (Nat.le_of_ble_eq_true rfl) d_MD_save_138 ⟨Nat.le_of_ble_eq_true rfl, Nat.le_of_ble_eq_true rfl⟩) hw (fun w1 H locs hq hw => ?_)
              rw [hq] at hw
              have hw : wd D A (mW K q kd f1 f2 ou nk nf ns hi lo (nI rn) (upd (zN sz) rn (nI (svN (kd k)))) (blk sd (6 * rn) (svN (kd k)) (svF (kd k) (f1 k) (f2 k))) ix mm wt cd) s H locs := hw
              refine lv_aload_n hx hb d_MD_save_141 rfl (lv_at hl 1 rfl) ?_
              refine lv_dup hx hb d_MD_save_142 rfl ?_
              refine g_get B hw fl_MD_123 mw_0 rfl d_MD_save_143 ?_
              refine lv_iconst (v := 1) hx hb d_MD_save_146 (by decide) ?_
              refine lv_iadd hx hb d_MD_save_147 ?_
              rw [← nI_succ rn]
              refine g_put B hw fl_MD_123 ck_MD mw_0 rfl rfl rfl (Nat.le_of_ble_eq_true rfl) d_MD_save_148 (fun H locs (hw : wd D A (mW K q _ _ _ _ _ _ _ _ _ _ _ _ _ _ _ _) s H locs) => ?_)
              refine lv_aload_n hx hb d_MD_save_151 rfl (lv_at hl 1 rfl) ?_
              refine g_get B hw fl_MD_123 mw_0 rfl d_MD_save_152 ?_
              refine lv_iconst (v := 1) hx hb d_MD_save_155 (by decide) ?_
              refine lv_isub hx hb d_MD_save_156 ?_
              rw [nI_pred]
              exact r_i B hw d_MD_save_157 ⟨by unfold saA; rw [onS_s hn]; exact (if_pos h14).symm, by unfold saR saZ saD; rw [onS_s hn, onS_s hn, onS_s hn]; (try dsimp only); rw [if_pos h14, if_pos h14, if_pos h14, ← zN_upd]; exact ⟨_, _, _, _, _, _, _, rfl⟩⟩
            · have hsl : isSL (kd k) = 1 := by unfold isSL; rw [if_neg h81, if_pos h91]
              refine lv_aload_n hx hb d_MD_save_94 rfl (lv_at hl 0 rfl) ?_
              refine lv_aload_n hx hb d_MD_save_95 rfl (lv_at hl 0 rfl) ?_
              refine g_get B hw fl_MD_17 mw_0 rfl d_MD_save_96 ?_
              refine lv_iload_n hx hb d_MD_save_99 rfl (lv_at hl 1 rfl) ?_
              refine g_lald B hw mw_3 (vp_in_nI hk8 (by omega)) d_MD_save_100 ?_
              rw [nI_clamp (by omega)]
              refine k_v (k_runV B hw (c_MD_appendLong h14 (by have := sN3_l hsl; omega)) rfl rfl cf_MD_130 mw_0 rfl rfl ⟨Nat.le_of_ble_eq_true rfl, Nat.le_of_ble_eq_true rfl⟩ rfl hl.1 rfl (Nat.le_of_ble_eq_true rfl) d_MD_save_101 ⟨Nat.le_of_ble_eq_true rfl, Nat.le_of_ble_eq_true rfl⟩) hw (fun w1 H locs hq hw => ?_)
              rw [hq] at hw
              have hw : wd D A (mW K q kd f1 f2 ou nk nf ns hi lo (nI rn) (upd (zN sz) rn (nI (sN3 (kd k)))) (blk sd (6 * rn) (sN3 (kd k)) (sW3 (kd k) (f1 k) (f2 k))) ix mm wt cd) s H locs := by rw [sN3_l hsl, sW3_l hsl]; exact hw
              refine lv_goto (tgt := 118) hx hb d_MD_save_104 rfl ?_
              refine lv_aload_n hx hb d_MD_save_118 rfl (lv_at hl 0 rfl) ?_
              refine lv_aload_n hx hb d_MD_save_119 rfl (lv_at hl 0 rfl) ?_
              refine g_get B hw fl_MD_123 mw_0 rfl d_MD_save_120 ?_
              refine lv_aload_n hx hb d_MD_save_123 rfl (lv_at hl 0 rfl) ?_
              refine g_get B hw fl_MD_20 mw_0 rfl d_MD_save_124 ?_
              refine lv_aload_n hx hb d_MD_save_127 rfl (lv_at hl 0 rfl) ?_
              refine g_get B hw fl_MD_123 mw_0 rfl d_MD_save_128 ?_
              refine g_iald B hw mw_4 (vp_in_nI h14 (by omega)) d_MD_save_131 ?_
              rw [nI_clamp (by omega), pk_us]
              refine k_i (k_runV B hw (c_MD_check h14 (by omega)) rfl rfl cf_MD_134 mw_0 rfl rfl ⟨Nat.le_of_ble_eq_true rfl, Nat.le_of_ble_eq_true rfl⟩ rfl hl.1 rfl (Nat.le_of_ble_eq_true rfl) d_MD_save_132 ⟨Nat.le_of_ble_eq_true rfl, Nat.le_of_ble_eq_true rfl⟩) hw (fun r132 w1 H locs hq hw => ?_)
              have er := hq.1
              have ew := hq.2
              rw [ew] at hw
              rw [er, ckF_blk]
              refine lv_istore_n hx hb d_MD_save_135 rfl hl (by decide) rfl (fun ls (hl : lv_has ls 3 [(2, .int _), (0, .ref _), (1, .int _)]) => ?_)
              refine lv_aload_n hx hb d_MD_save_136 rfl (lv_at hl 1 rfl) ?_
              refine lv_iload_n hx hb d_MD_save_137 rfl (lv_at hl 0 rfl) ?_
              refine k_v (k_runV B hw (c_MD_append h14 (by omega)) rfl rfl cf_MD_126 mw_0 rfl rfl ⟨Nat.le_of_ble_eq_true rfl, Nat.le_of_ble_eq_true rfl⟩ rfl hl.1 rfl (Nat.le_of_ble_eq_true rfl) d_MD_save_138 ⟨Nat.le_of_ble_eq_true rfl, Nat.le_of_ble_eq_true rfl⟩) hw (fun w1 H locs hq hw => ?_)
              rw [hq] at hw
              have hw : wd D A (mW K q kd f1 f2 ou nk nf ns hi lo (nI rn) (upd (zN sz) rn (nI (svN (kd k)))) (blk sd (6 * rn) (svN (kd k)) (svF (kd k) (f1 k) (f2 k))) ix mm wt cd) s H locs := hw
              refine lv_aload_n hx hb d_MD_save_141 rfl (lv_at hl 1 rfl) ?_
              refine lv_dup hx hb d_MD_save_142 rfl ?_
              refine g_get B hw fl_MD_123 mw_0 rfl d_MD_save_143 ?_
              refine lv_iconst (v := 1) hx hb d_MD_save_146 (by decide) ?_
              refine lv_iadd hx hb d_MD_save_147 ?_
              rw [← nI_succ rn]
              refine g_put B hw fl_MD_123 ck_MD mw_0 rfl rfl rfl (Nat.le_of_ble_eq_true rfl) d_MD_save_148 (fun H locs (hw : wd D A (mW K q _ _ _ _ _ _ _ _ _ _ _ _ _ _ _ _) s H locs) => ?_)
              refine lv_aload_n hx hb d_MD_save_151 rfl (lv_at hl 1 rfl) ?_
              refine g_get B hw fl_MD_123 mw_0 rfl d_MD_save_152 ?_
              refine lv_iconst (v := 1) hx hb d_MD_save_155 (by decide) ?_
              refine lv_isub hx hb d_MD_save_156 ?_
              rw [nI_pred]
              exact r_i B hw d_MD_save_157 ⟨by unfold saA; rw [onS_s hn]; exact (if_pos h14).symm, by unfold saR saZ saD; rw [onS_s hn, onS_s hn, onS_s hn]; (try dsimp only); rw [if_pos h14, if_pos h14, if_pos h14, ← zN_upd]; exact ⟨_, _, _, _, _, _, _, rfl⟩⟩
      · have h14 : ¬ rn < 6 := by have := (nI_eq (b := 6) (by omega) (by omega)).mp h14; omega
        refine lv_iconst (v := (-1)) hx hb d_MD_save_17 (by decide) ?_
        exact r_i B hw d_MD_save_18 ⟨by unfold saA; rw [onS_s hn]; exact (if_neg h14).symm, by unfold saR saZ saD; rw [onS_s hn, onS_s hn, onS_s hn]; (try dsimp only); rw [if_neg h14, if_neg h14, if_neg h14]; exact ⟨_, _, _, _, _, _, _, rfl⟩⟩
set_option maxRecDepth 100000 in
set_option maxHeartbeats 4000000 in
theorem c_MD_isWord {l : Launch} {D : va_G} {K : Nat → ClassId} {A : Nat → Prop} {q : Nat → Nat} {kd : Nat → Int32} {f1 f2 : Nat → Int64} {ou nk : Int32} {nf ns hi lo : Int64} {rn : Nat} {sd : Nat → Int32} {ix : Int32} {mm wt cd : Nat → Int32} {sz : Nat → Nat} (h6 : rn ≤ 6) (hs : ∀ r, r < rn → sz r ≤ 6) {x y : Int32} : ctI l y_MD_isWord prog_6_method_24_code 3 (some .boolean) 0 0 0 [.ref (q 0), .int x, .int y] D K A ((mW K q kd f1 f2 ou nk nf ns hi lo (nI rn) (zN sz) sd ix mm wt cd)) (fun r w => r = bI (hwB rn sz x y) ∧ w = (mW K q kd f1 f2 ou nk nf ns hi lo (nI rn) (zN sz) sd ix mm wt cd)) := by
  refine mt_of (by decide) (Nat.le_of_ble_eq_true rfl) ?_
  intro p e s m below meth c ls B hw hl
  have hx := B.1
  have hb := B.2.1
  have hl : lv_has ls 3 [(0, .ref (q 0)), (1, .int x), (2, .int y)] := hl
  refine lv_iload_n hx hb d_MD_isWord_0 rfl (lv_at hl 1 rfl) ?_
  refine lv_if_lt (tgt := 30) hx hb d_MD_isWord_1 rfl (fun h1 => ?_) (fun h1 => ?_)
  · have ez : hwB rn sz x y = false := hw_none (if_pos h1)
    refine lv_iconst (v := 0) hx hb d_MD_isWord_30 (by decide) ?_
    exact r_z B hw (by decide) d_MD_isWord_31 ⟨by rw [ez]; rfl, rfl⟩
  · refine lv_iload_n hx hb d_MD_isWord_4 rfl (lv_at hl 1 rfl) ?_
    refine lv_aload_n hx hb d_MD_isWord_5 rfl (lv_at hl 0 rfl) ?_
    refine g_get B hw fl_MD_123 mw_0 rfl d_MD_isWord_6 ?_
    refine lv_icmp_ge (tgt := 30) hx hb d_MD_isWord_9 rfl (fun h9 => ?_) (fun h9 => ?_)
    · have ez : hwB rn sz x y = false := hw_none (by unfold rcS; rw [if_neg h1, if_neg (Int32.not_lt.mpr h9)])
      refine lv_iconst (v := 0) hx hb d_MD_isWord_30 (by decide) ?_
      exact r_z B hw (by decide) d_MD_isWord_31 ⟨by rw [ez]; rfl, rfl⟩
    · obtain ⟨r, hr, rfl⟩ := slot_of h1 (by omega) (Int32.not_le.mp h9)
      have hn : rcS rn (nI r) = some r := by unfold rcS; rw [if_neg h1, if_pos (Int32.not_le.mp h9), nI_clamp (by omega)]
      have ez : hwB rn sz (nI r) y = (if y < 0 then false else if nI (sz r) ≤ y then false else true) := by unfold hwB; rw [hn]
      refine lv_iload_n hx hb d_MD_isWord_12 rfl (lv_at hl 2 rfl) ?_
      refine lv_if_lt (tgt := 30) hx hb d_MD_isWord_13 rfl (fun h13 => ?_) (fun h13 => ?_)
      · rw [if_pos h13] at ez
        refine lv_iconst (v := 0) hx hb d_MD_isWord_30 (by decide) ?_
        exact r_z B hw (by decide) d_MD_isWord_31 ⟨by rw [ez]; rfl, rfl⟩
      · rw [if_neg h13] at ez
        refine lv_iload_n hx hb d_MD_isWord_16 rfl (lv_at hl 2 rfl) ?_
        refine lv_aload_n hx hb d_MD_isWord_17 rfl (lv_at hl 0 rfl) ?_
        refine g_get B hw fl_MD_20 mw_0 rfl d_MD_isWord_18 ?_
        refine lv_iload_n hx hb d_MD_isWord_21 rfl (lv_at hl 1 rfl) ?_
        refine g_iald B hw mw_4 (vp_in_nI (by omega) (by omega)) d_MD_isWord_22 ?_
        rw [nI_clamp (by omega), show zN sz r = nI (sz r) from rfl]
        refine lv_icmp_ge (tgt := 30) hx hb d_MD_isWord_23 rfl (fun h23 => ?_) (fun h23 => ?_)
        · rw [if_pos h23] at ez
          refine lv_iconst (v := 0) hx hb d_MD_isWord_30 (by decide) ?_
          exact r_z B hw (by decide) d_MD_isWord_31 ⟨by rw [ez]; rfl, rfl⟩
        · rw [if_neg h23] at ez
          refine lv_iconst (v := 1) hx hb d_MD_isWord_26 (by decide) ?_
          refine lv_goto (tgt := 31) hx hb d_MD_isWord_27 rfl ?_
          exact r_z B hw (by decide) d_MD_isWord_31 ⟨by rw [ez]; rfl, rfl⟩
set_option maxRecDepth 100000 in
set_option maxHeartbeats 4000000 in
theorem c_MD_length {l : Launch} {D : va_G} {K : Nat → ClassId} {A : Nat → Prop} {q : Nat → Nat} {kd : Nat → Int32} {f1 f2 : Nat → Int64} {ou nk : Int32} {nf ns hi lo : Int64} {rn : Nat} {sd : Nat → Int32} {ix : Int32} {mm wt cd : Nat → Int32} {sz : Nat → Nat} (h6 : rn ≤ 6) {x : Int32} : ctI l y_MD_length prog_6_method_25_code 2 (some .int) 0 0 0 [.ref (q 0), .int x] D K A ((mW K q kd f1 f2 ou nk nf ns hi lo (nI rn) (zN sz) sd ix mm wt cd)) (fun r w => r = lnA rn sz x ∧ w = (mW K q kd f1 f2 ou nk nf ns hi lo (nI rn) (zN sz) sd ix mm wt cd)) := by
  refine mt_of (by decide) (Nat.le_of_ble_eq_true rfl) ?_
  intro p e s m below meth c ls B hw hl
  have hx := B.1
  have hb := B.2.1
  have hl : lv_has ls 2 [(0, .ref (q 0)), (1, .int x)] := hl
  refine lv_iload_n hx hb d_MD_length_0 rfl (lv_at hl 1 rfl) ?_
  refine lv_if_lt (tgt := 12) hx hb d_MD_length_1 rfl (fun h1 => ?_) (fun h1 => ?_)
  · have hn : rcS rn x = none := if_pos h1
    refine lv_iconst (v := (-1)) hx hb d_MD_length_12 (by decide) ?_
    refine lv_goto (tgt := 22) hx hb d_MD_length_13 rfl ?_
    exact r_i B hw d_MD_length_22 ⟨by unfold lnA; rw [hn], rfl⟩
  · refine lv_iload_n hx hb d_MD_length_4 rfl (lv_at hl 1 rfl) ?_
    refine lv_aload_n hx hb d_MD_length_5 rfl (lv_at hl 0 rfl) ?_
    refine g_get B hw fl_MD_123 mw_0 rfl d_MD_length_6 ?_
    refine lv_icmp_lt (tgt := 16) hx hb d_MD_length_9 rfl (fun h9 => ?_) (fun h9 => ?_)
    · obtain ⟨r, hr, rfl⟩ := slot_of h1 (by omega) h9
      have hn : rcS rn (nI r) = some r := by unfold rcS; rw [if_neg h1, if_pos h9, nI_clamp (by omega)]
      refine lv_aload_n hx hb d_MD_length_16 rfl (lv_at hl 0 rfl) ?_
      refine g_get B hw fl_MD_20 mw_0 rfl d_MD_length_17 ?_
      refine lv_iload_n hx hb d_MD_length_20 rfl (lv_at hl 1 rfl) ?_
      refine g_iald B hw mw_4 (vp_in_nI (by omega) (by omega)) d_MD_length_21 ?_
      rw [nI_clamp (by omega), show zN sz r = nI (sz r) from rfl]
      exact r_i B hw d_MD_length_22 ⟨by unfold lnA; rw [hn], rfl⟩
    · have hn : rcS rn x = none := by unfold rcS; rw [if_neg h1, if_neg h9]
      refine lv_iconst (v := (-1)) hx hb d_MD_length_12 (by decide) ?_
      refine lv_goto (tgt := 22) hx hb d_MD_length_13 rfl ?_
      exact r_i B hw d_MD_length_22 ⟨by unfold lnA; rw [hn], rfl⟩
set_option maxRecDepth 100000 in
set_option maxHeartbeats 4000000 in
theorem c_MD_word {l : Launch} {D : va_G} {K : Nat → ClassId} {A : Nat → Prop} {q : Nat → Nat} {kd : Nat → Int32} {f1 f2 : Nat → Int64} {ou nk : Int32} {nf ns hi lo : Int64} {rn : Nat} {sd : Nat → Int32} {ix : Int32} {mm wt cd : Nat → Int32} {sz : Nat → Nat} (h6 : rn ≤ 6) (hs : ∀ r, r < rn → sz r ≤ 6) {x y : Int32} : ctI l y_MD_word prog_6_method_26_code 3 (some .int) 1 0 0 [.ref (q 0), .int x, .int y] D K A ((mW K q kd f1 f2 ou nk nf ns hi lo (nI rn) (zN sz) sd ix mm wt cd)) (fun r w => r = wdA rn sz sd x y ∧ w = (mW K q kd f1 f2 ou nk nf ns hi lo (nI rn) (zN sz) sd ix mm wt cd)) := by
  refine mt_of (by decide) (Nat.le_of_ble_eq_true rfl) ?_
  intro p e s m below meth c ls B hw hl
  have hx := B.1
  have hb := B.2.1
  have hl : lv_has ls 3 [(0, .ref (q 0)), (1, .int x), (2, .int y)] := hl
  refine lv_aload_n hx hb d_MD_word_0 rfl (lv_at hl 0 rfl) ?_
  refine lv_iload_n hx hb d_MD_word_1 rfl (lv_at hl 1 rfl) ?_
  refine lv_iload_n hx hb d_MD_word_2 rfl (lv_at hl 2 rfl) ?_
  refine k_i (k_runV B hw (c_MD_isWord h6 hs) rfl rfl cf_MD_137 mw_0 rfl rfl ⟨Nat.le_of_ble_eq_true rfl, Nat.le_of_ble_eq_true rfl⟩ rfl hl.1 rfl (Nat.le_of_ble_eq_true rfl) d_MD_word_3 ⟨Nat.le_of_ble_eq_true rfl, Nat.le_of_ble_eq_true rfl⟩) hw (fun r3 w1 H locs hq hw => ?_)
  obtain ⟨rfl, ew⟩ := hq
  rw [ew] at hw
  rcases mhw_case h6 hs x y with hb2 | ⟨hb2, r, t, hr, ht, rfl, rfl, hn⟩
  · rw [hb2, show bI false = 0 from rfl]
    refine lv_if_eq (tgt := 23) hx hb d_MD_word_6 rfl (fun b6 => ?_) (fun b6 => ?_)
    · refine lv_iconst (v := 0) hx hb d_MD_word_23 (by decide) ?_
      exact r_i B hw d_MD_word_24 ⟨by unfold wdA; rw [hb2]; rfl, rfl⟩
    · exact absurd rfl b6
  · rw [hb2, show bI true = 1 from rfl]
    have hs6 := hs r hr
    refine lv_if_eq (tgt := 23) hx hb d_MD_word_6 rfl (fun b6 => ?_) (fun b6 => ?_)
    · exact absurd b6 (by decide)
    · refine lv_aload_n hx hb d_MD_word_9 rfl (lv_at hl 0 rfl) ?_
      refine g_get B hw fl_MD_23 mw_0 rfl d_MD_word_10 ?_
      refine lv_bipush (v := 6) hx hb d_MD_word_13 (by decide) ?_
      refine lv_iload_n hx hb d_MD_word_15 rfl (lv_at hl 1 rfl) ?_
      refine lv_imul hx hb d_MD_word_16 ?_
      rw [show (6 : Int32) * nI r = nI (6 * r) from pk_mul 6 r]
      refine lv_iload_n hx hb d_MD_word_17 rfl (lv_at hl 2 rfl) ?_
      refine lv_iadd hx hb d_MD_word_18 ?_
      rw [nI_add]
      refine g_iald B hw mw_5 (vp_in_nI (by omega) (by omega)) d_MD_word_19 ?_
      rw [nI_clamp (by omega)]
      refine lv_goto (tgt := 24) hx hb d_MD_word_20 rfl ?_
      exact r_i B hw d_MD_word_24 ⟨by unfold wdA; rw [hb2, if_pos rfl, nI_clamp (by omega), nI_clamp (by omega)], rfl⟩
set_option maxRecDepth 100000 in
set_option maxHeartbeats 4000000 in
theorem c_MD_spoil {l : Launch} {D : va_G} {K : Nat → ClassId} {A : Nat → Prop} {q : Nat → Nat} {kd : Nat → Int32} {f1 f2 : Nat → Int64} {ou nk : Int32} {nf ns hi lo : Int64} {rn : Nat} {sd : Nat → Int32} {ix : Int32} {mm wt cd : Nat → Int32} {sz : Nat → Nat} (h6 : rn ≤ 6) (hs : ∀ r, r < rn → sz r ≤ 6) {x y mk : Int32} : ctI l y_MD_spoil prog_6_method_27_code 4 (some .boolean) 1 0 0 [.ref (q 0), .int x, .int y, .int mk] D K A ((mW K q kd f1 f2 ou nk nf ns hi lo (nI rn) (zN sz) sd ix mm wt cd)) (fun r w => r = bI (hwB rn sz x y) ∧ MR K q kd f1 f2 (nI rn) (zN sz) (spD rn sz sd x y mk) ix wt cd w) := by
  refine mt_of (by decide) (Nat.le_of_ble_eq_true rfl) ?_
  intro p e s m below meth c ls B hw hl
  have hx := B.1
  have hb := B.2.1
  have hl : lv_has ls 4 [(0, .ref (q 0)), (1, .int x), (2, .int y), (3, .int mk)] := hl
  refine lv_aload_n hx hb d_MD_spoil_0 rfl (lv_at hl 0 rfl) ?_
  refine lv_iload_n hx hb d_MD_spoil_1 rfl (lv_at hl 1 rfl) ?_
  refine lv_iload_n hx hb d_MD_spoil_2 rfl (lv_at hl 2 rfl) ?_
  refine k_i (k_runV B hw (c_MD_isWord h6 hs) rfl rfl cf_MD_137 mw_0 rfl rfl ⟨Nat.le_of_ble_eq_true rfl, Nat.le_of_ble_eq_true rfl⟩ rfl hl.1 rfl (Nat.le_of_ble_eq_true rfl) d_MD_spoil_3 ⟨Nat.le_of_ble_eq_true rfl, Nat.le_of_ble_eq_true rfl⟩) hw (fun r3 w1 H locs hq hw => ?_)
  obtain ⟨rfl, ew⟩ := hq
  rw [ew] at hw
  rcases mhw_case h6 hs x y with hb2 | ⟨hb2, r, t, hr, ht, rfl, rfl, hn⟩
  · rw [hb2, show bI false = 0 from rfl]
    refine lv_if_ne (tgt := 11) hx hb d_MD_spoil_6 rfl (fun b6 => ?_) (fun b6 => ?_)
    · exact absurd rfl b6
    · refine lv_iconst (v := 0) hx hb d_MD_spoil_9 (by decide) ?_
      exact r_z B hw (by decide) d_MD_spoil_10 ⟨by rfl, by unfold spD; rw [hb2]; exact ⟨_, _, _, _, _, _, _, rfl⟩⟩
  · rw [hb2, show bI true = 1 from rfl]
    have hs6 := hs r hr
    refine lv_if_ne (tgt := 11) hx hb d_MD_spoil_6 rfl (fun b6 => ?_) (fun b6 => ?_)
    · refine lv_aload_n hx hb d_MD_spoil_11 rfl (lv_at hl 0 rfl) ?_
      refine g_get B hw fl_MD_23 mw_0 rfl d_MD_spoil_12 ?_
      refine lv_bipush (v := 6) hx hb d_MD_spoil_15 (by decide) ?_
      refine lv_iload_n hx hb d_MD_spoil_17 rfl (lv_at hl 1 rfl) ?_
      refine lv_imul hx hb d_MD_spoil_18 ?_
      rw [show (6 : Int32) * nI r = nI (6 * r) from pk_mul 6 r]
      refine lv_iload_n hx hb d_MD_spoil_19 rfl (lv_at hl 2 rfl) ?_
      refine lv_iadd hx hb d_MD_spoil_20 ?_
      rw [nI_add]
      refine lv_aload_n hx hb d_MD_spoil_21 rfl (lv_at hl 0 rfl) ?_
      refine g_get B hw fl_MD_23 mw_0 rfl d_MD_spoil_22 ?_
      refine lv_bipush (v := 6) hx hb d_MD_spoil_25 (by decide) ?_
      refine lv_iload_n hx hb d_MD_spoil_27 rfl (lv_at hl 1 rfl) ?_
      refine lv_imul hx hb d_MD_spoil_28 ?_
      rw [show (6 : Int32) * nI r = nI (6 * r) from pk_mul 6 r]
      refine lv_iload_n hx hb d_MD_spoil_29 rfl (lv_at hl 2 rfl) ?_
      refine lv_iadd hx hb d_MD_spoil_30 ?_
      rw [nI_add]
      refine g_iald B hw mw_5 (vp_in_nI (by omega) (by omega)) d_MD_spoil_31 ?_
      rw [nI_clamp (by omega)]
      refine lv_iload_n hx hb d_MD_spoil_32 rfl (lv_at hl 3 rfl) ?_
      refine lv_ixor hx hb d_MD_spoil_33 ?_
      refine g_iast B hw mw_5 (vp_in_nI (by omega) (by omega)) d_MD_spoil_34 (fun H locs (hw : wd D A (mW K q _ _ _ _ _ _ _ _ _ _ _ _ _ _ _ _) s H locs) => ?_)
      rw [nI_clamp (by omega)] at hw
      refine lv_iconst (v := 1) hx hb d_MD_spoil_35 (by decide) ?_
      exact r_z B hw (by decide) d_MD_spoil_36 ⟨by rfl, by unfold spD; rw [hb2, if_pos rfl, nI_clamp (by omega), nI_clamp (by omega)]; exact ⟨_, _, _, _, _, _, _, rfl⟩⟩
    · exact absurd b6 (by decide)
set_option maxRecDepth 100000 in
set_option maxHeartbeats 4000000 in
theorem c_MD_cut {l : Launch} {D : va_G} {K : Nat → ClassId} {A : Nat → Prop} {q : Nat → Nat} {kd : Nat → Int32} {f1 f2 : Nat → Int64} {ou nk : Int32} {nf ns hi lo : Int64} {rn : Nat} {sd : Nat → Int32} {ix : Int32} {mm wt cd : Nat → Int32} {sz : Nat → Nat} (h6 : rn ≤ 6) (hs : ∀ r, r < rn → sz r ≤ 6) {x : Int32} : ctI l y_MD_cut prog_6_method_28_code 2 (some .boolean) 1 0 0 [.ref (q 0), .int x] D K A ((mW K q kd f1 f2 ou nk nf ns hi lo (nI rn) (zN sz) sd ix mm wt cd)) (fun r w => r = ctA rn sz x ∧ MR K q kd f1 f2 (nI rn) (zN (ctZ rn sz x)) sd ix wt cd w) := by
  refine mt_of (by decide) (Nat.le_of_ble_eq_true rfl) ?_
  intro p e s m below meth c ls B hw hl
  have hx := B.1
  have hb := B.2.1
  have hl : lv_has ls 2 [(0, .ref (q 0)), (1, .int x)] := hl
  refine lv_aload_n hx hb d_MD_cut_0 rfl (lv_at hl 0 rfl) ?_
  refine lv_iload_n hx hb d_MD_cut_1 rfl (lv_at hl 1 rfl) ?_
  refine lv_iconst (v := 0) hx hb d_MD_cut_2 (by decide) ?_
  refine k_i (k_runV B hw (c_MD_isWord h6 hs) rfl rfl cf_MD_137 mw_0 rfl rfl ⟨Nat.le_of_ble_eq_true rfl, Nat.le_of_ble_eq_true rfl⟩ rfl hl.1 rfl (Nat.le_of_ble_eq_true rfl) d_MD_cut_3 ⟨Nat.le_of_ble_eq_true rfl, Nat.le_of_ble_eq_true rfl⟩) hw (fun r3 w1 H locs hq hw => ?_)
  obtain ⟨rfl, ew⟩ := hq
  rw [ew] at hw
  rcases mhw_case h6 hs x 0 with hb2 | ⟨hb2, r, t, hr, ht, rfl, ht0, hn⟩
  · rw [hb2, show bI false = 0 from rfl]
    refine lv_if_ne (tgt := 11) hx hb d_MD_cut_6 rfl (fun b6 => ?_) (fun b6 => ?_)
    · exact absurd rfl b6
    · have hct : ctA rn sz x = 0 ∧ ctZ rn sz x = sz := by
        rcases mrc_case h6 x with ⟨hn, -⟩ | ⟨r, hr, rfl, hn⟩
        · exact ⟨by unfold ctA; rw [onR_n hn], by unfold ctZ; rw [onR_n hn]⟩
        · have hz0 : sz r = 0 := by
            rcases hw_case (y := 0) hn (hs r hr) with ⟨hc, -⟩ | ⟨-, h, -⟩
            · rw [if_neg (by decide)] at hc
              apply Nat.eq_zero_of_not_pos
              intro z
              rw [if_neg (fun y => by rw [show (0 : Int32) = nI 0 from rfl, nI_leI (by have := hs r hr; omega) (by omega)] at y; omega)] at hc
              exact absurd hc (by decide)
            · rw [hb2] at h; cases h
          exact ⟨by unfold ctA; rw [onR_s hn]; exact if_pos hz0, by unfold ctZ; rw [onR_s hn]; exact if_pos hz0⟩
      refine lv_iconst (v := 0) hx hb d_MD_cut_9 (by decide) ?_
      exact r_z B hw (by decide) d_MD_cut_10 ⟨hct.1.symm, by rw [hct.2]; exact ⟨_, _, _, _, _, _, _, rfl⟩⟩
  · rw [hb2, show bI true = 1 from rfl]
    have hs6 := hs r hr
    refine lv_if_ne (tgt := 11) hx hb d_MD_cut_6 rfl (fun b6 => ?_) (fun b6 => ?_)
    · refine lv_aload_n hx hb d_MD_cut_11 rfl (lv_at hl 0 rfl) ?_
      refine g_get B hw fl_MD_20 mw_0 rfl d_MD_cut_12 ?_
      refine lv_iload_n hx hb d_MD_cut_15 rfl (lv_at hl 1 rfl) ?_
      refine lv_dup2_11 hx hb d_MD_cut_16 rfl rfl ?_
      refine g_iald B hw mw_4 (vp_in_nI (by omega) (by omega)) d_MD_cut_17 ?_
      rw [nI_clamp (by omega), show zN sz r = nI (sz r) from rfl]
      refine lv_iconst (v := 1) hx hb d_MD_cut_18 (by decide) ?_
      refine lv_isub hx hb d_MD_cut_19 ?_
      rw [show nI (sz r) - 1 = nI (sz r - 1) from pk_sub (a := sz r) (b := 1) (by omega)]
      refine g_iast B hw mw_4 (vp_in_nI (by omega) (by omega)) d_MD_cut_20 (fun H locs (hw : wd D A (mW K q _ _ _ _ _ _ _ _ _ _ _ _ _ _ _ _) s H locs) => ?_)
      rw [nI_clamp (by omega), zN_upd] at hw
      refine lv_iconst (v := 1) hx hb d_MD_cut_21 (by decide) ?_
      exact r_z B hw (by decide) d_MD_cut_22 ⟨by unfold ctA; rw [onR_s hn]; exact (if_neg (by omega)).symm, by unfold ctZ; rw [onR_s hn]; (try dsimp only); rw [if_neg (by omega)]; exact ⟨_, _, _, _, _, _, _, rfl⟩⟩
    · exact absurd b6 (by decide)
set_option maxRecDepth 100000 in
set_option maxHeartbeats 4000000 in
theorem c_MD_twoWords {l : Launch} {D : va_G} {K : Nat → ClassId} {A : Nat → Prop} {q : Nat → Nat} {kd : Nat → Int32} {f1 f2 : Nat → Int64} {ou nk : Int32} {nf ns hi lo : Int64} {rn : Nat} {zi sd : Nat → Int32} {ix : Int32} {mm wt cd : Nat → Int32} {a : Nat} (ha : a + 1 < 36) : ctL l y_MD_twoWords prog_6_method_29_code 2 1 0 0 [.ref (q 0), .int (nI a)] D K A ((mW K q kd f1 f2 ou nk nf ns hi lo (nI rn) zi sd ix mm wt cd)) (fun r w => r = jnd (sd a) (sd (a + 1)) ∧ w = (mW K q kd f1 f2 ou nk nf ns hi lo (nI rn) zi sd ix mm wt cd)) := by
  refine mt_of (by decide) (Nat.le_of_ble_eq_true rfl) ?_
  intro p e s m below meth c ls B hw hl
  have hx := B.1
  have hb := B.2.1
  have hl : lv_has ls 2 [(0, .ref (q 0)), (1, .int (nI a))] := hl
  refine lv_aload_n hx hb d_MD_twoWords_0 rfl (lv_at hl 0 rfl) ?_
  refine g_get B hw fl_MD_23 mw_0 rfl d_MD_twoWords_1 ?_
  refine lv_iload_n hx hb d_MD_twoWords_4 rfl (lv_at hl 1 rfl) ?_
  refine g_iald B hw mw_5 (vp_in_nI (by omega) (by omega)) d_MD_twoWords_5 ?_
  rw [nI_clamp (by omega)]
  refine lv_i2l hx hb d_MD_twoWords_6 rfl ?_
  refine g_ldc2 B kc_MD_35 d_MD_twoWords_7 ?_
  refine lv_lmul hx hb d_MD_twoWords_10 ?_
  refine lv_aload_n hx hb d_MD_twoWords_11 rfl (lv_at hl 0 rfl) ?_
  refine g_get B hw fl_MD_23 mw_0 rfl d_MD_twoWords_12 ?_
  refine lv_iload_n hx hb d_MD_twoWords_15 rfl (lv_at hl 1 rfl) ?_
  refine lv_iconst (v := 1) hx hb d_MD_twoWords_16 (by decide) ?_
  refine lv_iadd hx hb d_MD_twoWords_17 ?_
  rw [← nI_succ a]
  refine g_iald B hw mw_5 (vp_in_nI (by omega) (by omega)) d_MD_twoWords_18 ?_
  rw [nI_clamp (by omega)]
  refine k_l (k_runS B hw c_MD_number rfl rfl cf_MD_71 ⟨Nat.le_of_ble_eq_true rfl, Nat.le_of_ble_eq_true rfl⟩ rfl hl.1 rfl (Nat.le_of_ble_eq_true rfl) d_MD_twoWords_19 ⟨Nat.le_of_ble_eq_true rfl, Nat.le_of_ble_eq_true rfl⟩) hw (fun r19 w1 H locs hq hw => ?_)
  obtain ⟨rfl, ew⟩ := hq
  rw [ew] at hw
  refine lv_ladd hx hb d_MD_twoWords_22 ?_
  rw [jnd_eq]
  exact r_l B hw d_MD_twoWords_23 ⟨rfl, rfl⟩
