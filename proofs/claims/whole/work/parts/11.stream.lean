/-! Stream: its cell is (kind, first, second). -/
abbrev oSt (k : Int32) (f g : Int64) : va_E := .inr (3, [.int k, .long f, .long g])
theorem mxR_sub (x : Int32) : x - 1640531527 = x + (-1640531527) := Int32.sub_eq_add_neg ..
theorem mxO_ev {f g : Int64} (h : g &&& 1 = 0) : mxO f g = (mxN 10 (mx0 f g)).1 := if_pos h
theorem mxO_od {f g : Int64} (h : ¬ g &&& 1 = 0) : mxO f g = (mxN 10 (mx0 f g)).2.1 := if_neg h
theorem mvF_0 (f g : Int64) : mvF 0 f g = f * 6364136223846793005 + g := if_pos rfl
theorem mvF_1 (f g : Int64) : mvF 1 f g = (rol f.toInt32 26 ^^^ (g.toInt32 ^^^ f.toInt32) ^^^ ((g.toInt32 ^^^ f.toInt32) <<< ((9 : Int32) &&& 31))).toInt64 := by
  unfold mvF; rw [if_neg (by decide), if_pos rfl]
theorem mvF_2 (f g : Int64) : mvF 2 f g = f := by
  unfold mvF; rw [if_neg (by decide), if_neg (by decide), if_pos rfl]
theorem mvF_n {k : Int32} (h0 : ¬ k = 0) (h1 : ¬ k = 1) (h2 : ¬ k = 2) (f g : Int64) : mvF k f g = nxR f g := by
  unfold mvF; rw [if_neg h0, if_neg h1, if_neg h2]
theorem mvS_0 (f g : Int64) : mvS 0 f g = g := if_pos rfl
theorem mvS_1 (f g : Int64) : mvS 1 f g = (rol (g.toInt32 ^^^ f.toInt32) 13).toInt64 := by
  unfold mvS; rw [if_neg (by decide), if_pos rfl]
theorem mvS_2 (f g : Int64) : mvS 2 f g = if g = 9223372036854775807 then 0 else g + 1 := by
  unfold mvS; rw [if_neg (by decide), if_neg (by decide), if_pos rfl]
theorem mvS_n {k : Int32} (h0 : ¬ k = 0) (h1 : ¬ k = 1) (h2 : ¬ k = 2) (f g : Int64) : mvS k f g = f := by
  unfold mvS; rw [if_neg h0, if_neg h1, if_neg h2]
theorem otp_0 (f g : Int64) : otp 0 f g = ror (lus (lus f 18 ^^^ f) 27).toInt32 (lus f 59).toInt32 := if_pos rfl
theorem otp_1 (f g : Int64) : otp 1 f g = rol (f.toInt32 * (-1640531525)) 5 * 5 := by
  unfold otp; rw [if_neg (by decide), if_pos rfl]
theorem otp_2 (f g : Int64) : otp 2 f g = mxO f g := by
  unfold otp; rw [if_neg (by decide), if_neg (by decide), if_pos rfl]
theorem otp_n {k : Int32} (h0 : ¬ k = 0) (h1 : ¬ k = 1) (h2 : ¬ k = 2) (f g : Int64) : otp k f g = (2 * nxR f g + (f &&& 1)).toInt32 := by
  unfold otp; rw [if_neg h0, if_neg h1, if_neg h2]
set_option maxRecDepth 100000 in
set_option maxHeartbeats 4000000 in
theorem c_ST_nextRemainder {l : Launch} {D : va_G} {K : Nat → ClassId} {A : Nat → Prop} {wl : va_W} {ix h : Nat} {k : Int32} {f g : Int64} (he : wl[ix]? = some (h, oSt k f g)) : ctL l y_ST_nextRemainder prog_4_method_15_code 1 0 0 0 [.ref h] D K A (wl) (fun r w => r = nxR f g ∧ w = wl) := by
  refine mt_of (by decide) (Nat.le_of_ble_eq_true rfl) ?_
  intro p e s m below meth c ls B hw hl
  have hx := B.1
  have hb := B.2.1
  have hl : lv_has ls 1 [(0, .ref h)] := hl
  refine g_ldc2 B kc_ST_77 d_ST_nextRemainder_0 ?_
  refine lv_aload_n hx hb d_ST_nextRemainder_3 rfl (lv_at hl 0 rfl) ?_
  refine g_get B hw fl_ST_13 he rfl d_ST_nextRemainder_4 ?_
  refine lv_lmul hx hb d_ST_nextRemainder_7 ?_
  refine g_ldc2 B kc_ST_79 d_ST_nextRemainder_8 ?_
  refine lv_aload_n hx hb d_ST_nextRemainder_11 rfl (lv_at hl 0 rfl) ?_
  refine g_get B hw fl_ST_17 he rfl d_ST_nextRemainder_12 ?_
  refine lv_lmul hx hb d_ST_nextRemainder_15 ?_
  refine lv_ladd hx hb d_ST_nextRemainder_16 ?_
  refine g_ldc2 B kc_ST_36 d_ST_nextRemainder_17 ?_
  refine lv_lrem hx hb d_ST_nextRemainder_20 (by decide) ?_
  exact r_l B hw d_ST_nextRemainder_21 ⟨rfl, rfl⟩
set_option maxRecDepth 100000 in
set_option maxHeartbeats 4000000 in
theorem c_ST_mixedCounter {l : Launch} {D : va_G} {K : Nat → ClassId} {A : Nat → Prop} {wl : va_W} {ix h : Nat} {k : Int32} {f g : Int64} (he : wl[ix]? = some (h, oSt k f g)) : ctI l y_ST_mixedCounter prog_4_method_14_code 7 (some .int) 1 0 0 [.ref h] D K A (wl) (fun r w => r = mxO f g ∧ w = wl) := by
  refine mt_of (by decide) (Nat.le_of_ble_eq_true rfl) ?_
  intro p e s m below meth c ls B hw hl
  have hx := B.1
  have hb := B.2.1
  have hl : lv_has ls 7 [(0, .ref h)] := hl
  refine lv_aload_n hx hb d_ST_mixedCounter_0 rfl (lv_at hl 0 rfl) ?_
  refine g_get B hw fl_ST_17 he rfl d_ST_mixedCounter_1 ?_
  refine lv_iconst (v := 1) hx hb d_ST_mixedCounter_4 (by decide) ?_
  refine lv_lushr hx hb d_ST_mixedCounter_5 rfl ?_
  refine lv_l2i hx hb d_ST_mixedCounter_6 rfl ?_
  refine lv_istore_n hx hb d_ST_mixedCounter_7 rfl hl (by decide) rfl (fun ls (hl : lv_has ls 7 [(1, .int _), (0, .ref _)]) => ?_)
  refine lv_aload_n hx hb d_ST_mixedCounter_8 rfl (lv_at hl 1 rfl) ?_
  refine g_get B hw fl_ST_17 he rfl d_ST_mixedCounter_9 ?_
  refine lv_bipush (v := 33) hx hb d_ST_mixedCounter_12 (by decide) ?_
  refine lv_lushr hx hb d_ST_mixedCounter_14 rfl ?_
  refine lv_l2i hx hb d_ST_mixedCounter_15 rfl ?_
  refine lv_istore_n hx hb d_ST_mixedCounter_16 rfl hl (by decide) rfl (fun ls (hl : lv_has ls 7 [(2, .int _), (1, .int _), (0, .ref _)]) => ?_)
  refine lv_aload_n hx hb d_ST_mixedCounter_17 rfl (lv_at hl 2 rfl) ?_
  refine g_get B hw fl_ST_13 he rfl d_ST_mixedCounter_18 ?_
  refine lv_l2i hx hb d_ST_mixedCounter_21 rfl ?_
  refine lv_istore_n hx hb d_ST_mixedCounter_22 rfl hl (by decide) rfl (fun ls (hl : lv_has ls 7 [(3, .int _), (2, .int _), (1, .int _), (0, .ref _)]) => ?_)
  refine lv_iconst (v := 0) hx hb d_ST_mixedCounter_23 (by decide) ?_
  refine lv_istore hx hb d_ST_mixedCounter_24 hl (by decide) rfl (fun ls (hl : lv_has ls 7 [(4, .int _), (3, .int _), (2, .int _), (1, .int _), (0, .ref _)]) => ?_)
  refine lp_w (σ := Nat) (fun i => 10 - i) (fun i H locs ls => i ≤ 10 ∧ lv_has ls 7 [(4, .int (nI i)), (3, .int (mxN i (mx0 f g)).2.2), (2, .int (mxN i (mx0 f g)).2.1), (1, .int (mxN i (mx0 f g)).1), (0, .ref h)] ∧ wd D A wl s H locs) ?_ 0 _ _ _ ⟨by omega, lv_sub hl [0, 1, 2, 3, 4] rfl, hw⟩
  rintro i H locs ls ⟨hi, hl, hw⟩ ih
  refine lv_iload hx hb d_ST_mixedCounter_26 (lv_at hl 0 rfl) ?_
  refine lv_bipush (v := 10) hx hb d_ST_mixedCounter_28 (by decide) ?_
  refine lv_icmp_ge (tgt := 69) hx hb d_ST_mixedCounter_30 rfl (fun h30 => ?_) (fun h30 => ?_)
  · have h30 : 10 ≤ i := (nI_leI (a := 10) (by omega) (by omega)).mp h30
    have hi10 : i = 10 := by omega
    refine lv_aload_n hx hb d_ST_mixedCounter_69 rfl (lv_at hl 4 rfl) ?_
    refine g_get B hw fl_ST_17 he rfl d_ST_mixedCounter_70 ?_
    refine lv_lconst (v := 1) hx hb d_ST_mixedCounter_73 (by decide) ?_
    refine lv_land hx hb d_ST_mixedCounter_74 ?_
    refine lv_lconst (v := 0) hx hb d_ST_mixedCounter_75 (by decide) ?_
    refine W.lcmp hx hb d_ST_mixedCounter_76 ?_
    refine lv_if_ne (tgt := 84) hx hb d_ST_mixedCounter_77 rfl (fun h77 => ?_) (fun h77 => ?_)
    · rw [lg_cmp_eq] at h77
      have hz := mxO_od (f := f) h77
      refine lv_iload_n hx hb d_ST_mixedCounter_84 rfl (lv_at hl 2 rfl) ?_
      exact r_i B hw d_ST_mixedCounter_85 ⟨by rw [hz, hi10], rfl⟩
    · rw [lg_cmp_eq] at h77
      have hz := mxO_ev (f := f) h77
      refine lv_iload_n hx hb d_ST_mixedCounter_80 rfl (lv_at hl 3 rfl) ?_
      refine lv_goto (tgt := 85) hx hb d_ST_mixedCounter_81 rfl ?_
      exact r_i B hw d_ST_mixedCounter_85 ⟨by rw [hz, hi10], rfl⟩
  · have h30 : i < 10 := Nat.lt_of_not_le (fun q => h30 ((nI_leI (a := 10) (by omega) (by omega)).mpr q))
    refine lv_iload_n hx hb d_ST_mixedCounter_33 rfl (lv_at hl 3 rfl) ?_
    refine k_l (k_runN B hw c_NS_asNumber rfl rfl cf_ST_28 ⟨Nat.le_of_ble_eq_true rfl, Nat.le_of_ble_eq_true rfl⟩ rfl hl.1 rfl (Nat.le_of_ble_eq_true rfl) d_ST_mixedCounter_34 ⟨Nat.le_of_ble_eq_true rfl, Nat.le_of_ble_eq_true rfl⟩) hw (fun r34 w1 H locs hq hw => ?_)
    obtain ⟨rfl, ew⟩ := hq
    rw [ew] at hw
    refine g_ldc2 B kc_ST_74 d_ST_mixedCounter_37 ?_
    refine lv_lmul hx hb d_ST_mixedCounter_40 ?_
    refine lv_lstore hx hb d_ST_mixedCounter_41 hl (by decide) rfl (fun ls (hl : lv_has ls 7 [(5, .long _), (4, .int _), (3, .int _), (2, .int _), (1, .int _), (0, .ref _)]) => ?_)
    refine lv_lload hx hb d_ST_mixedCounter_43 (lv_at hl 0 rfl) ?_
    refine lv_bipush (v := 32) hx hb d_ST_mixedCounter_45 (by decide) ?_
    refine lv_lushr hx hb d_ST_mixedCounter_47 rfl ?_
    refine lv_l2i hx hb d_ST_mixedCounter_48 rfl ?_
    refine lv_iload_n hx hb d_ST_mixedCounter_49 rfl (lv_at hl 2 rfl) ?_
    refine lv_ixor hx hb d_ST_mixedCounter_50 ?_
    refine lv_iload_n hx hb d_ST_mixedCounter_51 rfl (lv_at hl 3 rfl) ?_
    refine lv_ixor hx hb d_ST_mixedCounter_52 ?_
    refine lv_istore_n hx hb d_ST_mixedCounter_53 rfl hl (by decide) rfl (fun ls (hl : lv_has ls 7 [(1, .int _), (5, .long _), (4, .int _), (3, .int _), (2, .int _), (0, .ref _)]) => ?_)
    refine lv_lload hx hb d_ST_mixedCounter_54 (lv_at hl 1 rfl) ?_
    refine lv_l2i hx hb d_ST_mixedCounter_56 rfl ?_
    refine lv_istore_n hx hb d_ST_mixedCounter_57 rfl hl (by decide) rfl (fun ls (hl : lv_has ls 7 [(2, .int _), (1, .int _), (5, .long _), (4, .int _), (3, .int _), (0, .ref _)]) => ?_)
    refine lv_iload_n hx hb d_ST_mixedCounter_58 rfl (lv_at hl 4 rfl) ?_
    refine g_ldc B kc_ST_76 d_ST_mixedCounter_59 ?_
    refine lv_isub hx hb d_ST_mixedCounter_61 ?_
    rw [mxR_sub]
    refine lv_istore_n hx hb d_ST_mixedCounter_62 rfl hl (by decide) rfl (fun ls (hl : lv_has ls 7 [(3, .int _), (2, .int _), (1, .int _), (5, .long _), (4, .int _), (0, .ref _)]) => ?_)
    refine lv_iinc (k := 4) hx hb d_ST_mixedCounter_63 hl rfl (show nI i + Int32.ofInt 1 = nI (i + 1) from (nI_succ i).symm) (by decide) rfl (fun ls (hl : lv_has ls 7 [(4, .int (nI (i + 1))), (3, .int _), (2, .int _), (1, .int _), (5, .long _), (0, .ref _)]) => ?_)
    refine lv_goto (tgt := 26) hx hb d_ST_mixedCounter_66 rfl ?_
    exact ih (i + 1) _ _ _ (by omega) ⟨by omega, lv_sub hl [0, 1, 2, 3, 5] rfl, hw⟩
set_option maxRecDepth 100000 in
set_option maxHeartbeats 4000000 in
theorem c_ST_moveRotations {l : Launch} {D : va_G} {K : Nat → ClassId} {A : Nat → Prop} {wl : va_W} {ix h : Nat} {k : Int32} {f g : Int64} (he : wl[ix]? = some (h, oSt k f g)) : ctV l y_ST_moveRotations prog_4_method_13_code 3 1 0 0 [.ref h] D K A (wl) (fun w => w = wl.set ix (h, oSt k (rol f.toInt32 26 ^^^ (g.toInt32 ^^^ f.toInt32) ^^^ ((g.toInt32 ^^^ f.toInt32) <<< ((9 : Int32) &&& 31))).toInt64 (rol (g.toInt32 ^^^ f.toInt32) 13).toInt64)) := by
  refine mt_of (by decide) (Nat.le_of_ble_eq_true rfl) ?_
  intro p e s m below meth c ls B hw hl
  have hx := B.1
  have hb := B.2.1
  have hl : lv_has ls 3 [(0, .ref h)] := hl
  refine lv_aload_n hx hb d_ST_moveRotations_0 rfl (lv_at hl 0 rfl) ?_
  refine g_get B hw fl_ST_13 he rfl d_ST_moveRotations_1 ?_
  refine lv_l2i hx hb d_ST_moveRotations_4 rfl ?_
  refine lv_istore_n hx hb d_ST_moveRotations_5 rfl hl (by decide) rfl (fun ls (hl : lv_has ls 3 [(1, .int _), (0, .ref _)]) => ?_)
  refine lv_aload_n hx hb d_ST_moveRotations_6 rfl (lv_at hl 1 rfl) ?_
  refine g_get B hw fl_ST_17 he rfl d_ST_moveRotations_7 ?_
  refine lv_l2i hx hb d_ST_moveRotations_10 rfl ?_
  refine lv_iload_n hx hb d_ST_moveRotations_11 rfl (lv_at hl 0 rfl) ?_
  refine lv_ixor hx hb d_ST_moveRotations_12 ?_
  refine lv_istore_n hx hb d_ST_moveRotations_13 rfl hl (by decide) rfl (fun ls (hl : lv_has ls 3 [(2, .int _), (1, .int _), (0, .ref _)]) => ?_)
  refine lv_aload_n hx hb d_ST_moveRotations_14 rfl (lv_at hl 2 rfl) ?_
  refine lv_iload_n hx hb d_ST_moveRotations_15 rfl (lv_at hl 1 rfl) ?_
  refine lv_bipush (v := 26) hx hb d_ST_moveRotations_16 (by decide) ?_
  refine k_i (k_runS B hw c_JI_rotateLeft rfl rfl cf_ST_68 ⟨Nat.le_of_ble_eq_true rfl, Nat.le_of_ble_eq_true rfl⟩ rfl hl.1 rfl (Nat.le_of_ble_eq_true rfl) d_ST_moveRotations_18 ⟨Nat.le_of_ble_eq_true rfl, Nat.le_of_ble_eq_true rfl⟩) hw (fun r18 w1 H locs hq hw => ?_)
  obtain ⟨rfl, ew⟩ := hq
  rw [ew] at hw
  refine lv_iload_n hx hb d_ST_moveRotations_21 rfl (lv_at hl 0 rfl) ?_
  refine lv_ixor hx hb d_ST_moveRotations_22 ?_
  refine lv_iload_n hx hb d_ST_moveRotations_23 rfl (lv_at hl 0 rfl) ?_
  refine lv_bipush (v := 9) hx hb d_ST_moveRotations_24 (by decide) ?_
  refine lv_ishl hx hb d_ST_moveRotations_26 ?_
  refine lv_ixor hx hb d_ST_moveRotations_27 ?_
  refine lv_i2l hx hb d_ST_moveRotations_28 rfl ?_
  refine g_put B hw fl_ST_13 ck_ST he rfl rfl rfl (Nat.le_of_ble_eq_true rfl) d_ST_moveRotations_29 (fun H locs hw => ?_)
  have hw : wd D A (wl.set ix (h, oSt _ _ _)) s H locs := hw
  refine lv_aload_n hx hb d_ST_moveRotations_32 rfl (lv_at hl 2 rfl) ?_
  refine lv_iload_n hx hb d_ST_moveRotations_33 rfl (lv_at hl 0 rfl) ?_
  refine lv_bipush (v := 13) hx hb d_ST_moveRotations_34 (by decide) ?_
  refine k_i (k_runS B hw c_JI_rotateLeft rfl rfl cf_ST_68 ⟨Nat.le_of_ble_eq_true rfl, Nat.le_of_ble_eq_true rfl⟩ rfl hl.1 rfl (Nat.le_of_ble_eq_true rfl) d_ST_moveRotations_36 ⟨Nat.le_of_ble_eq_true rfl, Nat.le_of_ble_eq_true rfl⟩) hw (fun r36 w1 H locs hq hw => ?_)
  obtain ⟨rfl, ew⟩ := hq
  rw [ew] at hw
  refine lv_i2l hx hb d_ST_moveRotations_39 rfl ?_
  refine g_put B hw fl_ST_17 ck_ST (gs_eq he) rfl rfl rfl (Nat.le_of_ble_eq_true rfl) d_ST_moveRotations_40 (fun H locs hw => ?_)
  rw [List.set_set] at hw
  have hw : wd D A (wl.set ix (h, oSt _ _ _)) s H locs := hw
  exact r_v B hw d_ST_moveRotations_43 rfl
set_option maxRecDepth 100000 in
set_option maxHeartbeats 4000000 in
theorem c_ST_move {l : Launch} {D : va_G} {K : Nat → ClassId} {A : Nat → Prop} {wl : va_W} {ix h : Nat} {k : Int32} {f g : Int64} (he : wl[ix]? = some (h, oSt k f g)) : ctV l y_ST_move prog_4_method_11_code 3 2 0 0 [.ref h] D K A (wl) (fun w => w = wl.set ix (h, oSt k (mvF k f g) (mvS k f g))) := by
  refine mt_of (by decide) (Nat.le_of_ble_eq_true rfl) ?_
  intro p e s m below meth c ls B hw hl
  have hx := B.1
  have hb := B.2.1
  have hl : lv_has ls 3 [(0, .ref h)] := hl
  refine lv_aload_n hx hb d_ST_move_0 rfl (lv_at hl 0 rfl) ?_
  refine g_get B hw fl_ST_7 he rfl d_ST_move_1 ?_
  rcases sw3 k with rfl | rfl | rfl | ⟨hd4, n0, n1, n2⟩
  · refine lv_tableIn (tgt := 32) hx hb d_ST_move_4 (by decide) (by decide) rfl rfl ?_
    have m1 := mvF_0 f g
    have m2 := mvS_0 f g
    refine lv_aload_n hx hb d_ST_move_32 rfl (lv_at hl 0 rfl) ?_
    refine lv_aload_n hx hb d_ST_move_33 rfl (lv_at hl 0 rfl) ?_
    refine g_get B hw fl_ST_13 he rfl d_ST_move_34 ?_
    refine g_ldc2 B kc_ST_50 d_ST_move_37 ?_
    refine lv_lmul hx hb d_ST_move_40 ?_
    refine lv_aload_n hx hb d_ST_move_41 rfl (lv_at hl 0 rfl) ?_
    refine g_get B hw fl_ST_17 he rfl d_ST_move_42 ?_
    refine lv_ladd hx hb d_ST_move_45 ?_
    refine g_put B hw fl_ST_13 ck_ST he rfl rfl rfl (Nat.le_of_ble_eq_true rfl) d_ST_move_46 (fun H locs hw => ?_)
    have hw : wd D A (wl.set ix (h, oSt _ _ _)) s H locs := hw
    refine lv_goto (tgt := 105) hx hb d_ST_move_49 rfl ?_
    exact r_v B hw d_ST_move_105 (by rw [m1, m2])
  · refine lv_tableIn (tgt := 52) hx hb d_ST_move_4 (by decide) (by decide) rfl rfl ?_
    have m1 := mvF_1 f g
    have m2 := mvS_1 f g
    refine lv_aload_n hx hb d_ST_move_52 rfl (lv_at hl 0 rfl) ?_
    refine k_v (k_runV B hw (c_ST_moveRotations he) rfl rfl cf_ST_52 he rfl rfl ⟨Nat.le_of_ble_eq_true rfl, Nat.le_of_ble_eq_true rfl⟩ rfl hl.1 rfl (Nat.le_of_ble_eq_true rfl) d_ST_move_53 ⟨Nat.le_of_ble_eq_true rfl, Nat.le_of_ble_eq_true rfl⟩) hw (fun w1 H locs hq hw => ?_)
    rw [hq] at hw
    refine lv_goto (tgt := 105) hx hb d_ST_move_56 rfl ?_
    exact r_v B hw d_ST_move_105 (by rw [m1, m2])
  · refine lv_tableIn (tgt := 59) hx hb d_ST_move_4 (by decide) (by decide) rfl rfl ?_
    have m1 := mvF_2 f g
    have m2 := mvS_2 f g
    refine lv_aload_n hx hb d_ST_move_59 rfl (lv_at hl 0 rfl) ?_
    refine lv_aload_n hx hb d_ST_move_60 rfl (lv_at hl 0 rfl) ?_
    refine g_get B hw fl_ST_17 he rfl d_ST_move_61 ?_
    refine g_ldc2 B kc_ST_55 d_ST_move_64 ?_
    refine W.lcmp hx hb d_ST_move_67 ?_
    refine lv_if_ne (tgt := 75) hx hb d_ST_move_68 rfl (fun h68 => ?_) (fun h68 => ?_)
    · rw [lg_cmp_eq] at h68
      rw [if_neg h68] at m2
      refine lv_aload_n hx hb d_ST_move_75 rfl (lv_at hl 0 rfl) ?_
      refine g_get B hw fl_ST_17 he rfl d_ST_move_76 ?_
      refine lv_lconst (v := 1) hx hb d_ST_move_79 (by decide) ?_
      refine lv_ladd hx hb d_ST_move_80 ?_
      refine g_put B hw fl_ST_17 ck_ST he rfl rfl rfl (Nat.le_of_ble_eq_true rfl) d_ST_move_81 (fun H locs hw => ?_)
      have hw : wd D A (wl.set ix (h, oSt _ _ _)) s H locs := hw
      refine lv_goto (tgt := 105) hx hb d_ST_move_84 rfl ?_
      exact r_v B hw d_ST_move_105 (by rw [m1, m2])
    · rw [lg_cmp_eq] at h68
      rw [if_pos h68] at m2
      refine lv_lconst (v := 0) hx hb d_ST_move_71 (by decide) ?_
      refine lv_goto (tgt := 81) hx hb d_ST_move_72 rfl ?_
      refine g_put B hw fl_ST_17 ck_ST he rfl rfl rfl (Nat.le_of_ble_eq_true rfl) d_ST_move_81 (fun H locs hw => ?_)
      have hw : wd D A (wl.set ix (h, oSt _ _ _)) s H locs := hw
      refine lv_goto (tgt := 105) hx hb d_ST_move_84 rfl ?_
      exact r_v B hw d_ST_move_105 (by rw [m1, m2])
  · refine lv_tableOut (tgt := 87) hx hb d_ST_move_4 hd4 rfl ?_
    have m1 := mvF_n n0 n1 n2 f g
    have m2 := mvS_n n0 n1 n2 f g
    refine lv_aload_n hx hb d_ST_move_87 rfl (lv_at hl 0 rfl) ?_
    refine k_l (k_runV B hw (c_ST_nextRemainder he) rfl rfl cf_ST_57 he rfl rfl ⟨Nat.le_of_ble_eq_true rfl, Nat.le_of_ble_eq_true rfl⟩ rfl hl.1 rfl (Nat.le_of_ble_eq_true rfl) d_ST_move_88 ⟨Nat.le_of_ble_eq_true rfl, Nat.le_of_ble_eq_true rfl⟩) hw (fun r88 w1 H locs hq hw => ?_)
    obtain ⟨rfl, ew⟩ := hq
    rw [ew] at hw
    refine lv_lstore_n hx hb d_ST_move_91 rfl hl (by decide) rfl (fun ls (hl : lv_has ls 3 [(1, .long _), (0, .ref _)]) => ?_)
    refine lv_aload_n hx hb d_ST_move_92 rfl (lv_at hl 1 rfl) ?_
    refine lv_aload_n hx hb d_ST_move_93 rfl (lv_at hl 1 rfl) ?_
    refine g_get B hw fl_ST_13 he rfl d_ST_move_94 ?_
    refine g_put B hw fl_ST_17 ck_ST he rfl rfl rfl (Nat.le_of_ble_eq_true rfl) d_ST_move_97 (fun H locs hw => ?_)
    have hw : wd D A (wl.set ix (h, oSt _ _ _)) s H locs := hw
    refine lv_aload_n hx hb d_ST_move_100 rfl (lv_at hl 1 rfl) ?_
    refine lv_lload_n hx hb d_ST_move_101 rfl (lv_at hl 0 rfl) ?_
    refine g_put B hw fl_ST_13 ck_ST (gs_eq he) rfl rfl rfl (Nat.le_of_ble_eq_true rfl) d_ST_move_102 (fun H locs hw => ?_)
    rw [List.set_set] at hw
    have hw : wd D A (wl.set ix (h, oSt _ _ _)) s H locs := hw
    exact r_v B hw d_ST_move_105 (by rw [m1, m2])
set_option maxRecDepth 100000 in
set_option maxHeartbeats 4000000 in
theorem c_ST_output {l : Launch} {D : va_G} {K : Nat → ClassId} {A : Nat → Prop} {wl : va_W} {ix h : Nat} {k : Int32} {f g : Int64} (he : wl[ix]? = some (h, oSt k f g)) : ctI l y_ST_output prog_4_method_12_code 1 (some .int) 2 0 0 [.ref h] D K A (wl) (fun r w => r = otp k f g ∧ w = wl) := by
  refine mt_of (by decide) (Nat.le_of_ble_eq_true rfl) ?_
  intro p e s m below meth c ls B hw hl
  have hx := B.1
  have hb := B.2.1
  have hl : lv_has ls 1 [(0, .ref h)] := hl
  refine lv_aload_n hx hb d_ST_output_0 rfl (lv_at hl 0 rfl) ?_
  refine g_get B hw fl_ST_7 he rfl d_ST_output_1 ?_
  rcases sw3 k with rfl | rfl | rfl | ⟨hd4, n0, n1, n2⟩
  · refine lv_tableIn (tgt := 32) hx hb d_ST_output_4 (by decide) (by decide) rfl rfl ?_
    have m1 := otp_0 f g
    refine lv_aload_n hx hb d_ST_output_32 rfl (lv_at hl 0 rfl) ?_
    refine g_get B hw fl_ST_13 he rfl d_ST_output_33 ?_
    refine lv_bipush (v := 18) hx hb d_ST_output_36 (by decide) ?_
    refine lv_lushr hx hb d_ST_output_38 rfl ?_
    refine lv_aload_n hx hb d_ST_output_39 rfl (lv_at hl 0 rfl) ?_
    refine g_get B hw fl_ST_13 he rfl d_ST_output_40 ?_
    refine lv_lxor hx hb d_ST_output_43 ?_
    refine lv_bipush (v := 27) hx hb d_ST_output_44 (by decide) ?_
    refine lv_lushr hx hb d_ST_output_46 rfl ?_
    refine lv_l2i hx hb d_ST_output_47 rfl ?_
    refine lv_aload_n hx hb d_ST_output_48 rfl (lv_at hl 0 rfl) ?_
    refine g_get B hw fl_ST_13 he rfl d_ST_output_49 ?_
    refine lv_bipush (v := 59) hx hb d_ST_output_52 (by decide) ?_
    refine lv_lushr hx hb d_ST_output_54 rfl ?_
    refine lv_l2i hx hb d_ST_output_55 rfl ?_
    refine k_i (k_runS B hw c_JI_rotateRight rfl rfl cf_ST_61 ⟨Nat.le_of_ble_eq_true rfl, Nat.le_of_ble_eq_true rfl⟩ rfl hl.1 rfl (Nat.le_of_ble_eq_true rfl) d_ST_output_56 ⟨Nat.le_of_ble_eq_true rfl, Nat.le_of_ble_eq_true rfl⟩) hw (fun r56 w1 H locs hq hw => ?_)
    obtain ⟨rfl, ew⟩ := hq
    rw [ew] at hw
    exact r_i B hw d_ST_output_59 ⟨by rw [m1], rfl⟩
  · refine lv_tableIn (tgt := 60) hx hb d_ST_output_4 (by decide) (by decide) rfl rfl ?_
    have m1 := otp_1 f g
    refine lv_aload_n hx hb d_ST_output_60 rfl (lv_at hl 0 rfl) ?_
    refine g_get B hw fl_ST_13 he rfl d_ST_output_61 ?_
    refine lv_l2i hx hb d_ST_output_64 rfl ?_
    refine g_ldc B kc_ST_67 d_ST_output_65 ?_
    refine lv_imul hx hb d_ST_output_67 ?_
    refine lv_iconst (v := 5) hx hb d_ST_output_68 (by decide) ?_
    refine k_i (k_runS B hw c_JI_rotateLeft rfl rfl cf_ST_68 ⟨Nat.le_of_ble_eq_true rfl, Nat.le_of_ble_eq_true rfl⟩ rfl hl.1 rfl (Nat.le_of_ble_eq_true rfl) d_ST_output_69 ⟨Nat.le_of_ble_eq_true rfl, Nat.le_of_ble_eq_true rfl⟩) hw (fun r69 w1 H locs hq hw => ?_)
    obtain ⟨rfl, ew⟩ := hq
    rw [ew] at hw
    refine lv_iconst (v := 5) hx hb d_ST_output_72 (by decide) ?_
    refine lv_imul hx hb d_ST_output_73 ?_
    exact r_i B hw d_ST_output_74 ⟨by rw [m1], rfl⟩
  · refine lv_tableIn (tgt := 75) hx hb d_ST_output_4 (by decide) (by decide) rfl rfl ?_
    have m1 := otp_2 f g
    refine lv_aload_n hx hb d_ST_output_75 rfl (lv_at hl 0 rfl) ?_
    refine k_i (k_runV B hw (c_ST_mixedCounter he) rfl rfl cf_ST_71 he rfl rfl ⟨Nat.le_of_ble_eq_true rfl, Nat.le_of_ble_eq_true rfl⟩ rfl hl.1 rfl (Nat.le_of_ble_eq_true rfl) d_ST_output_76 ⟨Nat.le_of_ble_eq_true rfl, Nat.le_of_ble_eq_true rfl⟩) hw (fun r76 w1 H locs hq hw => ?_)
    obtain ⟨rfl, ew⟩ := hq
    rw [ew] at hw
    exact r_i B hw d_ST_output_79 ⟨by rw [m1], rfl⟩
  · refine lv_tableOut (tgt := 80) hx hb d_ST_output_4 hd4 rfl ?_
    have m1 := otp_n n0 n1 n2 f g
    refine g_ldc2 B kc_ST_26 d_ST_output_80 ?_
    refine lv_aload_n hx hb d_ST_output_83 rfl (lv_at hl 0 rfl) ?_
    refine k_l (k_runV B hw (c_ST_nextRemainder he) rfl rfl cf_ST_57 he rfl rfl ⟨Nat.le_of_ble_eq_true rfl, Nat.le_of_ble_eq_true rfl⟩ rfl hl.1 rfl (Nat.le_of_ble_eq_true rfl) d_ST_output_84 ⟨Nat.le_of_ble_eq_true rfl, Nat.le_of_ble_eq_true rfl⟩) hw (fun r84 w1 H locs hq hw => ?_)
    obtain ⟨rfl, ew⟩ := hq
    rw [ew] at hw
    refine lv_lmul hx hb d_ST_output_87 ?_
    refine lv_aload_n hx hb d_ST_output_88 rfl (lv_at hl 0 rfl) ?_
    refine g_get B hw fl_ST_13 he rfl d_ST_output_89 ?_
    refine lv_lconst (v := 1) hx hb d_ST_output_92 (by decide) ?_
    refine lv_land hx hb d_ST_output_93 ?_
    refine lv_ladd hx hb d_ST_output_94 ?_
    refine lv_l2i hx hb d_ST_output_95 rfl ?_
    exact r_i B hw d_ST_output_96 ⟨by rw [m1], rfl⟩
set_option maxRecDepth 100000 in
set_option maxHeartbeats 4000000 in
theorem c_ST_step {l : Launch} {D : va_G} {K : Nat → ClassId} {A : Nat → Prop} {wl : va_W} {ix h : Nat} {k : Int32} {f g : Int64} (he : wl[ix]? = some (h, oSt k f g)) : ctI l y_ST_step prog_4_method_9_code 2 (some .int) 3 0 0 [.ref h] D K A (wl) (fun r w => r = otp k f g ∧ w = wl.set ix (h, oSt k (mvF k f g) (mvS k f g))) := by
  refine mt_of (by decide) (Nat.le_of_ble_eq_true rfl) ?_
  intro p e s m below meth c ls B hw hl
  have hx := B.1
  have hb := B.2.1
  have hl : lv_has ls 2 [(0, .ref h)] := hl
  refine lv_aload_n hx hb d_ST_step_0 rfl (lv_at hl 0 rfl) ?_
  refine k_i (k_runV B hw (c_ST_output he) rfl rfl cf_ST_38 he rfl rfl ⟨Nat.le_of_ble_eq_true rfl, Nat.le_of_ble_eq_true rfl⟩ rfl hl.1 rfl (Nat.le_of_ble_eq_true rfl) d_ST_step_1 ⟨Nat.le_of_ble_eq_true rfl, Nat.le_of_ble_eq_true rfl⟩) hw (fun r1 w1 H locs hq hw => ?_)
  obtain ⟨rfl, ew⟩ := hq
  rw [ew] at hw
  refine lv_istore_n hx hb d_ST_step_4 rfl hl (by decide) rfl (fun ls (hl : lv_has ls 2 [(1, .int _), (0, .ref _)]) => ?_)
  refine lv_aload_n hx hb d_ST_step_5 rfl (lv_at hl 1 rfl) ?_
  refine k_v (k_runV B hw (c_ST_move he) rfl rfl cf_ST_42 he rfl rfl ⟨Nat.le_of_ble_eq_true rfl, Nat.le_of_ble_eq_true rfl⟩ rfl hl.1 rfl (Nat.le_of_ble_eq_true rfl) d_ST_step_6 ⟨Nat.le_of_ble_eq_true rfl, Nat.le_of_ble_eq_true rfl⟩) hw (fun w1 H locs hq hw => ?_)
  rw [hq] at hw
  refine lv_iload_n hx hb d_ST_step_9 rfl (lv_at hl 0 rfl) ?_
  exact r_i B hw d_ST_step_10 ⟨rfl, rfl⟩
