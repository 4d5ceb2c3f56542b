/-! Stream.drawnBelow, and its constructor. -/
theorem ne64 {N : Nat} (h0 : 0 < N) (hN : N < 2 ^ 31) : ¬ (nI N).toInt64 = 0 := by
  rw [i64_nI hN, show (0 : Int64) = lN 0 by decide, pk_lEQ (by omega) (by omega)]
  omega
theorem bel_stop {n k : Int32} {j : Nat} {t : Int64 × Int64} (hj : 0 < j) (h : j = 1 ∨ ¬ nU (prd n k t.1 t.2).toInt32 < lst n) : bel n k j t = ((lus (prd n k t.1 t.2) 32).toInt32, mvF k t.1 t.2, mvS k t.1 t.2) := by
  obtain ⟨i, rfl⟩ : ∃ i, j = i + 1 := ⟨j - 1, by omega⟩
  unfold bel
  exact if_pos (h.imp (fun e => by omega) id)
theorem bel_go {n k : Int32} {j : Nat} {t : Int64 × Int64} (hj : 1 < j) (h : nU (prd n k t.1 t.2).toInt32 < lst n) : bel n k j t = bel n k (j - 1) (mvF k t.1 t.2, mvS k t.1 t.2) := by
  obtain ⟨i, rfl⟩ : ∃ i, j = i + 1 := ⟨j - 1, by omega⟩
  show (if i = 0 ∨ _ then _ else _) = _
  rw [if_neg (fun q => q.elim (fun e => by omega) (fun e => e h))]
  rfl
set_option maxRecDepth 100000 in
set_option maxHeartbeats 4000000 in
theorem c_ST_drawnBelow {l : Launch} {D : va_G} {K : Nat → ClassId} {A : Nat → Prop} {wl : va_W} {ix h : Nat} {k : Int32} {f g : Int64} (he : wl[ix]? = some (h, oSt k f g)) {N : Nat} (h0 : 0 < N) (hN : N < 2 ^ 31) : ctI l y_ST_drawnBelow prog_4_method_10_code 7 (some .int) 4 0 0 [.ref h, .int (nI N)] D K A (wl) (fun r w => r = (bel (nI N) k 8 (f, g)).1 ∧ w = wl.set ix (h, oSt k (bel (nI N) k 8 (f, g)).2.1 (bel (nI N) k 8 (f, g)).2.2)) := by
  refine mt_of (by decide) (Nat.le_of_ble_eq_true rfl) ?_
  intro p e s m below meth c ls B hw hl
  have hx := B.1
  have hb := B.2.1
  have hl : lv_has ls 7 [(0, .ref h), (1, .int (nI N))] := hl
  refine lv_iload_n hx hb d_ST_drawnBelow_0 rfl (lv_at hl 1 rfl) ?_
  refine lv_iconst (v := 1) hx hb d_ST_drawnBelow_1 (by decide) ?_
  refine lv_icmp_ge (tgt := 9) hx hb d_ST_drawnBelow_2 rfl (fun h2 => ?_) (fun h2 => ?_)
  · refine g_ldc2 B kc_ST_45 d_ST_drawnBelow_9 ?_
    refine lv_iload_n hx hb d_ST_drawnBelow_12 rfl (lv_at hl 1 rfl) ?_
    refine lv_i2l hx hb d_ST_drawnBelow_13 rfl ?_
    refine lv_lrem hx hb d_ST_drawnBelow_14 (ne64 h0 hN) ?_
    refine lv_lstore_n hx hb d_ST_drawnBelow_15 rfl hl (by decide) rfl (fun ls (hl : lv_has ls 7 [(2, .long (lst (nI N))), (0, .ref _), (1, .int _)]) => ?_)
    refine lv_aload_n hx hb d_ST_drawnBelow_16 rfl (lv_at hl 1 rfl) ?_
    refine k_i (k_runV B hw (c_ST_step he) rfl rfl cf_ST_47 he rfl rfl ⟨Nat.le_of_ble_eq_true rfl, Nat.le_of_ble_eq_true rfl⟩ rfl hl.1 rfl (Nat.le_of_ble_eq_true rfl) d_ST_drawnBelow_17 ⟨Nat.le_of_ble_eq_true rfl, Nat.le_of_ble_eq_true rfl⟩) hw (fun r17 w1 H locs hq hw => ?_)
    obtain ⟨rfl, ew⟩ := hq
    rw [ew] at hw
    refine k_l (k_runN B hw c_NS_asNumber rfl rfl cf_ST_28 ⟨Nat.le_of_ble_eq_true rfl, Nat.le_of_ble_eq_true rfl⟩ rfl hl.1 rfl (Nat.le_of_ble_eq_true rfl) d_ST_drawnBelow_20 ⟨Nat.le_of_ble_eq_true rfl, Nat.le_of_ble_eq_true rfl⟩) hw (fun r20 w1 H locs hq hw => ?_)
    obtain ⟨rfl, ew⟩ := hq
    rw [ew] at hw
    refine lv_iload_n hx hb d_ST_drawnBelow_23 rfl (lv_at hl 2 rfl) ?_
    refine lv_i2l hx hb d_ST_drawnBelow_24 rfl ?_
    refine lv_lmul hx hb d_ST_drawnBelow_25 ?_
    refine lv_lstore hx hb d_ST_drawnBelow_26 hl (by decide) rfl (fun ls (hl : lv_has ls 7 [(4, .long (prd (nI N) k f g)), (2, .long _), (0, .ref _), (1, .int _)]) => ?_)
    refine lv_iconst (v := 1) hx hb d_ST_drawnBelow_28 (by decide) ?_
    refine lv_istore hx hb d_ST_drawnBelow_29 hl (by decide) rfl (fun ls (hl : lv_has ls 7 [(6, .int _), (4, .long _), (2, .long _), (0, .ref _), (1, .int _)]) => ?_)
    refine lp_w (σ := Nat × Int64 × Int64) (fun x => x.1) (fun x H locs ls => 0 < x.1 ∧ x.1 ≤ 8 ∧ bel (nI N) k 8 (f, g) = bel (nI N) k x.1 x.2 ∧ lv_has ls 7 [(6, .int (nI (9 - x.1))), (4, .long (prd (nI N) k x.2.1 x.2.2)), (2, .long (lst (nI N))), (1, .int (nI N)), (0, .ref h)] ∧ wd D A (wl.set ix (h, oSt k (mvF k x.2.1 x.2.2) (mvS k x.2.1 x.2.2))) s H locs) ?_ (8, f, g) _ _ _ ⟨by show 0 < 8; omega, by show 8 ≤ 8; omega, rfl, lv_sub hl [0, 1, 2, 4, 3] rfl, hw⟩
    rintro ⟨j, f1, g1⟩ H locs ls ⟨hj, hj8, hbel, hl, hw⟩ ih
    dsimp only at hj hj8 hbel hl hw
    refine lv_iload hx hb d_ST_drawnBelow_31 (lv_at hl 0 rfl) ?_
    refine lv_bipush (v := 8) hx hb d_ST_drawnBelow_33 (by decide) ?_
    refine lv_icmp_ge (tgt := 67) hx hb d_ST_drawnBelow_35 rfl (fun h35 => ?_) (fun h35 => ?_)
    · have h35 : 8 ≤ 9 - j := (nI_leI (a := 8) (by omega) (by omega)).mp h35
      have hs := bel_stop (n := nI N) (k := k) (t := (f1, g1)) hj (Or.inl (by omega))
      refine lv_lload hx hb d_ST_drawnBelow_67 (lv_at hl 1 rfl) ?_
      refine lv_bipush (v := 32) hx hb d_ST_drawnBelow_69 (by decide) ?_
      refine lv_lushr hx hb d_ST_drawnBelow_71 rfl ?_
      refine lv_l2i hx hb d_ST_drawnBelow_72 rfl ?_
      exact r_i B hw d_ST_drawnBelow_73 ⟨by rw [hbel, hs], by rw [hbel, hs]⟩
    · have h35 : 1 < j := Nat.lt_of_not_le (fun q => h35 ((nI_leI (a := 8) (by omega) (by omega)).mpr (by omega)))
      refine lv_lload hx hb d_ST_drawnBelow_38 (lv_at hl 1 rfl) ?_
      refine lv_l2i hx hb d_ST_drawnBelow_40 rfl ?_
      refine k_l (k_runN B hw c_NS_asNumber rfl rfl cf_ST_28 ⟨Nat.le_of_ble_eq_true rfl, Nat.le_of_ble_eq_true rfl⟩ rfl hl.1 rfl (Nat.le_of_ble_eq_true rfl) d_ST_drawnBelow_41 ⟨Nat.le_of_ble_eq_true rfl, Nat.le_of_ble_eq_true rfl⟩) hw (fun r41 w1 H locs hq hw => ?_)
      obtain ⟨rfl, ew⟩ := hq
      rw [ew] at hw
      refine lv_lload_n hx hb d_ST_drawnBelow_44 rfl (lv_at hl 2 rfl) ?_
      refine W.lcmp hx hb d_ST_drawnBelow_45 ?_
      refine lv_if_ge (tgt := 67) hx hb d_ST_drawnBelow_46 rfl (fun h46 => ?_) (fun h46 => ?_)
      · rw [lg_cmp_ge] at h46
        have hs := bel_stop (n := nI N) (k := k) (t := (f1, g1)) hj (Or.inr (Int64.not_lt.mpr h46))
        refine lv_lload hx hb d_ST_drawnBelow_67 (lv_at hl 1 rfl) ?_
        refine lv_bipush (v := 32) hx hb d_ST_drawnBelow_69 (by decide) ?_
        refine lv_lushr hx hb d_ST_drawnBelow_71 rfl ?_
        refine lv_l2i hx hb d_ST_drawnBelow_72 rfl ?_
        exact r_i B hw d_ST_drawnBelow_73 ⟨by rw [hbel, hs], by rw [hbel, hs]⟩
      · rw [lg_cmp_ge] at h46
        have h46 := Int64.not_le.mp h46
        refine lv_aload_n hx hb d_ST_drawnBelow_49 rfl (lv_at hl 4 rfl) ?_
        refine k_i (k_runV B hw (c_ST_step (gs_eq he)) rfl rfl cf_ST_47 (gs_eq he) rfl rfl ⟨Nat.le_of_ble_eq_true rfl, Nat.le_of_ble_eq_true rfl⟩ rfl hl.1 rfl (Nat.le_of_ble_eq_true rfl) d_ST_drawnBelow_50 ⟨Nat.le_of_ble_eq_true rfl, Nat.le_of_ble_eq_true rfl⟩) hw (fun r50 w1 H locs hq hw => ?_)
        obtain ⟨rfl, ew⟩ := hq
        rw [ew, List.set_set] at hw
        refine k_l (k_runN B hw c_NS_asNumber rfl rfl cf_ST_28 ⟨Nat.le_of_ble_eq_true rfl, Nat.le_of_ble_eq_true rfl⟩ rfl hl.1 rfl (Nat.le_of_ble_eq_true rfl) d_ST_drawnBelow_53 ⟨Nat.le_of_ble_eq_true rfl, Nat.le_of_ble_eq_true rfl⟩) hw (fun r53 w1 H locs hq hw => ?_)
        obtain ⟨rfl, ew⟩ := hq
        rw [ew] at hw
        refine lv_iload_n hx hb d_ST_drawnBelow_56 rfl (lv_at hl 3 rfl) ?_
        refine lv_i2l hx hb d_ST_drawnBelow_57 rfl ?_
        refine lv_lmul hx hb d_ST_drawnBelow_58 ?_
        refine lv_lstore hx hb d_ST_drawnBelow_59 hl (by decide) rfl (fun ls (hl : lv_has ls 7 [(4, .long (prd (nI N) k (mvF k f1 g1) (mvS k f1 g1))), (6, .int _), (2, .long _), (1, .int _), (0, .ref _)]) => ?_)
        refine lv_iinc (k := 1) hx hb d_ST_drawnBelow_61 hl rfl (show nI (9 - j) + Int32.ofInt 1 = nI (9 - (j - 1)) from by rw [show 9 - (j - 1) = (9 - j) + 1 by omega]; exact (nI_succ _).symm) (by decide) rfl (fun ls (hl : lv_has ls 7 [(6, .int (nI (9 - (j - 1)))), (4, .long _), (2, .long _), (1, .int _), (0, .ref _)]) => ?_)
        refine lv_goto (tgt := 31) hx hb d_ST_drawnBelow_64 rfl ?_
        exact ih (j - 1, mvF k f1 g1, mvS k f1 g1) _ _ _ (by show j - 1 < j; omega) ⟨by show 0 < j - 1; omega, by show j - 1 ≤ 8; omega, hbel.trans (bel_go h35 h46), lv_sub hl [0, 1, 2, 3, 4] rfl, hw⟩
  · exact absurd (nI_le (a := 1) (b := N) (by omega) hN) h2
set_option maxRecDepth 100000 in
set_option maxHeartbeats 4000000 in
theorem c_ST_init {l : Launch} {D : va_G} {K : Nat → ClassId} {A : Nat → Prop} {wl : va_W} {ix h : Nat} {k : Int32} {f g : Int64} (he : wl[ix]? = some (h, oSt 0 0 0)) : ctV l y_ST_init prog_4_method_1_code 6 1 0 0 [.ref h, .int k, .long f, .long g] D K A (wl) (fun w => w = wl.set ix (h, oSt k f g)) := by
  refine mt_of (by decide) (Nat.le_of_ble_eq_true rfl) ?_
  intro p e s m below meth c ls B hw hl
  have hx := B.1
  have hb := B.2.1
  have hl : lv_has ls 6 [(0, .ref h), (1, .int k), (2, .long f), (4, .long g)] := hl
  refine lv_aload_n hx hb d_ST_init_0 rfl (lv_at hl 0 rfl) ?_
  refine W.objInit hx hb B.2.2.2.1 (B.2.2.2.2.1 _ ml_ST_1) (B.2.2.2.2.1 _ im_OB_init) (B.2.2.2.2.1 _ co_OB_init) rfl (by rw [B.2.2.1]; exact hl.1) rfl d_ST_init_1 (Nat.le_of_ble_eq_true rfl) (Nat.le_of_ble_eq_true rfl) ?_
  refine W.eq (g2 := F0 m 4 ls []) rfl ?_
  refine lv_aload_n hx hb d_ST_init_4 rfl (lv_at hl 0 rfl) ?_
  refine lv_iload_n hx hb d_ST_init_5 rfl (lv_at hl 1 rfl) ?_
  refine g_putF B hw fl_ST_7 ck_ST he rfl rfl rfl rfl (Nat.le_of_ble_eq_true rfl) d_ST_init_6 (fun H locs hw => ?_)
  have hw : wd D A (wl.set ix (h, oSt _ _ _)) s H locs := hw
  refine lv_aload_n hx hb d_ST_init_9 rfl (lv_at hl 0 rfl) ?_
  refine lv_lload_n hx hb d_ST_init_10 rfl (lv_at hl 2 rfl) ?_
  refine g_put B hw fl_ST_13 ck_ST (gs_eq he) rfl rfl rfl (Nat.le_of_ble_eq_true rfl) d_ST_init_11 (fun H locs hw => ?_)
  rw [List.set_set] at hw
  have hw : wd D A (wl.set ix (h, oSt _ _ _)) s H locs := hw
  refine lv_aload_n hx hb d_ST_init_14 rfl (lv_at hl 0 rfl) ?_
  refine lv_lload hx hb d_ST_init_15 (lv_at hl 3 rfl) ?_
  refine g_put B hw fl_ST_17 ck_ST (gs_eq he) rfl rfl rfl (Nat.le_of_ble_eq_true rfl) d_ST_init_17 (fun H locs hw => ?_)
  rw [List.set_set] at hw
  have hw : wd D A (wl.set ix (h, oSt _ _ _)) s H locs := hw
  exact r_v B hw d_ST_init_20 rfl
