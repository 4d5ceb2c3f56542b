/-! NumberStreams: its private methods, and those that read or write one number. -/
def rcS (rc : Nat) (x : Int32) : Option Nat := if x < 0 then none else if x < nI rc then some x.toNatClampNeg else none
def rcAt (rc : Nat) (rr : Nat → Option Nat) (x : Int32) : Option Nat := if x < 0 then none else if x < nI rc then rr x.toNatClampNeg else none
theorem rc_case {K : Nat → ClassId} {rc : Nat} {sz : Nat → Nat} {sd : Nat → Int32} {rr : Nat → Option Nat} {ra wa : Nat → Nat} {wl : va_W} (hV : XV K rc sz sd rr ra wa wl) (x : Int32) : (rcS rc x = none ∧ rcAt rc rr x = none) ∨ ∃ r, r < rc ∧ x = nI r ∧ rcS rc (nI r) = some r ∧ rcAt rc rr (nI r) = some (ra r) ∧ sz r ≤ 6 ∧ ∃ (i j : Nat) (w : Nat → Int32), wl[i]? = some (ra r, oSv (wa r) (sz r)) ∧ wl[j]? = some (wa r, arI K 6 w) ∧ ∀ t, t < sz r → w t = sd (6 * r + t) := by
  have h6 := hV.1
  by_cases h0 : x < 0
  · exact Or.inl ⟨if_pos h0, if_pos h0⟩
  by_cases h8 : x < nI rc
  · obtain ⟨k, hk, rfl⟩ := slot_of h0 (by omega) h8
    obtain ⟨h1, h2, h3⟩ := hV.2.1 k hk
    refine Or.inr ⟨k, hk, rfl, ?_, ?_, h2, h3⟩
    · unfold rcS
      rw [if_neg h0, if_pos h8, nI_clamp (by omega)]
    · unfold rcAt
      rw [if_neg h0, if_pos h8, nI_clamp (by omega), h1]
  · refine Or.inl ⟨?_, ?_⟩
    · unfold rcS
      rw [if_neg h0, if_neg h8]
    · unfold rcAt
      rw [if_neg h0, if_neg h8]
theorem frN_hit {kd : Nat → Int32} {i : Nat} (hi : i < 8) (h : kd i < 0) : frN kd i (8 - i) = nI i := by
  obtain ⟨n, hn⟩ : ∃ n, 8 - i = n + 1 := ⟨7 - i, by omega⟩
  rw [hn]
  exact if_pos h
theorem frN_miss {kd : Nat → Int32} {i : Nat} (hi : i < 8) (h : ¬ kd i < 0) : frN kd i (8 - i) = frN kd (i + 1) (8 - (i + 1)) := by
  obtain ⟨n, hn⟩ : ∃ n, 8 - i = n + 1 := ⟨7 - i, by omega⟩
  rw [hn, show 8 - (i + 1) = n by omega]
  exact if_neg h
/-- weights: their sum, the outcome at a mark -/
def toW (wt : Nat → Int32) : Nat → Int32
  | 0 => 0
  | n + 1 => toW wt n + wt n
def ocN (wt : Nat → Int32) (mark : Int32) : Nat → Nat → Int32
  | _, 0 => -1
  | i, n + 1 => if toW wt (i + 1) ≤ mark then ocN wt mark (i + 1) n else nI i
theorem ocN_hit {wt : Nat → Int32} {mark : Int32} {i : Nat} (hi : i < 16) (h : ¬ toW wt (i + 1) ≤ mark) : ocN wt mark i (16 - i) = nI i := by
  obtain ⟨n, hn⟩ : ∃ n, 16 - i = n + 1 := ⟨15 - i, by omega⟩
  rw [hn]
  exact if_neg h
theorem ocN_miss {wt : Nat → Int32} {mark : Int32} {i : Nat} (hi : i < 16) (h : toW wt (i + 1) ≤ mark) : ocN wt mark i (16 - i) = ocN wt mark (i + 1) (16 - (i + 1)) := by
  obtain ⟨n, hn⟩ : ∃ n, 16 - i = n + 1 := ⟨15 - i, by omega⟩
  rw [hn, show 16 - (i + 1) = n by omega]
  exact if_pos h
def cdA (cd : Nat → Int32) (x : Int32) : Int32 := if x < 0 then -1 else if x < 16 then cd x.toNatClampNeg else -1
def wgB (x w : Int32) : Bool := if x < 0 then false else if 16 ≤ x then false else if w < 0 then false else if w ≤ 1000000 then true else false
def bI (b : Bool) : Int32 := if b then 1 else 0
def wgW (wt : Nat → Int32) (x w : Int32) : Nat → Int32 := if wgB x w then upd wt x.toNatClampNeg w else wt
def skB (x : Int32) : Bool := if x < 0 then false else if x ≤ 1048575 then true else false
def skX (ix : Nat) (x : Int32) : Nat := if skB x then x.toNatClampNeg else ix
def adX (ix : Nat) : Nat := if ix = 1048575 then 0 else ix + 1
def lnA (rc : Nat) (sz : Nat → Nat) (x : Int32) : Int32 := match rcS rc x with | none => -1 | some r => nI (sz r)
def hwB (rc : Nat) (sz : Nat → Nat) (x i : Int32) : Bool := match rcS rc x with | none => false | some r => if i < 0 then false else if nI (sz r) ≤ i then false else true
def wdA (rc : Nat) (sz : Nat → Nat) (sd : Nat → Int32) (x i : Int32) : Int32 := if hwB rc sz x i then sd (6 * x.toNatClampNeg + i.toNatClampNeg) else 0
set_option maxRecDepth 100000 in
set_option maxHeartbeats 4000000 in
theorem c_NS_streamAt {l : Launch} {D : va_G} {K : Nat → ClassId} {A : Nat → Prop} {wl : va_W} {h aS aR aP aD aW aC rc ix : Nat} {g rr gd : Nat → Option Nat} {wt cd : Nat → Int32} (hF : XF K h aS aR aP aD aW aC rc g rr gd ix wt cd wl) {x : Int32} : ctQ l y_NS_streamAt prog_1_method_22_code 2 (some (.object "NumberStreams$Stream")) 0 0 0 [.ref h, .int x] D K A (wl) (fun r w => r = stAt g x ∧ w = wl) := by
  refine mt_of (by decide) (Nat.le_of_ble_eq_true rfl) ?_
  intro p e s m below meth c ls B hw hl
  have hx := B.1
  have hb := B.2.1
  have hl : lv_has ls 2 [(0, .ref h), (1, .int x)] := hl
  have hF0 := hF
  obtain ⟨e0, e1, e2, e3, e4, e5, e9, e10⟩ := hF
  refine lv_iload_n hx hb d_NS_streamAt_0 rfl (lv_at hl 1 rfl) ?_
  refine lv_if_lt (tgt := 10) hx hb d_NS_streamAt_1 rfl (fun h1 => ?_) (fun h1 => ?_)
  · have ez : stAt g x = none := if_pos h1
    refine lv_null hx hb d_NS_streamAt_10 ?_
    refine lv_goto (tgt := 20) hx hb d_NS_streamAt_11 rfl ?_
    exact r_q (v := none) B hw d_NS_streamAt_20 ⟨ez.symm, rfl⟩
  · have ez : stAt g x = _ := if_neg h1
    refine lv_iload_n hx hb d_NS_streamAt_4 rfl (lv_at hl 1 rfl) ?_
    refine lv_bipush (v := 8) hx hb d_NS_streamAt_5 (by decide) ?_
    refine lv_icmp_lt (tgt := 14) hx hb d_NS_streamAt_7 rfl (fun h7 => ?_) (fun h7 => ?_)
    · rw [if_pos h7] at ez
      obtain ⟨k, hk, rfl⟩ := slot_of h1 (n := 8) (by omega) h7
      refine lv_aload_n hx hb d_NS_streamAt_14 rfl (lv_at hl 0 rfl) ?_
      refine g_get B hw fl_NS_11 e0 rfl d_NS_streamAt_15 ?_
      refine lv_iload_n hx hb d_NS_streamAt_18 rfl (lv_at hl 1 rfl) ?_
      refine g_aald 2 B hw e1 rfl (vp_in_nI hk (by omega)) d_NS_streamAt_19 ?_
      exact r_q (v := g (nI k).toNatClampNeg) B hw d_NS_streamAt_20 ⟨ez.symm, rfl⟩
    · rw [if_neg h7] at ez
      refine lv_null hx hb d_NS_streamAt_10 ?_
      refine lv_goto (tgt := 20) hx hb d_NS_streamAt_11 rfl ?_
      exact r_q (v := none) B hw d_NS_streamAt_20 ⟨ez.symm, rfl⟩
set_option maxRecDepth 100000 in
set_option maxHeartbeats 4000000 in
theorem c_NS_leastFreeSlot {l : Launch} {D : va_G} {K : Nat → ClassId} {A : Nat → Prop} {wl : va_W} {h aS aR aP aD aW aC rc ix : Nat} {g rr gd : Nat → Option Nat} {wt cd : Nat → Int32} (hF : XF K h aS aR aP aD aW aC rc g rr gd ix wt cd wl) {kd : Nat → Int32} {f1 f2 : Nat → Int64} (hX : XS kd f1 f2 g wl) : ctI l y_NS_leastFreeSlot prog_1_method_23_code 2 (some .int) 0 0 0 [.ref h] D K A (wl) (fun r w => r = frI kd ∧ w = wl) := by
  refine mt_of (by decide) (Nat.le_of_ble_eq_true rfl) ?_
  intro p e s m below meth c ls B hw hl
  have hx := B.1
  have hb := B.2.1
  have hl : lv_has ls 2 [(0, .ref h)] := hl
  have hF0 := hF
  obtain ⟨e0, e1, e2, e3, e4, e5, e9, e10⟩ := hF
  refine lv_iconst (v := 0) hx hb d_NS_leastFreeSlot_0 (by decide) ?_
  refine lv_istore_n hx hb d_NS_leastFreeSlot_1 rfl hl (by decide) rfl (fun ls (hl : lv_has ls 2 [(1, .int _), (0, .ref _)]) => ?_)
  refine lp_w (σ := Nat) (fun i => 8 - i) (fun i H locs ls => i ≤ 8 ∧ frI kd = frN kd i (8 - i) ∧ lv_has ls 2 [(1, .int (nI i)), (0, .ref h)] ∧ wd D A wl s H locs) ?_ 0 _ _ _ ⟨by omega, rfl, lv_sub hl [0, 1] rfl, hw⟩
  rintro i H locs ls ⟨hi, hfr, hl, hw⟩ ih
  refine lv_iload_n hx hb d_NS_leastFreeSlot_2 rfl (lv_at hl 0 rfl) ?_
  refine lv_bipush (v := 8) hx hb d_NS_leastFreeSlot_3 (by decide) ?_
  refine lv_icmp_ge (tgt := 25) hx hb d_NS_leastFreeSlot_5 rfl (fun h5 => ?_) (fun h5 => ?_)
  · have h5 : 8 ≤ i := (nI_leI (a := 8) (by omega) (by omega)).mp h5
    have hend : i = 8 := by omega
    refine lv_iconst (v := (-1)) hx hb d_NS_leastFreeSlot_25 (by decide) ?_
    exact r_i B hw d_NS_leastFreeSlot_26 ⟨by rw [hfr, hend]; rfl, rfl⟩
  · have h5 : i < 8 := Nat.lt_of_not_le (fun q => h5 ((nI_leI (a := 8) (by omega) (by omega)).mpr q))
    refine lv_aload_n hx hb d_NS_leastFreeSlot_8 rfl (lv_at hl 1 rfl) ?_
    refine g_get B hw fl_NS_11 e0 rfl d_NS_leastFreeSlot_9 ?_
    refine lv_iload_n hx hb d_NS_leastFreeSlot_12 rfl (lv_at hl 0 rfl) ?_
    refine g_aald 2 B hw e1 rfl (vp_in_nI h5 (by omega)) d_NS_leastFreeSlot_13 ?_
    rw [nI_clamp (by omega)]
    rcases hX.1 i h5 with ⟨hkd, hg⟩ | ⟨hkd, a, j, hg, hj⟩
    · rw [hg, va_rf_none]
      refine lv_ifnonnullN hx hb d_NS_leastFreeSlot_14 ?_
      refine lv_iload_n hx hb d_NS_leastFreeSlot_17 rfl (lv_at hl 0 rfl) ?_
      exact r_i B hw d_NS_leastFreeSlot_18 ⟨by rw [hfr, frN_hit h5 hkd], rfl⟩
    · rw [hg, va_rf_some]
      refine lv_ifnonnull (tgt := 19) hx hb d_NS_leastFreeSlot_14 rfl ?_
      refine lv_iinc (k := 0) hx hb d_NS_leastFreeSlot_19 hl rfl (show nI i + Int32.ofInt 1 = nI (i + 1) from (nI_succ i).symm) (by decide) rfl (fun ls (hl : lv_has ls 2 [(1, .int (nI (i + 1))), (0, .ref _)]) => ?_)
      refine lv_goto (tgt := 2) hx hb d_NS_leastFreeSlot_22 rfl ?_
      exact ih (i + 1) _ _ _ (by omega) ⟨by omega, hfr.trans (frN_miss h5 hkd), lv_sub hl [0, 1] rfl, hw⟩
set_option maxRecDepth 100000 in
set_option maxHeartbeats 4000000 in
theorem c_NS_recordAt {l : Launch} {D : va_G} {K : Nat → ClassId} {A : Nat → Prop} {wl : va_W} {h aS aR aP aD aW aC rc ix : Nat} {g rr gd : Nat → Option Nat} {wt cd : Nat → Int32} (hF : XF K h aS aR aP aD aW aC rc g rr gd ix wt cd wl) (h6 : rc ≤ 6) {x : Int32} : ctQ l y_NS_recordAt prog_1_method_24_code 2 (some (.object "NumberStreams$Saved")) 0 0 0 [.ref h, .int x] D K A (wl) (fun r w => r = rcAt rc rr x ∧ w = wl) := by
  refine mt_of (by decide) (Nat.le_of_ble_eq_true rfl) ?_
  intro p e s m below meth c ls B hw hl
  have hx := B.1
  have hb := B.2.1
  have hl : lv_has ls 2 [(0, .ref h), (1, .int x)] := hl
  have hF0 := hF
  obtain ⟨e0, e1, e2, e3, e4, e5, e9, e10⟩ := hF
  refine lv_iload_n hx hb d_NS_recordAt_0 rfl (lv_at hl 1 rfl) ?_
  refine lv_if_lt (tgt := 12) hx hb d_NS_recordAt_1 rfl (fun h1 => ?_) (fun h1 => ?_)
  · have ez : rcAt rc rr x = none := if_pos h1
    refine lv_null hx hb d_NS_recordAt_12 ?_
    refine lv_goto (tgt := 22) hx hb d_NS_recordAt_13 rfl ?_
    exact r_q (v := none) B hw d_NS_recordAt_22 ⟨ez.symm, rfl⟩
  · have ez : rcAt rc rr x = _ := if_neg h1
    refine lv_iload_n hx hb d_NS_recordAt_4 rfl (lv_at hl 1 rfl) ?_
    refine lv_aload_n hx hb d_NS_recordAt_5 rfl (lv_at hl 0 rfl) ?_
    refine g_get B hw fl_NS_21 e0 rfl d_NS_recordAt_6 ?_
    refine lv_icmp_lt (tgt := 16) hx hb d_NS_recordAt_9 rfl (fun h9 => ?_) (fun h9 => ?_)
    · rw [if_pos h9] at ez
      obtain ⟨k, hk, rfl⟩ := slot_of h1 (by omega) h9
      refine lv_aload_n hx hb d_NS_recordAt_16 rfl (lv_at hl 0 rfl) ?_
      refine g_get B hw fl_NS_17 e0 rfl d_NS_recordAt_17 ?_
      refine lv_iload_n hx hb d_NS_recordAt_20 rfl (lv_at hl 1 rfl) ?_
      refine g_aald 3 B hw e2 rfl (vp_in_nI (by omega) (by omega)) d_NS_recordAt_21 ?_
      exact r_q (v := rr (nI k).toNatClampNeg) B hw d_NS_recordAt_22 ⟨ez.symm, rfl⟩
    · rw [if_neg h9] at ez
      refine lv_null hx hb d_NS_recordAt_12 ?_
      refine lv_goto (tgt := 22) hx hb d_NS_recordAt_13 rfl ?_
      exact r_q (v := none) B hw d_NS_recordAt_22 ⟨ez.symm, rfl⟩
set_option maxRecDepth 100000 in
set_option maxHeartbeats 4000000 in
theorem c_NS_totalWeight {l : Launch} {D : va_G} {K : Nat → ClassId} {A : Nat → Prop} {wl : va_W} {h aS aR aP aD aW aC rc ix : Nat} {g rr gd : Nat → Option Nat} {wt cd : Nat → Int32} (hF : XF K h aS aR aP aD aW aC rc g rr gd ix wt cd wl) : ctI l y_NS_totalWeight prog_1_method_25_code 3 (some .int) 0 0 0 [.ref h] D K A (wl) (fun r w => r = toW wt 16 ∧ w = wl) := by
  refine mt_of (by decide) (Nat.le_of_ble_eq_true rfl) ?_
  intro p e s m below meth c ls B hw hl
  have hx := B.1
  have hb := B.2.1
  have hl : lv_has ls 3 [(0, .ref h)] := hl
  have hF0 := hF
  obtain ⟨e0, e1, e2, e3, e4, e5, e9, e10⟩ := hF
  refine lv_iconst (v := 0) hx hb d_NS_totalWeight_0 (by decide) ?_
  refine lv_istore_n hx hb d_NS_totalWeight_1 rfl hl (by decide) rfl (fun ls (hl : lv_has ls 3 [(1, .int _), (0, .ref _)]) => ?_)
  refine lv_iconst (v := 0) hx hb d_NS_totalWeight_2 (by decide) ?_
  refine lv_istore_n hx hb d_NS_totalWeight_3 rfl hl (by decide) rfl (fun ls (hl : lv_has ls 3 [(2, .int _), (1, .int _), (0, .ref _)]) => ?_)
  refine lp_w (σ := Nat) (fun i => 16 - i) (fun i H locs ls => i ≤ 16 ∧ lv_has ls 3 [(2, .int (nI i)), (1, .int (toW wt i)), (0, .ref h)] ∧ wd D A wl s H locs) ?_ 0 _ _ _ ⟨by omega, lv_sub hl [0, 1, 2] rfl, hw⟩
  rintro i H locs ls ⟨hi, hl, hw⟩ ih
  refine lv_iload_n hx hb d_NS_totalWeight_4 rfl (lv_at hl 0 rfl) ?_
  refine lv_bipush (v := 16) hx hb d_NS_totalWeight_5 (by decide) ?_
  refine lv_icmp_ge (tgt := 25) hx hb d_NS_totalWeight_7 rfl (fun h7 => ?_) (fun h7 => ?_)
  · have h7 : 16 ≤ i := (nI_leI (a := 16) (by omega) (by omega)).mp h7
    have hend : i = 16 := by omega
    refine lv_iload_n hx hb d_NS_totalWeight_25 rfl (lv_at hl 1 rfl) ?_
    exact r_i B hw d_NS_totalWeight_26 ⟨by rw [hend], rfl⟩
  · have h7 : i < 16 := Nat.lt_of_not_le (fun q => h7 ((nI_leI (a := 16) (by omega) (by omega)).mpr q))
    refine lv_iload_n hx hb d_NS_totalWeight_10 rfl (lv_at hl 1 rfl) ?_
    refine lv_aload_n hx hb d_NS_totalWeight_11 rfl (lv_at hl 2 rfl) ?_
    refine g_get B hw fl_NS_32 e0 rfl d_NS_totalWeight_12 ?_
    refine lv_iload_n hx hb d_NS_totalWeight_15 rfl (lv_at hl 0 rfl) ?_
    refine g_iald B hw e9 (vp_in_nI h7 (by omega)) d_NS_totalWeight_16 ?_
    rw [nI_clamp (by omega)]
    refine lv_iadd hx hb d_NS_totalWeight_17 ?_
    refine lv_istore_n hx hb d_NS_totalWeight_18 rfl hl (by decide) rfl (fun ls (hl : lv_has ls 3 [(1, .int _), (2, .int _), (0, .ref _)]) => ?_)
    refine lv_iinc (k := 1) hx hb d_NS_totalWeight_19 hl rfl (show nI i + Int32.ofInt 1 = nI (i + 1) from (nI_succ i).symm) (by decide) rfl (fun ls (hl : lv_has ls 3 [(2, .int (nI (i + 1))), (1, .int _), (0, .ref _)]) => ?_)
    refine lv_goto (tgt := 4) hx hb d_NS_totalWeight_22 rfl ?_
    exact ih (i + 1) _ _ _ (by omega) ⟨by omega, lv_sub hl [0, 1, 2] rfl, hw⟩
set_option maxRecDepth 100000 in
set_option maxHeartbeats 4000000 in
theorem c_NS_outcomeAt {l : Launch} {D : va_G} {K : Nat → ClassId} {A : Nat → Prop} {wl : va_W} {h aS aR aP aD aW aC rc ix : Nat} {g rr gd : Nat → Option Nat} {wt cd : Nat → Int32} (hF : XF K h aS aR aP aD aW aC rc g rr gd ix wt cd wl) {x : Int32} : ctI l y_NS_outcomeAt prog_1_method_26_code 4 (some .int) 0 0 0 [.ref h, .int x] D K A (wl) (fun r w => r = ocN wt x 0 16 ∧ w = wl) := by
  refine mt_of (by decide) (Nat.le_of_ble_eq_true rfl) ?_
  intro p e s m below meth c ls B hw hl
  have hx := B.1
  have hb := B.2.1
  have hl : lv_has ls 4 [(0, .ref h), (1, .int x)] := hl
  have hF0 := hF
  obtain ⟨e0, e1, e2, e3, e4, e5, e9, e10⟩ := hF
  refine lv_iconst (v := 0) hx hb d_NS_outcomeAt_0 (by decide) ?_
  refine lv_istore_n hx hb d_NS_outcomeAt_1 rfl hl (by decide) rfl (fun ls (hl : lv_has ls 4 [(2, .int _), (0, .ref _), (1, .int _)]) => ?_)
  refine lv_iconst (v := 0) hx hb d_NS_outcomeAt_2 (by decide) ?_
  refine lv_istore_n hx hb d_NS_outcomeAt_3 rfl hl (by decide) rfl (fun ls (hl : lv_has ls 4 [(3, .int _), (2, .int _), (0, .ref _), (1, .int _)]) => ?_)
  refine lp_w (σ := Nat) (fun i => 16 - i) (fun i H locs ls => i ≤ 16 ∧ ocN wt x 0 16 = ocN wt x i (16 - i) ∧ lv_has ls 4 [(3, .int (nI i)), (2, .int (toW wt i)), (0, .ref h), (1, .int x)] ∧ wd D A wl s H locs) ?_ 0 _ _ _ ⟨by omega, rfl, lv_sub hl [0, 1, 2, 3] rfl, hw⟩
  rintro i H locs ls ⟨hi, hoc, hl, hw⟩ ih
  refine lv_iload_n hx hb d_NS_outcomeAt_4 rfl (lv_at hl 0 rfl) ?_
  refine lv_bipush (v := 16) hx hb d_NS_outcomeAt_5 (by decide) ?_
  refine lv_icmp_ge (tgt := 32) hx hb d_NS_outcomeAt_7 rfl (fun h7 => ?_) (fun h7 => ?_)
  · have h7 : 16 ≤ i := (nI_leI (a := 16) (by omega) (by omega)).mp h7
    have hend : i = 16 := by omega
    refine lv_iconst (v := (-1)) hx hb d_NS_outcomeAt_32 (by decide) ?_
    exact r_i B hw d_NS_outcomeAt_33 ⟨by rw [hoc, hend]; rfl, rfl⟩
  · have h7 : i < 16 := Nat.lt_of_not_le (fun q => h7 ((nI_leI (a := 16) (by omega) (by omega)).mpr q))
    refine lv_iload_n hx hb d_NS_outcomeAt_10 rfl (lv_at hl 1 rfl) ?_
    refine lv_aload_n hx hb d_NS_outcomeAt_11 rfl (lv_at hl 2 rfl) ?_
    refine g_get B hw fl_NS_32 e0 rfl d_NS_outcomeAt_12 ?_
    refine lv_iload_n hx hb d_NS_outcomeAt_15 rfl (lv_at hl 0 rfl) ?_
    refine g_iald B hw e9 (vp_in_nI h7 (by omega)) d_NS_outcomeAt_16 ?_
    rw [nI_clamp (by omega)]
    refine lv_iadd hx hb d_NS_outcomeAt_17 ?_
    refine lv_istore_n hx hb d_NS_outcomeAt_18 rfl hl (by decide) rfl (fun ls (hl : lv_has ls 4 [(2, .int (toW wt (i + 1))), (3, .int _), (0, .ref _), (1, .int _)]) => ?_)
    refine lv_iload_n hx hb d_NS_outcomeAt_19 rfl (lv_at hl 0 rfl) ?_
    refine lv_iload_n hx hb d_NS_outcomeAt_20 rfl (lv_at hl 3 rfl) ?_
    refine lv_icmp_le (tgt := 26) hx hb d_NS_outcomeAt_21 rfl (fun h21 => ?_) (fun h21 => ?_)
    · refine lv_iinc (k := 1) hx hb d_NS_outcomeAt_26 hl rfl (show nI i + Int32.ofInt 1 = nI (i + 1) from (nI_succ i).symm) (by decide) rfl (fun ls (hl : lv_has ls 4 [(3, .int (nI (i + 1))), (2, .int _), (0, .ref _), (1, .int _)]) => ?_)
      refine lv_goto (tgt := 4) hx hb d_NS_outcomeAt_29 rfl ?_
      exact ih (i + 1) _ _ _ (by omega) ⟨by omega, hoc.trans (ocN_miss h7 h21), lv_sub hl [0, 1, 2, 3] rfl, hw⟩
    · refine lv_iload_n hx hb d_NS_outcomeAt_24 rfl (lv_at hl 1 rfl) ?_
      exact r_i B hw d_NS_outcomeAt_25 ⟨by rw [hoc, ocN_hit h7 h21], rfl⟩
set_option maxRecDepth 100000 in
set_option maxHeartbeats 4000000 in
theorem c_NS_card {l : Launch} {D : va_G} {K : Nat → ClassId} {A : Nat → Prop} {wl : va_W} {h aS aR aP aD aW aC rc ix : Nat} {g rr gd : Nat → Option Nat} {wt cd : Nat → Int32} (hF : XF K h aS aR aP aD aW aC rc g rr gd ix wt cd wl) {x : Int32} : ctI l y_NS_card prog_1_method_21_code 2 (some .int) 0 0 0 [.ref h, .int x] D K A (wl) (fun r w => r = cdA cd x ∧ w = wl) := by
  refine mt_of (by decide) (Nat.le_of_ble_eq_true rfl) ?_
  intro p e s m below meth c ls B hw hl
  have hx := B.1
  have hb := B.2.1
  have hl : lv_has ls 2 [(0, .ref h), (1, .int x)] := hl
  have hF0 := hF
  obtain ⟨e0, e1, e2, e3, e4, e5, e9, e10⟩ := hF
  refine lv_iload_n hx hb d_NS_card_0 rfl (lv_at hl 1 rfl) ?_
  refine lv_if_lt (tgt := 10) hx hb d_NS_card_1 rfl (fun h1 => ?_) (fun h1 => ?_)
  · have ez : cdA cd x = -1 := if_pos h1
    refine lv_iconst (v := (-1)) hx hb d_NS_card_10 (by decide) ?_
    refine lv_goto (tgt := 20) hx hb d_NS_card_11 rfl ?_
    exact r_i B hw d_NS_card_20 ⟨ez.symm, rfl⟩
  · have ez : cdA cd x = _ := if_neg h1
    refine lv_iload_n hx hb d_NS_card_4 rfl (lv_at hl 1 rfl) ?_
    refine lv_bipush (v := 16) hx hb d_NS_card_5 (by decide) ?_
    refine lv_icmp_lt (tgt := 14) hx hb d_NS_card_7 rfl (fun h7 => ?_) (fun h7 => ?_)
    · rw [if_pos h7] at ez
      obtain ⟨k, hk, rfl⟩ := slot_of h1 (n := 16) (by omega) h7
      refine lv_aload_n hx hb d_NS_card_14 rfl (lv_at hl 0 rfl) ?_
      refine g_get B hw fl_NS_36 e0 rfl d_NS_card_15 ?_
      refine lv_iload_n hx hb d_NS_card_18 rfl (lv_at hl 1 rfl) ?_
      refine g_iald B hw e10 (vp_in_nI hk (by omega)) d_NS_card_19 ?_
      exact r_i B hw d_NS_card_20 ⟨ez.symm, rfl⟩
    · rw [if_neg h7] at ez
      refine lv_iconst (v := (-1)) hx hb d_NS_card_10 (by decide) ?_
      refine lv_goto (tgt := 20) hx hb d_NS_card_11 rfl ?_
      exact r_i B hw d_NS_card_20 ⟨ez.symm, rfl⟩
set_option maxRecDepth 100000 in
set_option maxHeartbeats 4000000 in
theorem c_NS_weigh {l : Launch} {D : va_G} {K : Nat → ClassId} {A : Nat → Prop} {wl : va_W} {h rc ix : Nat} {kd sd wt cd : Nat → Int32} {f1 f2 : Nat → Int64} {sz : Nat → Nat} (hR : XR K h kd f1 f2 rc sz sd ix wt cd wl) {x y : Int32} : ctI l y_NS_weigh prog_1_method_18_code 3 (some .boolean) 0 0 0 [.ref h, .int x, .int y] D K A (wl) (fun r w => r = bI (wgB x y) ∧ XR K h kd f1 f2 rc sz sd ix (wgW wt x y) cd w) := by
  refine mt_of (by decide) (Nat.le_of_ble_eq_true rfl) ?_
  intro p e s m below meth c ls B hw hl
  have hx := B.1
  have hb := B.2.1
  have hl : lv_has ls 3 [(0, .ref h), (1, .int x), (2, .int y)] := hl
  obtain ⟨aS, aR, aP, aD, aW, aC, g, rr, gd, ra, wa, hF, hX, hV⟩ := hR
  have hF0 := hF
  obtain ⟨e0, e1, e2, e3, e4, e5, e9, e10⟩ := hF
  refine lv_iload_n hx hb d_NS_weigh_0 rfl (lv_at hl 1 rfl) ?_
  refine lv_if_lt (tgt := 20) hx hb d_NS_weigh_1 rfl (fun h1 => ?_) (fun h1 => ?_)
  · have ez : wgB x y = false := if_pos h1
    refine lv_iconst (v := 0) hx hb d_NS_weigh_20 (by decide) ?_
    exact r_z B hw (by decide) d_NS_weigh_21 ⟨by rw [ez]; rfl, by unfold wgW; rw [ez]; exact ⟨aS, aR, aP, aD, aW, aC, g, rr, gd, ra, wa, hF0, hX, hV⟩⟩
  · have ez : wgB x y = _ := if_neg h1
    refine lv_iload_n hx hb d_NS_weigh_4 rfl (lv_at hl 1 rfl) ?_
    refine lv_bipush (v := 16) hx hb d_NS_weigh_5 (by decide) ?_
    refine lv_icmp_ge (tgt := 20) hx hb d_NS_weigh_7 rfl (fun h7 => ?_) (fun h7 => ?_)
    · rw [if_pos h7] at ez
      refine lv_iconst (v := 0) hx hb d_NS_weigh_20 (by decide) ?_
      exact r_z B hw (by decide) d_NS_weigh_21 ⟨by rw [ez]; rfl, by unfold wgW; rw [ez]; exact ⟨aS, aR, aP, aD, aW, aC, g, rr, gd, ra, wa, hF0, hX, hV⟩⟩
    · rw [if_neg h7] at ez
      obtain ⟨k, hk, rfl⟩ := slot_of h1 (n := 16) (by omega) (Int32.not_le.mp h7)
      refine lv_iload_n hx hb d_NS_weigh_10 rfl (lv_at hl 2 rfl) ?_
      refine lv_if_lt (tgt := 20) hx hb d_NS_weigh_11 rfl (fun h11 => ?_) (fun h11 => ?_)
      · rw [if_pos h11] at ez
        refine lv_iconst (v := 0) hx hb d_NS_weigh_20 (by decide) ?_
        exact r_z B hw (by decide) d_NS_weigh_21 ⟨by rw [ez]; rfl, by unfold wgW; rw [ez]; exact ⟨aS, aR, aP, aD, aW, aC, g, rr, gd, ra, wa, hF0, hX, hV⟩⟩
      · rw [if_neg h11] at ez
        refine lv_iload_n hx hb d_NS_weigh_14 rfl (lv_at hl 2 rfl) ?_
        refine g_ldc B kc_NS_129 d_NS_weigh_15 ?_
        refine lv_icmp_le (tgt := 22) hx hb d_NS_weigh_17 rfl (fun h17 => ?_) (fun h17 => ?_)
        · rw [if_pos h17] at ez
          refine lv_aload_n hx hb d_NS_weigh_22 rfl (lv_at hl 0 rfl) ?_
          refine g_get B hw fl_NS_32 e0 rfl d_NS_weigh_23 ?_
          refine lv_iload_n hx hb d_NS_weigh_26 rfl (lv_at hl 1 rfl) ?_
          refine lv_iload_n hx hb d_NS_weigh_27 rfl (lv_at hl 2 rfl) ?_
          refine g_iast B hw e9 (vp_in_nI hk (by omega)) d_NS_weigh_28 (fun H locs hw => ?_)
          refine lv_iconst (v := 1) hx hb d_NS_weigh_29 (by decide) ?_
          exact r_z B hw (by decide) d_NS_weigh_30 ⟨by rw [ez]; rfl, by unfold wgW; rw [ez]; exact XR.fix hF0 hX hV ⟨gs_ne (by omega) e0, gs_ne (by omega) e1, gs_ne (by omega) e2, gs_ne (by omega) e3, gs_ne (by omega) e4, fun j hj => by obtain ⟨a, F, q1, q2, q3⟩ := e5 j hj; exact ⟨a, F, q1, gs_ne (by omega) q2, q3⟩, gs_eq e9, gs_ne (by omega) e10⟩ rfl (by omega)⟩
        · rw [if_neg h17] at ez
          refine lv_iconst (v := 0) hx hb d_NS_weigh_20 (by decide) ?_
          exact r_z B hw (by decide) d_NS_weigh_21 ⟨by rw [ez]; rfl, by unfold wgW; rw [ez]; exact ⟨aS, aR, aP, aD, aW, aC, g, rr, gd, ra, wa, hF0, hX, hV⟩⟩
set_option maxRecDepth 100000 in
set_option maxHeartbeats 4000000 in
theorem c_NS_seek {l : Launch} {D : va_G} {K : Nat → ClassId} {A : Nat → Prop} {wl : va_W} {h rc ix : Nat} {kd sd wt cd : Nat → Int32} {f1 f2 : Nat → Int64} {sz : Nat → Nat} (hR : XR K h kd f1 f2 rc sz sd ix wt cd wl) {x : Int32} : ctI l y_NS_seek prog_1_method_15_code 2 (some .boolean) 0 0 0 [.ref h, .int x] D K A (wl) (fun r w => r = bI (skB x) ∧ XR K h kd f1 f2 rc sz sd (skX ix x) wt cd w) := by
  refine mt_of (by decide) (Nat.le_of_ble_eq_true rfl) ?_
  intro p e s m below meth c ls B hw hl
  have hx := B.1
  have hb := B.2.1
  have hl : lv_has ls 2 [(0, .ref h), (1, .int x)] := hl
  obtain ⟨aS, aR, aP, aD, aW, aC, g, rr, gd, ra, wa, hF, hX, hV⟩ := hR
  have hF0 := hF
  obtain ⟨e0, e1, e2, e3, e4, e5, e9, e10⟩ := hF
  refine lv_iload_n hx hb d_NS_seek_0 rfl (lv_at hl 1 rfl) ?_
  refine lv_if_lt (tgt := 10) hx hb d_NS_seek_1 rfl (fun h1 => ?_) (fun h1 => ?_)
  · have ez : skB x = false := if_pos h1
    refine lv_iconst (v := 0) hx hb d_NS_seek_10 (by decide) ?_
    exact r_z B hw (by decide) d_NS_seek_11 ⟨by rw [ez]; rfl, by unfold skX; rw [ez]; exact ⟨aS, aR, aP, aD, aW, aC, g, rr, gd, ra, wa, hF0, hX, hV⟩⟩
  · have ez : skB x = _ := if_neg h1
    obtain ⟨k, hk, rfl⟩ := nI_of h1
    refine lv_iload_n hx hb d_NS_seek_4 rfl (lv_at hl 1 rfl) ?_
    refine g_ldc B kc_NS_118 d_NS_seek_5 ?_
    refine lv_icmp_le (tgt := 12) hx hb d_NS_seek_7 rfl (fun h7 => ?_) (fun h7 => ?_)
    · rw [if_pos h7] at ez
      refine lv_aload_n hx hb d_NS_seek_12 rfl (lv_at hl 0 rfl) ?_
      refine g_get B hw fl_NS_28 e0 rfl d_NS_seek_13 ?_
      refine lv_iload_n hx hb d_NS_seek_16 rfl (lv_at hl 1 rfl) ?_
      refine g_put B hw fl_NS_119 ck_PT e3 rfl rfl rfl (Nat.le_of_ble_eq_true rfl) d_NS_seek_17 (fun H locs hw => ?_)
      refine lv_iconst (v := 1) hx hb d_NS_seek_20 (by decide) ?_
      exact r_z B hw (by decide) d_NS_seek_21 ⟨by rw [ez]; rfl, by unfold skX; rw [ez, if_pos rfl, nI_clamp hk]; exact XR.fix hF0 hX hV ⟨gs_ne (by omega) e0, gs_ne (by omega) e1, gs_ne (by omega) e2, gs_eq e3, gs_ne (by omega) e4, fun j hj => by obtain ⟨a, F, q1, q2, q3⟩ := e5 j hj; exact ⟨a, F, q1, gs_ne (by omega) q2, q3⟩, gs_ne (by omega) e9, gs_ne (by omega) e10⟩ rfl (by omega)⟩
    · rw [if_neg h7] at ez
      refine lv_iconst (v := 0) hx hb d_NS_seek_10 (by decide) ?_
      exact r_z B hw (by decide) d_NS_seek_11 ⟨by rw [ez]; rfl, by unfold skX; rw [ez]; exact ⟨aS, aR, aP, aD, aW, aC, g, rr, gd, ra, wa, hF0, hX, hV⟩⟩
set_option maxRecDepth 100000 in
set_option maxHeartbeats 4000000 in
theorem c_NS_advance {l : Launch} {D : va_G} {K : Nat → ClassId} {A : Nat → Prop} {wl : va_W} {h rc ix : Nat} {kd sd wt cd : Nat → Int32} {f1 f2 : Nat → Int64} {sz : Nat → Nat} (hR : XR K h kd f1 f2 rc sz sd ix wt cd wl) (hix : ix ≤ 1048575) : ctI l y_NS_advance prog_1_method_16_code 1 (some .int) 0 0 0 [.ref h] D K A (wl) (fun r w => r = nI (adX ix) ∧ XR K h kd f1 f2 rc sz sd (adX ix) wt cd w) := by
  refine mt_of (by decide) (Nat.le_of_ble_eq_true rfl) ?_
  intro p e s m below meth c ls B hw hl
  have hx := B.1
  have hb := B.2.1
  have hl : lv_has ls 1 [(0, .ref h)] := hl
  obtain ⟨aS, aR, aP, aD, aW, aC, g, rr, gd, ra, wa, hF, hX, hV⟩ := hR
  have hF0 := hF
  obtain ⟨e0, e1, e2, e3, e4, e5, e9, e10⟩ := hF
  refine lv_aload_n hx hb d_NS_advance_0 rfl (lv_at hl 0 rfl) ?_
  refine g_get B hw fl_NS_28 e0 rfl d_NS_advance_1 ?_
  refine lv_aload_n hx hb d_NS_advance_4 rfl (lv_at hl 0 rfl) ?_
  refine g_get B hw fl_NS_28 e0 rfl d_NS_advance_5 ?_
  refine g_get B hw fl_NS_119 e3 rfl d_NS_advance_8 ?_
  refine g_ldc B kc_NS_118 d_NS_advance_11 ?_
  refine lv_icmp_ne (tgt := 20) hx hb d_NS_advance_13 rfl (fun h13 => ?_) (fun h13 => ?_)
  · have ez : adX ix = ix + 1 := if_neg (fun q => h13 (by rw [q]; rfl))
    refine lv_aload_n hx hb d_NS_advance_20 rfl (lv_at hl 0 rfl) ?_
    refine g_get B hw fl_NS_28 e0 rfl d_NS_advance_21 ?_
    refine g_get B hw fl_NS_119 e3 rfl d_NS_advance_24 ?_
    refine lv_iconst (v := 1) hx hb d_NS_advance_27 (by decide) ?_
    refine lv_iadd hx hb d_NS_advance_28 ?_
    rw [← nI_succ ix]
    refine g_put B hw fl_NS_119 ck_PT e3 rfl rfl rfl (Nat.le_of_ble_eq_true rfl) d_NS_advance_29 (fun H locs hw => ?_)
    have hw : wd D A (wl.set 3 (aP, oPt aD (nI (adX ix)))) s H locs := by rw [ez]; exact hw
    refine lv_aload_n hx hb d_NS_advance_32 rfl (lv_at hl 0 rfl) ?_
    refine g_get B hw fl_NS_28 (gs_ne (by omega) e0) rfl d_NS_advance_33 ?_
    refine g_get B hw fl_NS_119 (gs_eq e3) rfl d_NS_advance_36 ?_
    exact r_i B hw d_NS_advance_39 ⟨rfl, XR.fix hF0 hX hV ⟨gs_ne (by omega) e0, gs_ne (by omega) e1, gs_ne (by omega) e2, gs_eq e3, gs_ne (by omega) e4, fun j hj => by obtain ⟨a, F, q1, q2, q3⟩ := e5 j hj; exact ⟨a, F, q1, gs_ne (by omega) q2, q3⟩, gs_ne (by omega) e9, gs_ne (by omega) e10⟩ rfl (by omega)⟩
  · have ez : adX ix = 0 := if_pos ((nI_eq (a := ix) (b := 1048575) (by omega) (by omega)).mp h13)
    refine lv_iconst (v := 0) hx hb d_NS_advance_16 (by decide) ?_
    refine lv_goto (tgt := 29) hx hb d_NS_advance_17 rfl ?_
    refine g_put B hw fl_NS_119 ck_PT e3 rfl rfl rfl (Nat.le_of_ble_eq_true rfl) d_NS_advance_29 (fun H locs hw => ?_)
    have hw : wd D A (wl.set 3 (aP, oPt aD (nI (adX ix)))) s H locs := by rw [ez]; exact hw
    refine lv_aload_n hx hb d_NS_advance_32 rfl (lv_at hl 0 rfl) ?_
    refine g_get B hw fl_NS_28 (gs_ne (by omega) e0) rfl d_NS_advance_33 ?_
    refine g_get B hw fl_NS_119 (gs_eq e3) rfl d_NS_advance_36 ?_
    exact r_i B hw d_NS_advance_39 ⟨rfl, XR.fix hF0 hX hV ⟨gs_ne (by omega) e0, gs_ne (by omega) e1, gs_ne (by omega) e2, gs_eq e3, gs_ne (by omega) e4, fun j hj => by obtain ⟨a, F, q1, q2, q3⟩ := e5 j hj; exact ⟨a, F, q1, gs_ne (by omega) q2, q3⟩, gs_ne (by omega) e9, gs_ne (by omega) e10⟩ rfl (by omega)⟩
