/-! Saved: its cell (the words' array, the count n), the array of six words w. -/
abbrev arI (K : Nat → ClassId) (n : Nat) (f : Nat → Int32) : va_E := .inl (K 0, n, .inl f)
abbrev arJ (K : Nat → ClassId) (n : Nat) (f : Nat → Int64) : va_E := .inl (K 1, n, .inr (.inl f))
abbrev arQ (K : Nat → ClassId) (t n : Nat) (f : Nat → Option Nat) : va_E := .inl (K t, n, .inr (.inr (.inr (.inr f))))
abbrev oSv (wa : Nat) (n : Nat) : va_E := .inr (2, [.ref wa, .int (nI n)])
/-- the list of cells with a record's two cells written anew -/
def svW (K : Nat → ClassId) (wl : va_W) (ix iy h wa n : Nat) (w : Nat → Int32) : va_W := (wl.set iy (wa, arI K 6 w)).set ix (h, oSv wa n)
theorem sv_x {K : Nat → ClassId} {wl : va_W} {ix iy h wa n0 n : Nat} {w0 w : Nat → Int32} (he : wl[ix]? = some (h, oSv wa n0)) (ha : wl[iy]? = some (wa, arI K 6 w0)) : (svW K wl ix iy h wa n w)[ix]? = some (h, oSv wa n) := gs_eq (gs_ne (ne_oa he ha).symm he)
theorem sv_y {K : Nat → ClassId} {wl : va_W} {ix iy h wa n0 n : Nat} {w0 w : Nat → Int32} (he : wl[ix]? = some (h, oSv wa n0)) (ha : wl[iy]? = some (wa, arI K 6 w0)) : (svW K wl ix iy h wa n w)[iy]? = some (wa, arI K 6 w) := gs_ne (ne_oa he ha) (gs_eq ha)
theorem sv_sv {K : Nat → ClassId} {wl : va_W} {ix iy h wa n n' : Nat} {w w' : Nat → Int32} (hn : ix ≠ iy) : svW K (svW K wl ix iy h wa n w) ix iy h wa n' w' = svW K wl ix iy h wa n' w' := by
  unfold svW
  rw [List.set_comm _ _ hn, List.set_set, List.set_set]
theorem sv_o {K : Nat → ClassId} {wl : va_W} {ix iy h wa n j : Nat} {w : Nat → Int32} {x : Nat × va_E} (h1 : ix ≠ j) (h2 : iy ≠ j) (hj : wl[j]? = some x) : (svW K wl ix iy h wa n w)[j]? = some x := gs_ne h1 (gs_ne h2 hj)
/-- the check of the first n words -/
def ckN (w : Nat → Int32) : Nat → Int32
  | 0 => 1
  | n + 1 => 31 * ckN w n + w n
def ckF (w : Nat → Int32) (n : Nat) : Int32 := ckN w n ^^^ ius (ckN w n) 15
def apN (b : Int32) : Nat := if b = 0 then 1 else 2
def apW (w : Nat → Int32) (n : Nat) (x : Int64) (b : Int32) : Nat → Int32 := if b = 0 then upd w n x.toInt32 else upd (upd w n (lus x 32).toInt32) (n + 1) x.toInt32
def ptA (w : Nat → Int32) (a : Nat) (b : Int32) : Int64 := if b = 0 then (w a).toInt64 else jnd (w a) (w (a + 1))
def wkd (w : Nat → Int32) : Int32 := w 0 - 24301824
def wF1 (w : Nat → Int32) : Int64 := ptA w 1 (isFL (wkd w))
def wF2 (w : Nat → Int32) : Int64 := ptA w (1 + apN (isFL (wkd w))) (isSL (wkd w))
def flt (n : Nat) (w : Nat → Int32) : Int32 := if n = 0 then -2 else if isK (wkd w) = 0 then -2 else if nI n = wOK (wkd w) then (if w (n - 1) = ckF w (n - 1) then (if isSt (wkd w) (wF1 w) (wF2 w) = 0 then -5 else 0) else -4) else -3
theorem wOP_nI (b : Int32) : wOP b = nI (apN b) := by unfold wOP apN; split <;> rfl
theorem apN_12 (b : Int32) : apN b = 1 ∨ apN b = 2 := by unfold apN; split <;> simp
theorem wOK_nI (k : Int32) : wOK k = nI (2 + apN (isFL k) + apN (isSL k)) := by unfold wOK; rw [wOP_nI, wOP_nI, ← nI_add, ← nI_add]; rfl
theorem apN_fs {k : Int32} (h : apN (isFL k) = 2) : apN (isSL k) = 2 := by
  unfold apN isFL at h
  unfold apN isSL
  by_cases h0 : k = 0
  · subst h0; rfl
  · simp [h0] at h
theorem apN_2 {b : Int32} (h : ¬ b = 0) : apN b = 2 := if_neg h
theorem apN_1 {b : Int32} (h : b = 0) : apN b = 1 := if_pos h
set_option maxRecDepth 100000 in
set_option maxHeartbeats 4000000 in
theorem c_SV_append {l : Launch} {D : va_G} {K : Nat → ClassId} {A : Nat → Prop} {wl : va_W} {ix iy h wa n : Nat} {w : Nat → Int32} (he : wl[ix]? = some (h, oSv wa n)) (ha : wl[iy]? = some (wa, arI K 6 w)) (hn : n < 6) {x : Int32} : ctV l y_SV_append prog_3_method_2_code 2 0 0 0 [.ref h, .int x] D K A (wl) (fun v => v = svW K wl ix iy h wa (n + 1) (upd w n x)) := by
  refine mt_of (by decide) (Nat.le_of_ble_eq_true rfl) ?_
  intro p e s m below meth c ls B hw hl
  have hx := B.1
  have hb := B.2.1
  have hl : lv_has ls 2 [(0, .ref h), (1, .int x)] := hl
  refine lv_aload_n hx hb d_SV_append_0 rfl (lv_at hl 0 rfl) ?_
  refine g_get B hw fl_SV_9 he rfl d_SV_append_1 ?_
  refine lv_aload_n hx hb d_SV_append_4 rfl (lv_at hl 0 rfl) ?_
  refine g_get B hw fl_SV_13 he rfl d_SV_append_5 ?_
  refine lv_iload_n hx hb d_SV_append_8 rfl (lv_at hl 1 rfl) ?_
  refine g_iast B hw ha (vp_in_nI hn (by omega)) d_SV_append_9 (fun H locs hw => ?_)
  rw [nI_clamp (by omega)] at hw
  refine lv_aload_n hx hb d_SV_append_10 rfl (lv_at hl 0 rfl) ?_
  refine lv_dup hx hb d_SV_append_11 rfl ?_
  refine g_get B hw fl_SV_13 (gs_ne (ne_oa he ha).symm he) rfl d_SV_append_12 ?_
  refine lv_iconst (v := 1) hx hb d_SV_append_15 (by decide) ?_
  refine lv_iadd hx hb d_SV_append_16 ?_
  rw [← nI_succ n]
  refine g_put B hw fl_SV_13 ck_SV (gs_ne (ne_oa he ha).symm he) rfl rfl rfl (Nat.le_of_ble_eq_true rfl) d_SV_append_17 (fun H locs hw => ?_)
  exact r_v B hw d_SV_append_20 rfl
set_option maxRecDepth 100000 in
set_option maxHeartbeats 4000000 in
theorem c_SV_appendPart {l : Launch} {D : va_G} {K : Nat → ClassId} {A : Nat → Prop} {wl : va_W} {ix iy h wa n : Nat} {w : Nat → Int32} (he : wl[ix]? = some (h, oSv wa n)) (ha : wl[iy]? = some (wa, arI K 6 w)) {x : Int64} {b : Int32} (hn : n + apN b ≤ 6) : ctV l y_SV_appendPart prog_3_method_3_code 4 1 0 0 [.ref h, .long x, .int b] D K A (wl) (fun v => v = svW K wl ix iy h wa (n + apN b) (apW w n x b)) := by
  refine mt_of (by decide) (Nat.le_of_ble_eq_true rfl) ?_
  intro p e s m below meth c ls B hw hl
  have hx := B.1
  have hb := B.2.1
  have hl : lv_has ls 4 [(0, .ref h), (1, .long x), (3, .int b)] := hl
  refine lv_iload_n hx hb d_SV_appendPart_0 rfl (lv_at hl 2 rfl) ?_
  refine lv_if_eq (tgt := 13) hx hb d_SV_appendPart_1 rfl (fun h1 => ?_) (fun h1 => ?_)
  · have e1 := apN_1 h1
    have e2 : apW w n x b = upd w n x.toInt32 := if_pos h1
    refine lv_aload_n hx hb d_SV_appendPart_13 rfl (lv_at hl 0 rfl) ?_
    refine lv_lload_n hx hb d_SV_appendPart_14 rfl (lv_at hl 1 rfl) ?_
    refine lv_l2i hx hb d_SV_appendPart_15 rfl ?_
    refine k_v (k_runV B hw (c_SV_append he ha (by omega)) rfl rfl cf_SV_23 he rfl rfl ⟨Nat.le_of_ble_eq_true rfl, Nat.le_of_ble_eq_true rfl⟩ rfl hl.1 rfl (Nat.le_of_ble_eq_true rfl) d_SV_appendPart_16 ⟨Nat.le_of_ble_eq_true rfl, Nat.le_of_ble_eq_true rfl⟩) hw (fun w1 H locs hq hw => ?_)
    rw [hq] at hw
    exact r_v B hw d_SV_appendPart_19 (by rw [e1, e2])
  · have e1 := apN_2 h1
    have e2 : apW w n x b = upd (upd w n (lus x 32).toInt32) (n + 1) x.toInt32 := if_neg h1
    refine lv_aload_n hx hb d_SV_appendPart_4 rfl (lv_at hl 0 rfl) ?_
    refine lv_lload_n hx hb d_SV_appendPart_5 rfl (lv_at hl 1 rfl) ?_
    refine lv_bipush (v := 32) hx hb d_SV_appendPart_6 (by decide) ?_
    refine lv_lushr hx hb d_SV_appendPart_8 rfl ?_
    refine lv_l2i hx hb d_SV_appendPart_9 rfl ?_
    refine k_v (k_runV B hw (c_SV_append he ha (by omega)) rfl rfl cf_SV_23 he rfl rfl ⟨Nat.le_of_ble_eq_true rfl, Nat.le_of_ble_eq_true rfl⟩ rfl hl.1 rfl (Nat.le_of_ble_eq_true rfl) d_SV_appendPart_10 ⟨Nat.le_of_ble_eq_true rfl, Nat.le_of_ble_eq_true rfl⟩) hw (fun w1 H locs hq hw => ?_)
    rw [hq] at hw
    refine lv_aload_n hx hb d_SV_appendPart_13 rfl (lv_at hl 0 rfl) ?_
    refine lv_lload_n hx hb d_SV_appendPart_14 rfl (lv_at hl 1 rfl) ?_
    refine lv_l2i hx hb d_SV_appendPart_15 rfl ?_
    refine k_v (k_runV B hw (c_SV_append (sv_x he ha) (sv_y he ha) (by omega)) rfl rfl cf_SV_23 (sv_x he ha) rfl rfl ⟨Nat.le_of_ble_eq_true rfl, Nat.le_of_ble_eq_true rfl⟩ rfl hl.1 rfl (Nat.le_of_ble_eq_true rfl) d_SV_appendPart_16 ⟨Nat.le_of_ble_eq_true rfl, Nat.le_of_ble_eq_true rfl⟩) hw (fun w1 H locs hq hw => ?_)
    rw [hq] at hw
    rw [sv_sv (ne_oa he ha)] at hw
    exact r_v B hw d_SV_appendPart_19 (by rw [e1, e2])
set_option maxRecDepth 100000 in
set_option maxHeartbeats 4000000 in
theorem c_SV_checkOfFirst {l : Launch} {D : va_G} {K : Nat → ClassId} {A : Nat → Prop} {wl : va_W} {ix iy h wa n : Nat} {w : Nat → Int32} (he : wl[ix]? = some (h, oSv wa n)) (ha : wl[iy]? = some (wa, arI K 6 w)) {z : Nat} (hz : z ≤ 6) : ctI l y_SV_checkOfFirst prog_3_method_4_code 4 (some .int) 0 0 0 [.ref h, .int (nI z)] D K A (wl) (fun r v => r = ckF w z ∧ v = wl) := by
  refine mt_of (by decide) (Nat.le_of_ble_eq_true rfl) ?_
  intro p e s m below meth c ls B hw hl
  have hx := B.1
  have hb := B.2.1
  have hl : lv_has ls 4 [(0, .ref h), (1, .int (nI z))] := hl
  refine lv_iconst (v := 1) hx hb d_SV_checkOfFirst_0 (by decide) ?_
  refine lv_istore_n hx hb d_SV_checkOfFirst_1 rfl hl (by decide) rfl (fun ls (hl : lv_has ls 4 [(2, .int _), (0, .ref _), (1, .int _)]) => ?_)
  refine lv_iconst (v := 0) hx hb d_SV_checkOfFirst_2 (by decide) ?_
  refine lv_istore_n hx hb d_SV_checkOfFirst_3 rfl hl (by decide) rfl (fun ls (hl : lv_has ls 4 [(3, .int _), (2, .int _), (0, .ref _), (1, .int _)]) => ?_)
  refine lp_w (σ := Nat) (fun i => z - i) (fun i H locs ls => i ≤ z ∧ lv_has ls 4 [(3, .int (nI i)), (2, .int (ckN w i)), (0, .ref h), (1, .int (nI z))] ∧ wd D A wl s H locs) ?_ 0 _ _ _ ⟨by omega, lv_sub hl [0, 1, 2, 3] rfl, hw⟩
  rintro i H locs ls ⟨hi, hl, hw⟩ ih
  refine lv_iload_n hx hb d_SV_checkOfFirst_4 rfl (lv_at hl 0 rfl) ?_
  refine lv_iload_n hx hb d_SV_checkOfFirst_5 rfl (lv_at hl 3 rfl) ?_
  refine lv_icmp_ge (tgt := 27) hx hb d_SV_checkOfFirst_6 rfl (fun h6 => ?_) (fun h6 => ?_)
  · have h6 : z ≤ i := (nI_leI (by omega) (by omega)).mp h6
    have hiz : i = z := by omega
    refine lv_iload_n hx hb d_SV_checkOfFirst_27 rfl (lv_at hl 1 rfl) ?_
    refine lv_iload_n hx hb d_SV_checkOfFirst_28 rfl (lv_at hl 1 rfl) ?_
    refine lv_bipush (v := 15) hx hb d_SV_checkOfFirst_29 (by decide) ?_
    refine lv_iushr hx hb d_SV_checkOfFirst_31 rfl ?_
    refine lv_ixor hx hb d_SV_checkOfFirst_32 ?_
    exact r_i B hw d_SV_checkOfFirst_33 ⟨by rw [hiz]; rfl, rfl⟩
  · have h6 : i < z := Nat.lt_of_not_le (fun q => h6 ((nI_leI (by omega) (by omega)).mpr q))
    refine lv_bipush (v := 31) hx hb d_SV_checkOfFirst_9 (by decide) ?_
    refine lv_iload_n hx hb d_SV_checkOfFirst_11 rfl (lv_at hl 1 rfl) ?_
    refine lv_imul hx hb d_SV_checkOfFirst_12 ?_
    refine lv_aload_n hx hb d_SV_checkOfFirst_13 rfl (lv_at hl 2 rfl) ?_
    refine g_get B hw fl_SV_9 he rfl d_SV_checkOfFirst_14 ?_
    refine lv_iload_n hx hb d_SV_checkOfFirst_17 rfl (lv_at hl 0 rfl) ?_
    refine g_iald B hw ha (vp_in_nI (by omega) (by omega)) d_SV_checkOfFirst_18 ?_
    rw [nI_clamp (by omega)]
    refine lv_iadd hx hb d_SV_checkOfFirst_19 ?_
    refine lv_istore_n hx hb d_SV_checkOfFirst_20 rfl hl (by decide) rfl (fun ls (hl : lv_has ls 4 [(2, .int _), (3, .int _), (0, .ref _), (1, .int _)]) => ?_)
    refine lv_iinc (k := 1) hx hb d_SV_checkOfFirst_21 hl rfl (show nI i + Int32.ofInt 1 = nI (i + 1) from (nI_succ i).symm) (by decide) rfl (fun ls (hl : lv_has ls 4 [(3, .int (nI (i + 1))), (2, .int _), (0, .ref _), (1, .int _)]) => ?_)
    refine lv_goto (tgt := 4) hx hb d_SV_checkOfFirst_24 rfl ?_
    exact ih (i + 1) _ _ _ (by omega) ⟨by omega, lv_sub hl [0, 1, 2, 3] rfl, hw⟩
set_option maxRecDepth 100000 in
set_option maxHeartbeats 4000000 in
theorem c_SV_hasWord {l : Launch} {D : va_G} {K : Nat → ClassId} {A : Nat → Prop} {wl : va_W} {ix iy h wa n : Nat} {w : Nat → Int32} (he : wl[ix]? = some (h, oSv wa n)) (ha : wl[iy]? = some (wa, arI K 6 w)) {i : Int32} : ctI l y_SV_hasWord prog_3_method_5_code 2 (some .boolean) 0 0 0 [.ref h, .int i] D K A (wl) (fun r v => r = (if i < 0 then 0 else if nI n ≤ i then 0 else 1) ∧ v = wl) := by
  refine mt_of (by decide) (Nat.le_of_ble_eq_true rfl) ?_
  intro p e s m below meth c ls B hw hl
  have hx := B.1
  have hb := B.2.1
  have hl : lv_has ls 2 [(0, .ref h), (1, .int i)] := hl
  refine lv_iload_n hx hb d_SV_hasWord_0 rfl (lv_at hl 1 rfl) ?_
  refine lv_if_lt (tgt := 16) hx hb d_SV_hasWord_1 rfl (fun h1 => ?_) (fun h1 => ?_)
  · refine lv_iconst (v := 0) hx hb d_SV_hasWord_16 (by decide) ?_
    exact r_z B hw (by decide) d_SV_hasWord_17 ⟨by simp [*], rfl⟩
  · refine lv_iload_n hx hb d_SV_hasWord_4 rfl (lv_at hl 1 rfl) ?_
    refine lv_aload_n hx hb d_SV_hasWord_5 rfl (lv_at hl 0 rfl) ?_
    refine g_get B hw fl_SV_13 he rfl d_SV_hasWord_6 ?_
    refine lv_icmp_ge (tgt := 16) hx hb d_SV_hasWord_9 rfl (fun h9 => ?_) (fun h9 => ?_)
    · refine lv_iconst (v := 0) hx hb d_SV_hasWord_16 (by decide) ?_
      exact r_z B hw (by decide) d_SV_hasWord_17 ⟨by simp [*], rfl⟩
    · refine lv_iconst (v := 1) hx hb d_SV_hasWord_12 (by decide) ?_
      refine lv_goto (tgt := 17) hx hb d_SV_hasWord_13 rfl ?_
      exact r_z B hw (by decide) d_SV_hasWord_17 ⟨by simp [*], rfl⟩
set_option maxRecDepth 100000 in
set_option maxHeartbeats 4000000 in
theorem c_SV_kind {l : Launch} {D : va_G} {K : Nat → ClassId} {A : Nat → Prop} {wl : va_W} {ix iy h wa n : Nat} {w : Nat → Int32} (he : wl[ix]? = some (h, oSv wa n)) (ha : wl[iy]? = some (wa, arI K 6 w)) : ctI l y_SV_kind prog_3_method_9_code 1 (some .int) 0 0 0 [.ref h] D K A (wl) (fun r v => r = wkd w ∧ v = wl) := by
  refine mt_of (by decide) (Nat.le_of_ble_eq_true rfl) ?_
  intro p e s m below meth c ls B hw hl
  have hx := B.1
  have hb := B.2.1
  have hl : lv_has ls 1 [(0, .ref h)] := hl
  refine lv_aload_n hx hb d_SV_kind_0 rfl (lv_at hl 0 rfl) ?_
  refine g_get B hw fl_SV_9 he rfl d_SV_kind_1 ?_
  refine lv_iconst (v := 0) hx hb d_SV_kind_4 (by decide) ?_
  refine g_iald B hw ha (vp_in_nI (n := 0) (by omega) (by omega)) d_SV_kind_5 ?_
  refine g_ldc B kc_SV_17 d_SV_kind_6 ?_
  refine lv_isub hx hb d_SV_kind_8 ?_
  exact r_i B hw d_SV_kind_9 ⟨rfl, rfl⟩
set_option maxRecDepth 100000 in
set_option maxHeartbeats 4000000 in
theorem c_SV_partAt {l : Launch} {D : va_G} {K : Nat → ClassId} {A : Nat → Prop} {wl : va_W} {ix iy h wa n : Nat} {w : Nat → Int32} (he : wl[ix]? = some (h, oSv wa n)) (ha : wl[iy]? = some (wa, arI K 6 w)) {a : Nat} {b : Int32} (hab : a + apN b ≤ 6) : ctL l y_SV_partAt prog_3_method_12_code 3 2 0 0 [.ref h, .int (nI a), .int b] D K A (wl) (fun r v => r = ptA w a b ∧ v = wl) := by
  refine mt_of (by decide) (Nat.le_of_ble_eq_true rfl) ?_
  intro p e s m below meth c ls B hw hl
  have hx := B.1
  have hb := B.2.1
  have hl : lv_has ls 3 [(0, .ref h), (1, .int (nI a)), (2, .int b)] := hl
  refine lv_iload_n hx hb d_SV_partAt_0 rfl (lv_at hl 2 rfl) ?_
  refine lv_if_eq (tgt := 24) hx hb d_SV_partAt_1 rfl (fun h1 => ?_) (fun h1 => ?_)
  · have e1 := apN_1 h1
    have e2 : ptA w a b = (w a).toInt64 := if_pos h1
    refine lv_aload_n hx hb d_SV_partAt_24 rfl (lv_at hl 0 rfl) ?_
    refine g_get B hw fl_SV_9 he rfl d_SV_partAt_25 ?_
    refine lv_iload_n hx hb d_SV_partAt_28 rfl (lv_at hl 1 rfl) ?_
    refine g_iald B hw ha (vp_in_nI (by omega) (by omega)) d_SV_partAt_29 ?_
    rw [nI_clamp (by omega)]
    refine lv_i2l hx hb d_SV_partAt_30 rfl ?_
    exact r_l B hw d_SV_partAt_31 ⟨by rw [e2], rfl⟩
  · have e1 := apN_2 h1
    have e2 : ptA w a b = jnd (w a) (w (a + 1)) := if_neg h1
    refine lv_aload_n hx hb d_SV_partAt_4 rfl (lv_at hl 0 rfl) ?_
    refine g_get B hw fl_SV_9 he rfl d_SV_partAt_5 ?_
    refine lv_iload_n hx hb d_SV_partAt_8 rfl (lv_at hl 1 rfl) ?_
    refine g_iald B hw ha (vp_in_nI (by omega) (by omega)) d_SV_partAt_9 ?_
    rw [nI_clamp (by omega)]
    refine lv_aload_n hx hb d_SV_partAt_10 rfl (lv_at hl 0 rfl) ?_
    refine g_get B hw fl_SV_9 he rfl d_SV_partAt_11 ?_
    refine lv_iload_n hx hb d_SV_partAt_14 rfl (lv_at hl 1 rfl) ?_
    refine lv_iconst (v := 1) hx hb d_SV_partAt_15 (by decide) ?_
    refine lv_iadd hx hb d_SV_partAt_16 ?_
    rw [← nI_succ a]
    refine g_iald B hw ha (vp_in_nI (by omega) (by omega)) d_SV_partAt_17 ?_
    rw [nI_clamp (by omega)]
    refine k_l (k_runN B hw c_NS_joined rfl rfl cf_SV_75 ⟨Nat.le_of_ble_eq_true rfl, Nat.le_of_ble_eq_true rfl⟩ rfl hl.1 rfl (Nat.le_of_ble_eq_true rfl) d_SV_partAt_18 ⟨Nat.le_of_ble_eq_true rfl, Nat.le_of_ble_eq_true rfl⟩) hw (fun r18 w1 H locs hq hw => ?_)
    obtain ⟨rfl, ew⟩ := hq
    rw [ew] at hw
    refine lv_goto (tgt := 31) hx hb d_SV_partAt_21 rfl ?_
    exact r_l B hw d_SV_partAt_31 ⟨by rw [e2], rfl⟩
set_option maxRecDepth 100000 in
set_option maxHeartbeats 4000000 in
theorem c_SV_first {l : Launch} {D : va_G} {K : Nat → ClassId} {A : Nat → Prop} {wl : va_W} {ix iy h wa n : Nat} {w : Nat → Int32} (he : wl[ix]? = some (h, oSv wa n)) (ha : wl[iy]? = some (wa, arI K 6 w)) : ctL l y_SV_first prog_3_method_10_code 1 3 0 0 [.ref h] D K A (wl) (fun r v => r = wF1 w ∧ v = wl) := by
  refine mt_of (by decide) (Nat.le_of_ble_eq_true rfl) ?_
  intro p e s m below meth c ls B hw hl
  have hx := B.1
  have hb := B.2.1
  have hl : lv_has ls 1 [(0, .ref h)] := hl
  refine lv_aload_n hx hb d_SV_first_0 rfl (lv_at hl 0 rfl) ?_
  refine lv_iconst (v := 1) hx hb d_SV_first_1 (by decide) ?_
  refine lv_aload_n hx hb d_SV_first_2 rfl (lv_at hl 0 rfl) ?_
  refine k_i (k_runV B hw (c_SV_kind he ha) rfl rfl cf_SV_49 he rfl rfl ⟨Nat.le_of_ble_eq_true rfl, Nat.le_of_ble_eq_true rfl⟩ rfl hl.1 rfl (Nat.le_of_ble_eq_true rfl) d_SV_first_3 ⟨Nat.le_of_ble_eq_true rfl, Nat.le_of_ble_eq_true rfl⟩) hw (fun r3 w1 H locs hq hw => ?_)
  obtain ⟨rfl, ew⟩ := hq
  rw [ew] at hw
  refine k_i (k_runS B hw c_ST_isFirstLong rfl rfl cf_SV_31 ⟨Nat.le_of_ble_eq_true rfl, Nat.le_of_ble_eq_true rfl⟩ rfl hl.1 rfl (Nat.le_of_ble_eq_true rfl) d_SV_first_6 ⟨Nat.le_of_ble_eq_true rfl, Nat.le_of_ble_eq_true rfl⟩) hw (fun r6 w1 H locs hq hw => ?_)
  obtain ⟨rfl, ew⟩ := hq
  rw [ew] at hw
  refine k_l (k_runV B hw (c_SV_partAt (a := 1) he ha (by have := apN_12 (isFL (wkd w)); omega)) rfl rfl cf_SV_71 he rfl rfl ⟨Nat.le_of_ble_eq_true rfl, Nat.le_of_ble_eq_true rfl⟩ rfl hl.1 rfl (Nat.le_of_ble_eq_true rfl) d_SV_first_9 ⟨Nat.le_of_ble_eq_true rfl, Nat.le_of_ble_eq_true rfl⟩) hw (fun r9 w1 H locs hq hw => ?_)
  obtain ⟨rfl, ew⟩ := hq
  rw [ew] at hw
  exact r_l B hw d_SV_first_12 ⟨rfl, rfl⟩
set_option maxRecDepth 100000 in
set_option maxHeartbeats 4000000 in
theorem c_SV_second {l : Launch} {D : va_G} {K : Nat → ClassId} {A : Nat → Prop} {wl : va_W} {ix iy h wa n : Nat} {w : Nat → Int32} (he : wl[ix]? = some (h, oSv wa n)) (ha : wl[iy]? = some (wa, arI K 6 w)) : ctL l y_SV_second prog_3_method_11_code 2 3 0 0 [.ref h] D K A (wl) (fun r v => r = wF2 w ∧ v = wl) := by
  refine mt_of (by decide) (Nat.le_of_ble_eq_true rfl) ?_
  intro p e s m below meth c ls B hw hl
  have hx := B.1
  have hb := B.2.1
  have hl : lv_has ls 2 [(0, .ref h)] := hl
  refine lv_iconst (v := 1) hx hb d_SV_second_0 (by decide) ?_
  refine lv_aload_n hx hb d_SV_second_1 rfl (lv_at hl 0 rfl) ?_
  refine k_i (k_runV B hw (c_SV_kind he ha) rfl rfl cf_SV_49 he rfl rfl ⟨Nat.le_of_ble_eq_true rfl, Nat.le_of_ble_eq_true rfl⟩ rfl hl.1 rfl (Nat.le_of_ble_eq_true rfl) d_SV_second_2 ⟨Nat.le_of_ble_eq_true rfl, Nat.le_of_ble_eq_true rfl⟩) hw (fun r2 w1 H locs hq hw => ?_)
  obtain ⟨rfl, ew⟩ := hq
  rw [ew] at hw
  refine k_i (k_runS B hw c_ST_isFirstLong rfl rfl cf_SV_31 ⟨Nat.le_of_ble_eq_true rfl, Nat.le_of_ble_eq_true rfl⟩ rfl hl.1 rfl (Nat.le_of_ble_eq_true rfl) d_SV_second_5 ⟨Nat.le_of_ble_eq_true rfl, Nat.le_of_ble_eq_true rfl⟩) hw (fun r5 w1 H locs hq hw => ?_)
  obtain ⟨rfl, ew⟩ := hq
  rw [ew] at hw
  refine k_i (k_runS B hw c_SV_wordsOfPart rfl rfl cf_SV_67 ⟨Nat.le_of_ble_eq_true rfl, Nat.le_of_ble_eq_true rfl⟩ rfl hl.1 rfl (Nat.le_of_ble_eq_true rfl) d_SV_second_8 ⟨Nat.le_of_ble_eq_true rfl, Nat.le_of_ble_eq_true rfl⟩) hw (fun r8 w1 H locs hq hw => ?_)
  obtain ⟨rfl, ew⟩ := hq
  rw [ew] at hw
  refine lv_iadd hx hb d_SV_second_11 ?_
  rw [wOP_nI, show (1 : Int32) = nI 1 from rfl, nI_add]
  refine lv_istore_n hx hb d_SV_second_12 rfl hl (by decide) rfl (fun ls (hl : lv_has ls 2 [(1, .int _), (0, .ref _)]) => ?_)
  refine lv_aload_n hx hb d_SV_second_13 rfl (lv_at hl 1 rfl) ?_
  refine lv_iload_n hx hb d_SV_second_14 rfl (lv_at hl 0 rfl) ?_
  refine lv_aload_n hx hb d_SV_second_15 rfl (lv_at hl 1 rfl) ?_
  refine k_i (k_runV B hw (c_SV_kind he ha) rfl rfl cf_SV_49 he rfl rfl ⟨Nat.le_of_ble_eq_true rfl, Nat.le_of_ble_eq_true rfl⟩ rfl hl.1 rfl (Nat.le_of_ble_eq_true rfl) d_SV_second_16 ⟨Nat.le_of_ble_eq_true rfl, Nat.le_of_ble_eq_true rfl⟩) hw (fun r16 w1 H locs hq hw => ?_)
  obtain ⟨rfl, ew⟩ := hq
  rw [ew] at hw
  refine k_i (k_runS B hw c_ST_isSecondLong rfl rfl cf_SV_42 ⟨Nat.le_of_ble_eq_true rfl, Nat.le_of_ble_eq_true rfl⟩ rfl hl.1 rfl (Nat.le_of_ble_eq_true rfl) d_SV_second_19 ⟨Nat.le_of_ble_eq_true rfl, Nat.le_of_ble_eq_true rfl⟩) hw (fun r19 w1 H locs hq hw => ?_)
  obtain ⟨rfl, ew⟩ := hq
  rw [ew] at hw
  refine k_l (k_runV B hw (c_SV_partAt he ha (by have := apN_12 (isFL (wkd w)); have := apN_12 (isSL (wkd w)); omega)) rfl rfl cf_SV_71 he rfl rfl ⟨Nat.le_of_ble_eq_true rfl, Nat.le_of_ble_eq_true rfl⟩ rfl hl.1 rfl (Nat.le_of_ble_eq_true rfl) d_SV_second_22 ⟨Nat.le_of_ble_eq_true rfl, Nat.le_of_ble_eq_true rfl⟩) hw (fun r22 w1 H locs hq hw => ?_)
  obtain ⟨rfl, ew⟩ := hq
  rw [ew] at hw
  exact r_l B hw d_SV_second_25 ⟨rfl, rfl⟩
set_option maxRecDepth 100000 in
set_option maxHeartbeats 4000000 in
theorem c_SV_fault {l : Launch} {D : va_G} {K : Nat → ClassId} {A : Nat → Prop} {wl : va_W} {ix iy h wa n : Nat} {w : Nat → Int32} (he : wl[ix]? = some (h, oSv wa n)) (ha : wl[iy]? = some (wa, arI K 6 w)) (hn : n ≤ 6) : ctI l y_SV_fault prog_3_method_6_code 1 (some .int) 4 0 0 [.ref h] D K A (wl) (fun r v => r = flt n w ∧ v = wl) := by
  refine mt_of (by decide) (Nat.le_of_ble_eq_true rfl) ?_
  intro p e s m below meth c ls B hw hl
  have hx := B.1
  have hb := B.2.1
  have hl : lv_has ls 1 [(0, .ref h)] := hl
  refine lv_aload_n hx hb d_SV_fault_0 rfl (lv_at hl 0 rfl) ?_
  refine g_get B hw fl_SV_13 he rfl d_SV_fault_1 ?_
  refine lv_if_eq (tgt := 17) hx hb d_SV_fault_4 rfl (fun h4 => ?_) (fun h4 => ?_)
  · have h4 : n = 0 := (nI_eq (a := n) (b := 0) (by omega) (by omega)).mp h4
    have ez : flt n w = -2 := if_pos h4
    refine lv_bipush (v := (-2)) hx hb d_SV_fault_17 (by decide) ?_
    exact r_i B hw d_SV_fault_19 ⟨by rw [ez], rfl⟩
  · have h4 : ¬ n = 0 := fun q => h4 (by rw [q]; rfl)
    have ez : flt n w = _ := if_neg h4
    refine lv_aload_n hx hb d_SV_fault_7 rfl (lv_at hl 0 rfl) ?_
    refine k_i (k_runV B hw (c_SV_kind he ha) rfl rfl cf_SV_49 he rfl rfl ⟨Nat.le_of_ble_eq_true rfl, Nat.le_of_ble_eq_true rfl⟩ rfl hl.1 rfl (Nat.le_of_ble_eq_true rfl) d_SV_fault_8 ⟨Nat.le_of_ble_eq_true rfl, Nat.le_of_ble_eq_true rfl⟩) hw (fun r8 w1 H locs hq hw => ?_)
    obtain ⟨rfl, ew⟩ := hq
    rw [ew] at hw
    refine k_i (k_runS B hw c_ST_isKind rfl rfl cf_SV_52 ⟨Nat.le_of_ble_eq_true rfl, Nat.le_of_ble_eq_true rfl⟩ rfl hl.1 rfl (Nat.le_of_ble_eq_true rfl) d_SV_fault_11 ⟨Nat.le_of_ble_eq_true rfl, Nat.le_of_ble_eq_true rfl⟩) hw (fun r11 w1 H locs hq hw => ?_)
    obtain ⟨rfl, ew⟩ := hq
    rw [ew] at hw
    refine lv_if_ne (tgt := 20) hx hb d_SV_fault_14 rfl (fun h14 => ?_) (fun h14 => ?_)
    · rw [if_neg h14] at ez
      refine lv_aload_n hx hb d_SV_fault_20 rfl (lv_at hl 0 rfl) ?_
      refine g_get B hw fl_SV_13 he rfl d_SV_fault_21 ?_
      refine lv_aload_n hx hb d_SV_fault_24 rfl (lv_at hl 0 rfl) ?_
      refine k_i (k_runV B hw (c_SV_kind he ha) rfl rfl cf_SV_49 he rfl rfl ⟨Nat.le_of_ble_eq_true rfl, Nat.le_of_ble_eq_true rfl⟩ rfl hl.1 rfl (Nat.le_of_ble_eq_true rfl) d_SV_fault_25 ⟨Nat.le_of_ble_eq_true rfl, Nat.le_of_ble_eq_true rfl⟩) hw (fun r25 w1 H locs hq hw => ?_)
      obtain ⟨rfl, ew⟩ := hq
      rw [ew] at hw
      refine k_i (k_runS B hw c_SV_wordsOfKind rfl rfl cf_SV_55 ⟨Nat.le_of_ble_eq_true rfl, Nat.le_of_ble_eq_true rfl⟩ rfl hl.1 rfl (Nat.le_of_ble_eq_true rfl) d_SV_fault_28 ⟨Nat.le_of_ble_eq_true rfl, Nat.le_of_ble_eq_true rfl⟩) hw (fun r28 w1 H locs hq hw => ?_)
      obtain ⟨rfl, ew⟩ := hq
      rw [ew] at hw
      refine lv_icmp_eq (tgt := 37) hx hb d_SV_fault_31 rfl (fun h31 => ?_) (fun h31 => ?_)
      · rw [if_pos h31] at ez
        refine lv_aload_n hx hb d_SV_fault_37 rfl (lv_at hl 0 rfl) ?_
        refine g_get B hw fl_SV_9 he rfl d_SV_fault_38 ?_
        refine lv_aload_n hx hb d_SV_fault_41 rfl (lv_at hl 0 rfl) ?_
        refine g_get B hw fl_SV_13 he rfl d_SV_fault_42 ?_
        refine lv_iconst (v := 1) hx hb d_SV_fault_45 (by decide) ?_
        refine lv_isub hx hb d_SV_fault_46 ?_
        rw [show nI n - 1 = nI (n - 1) from pk_sub (a := n) (b := 1) (by omega)]
        refine g_iald B hw ha (vp_in_nI (by omega) (by omega)) d_SV_fault_47 ?_
        rw [nI_clamp (by omega)]
        refine lv_aload_n hx hb d_SV_fault_48 rfl (lv_at hl 0 rfl) ?_
        refine lv_aload_n hx hb d_SV_fault_49 rfl (lv_at hl 0 rfl) ?_
        refine g_get B hw fl_SV_13 he rfl d_SV_fault_50 ?_
        refine lv_iconst (v := 1) hx hb d_SV_fault_53 (by decide) ?_
        refine lv_isub hx hb d_SV_fault_54 ?_
        rw [show nI n - 1 = nI (n - 1) from pk_sub (a := n) (b := 1) (by omega)]
        refine k_i (k_runV B hw (c_SV_checkOfFirst he ha (by omega)) rfl rfl cf_SV_45 he rfl rfl ⟨Nat.le_of_ble_eq_true rfl, Nat.le_of_ble_eq_true rfl⟩ rfl hl.1 rfl (Nat.le_of_ble_eq_true rfl) d_SV_fault_55 ⟨Nat.le_of_ble_eq_true rfl, Nat.le_of_ble_eq_true rfl⟩) hw (fun r55 w1 H locs hq hw => ?_)
        obtain ⟨rfl, ew⟩ := hq
        rw [ew] at hw
        refine lv_icmp_eq (tgt := 64) hx hb d_SV_fault_58 rfl (fun h58 => ?_) (fun h58 => ?_)
        · rw [if_pos h58] at ez
          refine lv_aload_n hx hb d_SV_fault_64 rfl (lv_at hl 0 rfl) ?_
          refine k_i (k_runV B hw (c_SV_kind he ha) rfl rfl cf_SV_49 he rfl rfl ⟨Nat.le_of_ble_eq_true rfl, Nat.le_of_ble_eq_true rfl⟩ rfl hl.1 rfl (Nat.le_of_ble_eq_true rfl) d_SV_fault_65 ⟨Nat.le_of_ble_eq_true rfl, Nat.le_of_ble_eq_true rfl⟩) hw (fun r65 w1 H locs hq hw => ?_)
          obtain ⟨rfl, ew⟩ := hq
          rw [ew] at hw
          refine lv_aload_n hx hb d_SV_fault_68 rfl (lv_at hl 0 rfl) ?_
          refine k_l (k_runV B hw (c_SV_first he ha) rfl rfl cf_SV_58 he rfl rfl ⟨Nat.le_of_ble_eq_true rfl, Nat.le_of_ble_eq_true rfl⟩ rfl hl.1 rfl (Nat.le_of_ble_eq_true rfl) d_SV_fault_69 ⟨Nat.le_of_ble_eq_true rfl, Nat.le_of_ble_eq_true rfl⟩) hw (fun r69 w1 H locs hq hw => ?_)
          obtain ⟨rfl, ew⟩ := hq
          rw [ew] at hw
          refine lv_aload_n hx hb d_SV_fault_72 rfl (lv_at hl 0 rfl) ?_
          refine k_l (k_runV B hw (c_SV_second he ha) rfl rfl cf_SV_61 he rfl rfl ⟨Nat.le_of_ble_eq_true rfl, Nat.le_of_ble_eq_true rfl⟩ rfl hl.1 rfl (Nat.le_of_ble_eq_true rfl) d_SV_fault_73 ⟨Nat.le_of_ble_eq_true rfl, Nat.le_of_ble_eq_true rfl⟩) hw (fun r73 w1 H locs hq hw => ?_)
          obtain ⟨rfl, ew⟩ := hq
          rw [ew] at hw
          refine k_i (k_runS B hw c_ST_isState rfl rfl cf_SV_63 ⟨Nat.le_of_ble_eq_true rfl, Nat.le_of_ble_eq_true rfl⟩ rfl hl.1 rfl (Nat.le_of_ble_eq_true rfl) d_SV_fault_76 ⟨Nat.le_of_ble_eq_true rfl, Nat.le_of_ble_eq_true rfl⟩) hw (fun r76 w1 H locs hq hw => ?_)
          obtain ⟨rfl, ew⟩ := hq
          rw [ew] at hw
          refine lv_if_eq (tgt := 86) hx hb d_SV_fault_79 rfl (fun h79 => ?_) (fun h79 => ?_)
          · rw [if_pos h79] at ez
            refine lv_bipush (v := (-5)) hx hb d_SV_fault_86 (by decide) ?_
            exact r_i B hw d_SV_fault_88 ⟨by rw [ez], rfl⟩
          · rw [if_neg h79] at ez
            refine lv_iconst (v := 0) hx hb d_SV_fault_82 (by decide) ?_
            refine lv_goto (tgt := 88) hx hb d_SV_fault_83 rfl ?_
            exact r_i B hw d_SV_fault_88 ⟨by rw [ez], rfl⟩
        · rw [if_neg h58] at ez
          refine lv_bipush (v := (-4)) hx hb d_SV_fault_61 (by decide) ?_
          exact r_i B hw d_SV_fault_63 ⟨by rw [ez], rfl⟩
      · rw [if_neg h31] at ez
        refine lv_bipush (v := (-3)) hx hb d_SV_fault_34 (by decide) ?_
        exact r_i B hw d_SV_fault_36 ⟨by rw [ez], rfl⟩
    · rw [if_pos h14] at ez
      refine lv_bipush (v := (-2)) hx hb d_SV_fault_17 (by decide) ?_
      exact r_i B hw d_SV_fault_19 ⟨by rw [ez], rfl⟩
