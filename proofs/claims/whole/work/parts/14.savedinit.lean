/-! Saved's constructor: what a record holds of a stream. -/
theorem sv_set {K : Nat → ClassId} {wl : va_W} {ix iy h wa n : Nat} {w : Nat → Int32} {y : Nat × va_E} (hn : ix ≠ iy) : svW K (wl.set ix y) ix iy h wa n w = svW K wl ix iy h wa n w := by
  unfold svW
  rw [List.set_comm _ _ hn, List.set_set]
def sW1 (k : Int32) : Nat → Int32 := upd (fun _ => 0) 0 (24301824 + k)
def sN2 (k : Int32) : Nat := 1 + apN (isFL k)
def sW2 (k : Int32) (f : Int64) : Nat → Int32 := apW (sW1 k) 1 f (isFL k)
def sN3 (k : Int32) : Nat := sN2 k + apN (isSL k)
def sW3 (k : Int32) (f g : Int64) : Nat → Int32 := apW (sW2 k f) (sN2 k) g (isSL k)
def svN (k : Int32) : Nat := sN3 k + 1
def svF (k : Int32) (f g : Int64) : Nat → Int32 := upd (sW3 k f g) (sN3 k) (ckF (sW3 k f g) (sN3 k))
theorem svN_le (k : Int32) : sN2 k ≤ 3 ∧ sN3 k ≤ 5 ∧ svN k ≤ 6 := by
  have h1 := apN_12 (isFL k)
  have h2 := apN_12 (isSL k)
  unfold svN sN3 sN2
  omega
set_option maxRecDepth 100000 in
set_option maxHeartbeats 4000000 in
theorem c_SV_init {l : Launch} {D : va_G} {K : Nat → ClassId} {A : Nat → Prop} {wl : va_W} {ix js h hS : Nat} {k : Int32} {f g : Int64} (he : wl[ix]? = some (h, .inr (2, [.null, .int 0]))) (hs : wl[js]? = some (hS, oSt k f g)) : ctV l y_SV_init prog_3_method_1_code 2 2 1 6 [.ref h, .ref hS] D K A (wl) (fun v => ∃ q, v = svW K (wl ++ [(q, arI K 6 (fun _ => 0))]) ix wl.length h q (svN k) (svF k f g)) := by
  refine mt_of (by decide) (Nat.le_of_ble_eq_true rfl) ?_
  intro p e s m below meth c ls B hw hl
  have hx := B.1
  have hb := B.2.1
  have hl : lv_has ls 2 [(0, .ref h), (1, .ref hS)] := hl
  refine lv_aload_n hx hb d_SV_init_0 rfl (lv_at hl 0 rfl) ?_
  refine W.objInit hx hb B.2.2.2.1 (B.2.2.2.2.1 _ ml_SV_1) (B.2.2.2.2.1 _ im_OB_init) (B.2.2.2.2.1 _ co_OB_init) rfl (by rw [B.2.2.1]; exact hl.1) rfl d_SV_init_1 (Nat.le_of_ble_eq_true rfl) (Nat.le_of_ble_eq_true rfl) ?_
  refine W.eq (g2 := F0 m 4 ls []) rfl ?_
  refine lv_aload_n hx hb d_SV_init_4 rfl (lv_at hl 0 rfl) ?_
  refine lv_bipush (v := 6) hx hb d_SV_init_5 (by decide) ?_
  refine g_newI (N' := 6) B hw (by decide) (by decide) (by decide) (Nat.le_of_ble_eq_true rfl) (Nat.le_of_ble_eq_true rfl) d_SV_init_7 (fun q H hw => ?_)
  have hlx : ix ≠ wl.length := Nat.ne_of_lt (List.getElem?_eq_some_iff.mp he).1
  have hls : wl.length ≠ js := (Nat.ne_of_lt (List.getElem?_eq_some_iff.mp hs).1).symm
  have hxs : ix ≠ js := ne_oo he hs (by decide)
  refine g_putF B hw fl_SV_9 ck_SV (ga_old he) rfl rfl rfl rfl (Nat.le_of_ble_eq_true rfl) d_SV_init_9 (fun H locs hw => ?_)
  refine lv_aload_n hx hb d_SV_init_12 rfl (lv_at hl 0 rfl) ?_
  refine lv_iconst (v := 0) hx hb d_SV_init_13 (by decide) ?_
  refine g_put B hw fl_SV_13 ck_SV (gs_eq (ga_old he)) rfl rfl rfl (Nat.le_of_ble_eq_true rfl) d_SV_init_14 (fun H locs hw => ?_)
  rw [List.set_set] at hw
  have hw : wd D A ((wl ++ [(q, arI K 6 (fun _ => 0))]).set ix (h, oSv q 0)) s H locs := hw
  have he0 : ((wl ++ [(q, arI K 6 (fun _ => 0))]).set ix (h, oSv q 0))[ix]? = some (h, oSv q 0) := gs_eq (ga_old he)
  have ha0 : ((wl ++ [(q, arI K 6 (fun _ => 0))]).set ix (h, oSv q 0))[wl.length]? = some (q, arI K 6 (fun _ => 0)) := gs_ne hlx ga_new
  have hs0 : ((wl ++ [(q, arI K 6 (fun _ => 0))]).set ix (h, oSv q 0))[js]? = some (hS, oSt k f g) := gs_ne hxs (ga_old hs)
  obtain ⟨c2, c3, c4⟩ := svN_le k
  refine lv_aload_n hx hb d_SV_init_17 rfl (lv_at hl 0 rfl) ?_
  refine g_ldc B kc_SV_17 d_SV_init_18 ?_
  refine lv_aload_n hx hb d_SV_init_20 rfl (lv_at hl 1 rfl) ?_
  refine g_get B hw fl_SV_18 hs0 rfl d_SV_init_21 ?_
  refine lv_iadd hx hb d_SV_init_24 ?_
  refine k_v (k_runV B hw (c_SV_append he0 ha0 (by omega)) rfl rfl cf_SV_23 he0 rfl rfl ⟨Nat.le_of_ble_eq_true rfl, Nat.le_of_ble_eq_true rfl⟩ rfl hl.1 rfl (Nat.le_of_ble_eq_true rfl) d_SV_init_25 ⟨Nat.le_of_ble_eq_true rfl, Nat.le_of_ble_eq_true rfl⟩) hw (fun w1 H locs hq hw => ?_)
  rw [hq] at hw
  have hw : wd D A (svW K ((wl ++ [(q, arI K 6 (fun _ => 0))]).set ix (h, oSv q 0)) ix wl.length h q 1 (sW1 k)) s H locs := hw
  refine lv_aload_n hx hb d_SV_init_28 rfl (lv_at hl 0 rfl) ?_
  refine lv_aload_n hx hb d_SV_init_29 rfl (lv_at hl 1 rfl) ?_
  refine g_get B hw fl_SV_27 (sv_o hxs hls hs0) rfl d_SV_init_30 ?_
  refine lv_aload_n hx hb d_SV_init_33 rfl (lv_at hl 1 rfl) ?_
  refine g_get B hw fl_SV_18 (sv_o hxs hls hs0) rfl d_SV_init_34 ?_
  refine k_i (k_runS B hw c_ST_isFirstLong rfl rfl cf_SV_31 ⟨Nat.le_of_ble_eq_true rfl, Nat.le_of_ble_eq_true rfl⟩ rfl hl.1 rfl (Nat.le_of_ble_eq_true rfl) d_SV_init_37 ⟨Nat.le_of_ble_eq_true rfl, Nat.le_of_ble_eq_true rfl⟩) hw (fun r37 w1 H locs hq hw => ?_)
  obtain ⟨rfl, ew⟩ := hq
  rw [ew] at hw
  refine k_v (k_runV B hw (c_SV_appendPart (sv_x he0 ha0) (sv_y he0 ha0) (by unfold sN2 at c2; omega)) rfl rfl cf_SV_35 (sv_x he0 ha0) rfl rfl ⟨Nat.le_of_ble_eq_true rfl, Nat.le_of_ble_eq_true rfl⟩ rfl hl.1 rfl (Nat.le_of_ble_eq_true rfl) d_SV_init_40 ⟨Nat.le_of_ble_eq_true rfl, Nat.le_of_ble_eq_true rfl⟩) hw (fun w1 H locs hq hw => ?_)
  rw [hq, sv_sv hlx] at hw
  have hw : wd D A (svW K ((wl ++ [(q, arI K 6 (fun _ => 0))]).set ix (h, oSv q 0)) ix wl.length h q (sN2 k) (sW2 k f)) s H locs := hw
  refine lv_aload_n hx hb d_SV_init_43 rfl (lv_at hl 0 rfl) ?_
  refine lv_aload_n hx hb d_SV_init_44 rfl (lv_at hl 1 rfl) ?_
  refine g_get B hw fl_SV_39 (sv_o hxs hls hs0) rfl d_SV_init_45 ?_
  refine lv_aload_n hx hb d_SV_init_48 rfl (lv_at hl 1 rfl) ?_
  refine g_get B hw fl_SV_18 (sv_o hxs hls hs0) rfl d_SV_init_49 ?_
  refine k_i (k_runS B hw c_ST_isSecondLong rfl rfl cf_SV_42 ⟨Nat.le_of_ble_eq_true rfl, Nat.le_of_ble_eq_true rfl⟩ rfl hl.1 rfl (Nat.le_of_ble_eq_true rfl) d_SV_init_52 ⟨Nat.le_of_ble_eq_true rfl, Nat.le_of_ble_eq_true rfl⟩) hw (fun r52 w1 H locs hq hw => ?_)
  obtain ⟨rfl, ew⟩ := hq
  rw [ew] at hw
  refine k_v (k_runV B hw (c_SV_appendPart (sv_x he0 ha0) (sv_y he0 ha0) (by unfold sN3 at c3; omega)) rfl rfl cf_SV_35 (sv_x he0 ha0) rfl rfl ⟨Nat.le_of_ble_eq_true rfl, Nat.le_of_ble_eq_true rfl⟩ rfl hl.1 rfl (Nat.le_of_ble_eq_true rfl) d_SV_init_55 ⟨Nat.le_of_ble_eq_true rfl, Nat.le_of_ble_eq_true rfl⟩) hw (fun w1 H locs hq hw => ?_)
  rw [hq, sv_sv hlx] at hw
  have hw : wd D A (svW K ((wl ++ [(q, arI K 6 (fun _ => 0))]).set ix (h, oSv q 0)) ix wl.length h q (sN3 k) (sW3 k f g)) s H locs := hw
  refine lv_aload_n hx hb d_SV_init_58 rfl (lv_at hl 0 rfl) ?_
  refine lv_aload_n hx hb d_SV_init_59 rfl (lv_at hl 0 rfl) ?_
  refine lv_aload_n hx hb d_SV_init_60 rfl (lv_at hl 0 rfl) ?_
  refine g_get B hw fl_SV_13 (sv_x he0 ha0) rfl d_SV_init_61 ?_
  refine k_i (k_runV B hw (c_SV_checkOfFirst (sv_x he0 ha0) (sv_y he0 ha0) (by omega)) rfl rfl cf_SV_45 (sv_x he0 ha0) rfl rfl ⟨Nat.le_of_ble_eq_true rfl, Nat.le_of_ble_eq_true rfl⟩ rfl hl.1 rfl (Nat.le_of_ble_eq_true rfl) d_SV_init_64 ⟨Nat.le_of_ble_eq_true rfl, Nat.le_of_ble_eq_true rfl⟩) hw (fun r64 w1 H locs hq hw => ?_)
  obtain ⟨rfl, ew⟩ := hq
  rw [ew] at hw
  refine k_v (k_runV B hw (c_SV_append (sv_x he0 ha0) (sv_y he0 ha0) (by omega)) rfl rfl cf_SV_23 (sv_x he0 ha0) rfl rfl ⟨Nat.le_of_ble_eq_true rfl, Nat.le_of_ble_eq_true rfl⟩ rfl hl.1 rfl (Nat.le_of_ble_eq_true rfl) d_SV_init_67 ⟨Nat.le_of_ble_eq_true rfl, Nat.le_of_ble_eq_true rfl⟩) hw (fun w1 H locs hq hw => ?_)
  rw [hq, sv_sv hlx, sv_set hlx] at hw
  exact r_v B hw d_SV_init_70 ⟨q, rfl⟩
