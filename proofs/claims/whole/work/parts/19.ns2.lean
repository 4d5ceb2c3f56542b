/-! NumberStreams: the streams' calls. -/
theorem sw6 (x : Int32) : x = 0 ∨ x = 1 ∨ x = 2 ∨ x = 3 ∨ x = 4 ∨ x = 5 ∨ ((x.toInt < 0 ∨ 5 < x.toInt) ∧ ¬ x = 0 ∧ ¬ x = 1 ∧ ¬ x = 2 ∧ ¬ x = 3 ∧ ¬ x = 4 ∧ ¬ x = 5) := by
  rcases sw4 x with h | h | h | h | ⟨h, h0, h1, h2, h3⟩
  · exact Or.inl h
  · exact Or.inr (Or.inl h)
  · exact Or.inr (Or.inr (Or.inl h))
  · exact Or.inr (Or.inr (Or.inr (Or.inl h)))
  rcases Classical.em (x = 4) with h4 | h4
  · exact Or.inr (Or.inr (Or.inr (Or.inr (Or.inl h4))))
  rcases Classical.em (x = 5) with h5 | h5
  · exact Or.inr (Or.inr (Or.inr (Or.inr (Or.inr (Or.inl h5)))))
  have a4 := lv_neT h4 (show (4 : Int32).toInt = 4 by decide)
  have a5 := lv_neT h5 (show (5 : Int32).toInt = 5 by decide)
  exact Or.inr (Or.inr (Or.inr (Or.inr (Or.inr (Or.inr ⟨by omega, h0, h1, h2, h3, h4, h5⟩)))))
theorem mvN_go {k : Int32} {n j : Nat} (h : j < n) (t : Int64 × Int64) : mvN k (n - j) t = mvN k (n - (j + 1)) (mvF k t.1 t.2, mvS k t.1 t.2) := by
  rw [show n - j = (n - (j + 1)) + 1 by omega]
  rfl
theorem shN_go {k : Int32} {i : Nat} (h : 0 < i) (t : (Nat → Int32) × Int64 × Int64) : shN k i t = shN k (i - 1) (swp t.1 i (bel (nI (i + 1)) k 8 t.2).1.toNatClampNeg, (bel (nI (i + 1)) k 8 t.2).2) := by
  obtain ⟨j, rfl⟩ : ∃ j, i = j + 1 := ⟨i - 1, by omega⟩
  rfl
theorem shN_gx {k : Int32} {i j : Nat} {c : Nat → Int32} {F G b2 b3 : Int64} (h : 0 < i) (hb : bel (nI (i + 1)) k 8 (F, G) = (nI j, b2, b3)) (hj : j < 2 ^ 31) : shN k i (c, F, G) = shN k (i - 1) (swp c i j, b2, b3) := by
  rw [shN_go h]
  show shN k (i - 1) (swp c i (bel (nI (i + 1)) k 8 (F, G)).1.toNatClampNeg, (bel (nI (i + 1)) k 8 (F, G)).2) = _
  rw [hb]
  show shN k (i - 1) (swp c i (nI j).toNatClampNeg, b2, b3) = _
  rw [nI_clamp hj]
theorem pos_of {y : Int32} (h : 1 ≤ y) : ∃ N : Nat, 0 < N ∧ N < 2 ^ 31 ∧ y = nI N := by
  have h1 : (1 : Int32).toInt = 1 := by decide
  have h0 : (0 : Int32).toInt = 0 := by decide
  rw [Int32.le_iff_toInt_le, h1] at h
  obtain ⟨N, hN, rfl⟩ := nI_of (x := y) (by rw [Int32.lt_iff_toInt_lt, h0]; omega)
  rw [nI_toInt hN] at h
  exact ⟨N, by omega, hN, rfl⟩
theorem fr_of {kd : Nat → Int32} (h : 0 ≤ frI kd) : ∃ k, k < 8 ∧ kd k < 0 ∧ frI kd = nI k ∧ ¬ frI kd < 0 := by
  rcases frI_case kd with q | ⟨k, h1, h2, h3⟩
  · rw [q] at h; exact absurd h (by decide)
  · exact ⟨k, h1, h2, h3, by rw [h3]; exact nI_pos (by omega)⟩
theorem fr_no {kd : Nat → Int32} (h : ¬ 0 ≤ frI kd) : frI kd < 0 := Int32.not_le.mp h
theorem set_last {w : va_W} {x y : Nat × va_E} : (w ++ [x]).set w.length y = w ++ [y] := by
  rw [List.set_append_right _ _ (Nat.le_refl _), Nat.sub_self]
  rfl
theorem s10 {w : va_W} {i j : Nat} {x y z : Nat × va_E} (h : i ≠ j) : ((w.set i x).set j y).set i z = (w.set i z).set j y := by
  rw [List.set_comm _ _ h.symm, List.set_set]
theorem tuN_lt {b : Nat} (hb : 0 < b) (i : Nat) : ∀ n, (tuN b n (0, i)).1 < b ^ n
  | 0 => by show 0 < b ^ 0; simp
  | n + 1 => by
    have h := tuN_lt hb i n
    have h2 := Nat.mod_lt (tuN b n (0, i)).2 hb
    show (tuN b n (0, i)).1 * b + (tuN b n (0, i)).2 % b < b ^ (n + 1)
    have h3 : ((tuN b n (0, i)).1 + 1) * b ≤ b ^ n * b := Nat.mul_le_mul_right b h
    rw [Nat.pow_succ]
    rw [Nat.succ_mul] at h3
    omega
theorem coA_0 (ix : Nat) : coA ix 0 = nU (joN 0 (grC (nI ix)) 20) := if_pos rfl
theorem coA_1 (ix : Nat) : coA ix 1 = nU (joN 1 (grC (nI ix)) 20) := by unfold coA; rw [if_neg (by decide), if_pos rfl]
theorem coA_2 (ix : Nat) : coA ix 2 = nU (joN 2 (grC (nI ix)) 20) := by unfold coA; rw [if_neg (by decide), if_neg (by decide), if_pos rfl]
theorem coA_3 (ix : Nat) : coA ix 3 = nU (joN 3 (grC (nI ix)) 20) := by unfold coA; rw [if_neg (by decide), if_neg (by decide), if_neg (by decide), if_pos rfl]
theorem coA_4 (ix : Nat) : coA ix 4 = lN (tuN 3 13 (0, ix)).1 := by unfold coA; rw [if_neg (by decide), if_neg (by decide), if_neg (by decide), if_neg (by decide), if_pos rfl]
theorem coA_5 (ix : Nat) : coA ix 5 = lN (tuN 5 9 (0, ix)).1 := by unfold coA; rw [if_neg (by decide), if_neg (by decide), if_neg (by decide), if_neg (by decide), if_neg (by decide), if_pos rfl]
theorem coA_n {ix : Nat} {d : Int32} (n0 : ¬ d = 0) (n1 : ¬ d = 1) (n2 : ¬ d = 2) (n3 : ¬ d = 3) (n4 : ¬ d = 4) (n5 : ¬ d = 5) : coA ix d = -1 := by unfold coA; rw [if_neg n0, if_neg n1, if_neg n2, if_neg n3, if_neg n4, if_neg n5]
theorem tu3 (ix : Nat) : (nI (tuN 3 13 (0, ix)).1).toInt64 = lN (tuN 3 13 (0, ix)).1 := i64_nI (Nat.lt_trans (tuN_lt (by omega) ix 13) (by decide))
theorem tu5 (ix : Nat) : (nI (tuN 5 9 (0, ix)).1).toInt64 = lN (tuN 5 9 (0, ix)).1 := i64_nI (Nat.lt_trans (tuN_lt (by omega) ix 9) (by decide))
theorem XR.mix {K : Nat → ClassId} {h aS aR aP aD aW aC rc ix : Nat} {g rr gd : Nat → Option Nat} {wt cd kd sd : Nat → Int32} {f1 f2 : Nat → Int64} {sz ra wa : Nat → Nat} {wl : va_W} (hF : XF K h aS aR aP aD aW aC rc g rr gd ix wt cd wl) (hX : XS kd f1 f2 g wl) (hV : XV K rc sz sd rr ra wa wl) {k a i : Nat} (hk : k < 8) (hkd : ¬ kd k < 0) (hg : g k = some a) (hi : wl[i]? = some (a, oSt (kd k) (f1 k) (f2 k))) (F G : Int64) (c : Nat → Int32) : XR K h kd (vp_updL f1 k F) (vp_updL f2 k G) rc sz sd ix wt c ((wl.set 10 (aC, arI K 16 c)).set i (a, oSt (kd k) F G)) := by
  have h10 := hF.st hi (by omega)
  have hF0 := hF
  obtain ⟨e0, e1, e2, e3, e4, e5, e9, e10⟩ := hF
  have hF2 : XF K h aS aR aP aD aW aC rc g rr gd ix wt c (wl.set 10 (aC, arI K 16 c)) := ⟨gs_ne (by omega) e0, gs_ne (by omega) e1, gs_ne (by omega) e2, gs_ne (by omega) e3, gs_ne (by omega) e4, fun j hj => by obtain ⟨b, E, q1, q2, q3⟩ := e5 j hj; exact ⟨b, E, q1, gs_ne (by omega) q2, q3⟩, gs_ne (by omega) e9, gs_eq e10⟩
  exact XR.step hF2 (hX.keep (fun j b c f1 f2 hx => gs_ne (by have := hF0.st hx (by omega); omega) hx)) (hV.keep (fun j b c n hx => gs_ne (by have := hF0.st hx (by omega); omega) hx) (fun j b w hx => gs_ne (by have := hF0.wd hx; omega) hx)) hk hkd hg (gs_ne (by omega) hi) F G
set_option maxRecDepth 100000 in
set_option maxHeartbeats 4000000 in
theorem c_NS_release {l : Launch} {D : va_G} {K : Nat → ClassId} {A : Nat → Prop} {wl : va_W} {h rc ix : Nat} {kd sd wt cd : Nat → Int32} {f1 f2 : Nat → Int64} {sz : Nat → Nat} (hR : XR K h kd f1 f2 rc sz sd ix wt cd wl) {x : Int32} : ctI l y_NS_release prog_1_method_4_code 2 (some .boolean) 1 0 0 [.ref h, .int x] D K A (wl) (fun r w => r = rlA kd x ∧ XR K h (rlK kd x) f1 f2 rc sz sd ix wt cd w) := by
  refine mt_of (by decide) (Nat.le_of_ble_eq_true rfl) ?_
  intro p e s m below meth c ls B hw hl
  have hx := B.1
  have hb := B.2.1
  have hl : lv_has ls 2 [(0, .ref h), (1, .int x)] := hl
  have hR0 := hR
  obtain ⟨aS, aR, aP, aD, aW, aC, g, rr, gd, ra, wa, hF, hX, hV⟩ := hR
  have hF0 := hF
  obtain ⟨e0, e1, e2, e3, e4, e5, e9, e10⟩ := hF
  refine lv_aload_n hx hb d_NS_release_0 rfl (lv_at hl 0 rfl) ?_
  refine lv_iload_n hx hb d_NS_release_1 rfl (lv_at hl 1 rfl) ?_
  refine k_q (k_runV B hw (c_NS_streamAt hF0) rfl rfl cf_NS_61 e0 rfl rfl ⟨Nat.le_of_ble_eq_true rfl, Nat.le_of_ble_eq_true rfl⟩ rfl hl.1 rfl (Nat.le_of_ble_eq_true rfl) d_NS_release_2 ⟨Nat.le_of_ble_eq_true rfl, Nat.le_of_ble_eq_true rfl⟩) hw (fun r2 w1 H locs hq hw => ?_)
  obtain ⟨rfl, ew⟩ := hq
  rw [ew] at hw
  rcases st_case hX x with ⟨hn, hz⟩ | ⟨k, hk, rfl, hn, hkd, a, iq, hga, hz, hi⟩
  · rw [hz, va_rf_none]
    refine lv_ifnonnullN hx hb d_NS_release_5 ?_
    refine lv_iconst (v := 0) hx hb d_NS_release_8 (by decide) ?_
    exact r_z B hw (by decide) d_NS_release_9 ⟨by unfold rlA; rw [onS_n hn], by unfold rlK; rw [onS_n hn]; exact hR0⟩
  · rw [hz, va_rf_some]
    have h10 := hF0.st hi (by omega)
    refine lv_ifnonnull (tgt := 10) hx hb d_NS_release_5 rfl ?_
    refine lv_aload_n hx hb d_NS_release_10 rfl (lv_at hl 0 rfl) ?_
    refine g_get B hw fl_NS_11 e0 rfl d_NS_release_11 ?_
    refine lv_iload_n hx hb d_NS_release_14 rfl (lv_at hl 1 rfl) ?_
    refine lv_null hx hb d_NS_release_15 ?_
    refine g_aastN 2 B hw e1 rfl (vp_in_nI hk (by omega)) d_NS_release_16 (fun H locs hw => ?_)
    rw [nI_clamp (by omega)] at hw
    refine lv_iconst (v := 1) hx hb d_NS_release_17 (by decide) ?_
    exact r_z B hw (by decide) d_NS_release_18 ⟨by unfold rlA; rw [onS_s hn], by unfold rlK; rw [onS_s hn]; exact XR.free hF0 hX hV hk⟩
set_option maxRecDepth 100000 in
set_option maxHeartbeats 4000000 in
theorem c_NS_next {l : Launch} {D : va_G} {K : Nat → ClassId} {A : Nat → Prop} {wl : va_W} {h rc ix : Nat} {kd sd wt cd : Nat → Int32} {f1 f2 : Nat → Int64} {sz : Nat → Nat} (hR : XR K h kd f1 f2 rc sz sd ix wt cd wl) {x : Int32} : ctL l y_NS_next prog_1_method_5_code 3 4 0 0 [.ref h, .int x] D K A (wl) (fun r w => r = nxA kd f1 f2 x ∧ XR K h kd (nx1 kd f1 f2 x) (nx2 kd f1 f2 x) rc sz sd ix wt cd w) := by
  refine mt_of (by decide) (Nat.le_of_ble_eq_true rfl) ?_
  intro p e s m below meth c ls B hw hl
  have hx := B.1
  have hb := B.2.1
  have hl : lv_has ls 3 [(0, .ref h), (1, .int x)] := hl
  have hR0 := hR
  obtain ⟨aS, aR, aP, aD, aW, aC, g, rr, gd, ra, wa, hF, hX, hV⟩ := hR
  have hF0 := hF
  obtain ⟨e0, e1, e2, e3, e4, e5, e9, e10⟩ := hF
  refine lv_aload_n hx hb d_NS_next_0 rfl (lv_at hl 0 rfl) ?_
  refine lv_iload_n hx hb d_NS_next_1 rfl (lv_at hl 1 rfl) ?_
  refine k_q (k_runV B hw (c_NS_streamAt hF0) rfl rfl cf_NS_61 e0 rfl rfl ⟨Nat.le_of_ble_eq_true rfl, Nat.le_of_ble_eq_true rfl⟩ rfl hl.1 rfl (Nat.le_of_ble_eq_true rfl) d_NS_next_2 ⟨Nat.le_of_ble_eq_true rfl, Nat.le_of_ble_eq_true rfl⟩) hw (fun r2 w1 H locs hq hw => ?_)
  obtain ⟨rfl, ew⟩ := hq
  rw [ew] at hw
  rcases st_case hX x with ⟨hn, hz⟩ | ⟨k, hk, rfl, hn, hkd, a, iq, hga, hz, hi⟩
  · rw [hz, va_rf_none]
    refine lv_astore_nN hx hb d_NS_next_5 rfl hl (by decide) rfl (fun ls (hl : lv_has ls 3 [(2, .null), (0, .ref _), (1, .int _)]) => ?_)
    refine lv_aload_nN hx hb d_NS_next_6 rfl (lv_at hl 0 rfl) ?_
    refine lv_ifnonnullN hx hb d_NS_next_7 ?_
    refine g_ldc2 B kc_NS_75 d_NS_next_10 ?_
    exact r_l B hw d_NS_next_13 ⟨by unfold nxA; rw [onS_n hn], by unfold nx1 nx2; rw [onS_n hn, onS_n hn]; exact hR0⟩
  · rw [hz, va_rf_some]
    have h10 := hF0.st hi (by omega)
    refine lv_astore_n hx hb d_NS_next_5 rfl hl (by decide) rfl (fun ls (hl : lv_has ls 3 [(2, .ref _), (0, .ref _), (1, .int _)]) => ?_)
    refine lv_aload_n hx hb d_NS_next_6 rfl (lv_at hl 0 rfl) ?_
    refine lv_ifnonnull (tgt := 14) hx hb d_NS_next_7 rfl ?_
    refine lv_aload_n hx hb d_NS_next_14 rfl (lv_at hl 0 rfl) ?_
    refine k_i (k_runV B hw (c_ST_step hi) rfl rfl cf_NS_77 hi rfl rfl ⟨Nat.le_of_ble_eq_true rfl, Nat.le_of_ble_eq_true rfl⟩ rfl hl.1 rfl (Nat.le_of_ble_eq_true rfl) d_NS_next_15 ⟨Nat.le_of_ble_eq_true rfl, Nat.le_of_ble_eq_true rfl⟩) hw (fun r15 w1 H locs hq hw => ?_)
    obtain ⟨rfl, ew⟩ := hq
    rw [ew] at hw
    refine k_l (k_runS B hw c_NS_asNumber rfl rfl cf_NS_80 ⟨Nat.le_of_ble_eq_true rfl, Nat.le_of_ble_eq_true rfl⟩ rfl hl.1 rfl (Nat.le_of_ble_eq_true rfl) d_NS_next_18 ⟨Nat.le_of_ble_eq_true rfl, Nat.le_of_ble_eq_true rfl⟩) hw (fun r18 w1 H locs hq hw => ?_)
    obtain ⟨rfl, ew⟩ := hq
    rw [ew] at hw
    exact r_l B hw d_NS_next_21 ⟨by unfold nxA; rw [onS_s hn], by unfold nx1 nx2; rw [onS_s hn, onS_s hn]; exact XR.step hF0 hX hV hk hkd hga hi _ _⟩
set_option maxRecDepth 100000 in
set_option maxHeartbeats 4000000 in
theorem c_NS_jump {l : Launch} {D : va_G} {K : Nat → ClassId} {A : Nat → Prop} {wl : va_W} {h rc ix : Nat} {kd sd wt cd : Nat → Int32} {f1 f2 : Nat → Int64} {sz : Nat → Nat} (hR : XR K h kd f1 f2 rc sz sd ix wt cd wl) {x y : Int32} : ctI l y_NS_jump prog_1_method_6_code 5 (some .boolean) 3 0 0 [.ref h, .int x, .int y] D K A (wl) (fun r w => r = jpA kd x y ∧ XR K h kd (jp1 kd f1 f2 x y) (jp2 kd f1 f2 x y) rc sz sd ix wt cd w) := by
  refine mt_of (by decide) (Nat.le_of_ble_eq_true rfl) ?_
  intro p e s m below meth c ls B hw hl
  have hx := B.1
  have hb := B.2.1
  have hl : lv_has ls 5 [(0, .ref h), (1, .int x), (2, .int y)] := hl
  have hR0 := hR
  obtain ⟨aS, aR, aP, aD, aW, aC, g, rr, gd, ra, wa, hF, hX, hV⟩ := hR
  have hF0 := hF
  obtain ⟨e0, e1, e2, e3, e4, e5, e9, e10⟩ := hF
  refine lv_aload_n hx hb d_NS_jump_0 rfl (lv_at hl 0 rfl) ?_
  refine lv_iload_n hx hb d_NS_jump_1 rfl (lv_at hl 1 rfl) ?_
  refine k_q (k_runV B hw (c_NS_streamAt hF0) rfl rfl cf_NS_61 e0 rfl rfl ⟨Nat.le_of_ble_eq_true rfl, Nat.le_of_ble_eq_true rfl⟩ rfl hl.1 rfl (Nat.le_of_ble_eq_true rfl) d_NS_jump_2 ⟨Nat.le_of_ble_eq_true rfl, Nat.le_of_ble_eq_true rfl⟩) hw (fun r2 w1 H locs hq hw => ?_)
  obtain ⟨rfl, ew⟩ := hq
  rw [ew] at hw
  rcases st_case hX x with ⟨hn, hz⟩ | ⟨k, hk, rfl, hn, hkd, a, iq, hga, hz, hi⟩
  · rw [hz, va_rf_none]
    refine lv_astore_nN hx hb d_NS_jump_5 rfl hl (by decide) rfl (fun ls (hl : lv_has ls 5 [(3, .null), (0, .ref _), (1, .int _), (2, .int _)]) => ?_)
    refine lv_aload_nN hx hb d_NS_jump_6 rfl (lv_at hl 0 rfl) ?_
    refine lv_ifnullN (tgt := 20) hx hb d_NS_jump_7 rfl ?_
    refine lv_iconst (v := 0) hx hb d_NS_jump_20 (by decide) ?_
    exact r_z B hw (by decide) d_NS_jump_21 ⟨by unfold jpA; rw [onS_n hn], by unfold jp1 jp2; rw [onS_n hn, onS_n hn]; exact hR0⟩
  · rw [hz, va_rf_some]
    have h10 := hF0.st hi (by omega)
    refine lv_astore_n hx hb d_NS_jump_5 rfl hl (by decide) rfl (fun ls (hl : lv_has ls 5 [(3, .ref _), (0, .ref _), (1, .int _), (2, .int _)]) => ?_)
    refine lv_aload_n hx hb d_NS_jump_6 rfl (lv_at hl 0 rfl) ?_
    refine lv_ifnull hx hb d_NS_jump_7 ?_
    refine lv_iload_n hx hb d_NS_jump_10 rfl (lv_at hl 3 rfl) ?_
    refine lv_if_lt (tgt := 20) hx hb d_NS_jump_11 rfl (fun h11 => ?_) (fun h11 => ?_)
    · have ez : jpB y = false := if_pos h11
      refine lv_iconst (v := 0) hx hb d_NS_jump_20 (by decide) ?_
      exact r_z B hw (by decide) d_NS_jump_21 ⟨by unfold jpA; rw [onS_s hn, ez]; rfl, by unfold jp1 jp2; rw [onS_s hn, onS_s hn]; (try dsimp only); rw [ez]; exact hR0⟩
    · have ez : jpB y = _ := if_neg h11
      refine lv_iload_n hx hb d_NS_jump_14 rfl (lv_at hl 3 rfl) ?_
      refine g_ldc B kc_NS_84 d_NS_jump_15 ?_
      refine lv_icmp_le (tgt := 22) hx hb d_NS_jump_17 rfl (fun h17 => ?_) (fun h17 => ?_)
      · rw [if_pos h17] at ez
        obtain ⟨N, hN, rfl⟩ := nI_of h11
        have h17 : N ≤ 65535 := (nI_leI (b := 65535) (by omega) (by omega)).mp h17
        refine lv_iconst (v := 0) hx hb d_NS_jump_22 (by decide) ?_
        refine lv_istore hx hb d_NS_jump_23 hl (by decide) rfl (fun ls (hl : lv_has ls 5 [(4, .int _), (3, .ref _), (0, .ref _), (1, .int _), (2, .int _)]) => ?_)
        refine lp_w (σ := Nat × Int64 × Int64) (fun z => N - z.1) (fun z H locs ls => z.1 ≤ N ∧ mvN (kd k) N (f1 k, f2 k) = mvN (kd k) (N - z.1) z.2 ∧ lv_has ls 5 [(4, .int (nI z.1)), (3, .ref a), (0, .ref h), (1, .int (nI k)), (2, .int (nI N))] ∧ wd D A (wl.set iq (a, oSt (kd k) z.2.1 z.2.2)) s H locs) ?_ (0, f1 k, f2 k) _ _ _ ⟨by show 0 ≤ N; omega, rfl, lv_sub hl [0, 1, 2, 3, 4] rfl, by show wd D A (wl.set iq (a, oSt (kd k) (f1 k) (f2 k))) s _ _; rw [set_self hi]; exact hw⟩
        rintro ⟨j, F, G⟩ H locs ls ⟨hj, hmv, hl, hw⟩ ih
        dsimp only at hj hmv hl hw
        refine lv_iload hx hb d_NS_jump_25 (lv_at hl 0 rfl) ?_
        refine lv_iload_n hx hb d_NS_jump_27 rfl (lv_at hl 4 rfl) ?_
        refine lv_icmp_ge (tgt := 41) hx hb d_NS_jump_28 rfl (fun h28 => ?_) (fun h28 => ?_)
        · have h28 : N ≤ j := (nI_leI (by omega) (by omega)).mp h28
          have hjN : j = N := by omega
          rw [hjN, Nat.sub_self] at hmv
          have hmv : mvN (kd k) N (f1 k, f2 k) = (F, G) := hmv
          refine lv_iconst (v := 1) hx hb d_NS_jump_41 (by decide) ?_
          exact r_z B hw (by decide) d_NS_jump_42 ⟨by unfold jpA; rw [onS_s hn, ez]; rfl, by unfold jp1 jp2; rw [onS_s hn, onS_s hn]; (try dsimp only); rw [ez, if_pos rfl, if_pos rfl, nI_clamp (by omega), hmv]; exact XR.step hF0 hX hV hk hkd hga hi _ _⟩
        · have h28 : j < N := Nat.lt_of_not_le (fun q => h28 ((nI_leI (by omega) (by omega)).mpr q))
          refine lv_aload_n hx hb d_NS_jump_31 rfl (lv_at hl 1 rfl) ?_
          refine k_v (k_runV B hw (c_ST_move (gs_eq hi)) rfl rfl cf_NS_85 (gs_eq hi) rfl rfl ⟨Nat.le_of_ble_eq_true rfl, Nat.le_of_ble_eq_true rfl⟩ rfl hl.1 rfl (Nat.le_of_ble_eq_true rfl) d_NS_jump_32 ⟨Nat.le_of_ble_eq_true rfl, Nat.le_of_ble_eq_true rfl⟩) hw (fun w1 H locs hq hw => ?_)
          rw [hq, List.set_set] at hw
          refine lv_iinc (k := 0) hx hb d_NS_jump_35 hl rfl (show nI j + Int32.ofInt 1 = nI (j + 1) from (nI_succ j).symm) (by decide) rfl (fun ls (hl : lv_has ls 5 [(4, .int (nI (j + 1))), (3, .ref _), (0, .ref _), (1, .int _), (2, .int _)]) => ?_)
          refine lv_goto (tgt := 25) hx hb d_NS_jump_38 rfl ?_
          exact ih (j + 1, mvF (kd k) F G, mvS (kd k) F G) _ _ _ (by show N - (j + 1) < N - j; omega) ⟨by show j + 1 ≤ N; omega, hmv.trans (mvN_go h28 _), lv_sub hl [0, 1, 2, 3, 4] rfl, hw⟩
      · rw [if_neg h17] at ez
        refine lv_iconst (v := 0) hx hb d_NS_jump_20 (by decide) ?_
        exact r_z B hw (by decide) d_NS_jump_21 ⟨by unfold jpA; rw [onS_s hn, ez]; rfl, by unfold jp1 jp2; rw [onS_s hn, onS_s hn]; (try dsimp only); rw [ez]; exact hR0⟩
set_option maxRecDepth 100000 in
set_option maxHeartbeats 4000000 in
theorem c_NS_draw {l : Launch} {D : va_G} {K : Nat → ClassId} {A : Nat → Prop} {wl : va_W} {h rc ix : Nat} {kd sd wt cd : Nat → Int32} {f1 f2 : Nat → Int64} {sz : Nat → Nat} (hR : XR K h kd f1 f2 rc sz sd ix wt cd wl) {x y : Int32} : ctI l y_NS_draw prog_1_method_7_code 4 (some .int) 5 0 0 [.ref h, .int x, .int y] D K A (wl) (fun r w => r = drA kd f1 f2 x y ∧ XR K h kd (dr1 kd f1 f2 x y) (dr2 kd f1 f2 x y) rc sz sd ix wt cd w) := by
  refine mt_of (by decide) (Nat.le_of_ble_eq_true rfl) ?_
  intro p e s m below meth c ls B hw hl
  have hx := B.1
  have hb := B.2.1
  have hl : lv_has ls 4 [(0, .ref h), (1, .int x), (2, .int y)] := hl
  have hR0 := hR
  obtain ⟨aS, aR, aP, aD, aW, aC, g, rr, gd, ra, wa, hF, hX, hV⟩ := hR
  have hF0 := hF
  obtain ⟨e0, e1, e2, e3, e4, e5, e9, e10⟩ := hF
  refine lv_aload_n hx hb d_NS_draw_0 rfl (lv_at hl 0 rfl) ?_
  refine lv_iload_n hx hb d_NS_draw_1 rfl (lv_at hl 1 rfl) ?_
  refine k_q (k_runV B hw (c_NS_streamAt hF0) rfl rfl cf_NS_61 e0 rfl rfl ⟨Nat.le_of_ble_eq_true rfl, Nat.le_of_ble_eq_true rfl⟩ rfl hl.1 rfl (Nat.le_of_ble_eq_true rfl) d_NS_draw_2 ⟨Nat.le_of_ble_eq_true rfl, Nat.le_of_ble_eq_true rfl⟩) hw (fun r2 w1 H locs hq hw => ?_)
  obtain ⟨rfl, ew⟩ := hq
  rw [ew] at hw
  rcases st_case hX x with ⟨hn, hz⟩ | ⟨k, hk, rfl, hn, hkd, a, iq, hga, hz, hi⟩
  · rw [hz, va_rf_none]
    refine lv_astore_nN hx hb d_NS_draw_5 rfl hl (by decide) rfl (fun ls (hl : lv_has ls 4 [(3, .null), (0, .ref _), (1, .int _), (2, .int _)]) => ?_)
    refine lv_aload_nN hx hb d_NS_draw_6 rfl (lv_at hl 0 rfl) ?_
    refine lv_ifnullN (tgt := 15) hx hb d_NS_draw_7 rfl ?_
    refine lv_iconst (v := (-1)) hx hb d_NS_draw_15 (by decide) ?_
    exact r_i B hw d_NS_draw_16 ⟨by unfold drA; rw [onS_n hn], by unfold dr1 dr2; rw [onS_n hn, onS_n hn]; exact hR0⟩
  · rw [hz, va_rf_some]
    have h10 := hF0.st hi (by omega)
    refine lv_astore_n hx hb d_NS_draw_5 rfl hl (by decide) rfl (fun ls (hl : lv_has ls 4 [(3, .ref _), (0, .ref _), (1, .int _), (2, .int _)]) => ?_)
    refine lv_aload_n hx hb d_NS_draw_6 rfl (lv_at hl 0 rfl) ?_
    refine lv_ifnull hx hb d_NS_draw_7 ?_
    refine lv_iload_n hx hb d_NS_draw_10 rfl (lv_at hl 3 rfl) ?_
    refine lv_iconst (v := 1) hx hb d_NS_draw_11 (by decide) ?_
    refine lv_icmp_ge (tgt := 17) hx hb d_NS_draw_12 rfl (fun h12 => ?_) (fun h12 => ?_)
    · have h12b := h12
      obtain ⟨N, hN0, hN, rfl⟩ := pos_of h12
      refine lv_aload_n hx hb d_NS_draw_17 rfl (lv_at hl 0 rfl) ?_
      refine lv_iload_n hx hb d_NS_draw_18 rfl (lv_at hl 3 rfl) ?_
      refine k_i (k_runV B hw (c_ST_drawnBelow hi hN0 hN) rfl rfl cf_NS_88 hi rfl rfl ⟨Nat.le_of_ble_eq_true rfl, Nat.le_of_ble_eq_true rfl⟩ rfl hl.1 rfl (Nat.le_of_ble_eq_true rfl) d_NS_draw_19 ⟨Nat.le_of_ble_eq_true rfl, Nat.le_of_ble_eq_true rfl⟩) hw (fun r19 w1 H locs hq hw => ?_)
      have er := hq.1
      have ew := hq.2
      rw [ew] at hw
      rw [er]
      exact r_i B hw d_NS_draw_22 ⟨by unfold drA; rw [onS_s hn]; exact (if_pos h12b).symm, by unfold dr1 dr2; rw [onS_s hn, onS_s hn]; (try dsimp only); rw [if_pos h12b, if_pos h12b]; exact XR.step hF0 hX hV hk hkd hga hi _ _⟩
    · refine lv_iconst (v := (-1)) hx hb d_NS_draw_15 (by decide) ?_
      exact r_i B hw d_NS_draw_16 ⟨by unfold drA; rw [onS_s hn]; exact (if_neg h12).symm, by unfold dr1 dr2; rw [onS_s hn, onS_s hn]; (try dsimp only); rw [if_neg h12, if_neg h12]; exact hR0⟩
set_option maxRecDepth 100000 in
set_option maxHeartbeats 4000000 in
theorem c_NS_same {l : Launch} {D : va_G} {K : Nat → ClassId} {A : Nat → Prop} {wl : va_W} {h rc ix : Nat} {kd sd wt cd : Nat → Int32} {f1 f2 : Nat → Int64} {sz : Nat → Nat} (hR : XR K h kd f1 f2 rc sz sd ix wt cd wl) {x y : Int32} : ctI l y_NS_same prog_1_method_8_code 5 (some .boolean) 1 0 0 [.ref h, .int x, .int y] D K A (wl) (fun r w => r = smA kd f1 f2 x y ∧ w = wl) := by
  refine mt_of (by decide) (Nat.le_of_ble_eq_true rfl) ?_
  intro p e s m below meth c ls B hw hl
  have hx := B.1
  have hb := B.2.1
  have hl : lv_has ls 5 [(0, .ref h), (1, .int x), (2, .int y)] := hl
  have hR0 := hR
  obtain ⟨aS, aR, aP, aD, aW, aC, g, rr, gd, ra, wa, hF, hX, hV⟩ := hR
  have hF0 := hF
  obtain ⟨e0, e1, e2, e3, e4, e5, e9, e10⟩ := hF
  refine lv_aload_n hx hb d_NS_same_0 rfl (lv_at hl 0 rfl) ?_
  refine lv_iload_n hx hb d_NS_same_1 rfl (lv_at hl 1 rfl) ?_
  refine k_q (k_runV B hw (c_NS_streamAt hF0) rfl rfl cf_NS_61 e0 rfl rfl ⟨Nat.le_of_ble_eq_true rfl, Nat.le_of_ble_eq_true rfl⟩ rfl hl.1 rfl (Nat.le_of_ble_eq_true rfl) d_NS_same_2 ⟨Nat.le_of_ble_eq_true rfl, Nat.le_of_ble_eq_true rfl⟩) hw (fun r2 w1 H locs hq hw => ?_)
  obtain ⟨rfl, ew⟩ := hq
  rw [ew] at hw
  rcases st_case hX x with ⟨hn, hz⟩ | ⟨k, hk, rfl, hn, hkd, a, iq, hga, hz, hi⟩
  · rw [hz, va_rf_none]
    refine lv_astore_nN hx hb d_NS_same_5 rfl hl (by decide) rfl (fun ls (hl : lv_has ls 5 [(3, .null), (0, .ref _), (1, .int _), (2, .int _)]) => ?_)
    refine lv_aload_n hx hb d_NS_same_6 rfl (lv_at hl 1 rfl) ?_
    refine lv_iload_n hx hb d_NS_same_7 rfl (lv_at hl 3 rfl) ?_
    refine k_q (k_runV B hw (c_NS_streamAt hF0) rfl rfl cf_NS_61 e0 rfl rfl ⟨Nat.le_of_ble_eq_true rfl, Nat.le_of_ble_eq_true rfl⟩ rfl hl.1 rfl (Nat.le_of_ble_eq_true rfl) d_NS_same_8 ⟨Nat.le_of_ble_eq_true rfl, Nat.le_of_ble_eq_true rfl⟩) hw (fun r8 w1 H locs hq hw => ?_)
    obtain ⟨rfl, ew⟩ := hq
    rw [ew] at hw
    rcases st_case hX y with ⟨hn2, hz2⟩ | ⟨k2, hk2, rfl, hn2, hkd2, a2, iq2, hga2, hz2, hi2⟩
    · rw [hz2, va_rf_none]
      refine lv_astoreN hx hb d_NS_same_11 hl (by decide) rfl (fun ls (hl : lv_has ls 5 [(4, .null), (3, .null), (0, .ref _), (1, .int _), (2, .int _)]) => ?_)
      refine lv_aload_nN hx hb d_NS_same_13 rfl (lv_at hl 1 rfl) ?_
      refine lv_ifnullN (tgt := 64) hx hb d_NS_same_14 rfl ?_
      refine lv_iconst (v := 0) hx hb d_NS_same_64 (by decide) ?_
      exact r_z B hw (by decide) d_NS_same_65 ⟨by unfold smA; rw [onS_n hn], rfl⟩
    · rw [hz2, va_rf_some]
      have h102 := hF0.st hi2 (by omega)
      refine lv_astore hx hb d_NS_same_11 hl (by decide) rfl (fun ls (hl : lv_has ls 5 [(4, .ref _), (3, .null), (0, .ref _), (1, .int _), (2, .int _)]) => ?_)
      refine lv_aload_nN hx hb d_NS_same_13 rfl (lv_at hl 1 rfl) ?_
      refine lv_ifnullN (tgt := 64) hx hb d_NS_same_14 rfl ?_
      refine lv_iconst (v := 0) hx hb d_NS_same_64 (by decide) ?_
      exact r_z B hw (by decide) d_NS_same_65 ⟨by unfold smA; rw [onS_n hn], rfl⟩
  · rw [hz, va_rf_some]
    have h10 := hF0.st hi (by omega)
    refine lv_astore_n hx hb d_NS_same_5 rfl hl (by decide) rfl (fun ls (hl : lv_has ls 5 [(3, .ref _), (0, .ref _), (1, .int _), (2, .int _)]) => ?_)
    refine lv_aload_n hx hb d_NS_same_6 rfl (lv_at hl 1 rfl) ?_
    refine lv_iload_n hx hb d_NS_same_7 rfl (lv_at hl 3 rfl) ?_
    refine k_q (k_runV B hw (c_NS_streamAt hF0) rfl rfl cf_NS_61 e0 rfl rfl ⟨Nat.le_of_ble_eq_true rfl, Nat.le_of_ble_eq_true rfl⟩ rfl hl.1 rfl (Nat.le_of_ble_eq_true rfl) d_NS_same_8 ⟨Nat.le_of_ble_eq_true rfl, Nat.le_of_ble_eq_true rfl⟩) hw (fun r8 w1 H locs hq hw => ?_)
    obtain ⟨rfl, ew⟩ := hq
    rw [ew] at hw
    rcases st_case hX y with ⟨hn2, hz2⟩ | ⟨k2, hk2, rfl, hn2, hkd2, a2, iq2, hga2, hz2, hi2⟩
    · rw [hz2, va_rf_none]
      refine lv_astoreN hx hb d_NS_same_11 hl (by decide) rfl (fun ls (hl : lv_has ls 5 [(4, .null), (3, .ref _), (0, .ref _), (1, .int _), (2, .int _)]) => ?_)
      refine lv_aload_n hx hb d_NS_same_13 rfl (lv_at hl 1 rfl) ?_
      refine lv_ifnull hx hb d_NS_same_14 ?_
      refine lv_aloadN hx hb d_NS_same_17 (lv_at hl 0 rfl) ?_
      refine lv_ifnullN (tgt := 64) hx hb d_NS_same_19 rfl ?_
      refine lv_iconst (v := 0) hx hb d_NS_same_64 (by decide) ?_
      exact r_z B hw (by decide) d_NS_same_65 ⟨by unfold smA; rw [onS_s hn, onS_n hn2], rfl⟩
    · rw [hz2, va_rf_some]
      have h102 := hF0.st hi2 (by omega)
      refine lv_astore hx hb d_NS_same_11 hl (by decide) rfl (fun ls (hl : lv_has ls 5 [(4, .ref _), (3, .ref _), (0, .ref _), (1, .int _), (2, .int _)]) => ?_)
      refine lv_aload_n hx hb d_NS_same_13 rfl (lv_at hl 1 rfl) ?_
      refine lv_ifnull hx hb d_NS_same_14 ?_
      refine lv_aload hx hb d_NS_same_17 (lv_at hl 0 rfl) ?_
      refine lv_ifnull hx hb d_NS_same_19 ?_
      refine lv_aload_n hx hb d_NS_same_22 rfl (lv_at hl 1 rfl) ?_
      refine g_get B hw fl_NS_65 hi rfl d_NS_same_23 ?_
      refine lv_aload hx hb d_NS_same_26 (lv_at hl 0 rfl) ?_
      refine g_get B hw fl_NS_65 hi2 rfl d_NS_same_28 ?_
      refine lv_icmp_ne (tgt := 64) hx hb d_NS_same_31 rfl (fun h31 => ?_) (fun h31 => ?_)
      · have ez : smA kd f1 f2 (nI k) (nI k2) = 0 := by unfold smA; rw [onS_s hn, onS_s hn2]; exact if_neg h31
        refine lv_iconst (v := 0) hx hb d_NS_same_64 (by decide) ?_
        exact r_z B hw (by decide) d_NS_same_65 ⟨ez.symm, rfl⟩
      · have ez : smA kd f1 f2 (nI k) (nI k2) = (if f1 k = f1 k2 then (if f2 k = f2 k2 then 1 else 0) else 0) := by unfold smA; rw [onS_s hn, onS_s hn2]; exact if_pos h31
        refine lv_aload_n hx hb d_NS_same_34 rfl (lv_at hl 1 rfl) ?_
        refine g_get B hw fl_NS_68 hi rfl d_NS_same_35 ?_
        refine lv_aload hx hb d_NS_same_38 (lv_at hl 0 rfl) ?_
        refine g_get B hw fl_NS_68 hi2 rfl d_NS_same_40 ?_
        refine W.lcmp hx hb d_NS_same_43 ?_
        refine lv_if_ne (tgt := 64) hx hb d_NS_same_44 rfl (fun h44 => ?_) (fun h44 => ?_)
        · rw [lg_cmp_eq] at h44
          rw [if_neg h44] at ez
          refine lv_iconst (v := 0) hx hb d_NS_same_64 (by decide) ?_
          exact r_z B hw (by decide) d_NS_same_65 ⟨ez.symm, rfl⟩
        · rw [lg_cmp_eq] at h44
          rw [if_pos h44] at ez
          refine lv_aload_n hx hb d_NS_same_47 rfl (lv_at hl 1 rfl) ?_
          refine g_get B hw fl_NS_72 hi rfl d_NS_same_48 ?_
          refine lv_aload hx hb d_NS_same_51 (lv_at hl 0 rfl) ?_
          refine g_get B hw fl_NS_72 hi2 rfl d_NS_same_53 ?_
          refine W.lcmp hx hb d_NS_same_56 ?_
          refine lv_if_ne (tgt := 64) hx hb d_NS_same_57 rfl (fun h57 => ?_) (fun h57 => ?_)
          · rw [lg_cmp_eq] at h57
            rw [if_neg h57] at ez
            refine lv_iconst (v := 0) hx hb d_NS_same_64 (by decide) ?_
            exact r_z B hw (by decide) d_NS_same_65 ⟨ez.symm, rfl⟩
          · rw [lg_cmp_eq] at h57
            rw [if_pos h57] at ez
            refine lv_iconst (v := 1) hx hb d_NS_same_60 (by decide) ?_
            refine lv_goto (tgt := 65) hx hb d_NS_same_61 rfl ?_
            exact r_z B hw (by decide) d_NS_same_65 ⟨ez.symm, rfl⟩
set_option maxRecDepth 100000 in
set_option maxHeartbeats 4000000 in
theorem c_NS_twin {l : Launch} {D : va_G} {K : Nat → ClassId} {A : Nat → Prop} {wl : va_W} {h rc ix : Nat} {kd sd wt cd : Nat → Int32} {f1 f2 : Nat → Int64} {sz : Nat → Nat} (hR : XR K h kd f1 f2 rc sz sd ix wt cd wl) {x : Int32} : ctI l y_NS_twin prog_1_method_3_code 4 (some .int) 2 1 3 [.ref h, .int x] D K A (wl) (fun r w => r = twA kd x ∧ XR K h (twK kd x) (twL kd f1 x) (twL kd f2 x) rc sz sd ix wt cd w) := by
  refine mt_of (by decide) (Nat.le_of_ble_eq_true rfl) ?_
  intro p e s m below meth c ls B hw hl
  have hx := B.1
  have hb := B.2.1
  have hl : lv_has ls 4 [(0, .ref h), (1, .int x)] := hl
  have hR0 := hR
  obtain ⟨aS, aR, aP, aD, aW, aC, g, rr, gd, ra, wa, hF, hX, hV⟩ := hR
  have hF0 := hF
  obtain ⟨e0, e1, e2, e3, e4, e5, e9, e10⟩ := hF
  refine lv_aload_n hx hb d_NS_twin_0 rfl (lv_at hl 0 rfl) ?_
  refine lv_iload_n hx hb d_NS_twin_1 rfl (lv_at hl 1 rfl) ?_
  refine k_q (k_runV B hw (c_NS_streamAt hF0) rfl rfl cf_NS_61 e0 rfl rfl ⟨Nat.le_of_ble_eq_true rfl, Nat.le_of_ble_eq_true rfl⟩ rfl hl.1 rfl (Nat.le_of_ble_eq_true rfl) d_NS_twin_2 ⟨Nat.le_of_ble_eq_true rfl, Nat.le_of_ble_eq_true rfl⟩) hw (fun r2 w1 H locs hq hw => ?_)
  obtain ⟨rfl, ew⟩ := hq
  rw [ew] at hw
  rcases st_case hX x with ⟨hn, hz⟩ | ⟨k, hk, rfl, hn, hkd, a, iq, hga, hz, hi⟩
  · rw [hz, va_rf_none]
    refine lv_astore_nN hx hb d_NS_twin_5 rfl hl (by decide) rfl (fun ls (hl : lv_has ls 4 [(2, .null), (0, .ref _), (1, .int _)]) => ?_)
    refine lv_aload_n hx hb d_NS_twin_6 rfl (lv_at hl 1 rfl) ?_
    refine k_i (k_runV B hw (c_NS_leastFreeSlot hF0 hX) rfl rfl cf_NS_39 e0 rfl rfl ⟨Nat.le_of_ble_eq_true rfl, Nat.le_of_ble_eq_true rfl⟩ rfl hl.1 rfl (Nat.le_of_ble_eq_true rfl) d_NS_twin_7 ⟨Nat.le_of_ble_eq_true rfl, Nat.le_of_ble_eq_true rfl⟩) hw (fun r7 w1 H locs hq hw => ?_)
    obtain ⟨rfl, ew⟩ := hq
    rw [ew] at hw
    refine lv_istore_n hx hb d_NS_twin_10 rfl hl (by decide) rfl (fun ls (hl : lv_has ls 4 [(3, .int _), (2, .null), (0, .ref _), (1, .int _)]) => ?_)
    refine lv_aload_nN hx hb d_NS_twin_11 rfl (lv_at hl 1 rfl) ?_
    refine lv_ifnullN (tgt := 19) hx hb d_NS_twin_12 rfl ?_
    refine lv_iconst (v := (-1)) hx hb d_NS_twin_19 (by decide) ?_
    refine W.widen (k := 1) (n := 3) (by decide) (by decide) ?_
    exact r_i B hw d_NS_twin_20 ⟨by unfold twA; rw [onS_n hn], by unfold twK twL; rw [onS_n hn, onS_n hn, onS_n hn]; exact hR0⟩
  · rw [hz, va_rf_some]
    have h10 := hF0.st hi (by omega)
    refine lv_astore_n hx hb d_NS_twin_5 rfl hl (by decide) rfl (fun ls (hl : lv_has ls 4 [(2, .ref _), (0, .ref _), (1, .int _)]) => ?_)
    refine lv_aload_n hx hb d_NS_twin_6 rfl (lv_at hl 1 rfl) ?_
    refine k_i (k_runV B hw (c_NS_leastFreeSlot hF0 hX) rfl rfl cf_NS_39 e0 rfl rfl ⟨Nat.le_of_ble_eq_true rfl, Nat.le_of_ble_eq_true rfl⟩ rfl hl.1 rfl (Nat.le_of_ble_eq_true rfl) d_NS_twin_7 ⟨Nat.le_of_ble_eq_true rfl, Nat.le_of_ble_eq_true rfl⟩) hw (fun r7 w1 H locs hq hw => ?_)
    obtain ⟨rfl, ew⟩ := hq
    rw [ew] at hw
    refine lv_istore_n hx hb d_NS_twin_10 rfl hl (by decide) rfl (fun ls (hl : lv_has ls 4 [(3, .int _), (2, .ref _), (0, .ref _), (1, .int _)]) => ?_)
    refine lv_aload_n hx hb d_NS_twin_11 rfl (lv_at hl 1 rfl) ?_
    refine lv_ifnull hx hb d_NS_twin_12 ?_
    refine lv_iload_n hx hb d_NS_twin_15 rfl (lv_at hl 0 rfl) ?_
    refine lv_if_ge (tgt := 21) hx hb d_NS_twin_16 rfl (fun h16 => ?_) (fun h16 => ?_)
    · obtain ⟨kf, hkf, hkl, hfi, hge⟩ := fr_of h16
      refine lv_aload_n hx hb d_NS_twin_21 rfl (lv_at hl 2 rfl) ?_
      refine g_get B hw fl_NS_11 e0 rfl d_NS_twin_22 ?_
      refine lv_iload_n hx hb d_NS_twin_25 rfl (lv_at hl 0 rfl) ?_
      refine g_new (ci := 3) [.int 0, .long 0, .long 0] B hw rfl li_ST tt_ST cl_NS_9 ib_ST in_ST (fun j hj => by rcases (by omega : j = 0 ∨ j = 1 ∨ j = 2) with rfl | rfl | rfl <;> rfl) (Nat.le_of_ble_eq_true rfl) (Nat.le_of_ble_eq_true rfl) d_NS_twin_26 (fun q H hw => ?_)
      have hDn := hw.2.1
      have hw : wd D A (wl ++ [(q, oSt 0 0 0)]) s H locs := hw
      refine lv_dup hx hb d_NS_twin_29 rfl ?_
      refine lv_aload_n hx hb d_NS_twin_30 rfl (lv_at hl 1 rfl) ?_
      refine g_get B hw fl_NS_65 (ga_old hi) rfl d_NS_twin_31 ?_
      refine lv_aload_n hx hb d_NS_twin_34 rfl (lv_at hl 1 rfl) ?_
      refine g_get B hw fl_NS_68 (ga_old hi) rfl d_NS_twin_35 ?_
      refine lv_aload_n hx hb d_NS_twin_38 rfl (lv_at hl 1 rfl) ?_
      refine g_get B hw fl_NS_72 (ga_old hi) rfl d_NS_twin_39 ?_
      refine k_v (k_runI B hw (c_ST_init ga_new) rfl rfl cf_NS_58 ⟨Nat.le_of_ble_eq_true rfl, Nat.le_of_ble_eq_true rfl⟩ rfl hl.1 rfl (Nat.le_of_ble_eq_true rfl) d_NS_twin_42 ⟨Nat.le_of_ble_eq_true rfl, Nat.le_of_ble_eq_true rfl⟩) hw (fun w1 H locs hq hw => ?_)
      rw [hq, set_last] at hw
      refine g_aast 2 (r := ("NumberStreams$Stream", T_ST, 3)) B hw (ga_old e1) rfl ga_new rfl (by rw [hfi]; exact vp_in_nI hkf (by omega)) d_NS_twin_45 (fun H locs hw => ?_)
      rw [hfi, nI_clamp (by omega)] at hw
      refine lv_iload_n hx hb d_NS_twin_46 rfl (lv_at hl 0 rfl) ?_
      exact r_i B hw d_NS_twin_47 ⟨by unfold twA; rw [onS_s hn]; exact (if_neg hge).symm, by unfold twK twL; rw [onS_s hn, onS_s hn, onS_s hn]; (try dsimp only); rw [if_neg hge, if_neg hge, if_neg hge, hfi, nI_clamp (by omega)]; exact XR.born hF0 hX hV hkf hkd _ _ hDn⟩
    · have hge := fr_no h16
      refine lv_iconst (v := (-1)) hx hb d_NS_twin_19 (by decide) ?_
      refine W.widen (k := 1) (n := 3) (by decide) (by decide) ?_
      exact r_i B hw d_NS_twin_20 ⟨by unfold twA; rw [onS_s hn]; exact (if_pos hge).symm, by unfold twK twL; rw [onS_s hn, onS_s hn, onS_s hn]; (try dsimp only); rw [if_pos hge, if_pos hge, if_pos hge]; exact hR0⟩
set_option maxRecDepth 100000 in
set_option maxHeartbeats 4000000 in
theorem c_NS_make {l : Launch} {D : va_G} {K : Nat → ClassId} {A : Nat → Prop} {wl : va_W} {h rc ix : Nat} {kd sd wt cd : Nat → Int32} {f1 f2 : Nat → Int64} {sz : Nat → Nat} (hR : XR K h kd f1 f2 rc sz sd ix wt cd wl) {c0 a0 b0 : Int32} : ctI l y_NS_make prog_1_method_2_code 9 (some .int) 3 1 3 [.ref h, .int c0, .int a0, .int b0] D K A (wl) (fun r w => r = mkA kd c0 a0 b0 ∧ XR K h (mkK kd c0 a0 b0) (mk1 kd f1 c0 a0 b0) (mk2 kd f2 c0 a0 b0) rc sz sd ix wt cd w) := by
  refine mt_of (by decide) (Nat.le_of_ble_eq_true rfl) ?_
  intro p e s m below meth c ls B hw hl
  have hx := B.1
  have hb := B.2.1
  have hl : lv_has ls 9 [(0, .ref h), (1, .int c0), (2, .int a0), (3, .int b0)] := hl
  have hR0 := hR
  obtain ⟨aS, aR, aP, aD, aW, aC, g, rr, gd, ra, wa, hF, hX, hV⟩ := hR
  have hF0 := hF
  obtain ⟨e0, e1, e2, e3, e4, e5, e9, e10⟩ := hF
  refine lv_aload_n hx hb d_NS_make_0 rfl (lv_at hl 0 rfl) ?_
  refine k_i (k_runV B hw (c_NS_leastFreeSlot hF0 hX) rfl rfl cf_NS_39 e0 rfl rfl ⟨Nat.le_of_ble_eq_true rfl, Nat.le_of_ble_eq_true rfl⟩ rfl hl.1 rfl (Nat.le_of_ble_eq_true rfl) d_NS_make_1 ⟨Nat.le_of_ble_eq_true rfl, Nat.le_of_ble_eq_true rfl⟩) hw (fun r1 w1 H locs hq hw => ?_)
  obtain ⟨rfl, ew⟩ := hq
  rw [ew] at hw
  refine lv_istore hx hb d_NS_make_4 hl (by decide) rfl (fun ls (hl : lv_has ls 9 [(4, .int _), (0, .ref _), (1, .int _), (2, .int _), (3, .int _)]) => ?_)
  refine lv_iload_n hx hb d_NS_make_6 rfl (lv_at hl 2 rfl) ?_
  refine k_i (k_runS B hw c_ST_isKind rfl rfl cf_NS_43 ⟨Nat.le_of_ble_eq_true rfl, Nat.le_of_ble_eq_true rfl⟩ rfl hl.1 rfl (Nat.le_of_ble_eq_true rfl) d_NS_make_7 ⟨Nat.le_of_ble_eq_true rfl, Nat.le_of_ble_eq_true rfl⟩) hw (fun r7 w1 H locs hq hw => ?_)
  obtain ⟨rfl, ew⟩ := hq
  rw [ew] at hw
  refine lv_if_eq (tgt := 18) hx hb d_NS_make_10 rfl (fun h10 => ?_) (fun h10 => ?_)
  · have ez : mkC kd c0 a0 b0 = 0 := if_pos h10
    refine lv_iconst (v := (-1)) hx hb d_NS_make_18 (by decide) ?_
    refine W.widen (k := 1) (n := 3) (by decide) (by decide) ?_
    exact r_i B hw d_NS_make_19 ⟨by unfold mkA; rw [ez, if_pos rfl], by unfold mkK mk1 mk2; rw [ez, if_neg (by decide), if_neg (by decide), if_neg (by decide)]; exact hR0⟩
  · have ez : mkC kd c0 a0 b0 = _ := if_neg h10
    refine lv_iload hx hb d_NS_make_13 (lv_at hl 0 rfl) ?_
    refine lv_if_ge (tgt := 20) hx hb d_NS_make_15 rfl (fun h15 => ?_) (fun h15 => ?_)
    · obtain ⟨kf, hkf, hkl, hfi, hge⟩ := fr_of h15
      rw [if_neg hge] at ez
      refine lv_iload_n hx hb d_NS_make_20 rfl (lv_at hl 2 rfl) ?_
      refine lv_iload_n hx hb d_NS_make_21 rfl (lv_at hl 3 rfl) ?_
      refine lv_iload_n hx hb d_NS_make_22 rfl (lv_at hl 4 rfl) ?_
      refine k_l (k_runS B hw c_ST_firstOfSeed rfl rfl cf_NS_47 ⟨Nat.le_of_ble_eq_true rfl, Nat.le_of_ble_eq_true rfl⟩ rfl hl.1 rfl (Nat.le_of_ble_eq_true rfl) d_NS_make_23 ⟨Nat.le_of_ble_eq_true rfl, Nat.le_of_ble_eq_true rfl⟩) hw (fun r23 w1 H locs hq hw => ?_)
      obtain ⟨rfl, ew⟩ := hq
      rw [ew] at hw
      refine lv_lstore hx hb d_NS_make_26 hl (by decide) rfl (fun ls (hl : lv_has ls 9 [(5, .long _), (4, .int _), (0, .ref _), (1, .int _), (2, .int _), (3, .int _)]) => ?_)
      refine lv_iload_n hx hb d_NS_make_28 rfl (lv_at hl 3 rfl) ?_
      refine lv_iload_n hx hb d_NS_make_29 rfl (lv_at hl 4 rfl) ?_
      refine lv_iload_n hx hb d_NS_make_30 rfl (lv_at hl 5 rfl) ?_
      refine k_l (k_runS B hw c_ST_secondOfSeed rfl rfl cf_NS_51 ⟨Nat.le_of_ble_eq_true rfl, Nat.le_of_ble_eq_true rfl⟩ rfl hl.1 rfl (Nat.le_of_ble_eq_true rfl) d_NS_make_31 ⟨Nat.le_of_ble_eq_true rfl, Nat.le_of_ble_eq_true rfl⟩) hw (fun r31 w1 H locs hq hw => ?_)
      obtain ⟨rfl, ew⟩ := hq
      rw [ew] at hw
      refine lv_lstore hx hb d_NS_make_34 hl (by decide) rfl (fun ls (hl : lv_has ls 9 [(7, .long _), (5, .long _), (4, .int _), (0, .ref _), (1, .int _), (2, .int _), (3, .int _)]) => ?_)
      refine lv_iload_n hx hb d_NS_make_36 rfl (lv_at hl 4 rfl) ?_
      refine lv_lload hx hb d_NS_make_37 (lv_at hl 1 rfl) ?_
      refine lv_lload hx hb d_NS_make_39 (lv_at hl 0 rfl) ?_
      refine k_i (k_runS B hw c_ST_isState rfl rfl cf_NS_54 ⟨Nat.le_of_ble_eq_true rfl, Nat.le_of_ble_eq_true rfl⟩ rfl hl.1 rfl (Nat.le_of_ble_eq_true rfl) d_NS_make_41 ⟨Nat.le_of_ble_eq_true rfl, Nat.le_of_ble_eq_true rfl⟩) hw (fun r41 w1 H locs hq hw => ?_)
      obtain ⟨rfl, ew⟩ := hq
      rw [ew] at hw
      refine lv_if_ne (tgt := 50) hx hb d_NS_make_44 rfl (fun h44 => ?_) (fun h44 => ?_)
      · rw [if_neg h44] at ez
        refine lv_aload_n hx hb d_NS_make_50 rfl (lv_at hl 3 rfl) ?_
        refine g_get B hw fl_NS_11 e0 rfl d_NS_make_51 ?_
        refine lv_iload hx hb d_NS_make_54 (lv_at hl 2 rfl) ?_
        refine g_new (ci := 3) [.int 0, .long 0, .long 0] B hw rfl li_ST tt_ST cl_NS_9 ib_ST in_ST (fun j hj => by rcases (by omega : j = 0 ∨ j = 1 ∨ j = 2) with rfl | rfl | rfl <;> rfl) (Nat.le_of_ble_eq_true rfl) (Nat.le_of_ble_eq_true rfl) d_NS_make_56 (fun q H hw => ?_)
        have hDn := hw.2.1
        have hw : wd D A (wl ++ [(q, oSt 0 0 0)]) s H locs := hw
        refine lv_dup hx hb d_NS_make_59 rfl ?_
        refine lv_iload_n hx hb d_NS_make_60 rfl (lv_at hl 4 rfl) ?_
        refine lv_lload hx hb d_NS_make_61 (lv_at hl 1 rfl) ?_
        refine lv_lload hx hb d_NS_make_63 (lv_at hl 0 rfl) ?_
        refine k_v (k_runI B hw (c_ST_init ga_new) rfl rfl cf_NS_58 ⟨Nat.le_of_ble_eq_true rfl, Nat.le_of_ble_eq_true rfl⟩ rfl hl.1 rfl (Nat.le_of_ble_eq_true rfl) d_NS_make_65 ⟨Nat.le_of_ble_eq_true rfl, Nat.le_of_ble_eq_true rfl⟩) hw (fun w1 H locs hq hw => ?_)
        rw [hq, set_last] at hw
        refine g_aast 2 (r := ("NumberStreams$Stream", T_ST, 3)) B hw (ga_old e1) rfl ga_new rfl (by rw [hfi]; exact vp_in_nI hkf (by omega)) d_NS_make_68 (fun H locs hw => ?_)
        rw [hfi, nI_clamp (by omega)] at hw
        refine lv_iload hx hb d_NS_make_69 (lv_at hl 2 rfl) ?_
        exact r_i B hw d_NS_make_71 ⟨by unfold mkA; rw [ez, if_neg (by decide), if_neg (by decide)], by unfold mkK mk1 mk2; rw [ez, if_pos rfl, if_pos rfl, if_pos rfl, hfi, nI_clamp (by omega)]; exact XR.born hF0 hX hV hkf (isK_3 h10).1 _ _ hDn⟩
      · rw [if_pos h44] at ez
        refine lv_bipush (v := (-2)) hx hb d_NS_make_47 (by decide) ?_
        refine W.widen (k := 1) (n := 3) (by decide) (by decide) ?_
        exact r_i B hw d_NS_make_49 ⟨by unfold mkA; rw [ez, if_neg (by decide), if_pos rfl], by unfold mkK mk1 mk2; rw [ez, if_neg (by decide), if_neg (by decide), if_neg (by decide)]; exact hR0⟩
    · rw [if_pos (fr_no h15)] at ez
      refine lv_iconst (v := (-1)) hx hb d_NS_make_18 (by decide) ?_
      refine W.widen (k := 1) (n := 3) (by decide) (by decide) ?_
      exact r_i B hw d_NS_make_19 ⟨by unfold mkA; rw [ez, if_pos rfl], by unfold mkK mk1 mk2; rw [ez, if_neg (by decide), if_neg (by decide), if_neg (by decide)]; exact hR0⟩
set_option maxRecDepth 100000 in
set_option maxHeartbeats 4000000 in
theorem c_NS_coordinate {l : Launch} {D : va_G} {K : Nat → ClassId} {A : Nat → Prop} {wl : va_W} {h rc ix : Nat} {kd sd wt cd : Nat → Int32} {f1 f2 : Nat → Int64} {sz : Nat → Nat} (hR : XR K h kd f1 f2 rc sz sd ix wt cd wl) (hix : ix ≤ 1048575) {x : Int32} : ctL l y_NS_coordinate prog_1_method_17_code 2 1 0 0 [.ref h, .int x] D K A (wl) (fun r w => r = coA ix x ∧ w = wl) := by
  refine mt_of (by decide) (Nat.le_of_ble_eq_true rfl) ?_
  intro p e s m below meth c ls B hw hl
  have hx := B.1
  have hb := B.2.1
  have hl : lv_has ls 2 [(0, .ref h), (1, .int x)] := hl
  have hR0 := hR
  obtain ⟨aS, aR, aP, aD, aW, aC, g, rr, gd, ra, wa, hF, hX, hV⟩ := hR
  have hF0 := hF
  obtain ⟨e0, e1, e2, e3, e4, e5, e9, e10⟩ := hF
  refine lv_iload_n hx hb d_NS_coordinate_0 rfl (lv_at hl 1 rfl) ?_
  rcases sw6 x with rfl | rfl | rfl | rfl | rfl | rfl | ⟨hd1, n0, n1, n2, n3, n4, n5⟩
  · refine lv_tableIn (tgt := 40) hx hb d_NS_coordinate_1 (by decide) (by decide) rfl rfl ?_
    obtain ⟨a5, F5, q1, q2, q3⟩ := e5 0 (by omega)
    have ez := coA_0 ix
    refine lv_aload_n hx hb d_NS_coordinate_40 rfl (lv_at hl 0 rfl) ?_
    refine g_get B hw fl_NS_28 e0 rfl d_NS_coordinate_41 ?_
    refine lv_iload_n hx hb d_NS_coordinate_44 rfl (lv_at hl 1 rfl) ?_
    refine k_i (k_runV B hw (c_PT_joinedDirections (r := 0) e3 e4 (by omega) q1 q2 q3) rfl rfl cf_NS_122 e3 rfl rfl ⟨Nat.le_of_ble_eq_true rfl, Nat.le_of_ble_eq_true rfl⟩ rfl hl.1 rfl (Nat.le_of_ble_eq_true rfl) d_NS_coordinate_45 ⟨Nat.le_of_ble_eq_true rfl, Nat.le_of_ble_eq_true rfl⟩) hw (fun r45 w1 H locs hq hw => ?_)
    obtain ⟨rfl, ew⟩ := hq
    rw [ew] at hw
    refine k_l (k_runS B hw c_NS_asNumber rfl rfl cf_NS_80 ⟨Nat.le_of_ble_eq_true rfl, Nat.le_of_ble_eq_true rfl⟩ rfl hl.1 rfl (Nat.le_of_ble_eq_true rfl) d_NS_coordinate_48 ⟨Nat.le_of_ble_eq_true rfl, Nat.le_of_ble_eq_true rfl⟩) hw (fun r48 w1 H locs hq hw => ?_)
    obtain ⟨rfl, ew⟩ := hq
    rw [ew] at hw
    exact r_l B hw d_NS_coordinate_51 ⟨ez.symm, rfl⟩
  · refine lv_tableIn (tgt := 40) hx hb d_NS_coordinate_1 (by decide) (by decide) rfl rfl ?_
    obtain ⟨a5, F5, q1, q2, q3⟩ := e5 1 (by omega)
    have ez := coA_1 ix
    refine lv_aload_n hx hb d_NS_coordinate_40 rfl (lv_at hl 0 rfl) ?_
    refine g_get B hw fl_NS_28 e0 rfl d_NS_coordinate_41 ?_
    refine lv_iload_n hx hb d_NS_coordinate_44 rfl (lv_at hl 1 rfl) ?_
    refine k_i (k_runV B hw (c_PT_joinedDirections (r := 1) e3 e4 (by omega) q1 q2 q3) rfl rfl cf_NS_122 e3 rfl rfl ⟨Nat.le_of_ble_eq_true rfl, Nat.le_of_ble_eq_true rfl⟩ rfl hl.1 rfl (Nat.le_of_ble_eq_true rfl) d_NS_coordinate_45 ⟨Nat.le_of_ble_eq_true rfl, Nat.le_of_ble_eq_true rfl⟩) hw (fun r45 w1 H locs hq hw => ?_)
    obtain ⟨rfl, ew⟩ := hq
    rw [ew] at hw
    refine k_l (k_runS B hw c_NS_asNumber rfl rfl cf_NS_80 ⟨Nat.le_of_ble_eq_true rfl, Nat.le_of_ble_eq_true rfl⟩ rfl hl.1 rfl (Nat.le_of_ble_eq_true rfl) d_NS_coordinate_48 ⟨Nat.le_of_ble_eq_true rfl, Nat.le_of_ble_eq_true rfl⟩) hw (fun r48 w1 H locs hq hw => ?_)
    obtain ⟨rfl, ew⟩ := hq
    rw [ew] at hw
    exact r_l B hw d_NS_coordinate_51 ⟨ez.symm, rfl⟩
  · refine lv_tableIn (tgt := 40) hx hb d_NS_coordinate_1 (by decide) (by decide) rfl rfl ?_
    obtain ⟨a5, F5, q1, q2, q3⟩ := e5 2 (by omega)
    have ez := coA_2 ix
    refine lv_aload_n hx hb d_NS_coordinate_40 rfl (lv_at hl 0 rfl) ?_
    refine g_get B hw fl_NS_28 e0 rfl d_NS_coordinate_41 ?_
    refine lv_iload_n hx hb d_NS_coordinate_44 rfl (lv_at hl 1 rfl) ?_
    refine k_i (k_runV B hw (c_PT_joinedDirections (r := 2) e3 e4 (by omega) q1 q2 q3) rfl rfl cf_NS_122 e3 rfl rfl ⟨Nat.le_of_ble_eq_true rfl, Nat.le_of_ble_eq_true rfl⟩ rfl hl.1 rfl (Nat.le_of_ble_eq_true rfl) d_NS_coordinate_45 ⟨Nat.le_of_ble_eq_true rfl, Nat.le_of_ble_eq_true rfl⟩) hw (fun r45 w1 H locs hq hw => ?_)
    obtain ⟨rfl, ew⟩ := hq
    rw [ew] at hw
    refine k_l (k_runS B hw c_NS_asNumber rfl rfl cf_NS_80 ⟨Nat.le_of_ble_eq_true rfl, Nat.le_of_ble_eq_true rfl⟩ rfl hl.1 rfl (Nat.le_of_ble_eq_true rfl) d_NS_coordinate_48 ⟨Nat.le_of_ble_eq_true rfl, Nat.le_of_ble_eq_true rfl⟩) hw (fun r48 w1 H locs hq hw => ?_)
    obtain ⟨rfl, ew⟩ := hq
    rw [ew] at hw
    exact r_l B hw d_NS_coordinate_51 ⟨ez.symm, rfl⟩
  · refine lv_tableIn (tgt := 40) hx hb d_NS_coordinate_1 (by decide) (by decide) rfl rfl ?_
    obtain ⟨a5, F5, q1, q2, q3⟩ := e5 3 (by omega)
    have ez := coA_3 ix
    refine lv_aload_n hx hb d_NS_coordinate_40 rfl (lv_at hl 0 rfl) ?_
    refine g_get B hw fl_NS_28 e0 rfl d_NS_coordinate_41 ?_
    refine lv_iload_n hx hb d_NS_coordinate_44 rfl (lv_at hl 1 rfl) ?_
    refine k_i (k_runV B hw (c_PT_joinedDirections (r := 3) e3 e4 (by omega) q1 q2 q3) rfl rfl cf_NS_122 e3 rfl rfl ⟨Nat.le_of_ble_eq_true rfl, Nat.le_of_ble_eq_true rfl⟩ rfl hl.1 rfl (Nat.le_of_ble_eq_true rfl) d_NS_coordinate_45 ⟨Nat.le_of_ble_eq_true rfl, Nat.le_of_ble_eq_true rfl⟩) hw (fun r45 w1 H locs hq hw => ?_)
    obtain ⟨rfl, ew⟩ := hq
    rw [ew] at hw
    refine k_l (k_runS B hw c_NS_asNumber rfl rfl cf_NS_80 ⟨Nat.le_of_ble_eq_true rfl, Nat.le_of_ble_eq_true rfl⟩ rfl hl.1 rfl (Nat.le_of_ble_eq_true rfl) d_NS_coordinate_48 ⟨Nat.le_of_ble_eq_true rfl, Nat.le_of_ble_eq_true rfl⟩) hw (fun r48 w1 H locs hq hw => ?_)
    obtain ⟨rfl, ew⟩ := hq
    rw [ew] at hw
    exact r_l B hw d_NS_coordinate_51 ⟨ez.symm, rfl⟩
  · refine lv_tableIn (tgt := 52) hx hb d_NS_coordinate_1 (by decide) (by decide) rfl rfl ?_
    have ez := coA_4 ix
    refine lv_aload_n hx hb d_NS_coordinate_52 rfl (lv_at hl 0 rfl) ?_
    refine g_get B hw fl_NS_28 e0 rfl d_NS_coordinate_53 ?_
    refine lv_iconst (v := 3) hx hb d_NS_coordinate_56 (by decide) ?_
    refine lv_bipush (v := 13) hx hb d_NS_coordinate_57 (by decide) ?_
    refine k_i (k_runV B hw (c_PT_turnedDigits (b := 3) (n := 13) e3 (by omega) (by omega) (by omega) (by omega)) rfl rfl cf_NS_125 e3 rfl rfl ⟨Nat.le_of_ble_eq_true rfl, Nat.le_of_ble_eq_true rfl⟩ rfl hl.1 rfl (Nat.le_of_ble_eq_true rfl) d_NS_coordinate_59 ⟨Nat.le_of_ble_eq_true rfl, Nat.le_of_ble_eq_true rfl⟩) hw (fun r59 w1 H locs hq hw => ?_)
    obtain ⟨rfl, ew⟩ := hq
    rw [ew] at hw
    refine lv_i2l hx hb d_NS_coordinate_62 rfl ?_
    rw [tu3]
    exact r_l B hw d_NS_coordinate_63 ⟨ez.symm, rfl⟩
  · refine lv_tableIn (tgt := 64) hx hb d_NS_coordinate_1 (by decide) (by decide) rfl rfl ?_
    have ez := coA_5 ix
    refine lv_aload_n hx hb d_NS_coordinate_64 rfl (lv_at hl 0 rfl) ?_
    refine g_get B hw fl_NS_28 e0 rfl d_NS_coordinate_65 ?_
    refine lv_iconst (v := 5) hx hb d_NS_coordinate_68 (by decide) ?_
    refine lv_bipush (v := 9) hx hb d_NS_coordinate_69 (by decide) ?_
    refine k_i (k_runV B hw (c_PT_turnedDigits (b := 5) (n := 9) e3 (by omega) (by omega) (by omega) (by omega)) rfl rfl cf_NS_125 e3 rfl rfl ⟨Nat.le_of_ble_eq_true rfl, Nat.le_of_ble_eq_true rfl⟩ rfl hl.1 rfl (Nat.le_of_ble_eq_true rfl) d_NS_coordinate_71 ⟨Nat.le_of_ble_eq_true rfl, Nat.le_of_ble_eq_true rfl⟩) hw (fun r71 w1 H locs hq hw => ?_)
    obtain ⟨rfl, ew⟩ := hq
    rw [ew] at hw
    refine lv_i2l hx hb d_NS_coordinate_74 rfl ?_
    rw [tu5]
    exact r_l B hw d_NS_coordinate_75 ⟨ez.symm, rfl⟩
  · refine lv_tableOut (tgt := 76) hx hb d_NS_coordinate_1 hd1 rfl ?_
    have ez := coA_n (ix := ix) n0 n1 n2 n3 n4 n5
    refine g_ldc2 B kc_NS_75 d_NS_coordinate_76 ?_
    exact r_l B hw d_NS_coordinate_79 ⟨ez.symm, rfl⟩
set_option maxRecDepth 100000 in
set_option maxHeartbeats 4000000 in
theorem c_NS_pick {l : Launch} {D : va_G} {K : Nat → ClassId} {A : Nat → Prop} {wl : va_W} {h rc ix : Nat} {kd sd wt cd : Nat → Int32} {f1 f2 : Nat → Int64} {sz : Nat → Nat} (hR : XR K h kd f1 f2 rc sz sd ix wt cd wl) (hW : ∀ k, k < 16 → ∃ v : Nat, v ≤ 1000000 ∧ wt k = nI v) {x : Int32} : ctI l y_NS_pick prog_1_method_19_code 4 (some .int) 5 0 0 [.ref h, .int x] D K A (wl) (fun r w => r = piA kd f1 f2 wt x ∧ XR K h kd (dr1 kd f1 f2 x (toW wt 16)) (dr2 kd f1 f2 x (toW wt 16)) rc sz sd ix wt cd w) := by
  refine mt_of (by decide) (Nat.le_of_ble_eq_true rfl) ?_
  intro p e s m below meth c ls B hw hl
  have hx := B.1
  have hb := B.2.1
  have hl : lv_has ls 4 [(0, .ref h), (1, .int x)] := hl
  have hR0 := hR
  obtain ⟨aS, aR, aP, aD, aW, aC, g, rr, gd, ra, wa, hF, hX, hV⟩ := hR
  have hF0 := hF
  obtain ⟨e0, e1, e2, e3, e4, e5, e9, e10⟩ := hF
  refine lv_aload_n hx hb d_NS_pick_0 rfl (lv_at hl 0 rfl) ?_
  refine lv_iload_n hx hb d_NS_pick_1 rfl (lv_at hl 1 rfl) ?_
  refine k_q (k_runV B hw (c_NS_streamAt hF0) rfl rfl cf_NS_61 e0 rfl rfl ⟨Nat.le_of_ble_eq_true rfl, Nat.le_of_ble_eq_true rfl⟩ rfl hl.1 rfl (Nat.le_of_ble_eq_true rfl) d_NS_pick_2 ⟨Nat.le_of_ble_eq_true rfl, Nat.le_of_ble_eq_true rfl⟩) hw (fun r2 w1 H locs hq hw => ?_)
  obtain ⟨rfl, ew⟩ := hq
  rw [ew] at hw
  rcases st_case hX x with ⟨hn, hz⟩ | ⟨k, hk, rfl, hn, hkd, a, iq, hga, hz, hi⟩
  · rw [hz, va_rf_none]
    refine lv_astore_nN hx hb d_NS_pick_5 rfl hl (by decide) rfl (fun ls (hl : lv_has ls 4 [(2, .null), (0, .ref _), (1, .int _)]) => ?_)
    refine lv_aload_n hx hb d_NS_pick_6 rfl (lv_at hl 1 rfl) ?_
    refine k_i (k_runV B hw (c_NS_totalWeight hF0) rfl rfl cf_NS_130 e0 rfl rfl ⟨Nat.le_of_ble_eq_true rfl, Nat.le_of_ble_eq_true rfl⟩ rfl hl.1 rfl (Nat.le_of_ble_eq_true rfl) d_NS_pick_7 ⟨Nat.le_of_ble_eq_true rfl, Nat.le_of_ble_eq_true rfl⟩) hw (fun r7 w1 H locs hq hw => ?_)
    obtain ⟨rfl, ew⟩ := hq
    rw [ew] at hw
    refine lv_istore_n hx hb d_NS_pick_10 rfl hl (by decide) rfl (fun ls (hl : lv_has ls 4 [(3, .int _), (2, .null), (0, .ref _), (1, .int _)]) => ?_)
    refine lv_aload_nN hx hb d_NS_pick_11 rfl (lv_at hl 1 rfl) ?_
    refine lv_ifnullN (tgt := 20) hx hb d_NS_pick_12 rfl ?_
    refine lv_iconst (v := (-1)) hx hb d_NS_pick_20 (by decide) ?_
    exact r_i B hw d_NS_pick_21 ⟨by unfold piA; rw [onS_n hn], by unfold dr1 dr2; rw [onS_n hn, onS_n hn]; exact hR0⟩
  · rw [hz, va_rf_some]
    have h10 := hF0.st hi (by omega)
    refine lv_astore_n hx hb d_NS_pick_5 rfl hl (by decide) rfl (fun ls (hl : lv_has ls 4 [(2, .ref _), (0, .ref _), (1, .int _)]) => ?_)
    refine lv_aload_n hx hb d_NS_pick_6 rfl (lv_at hl 1 rfl) ?_
    refine k_i (k_runV B hw (c_NS_totalWeight hF0) rfl rfl cf_NS_130 e0 rfl rfl ⟨Nat.le_of_ble_eq_true rfl, Nat.le_of_ble_eq_true rfl⟩ rfl hl.1 rfl (Nat.le_of_ble_eq_true rfl) d_NS_pick_7 ⟨Nat.le_of_ble_eq_true rfl, Nat.le_of_ble_eq_true rfl⟩) hw (fun r7 w1 H locs hq hw => ?_)
    obtain ⟨rfl, ew⟩ := hq
    rw [ew] at hw
    refine lv_istore_n hx hb d_NS_pick_10 rfl hl (by decide) rfl (fun ls (hl : lv_has ls 4 [(3, .int _), (2, .ref _), (0, .ref _), (1, .int _)]) => ?_)
    refine lv_aload_n hx hb d_NS_pick_11 rfl (lv_at hl 1 rfl) ?_
    refine lv_ifnull hx hb d_NS_pick_12 ?_
    refine lv_iload_n hx hb d_NS_pick_15 rfl (lv_at hl 0 rfl) ?_
    refine lv_iconst (v := 1) hx hb d_NS_pick_16 (by decide) ?_
    refine lv_icmp_ge (tgt := 22) hx hb d_NS_pick_17 rfl (fun h17 => ?_) (fun h17 => ?_)
    · have h17b := h17
      obtain ⟨T, hT1, hT2⟩ := toW_nI hW 16 (by omega)
      have h17c : 1 ≤ T := (nI_leI (a := 1) (by omega) (by omega)).mp (by rw [← hT2]; exact h17)
      refine lv_aload_n hx hb d_NS_pick_22 rfl (lv_at hl 2 rfl) ?_
      refine lv_aload_n hx hb d_NS_pick_23 rfl (lv_at hl 1 rfl) ?_
      refine lv_iload_n hx hb d_NS_pick_24 rfl (lv_at hl 0 rfl) ?_
      rw [hT2]
      refine k_i (k_runV B hw (c_ST_drawnBelow hi h17c (by omega)) rfl rfl cf_NS_88 hi rfl rfl ⟨Nat.le_of_ble_eq_true rfl, Nat.le_of_ble_eq_true rfl⟩ rfl hl.1 rfl (Nat.le_of_ble_eq_true rfl) d_NS_pick_25 ⟨Nat.le_of_ble_eq_true rfl, Nat.le_of_ble_eq_true rfl⟩) hw (fun r25 w1 H locs hq hw => ?_)
      have er := hq.1
      have ew := hq.2
      rw [ew] at hw
      rw [er]
      have hF3 : XF K h aS aR aP aD aW aC rc g rr gd ix wt cd (wl.set iq (a, oSt (kd k) (bel (nI T) (kd k) 8 (f1 k, f2 k)).2.1 (bel (nI T) (kd k) 8 (f1 k, f2 k)).2.2)) := hF0.keep (fun j z hj hz => gs_ne (by omega) hz)
      refine k_i (k_runV B hw (c_NS_outcomeAt hF3) rfl rfl cf_NS_133 (gs_ne (by omega) e0) rfl rfl ⟨Nat.le_of_ble_eq_true rfl, Nat.le_of_ble_eq_true rfl⟩ rfl hl.1 rfl (Nat.le_of_ble_eq_true rfl) d_NS_pick_28 ⟨Nat.le_of_ble_eq_true rfl, Nat.le_of_ble_eq_true rfl⟩) hw (fun r28 w1 H locs hq hw => ?_)
      have er := hq.1
      have ew := hq.2
      rw [ew] at hw
      rw [er]
      exact r_i B hw d_NS_pick_31 ⟨by unfold piA; rw [onS_s hn]; (try dsimp only); rw [if_pos h17b, hT2], by unfold dr1 dr2; rw [onS_s hn, onS_s hn]; (try dsimp only); rw [if_pos (by rw [← hT2]; exact h17b), if_pos (by rw [← hT2]; exact h17b)]; exact XR.step hF0 hX hV hk hkd hga hi _ _⟩
    · refine lv_iconst (v := (-1)) hx hb d_NS_pick_20 (by decide) ?_
      exact r_i B hw d_NS_pick_21 ⟨by unfold piA; rw [onS_s hn]; exact (if_neg h17).symm, by unfold dr1 dr2; rw [onS_s hn, onS_s hn]; (try dsimp only); rw [if_neg h17, if_neg h17]; exact hR0⟩
set_option maxRecDepth 100000 in
set_option maxHeartbeats 4000000 in
theorem c_NS_shuffle {l : Launch} {D : va_G} {K : Nat → ClassId} {A : Nat → Prop} {wl : va_W} {h rc ix : Nat} {kd sd wt cd : Nat → Int32} {f1 f2 : Nat → Int64} {sz : Nat → Nat} (hR : XR K h kd f1 f2 rc sz sd ix wt cd wl) {x : Int32} : ctI l y_NS_shuffle prog_1_method_20_code 6 (some .boolean) 5 0 0 [.ref h, .int x] D K A (wl) (fun r w => r = rlA kd x ∧ XR K h kd (sh1 kd f1 f2 cd x) (sh2 kd f1 f2 cd x) rc sz sd ix wt (shC kd f1 f2 cd x) w) := by
  refine mt_of (by decide) (Nat.le_of_ble_eq_true rfl) ?_
  intro p e s m below meth c ls B hw hl
  have hx := B.1
  have hb := B.2.1
  have hl : lv_has ls 6 [(0, .ref h), (1, .int x)] := hl
  have hR0 := hR
  obtain ⟨aS, aR, aP, aD, aW, aC, g, rr, gd, ra, wa, hF, hX, hV⟩ := hR
  have hF0 := hF
  obtain ⟨e0, e1, e2, e3, e4, e5, e9, e10⟩ := hF
  refine lv_aload_n hx hb d_NS_shuffle_0 rfl (lv_at hl 0 rfl) ?_
  refine lv_iload_n hx hb d_NS_shuffle_1 rfl (lv_at hl 1 rfl) ?_
  refine k_q (k_runV B hw (c_NS_streamAt hF0) rfl rfl cf_NS_61 e0 rfl rfl ⟨Nat.le_of_ble_eq_true rfl, Nat.le_of_ble_eq_true rfl⟩ rfl hl.1 rfl (Nat.le_of_ble_eq_true rfl) d_NS_shuffle_2 ⟨Nat.le_of_ble_eq_true rfl, Nat.le_of_ble_eq_true rfl⟩) hw (fun r2 w1 H locs hq hw => ?_)
  obtain ⟨rfl, ew⟩ := hq
  rw [ew] at hw
  rcases st_case hX x with ⟨hn, hz⟩ | ⟨k, hk, rfl, hn, hkd, a, iq, hga, hz, hi⟩
  · rw [hz, va_rf_none]
    refine lv_astore_nN hx hb d_NS_shuffle_5 rfl hl (by decide) rfl (fun ls (hl : lv_has ls 6 [(2, .null), (0, .ref _), (1, .int _)]) => ?_)
    refine lv_aload_nN hx hb d_NS_shuffle_6 rfl (lv_at hl 0 rfl) ?_
    refine lv_ifnonnullN hx hb d_NS_shuffle_7 ?_
    refine lv_iconst (v := 0) hx hb d_NS_shuffle_10 (by decide) ?_
    exact r_z B hw (by decide) d_NS_shuffle_11 ⟨by unfold rlA; rw [onS_n hn], by unfold sh1 sh2 shC; rw [onS_n hn, onS_n hn, onS_n hn]; exact hR0⟩
  · rw [hz, va_rf_some]
    have h10 := hF0.st hi (by omega)
    refine lv_astore_n hx hb d_NS_shuffle_5 rfl hl (by decide) rfl (fun ls (hl : lv_has ls 6 [(2, .ref _), (0, .ref _), (1, .int _)]) => ?_)
    refine lv_aload_n hx hb d_NS_shuffle_6 rfl (lv_at hl 0 rfl) ?_
    refine lv_ifnonnull (tgt := 12) hx hb d_NS_shuffle_7 rfl ?_
    refine lv_bipush (v := 15) hx hb d_NS_shuffle_12 (by decide) ?_
    refine lv_istore_n hx hb d_NS_shuffle_14 rfl hl (by decide) rfl (fun ls (hl : lv_has ls 6 [(3, .int _), (2, .ref _), (0, .ref _), (1, .int _)]) => ?_)
    refine lp_w (σ := Nat × (Nat → Int32) × Int64 × Int64) (fun z => z.1) (fun z H locs ls => z.1 ≤ 15 ∧ shN (kd k) 15 (cd, f1 k, f2 k) = shN (kd k) z.1 z.2 ∧ lv_has ls 6 [(3, .int (nI z.1)), (2, .ref a), (0, .ref h), (1, .int (nI k))] ∧ wd D A ((wl.set 10 (aC, arI K 16 z.2.1)).set iq (a, oSt (kd k) z.2.2.1 z.2.2.2)) s H locs) ?_ (15, cd, f1 k, f2 k) _ _ _ ⟨by show 15 ≤ 15; omega, rfl, lv_sub hl [0, 1, 2, 3] rfl, by show wd D A ((wl.set 10 (aC, arI K 16 cd)).set iq (a, oSt (kd k) (f1 k) (f2 k))) s _ _; rw [set_self e10, set_self hi]; exact hw⟩
    rintro ⟨i, c, F, G⟩ H locs ls ⟨hi15, hsh, hl, hw⟩ ih
    dsimp only at hi15 hsh hl hw
    have hi2 : ((wl.set 10 (aC, arI K 16 c)).set iq (a, oSt (kd k) F G))[iq]? = some (a, oSt (kd k) F G) := gs_eq (gs_ne (by omega) hi)
    refine lv_iload_n hx hb d_NS_shuffle_15 rfl (lv_at hl 0 rfl) ?_
    refine lv_iconst (v := 1) hx hb d_NS_shuffle_16 (by decide) ?_
    refine lv_icmp_lt (tgt := 65) hx hb d_NS_shuffle_17 rfl (fun h17 => ?_) (fun h17 => ?_)
    · have h17 : i < 1 := (nI_ltI (b := 1) (by omega) (by omega)).mp h17
      obtain rfl : i = 0 := by omega
      have hsh : shN (kd k) 15 (cd, f1 k, f2 k) = (c, F, G) := hsh
      refine lv_iconst (v := 1) hx hb d_NS_shuffle_65 (by decide) ?_
      exact r_z B hw (by decide) d_NS_shuffle_66 ⟨by unfold rlA; rw [onS_s hn], by unfold sh1 sh2 shC; rw [onS_s hn, onS_s hn, onS_s hn]; (try dsimp only); rw [hsh]; exact XR.mix hF0 hX hV hk hkd hga hi _ _ _⟩
    · have h17 : 0 < i := Nat.lt_of_not_le (fun q => h17 ((nI_ltI (b := 1) (by omega) (by omega)).mpr (by omega)))
      refine lv_aload_n hx hb d_NS_shuffle_20 rfl (lv_at hl 1 rfl) ?_
      refine lv_iload_n hx hb d_NS_shuffle_21 rfl (lv_at hl 0 rfl) ?_
      refine lv_iconst (v := 1) hx hb d_NS_shuffle_22 (by decide) ?_
      refine lv_iadd hx hb d_NS_shuffle_23 ?_
      rw [← nI_succ i]
      refine k_i (k_runV B hw (c_ST_drawnBelow hi2 (N := i + 1) (by omega) (by omega)) rfl rfl cf_NS_88 hi2 rfl rfl ⟨Nat.le_of_ble_eq_true rfl, Nat.le_of_ble_eq_true rfl⟩ rfl hl.1 rfl (Nat.le_of_ble_eq_true rfl) d_NS_shuffle_24 ⟨Nat.le_of_ble_eq_true rfl, Nat.le_of_ble_eq_true rfl⟩) hw (fun r24 w1 H locs hq hw => ?_)
      have er := hq.1
      have ew := hq.2
      rw [ew, List.set_set] at hw
      rw [er]
      obtain ⟨j, hj, hjr⟩ := bel_lt (N := i + 1) (by omega) (by omega) (kd k) 8 (F, G)
      generalize hbe : bel (nI (i + 1)) (kd k) 8 (F, G) = be at hw hjr ⊢
      obtain ⟨be1, be2, be3⟩ := be
      dsimp only at hw hjr ⊢
      subst hjr
      refine lv_istore hx hb d_NS_shuffle_27 hl (by decide) rfl (fun ls (hl : lv_has ls 6 [(4, .int _), (3, .int _), (2, .ref _), (0, .ref _), (1, .int _)]) => ?_)
      refine lv_aload_n hx hb d_NS_shuffle_29 rfl (lv_at hl 3 rfl) ?_
      refine g_get B hw fl_NS_36 (gs_ne (by omega) (gs_ne (by omega) e0)) rfl d_NS_shuffle_30 ?_
      refine lv_iload_n hx hb d_NS_shuffle_33 rfl (lv_at hl 1 rfl) ?_
      refine g_iald B hw (gs_ne (by omega) (gs_eq e10)) (vp_in_nI (by omega) (by omega)) d_NS_shuffle_34 ?_
      rw [nI_clamp (by omega)]
      refine lv_istore hx hb d_NS_shuffle_35 hl (by decide) rfl (fun ls (hl : lv_has ls 6 [(5, .int _), (4, .int _), (3, .int _), (2, .ref _), (0, .ref _), (1, .int _)]) => ?_)
      refine lv_aload_n hx hb d_NS_shuffle_37 rfl (lv_at hl 4 rfl) ?_
      refine g_get B hw fl_NS_36 (gs_ne (by omega) (gs_ne (by omega) e0)) rfl d_NS_shuffle_38 ?_
      refine lv_iload_n hx hb d_NS_shuffle_41 rfl (lv_at hl 2 rfl) ?_
      refine lv_aload_n hx hb d_NS_shuffle_42 rfl (lv_at hl 4 rfl) ?_
      refine g_get B hw fl_NS_36 (gs_ne (by omega) (gs_ne (by omega) e0)) rfl d_NS_shuffle_43 ?_
      refine lv_iload hx hb d_NS_shuffle_46 (lv_at hl 1 rfl) ?_
      refine g_iald B hw (gs_ne (by omega) (gs_eq e10)) (vp_in_nI (by omega) (by omega)) d_NS_shuffle_48 ?_
      rw [nI_clamp (by omega)]
      refine g_iast B hw (gs_ne (by omega) (gs_eq e10)) (vp_in_nI (by omega) (by omega)) d_NS_shuffle_49 (fun H locs hw => ?_)
      rw [s10 (by omega), nI_clamp (by omega)] at hw
      refine lv_aload_n hx hb d_NS_shuffle_50 rfl (lv_at hl 4 rfl) ?_
      refine g_get B hw fl_NS_36 (gs_ne (by omega) (gs_ne (by omega) e0)) rfl d_NS_shuffle_51 ?_
      refine lv_iload hx hb d_NS_shuffle_54 (lv_at hl 1 rfl) ?_
      refine lv_iload hx hb d_NS_shuffle_56 (lv_at hl 0 rfl) ?_
      refine g_iast B hw (gs_ne (by omega) (gs_eq e10)) (vp_in_nI (by omega) (by omega)) d_NS_shuffle_58 (fun H locs hw => ?_)
      rw [s10 (by omega), nI_clamp (by omega)] at hw
      refine lv_iinc (k := 2) hx hb d_NS_shuffle_59 hl rfl (show nI i + Int32.ofInt (-1) = nI (i - 1) from sb_m1 h17) (by decide) rfl (fun ls (hl : lv_has ls 6 [(3, .int (nI (i - 1))), (5, .int _), (4, .int _), (2, .ref _), (0, .ref _), (1, .int _)]) => ?_)
      refine lv_goto (tgt := 15) hx hb d_NS_shuffle_62 rfl ?_
      exact ih (i - 1, swp c i j, be2, be3) _ _ _ (by show i - 1 < i; omega) ⟨by show i - 1 ≤ 15; omega, hsh.trans (shN_gx h17 hbe (by omega)), lv_sub hl [0, 3, 4, 5] rfl, hw⟩
