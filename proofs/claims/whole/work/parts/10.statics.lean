/-! Static methods: their answers, no world touched. -/
def isK (k : Int32) : Int32 := if k < 0 then 0 else if 3 < k then 0 else 1
def isFL (k : Int32) : Int32 := if k = 0 then 1 else 0
def isSL (k : Int32) : Int32 := if k = 0 then 1 else if k = 2 then 1 else 0
def fsd (k a b : Int32) : Int64 := if k = 0 then jnd a b else a.toInt64
def ssd (k a b : Int32) : Int64 := if k = 0 then 2 * jnd a b + 1 else if k = 2 then nU b else b.toInt64
def isR (x : Int64) : Int32 := if x < 0 then 0 else if 2147483647 ≤ x then 0 else 1
def isSt (k : Int32) (f s : Int64) : Int32 := if k = 0 then (if s &&& 1 = 1 then 1 else 0) else if k = 1 then (if f = 0 ∧ s = 0 then 0 else 1) else if k = 2 then (if s < 0 then 0 else 1) else if k = 3 then (if isR f = 0 then 0 else if isR s = 0 then 0 else if f = 0 ∧ s = 0 then 0 else 1) else 0
def wOP (b : Int32) : Int32 := if b = 0 then 1 else 2
def wOK (k : Int32) : Int32 := 2 + wOP (isFL k) + wOP (isSL k)
theorem sw3 (x : Int32) : x = 0 ∨ x = 1 ∨ x = 2 ∨ ((x.toInt < 0 ∨ 2 < x.toInt) ∧ ¬ x = 0 ∧ ¬ x = 1 ∧ ¬ x = 2) := by
  rcases Classical.em (x = 0) with h | h0
  · exact Or.inl h
  rcases Classical.em (x = 1) with h | h1
  · exact Or.inr (Or.inl h)
  rcases Classical.em (x = 2) with h | h2
  · exact Or.inr (Or.inr (Or.inl h))
  have a0 := lv_neT h0 (show (0 : Int32).toInt = 0 by decide)
  have a1 := lv_neT h1 (show (1 : Int32).toInt = 1 by decide)
  have a2 := lv_neT h2 (show (2 : Int32).toInt = 2 by decide)
  exact Or.inr (Or.inr (Or.inr ⟨by omega, h0, h1, h2⟩))
theorem sw4 (x : Int32) : x = 0 ∨ x = 1 ∨ x = 2 ∨ x = 3 ∨ ((x.toInt < 0 ∨ 3 < x.toInt) ∧ ¬ x = 0 ∧ ¬ x = 1 ∧ ¬ x = 2 ∧ ¬ x = 3) := by
  rcases sw3 x with h | h | h | ⟨h, h0, h1, h2⟩
  · exact Or.inl h
  · exact Or.inr (Or.inl h)
  · exact Or.inr (Or.inr (Or.inl h))
  rcases Classical.em (x = 3) with h3 | h3
  · exact Or.inr (Or.inr (Or.inr (Or.inl h3)))
  have a3 := lv_neT h3 (show (3 : Int32).toInt = 3 by decide)
  exact Or.inr (Or.inr (Or.inr (Or.inr ⟨by omega, h0, h1, h2, h3⟩)))
set_option maxRecDepth 100000 in
set_option maxHeartbeats 4000000 in
theorem c_JI_rotateLeft {l : Launch} {D : va_G} {K : Nat → ClassId} {A : Nat → Prop} {wl : va_W} {x d : Int32} : ctI l y_JI_rotateLeft prog_7_method_50_code 2 (some .int) 0 0 0 [.int x, .int d] D K A (wl) (fun r w => r = rol x d ∧ w = wl) := by
  refine mt_of (by decide) (Nat.le_of_ble_eq_true rfl) ?_
  intro p e s m below meth c ls B hw hl
  have hx := B.1
  have hb := B.2.1
  have hl : lv_has ls 2 [(0, .int x), (1, .int d)] := hl
  refine lv_iload_n hx hb d_JI_rotateLeft_0 rfl (lv_at hl 0 rfl) ?_
  refine lv_iload_n hx hb d_JI_rotateLeft_1 rfl (lv_at hl 1 rfl) ?_
  refine lv_ishl hx hb d_JI_rotateLeft_2 ?_
  refine lv_iload_n hx hb d_JI_rotateLeft_3 rfl (lv_at hl 0 rfl) ?_
  refine lv_iload_n hx hb d_JI_rotateLeft_4 rfl (lv_at hl 1 rfl) ?_
  refine lv_ineg hx hb d_JI_rotateLeft_5 ?_
  refine lv_iushr hx hb d_JI_rotateLeft_6 rfl ?_
  refine lv_ior hx hb d_JI_rotateLeft_7 ?_
  exact r_i B hw d_JI_rotateLeft_8 ⟨rfl, rfl⟩
set_option maxRecDepth 100000 in
set_option maxHeartbeats 4000000 in
theorem c_JI_rotateRight {l : Launch} {D : va_G} {K : Nat → ClassId} {A : Nat → Prop} {wl : va_W} {x d : Int32} : ctI l y_JI_rotateRight prog_7_method_51_code 2 (some .int) 0 0 0 [.int x, .int d] D K A (wl) (fun r w => r = ror x d ∧ w = wl) := by
  refine mt_of (by decide) (Nat.le_of_ble_eq_true rfl) ?_
  intro p e s m below meth c ls B hw hl
  have hx := B.1
  have hb := B.2.1
  have hl : lv_has ls 2 [(0, .int x), (1, .int d)] := hl
  refine lv_iload_n hx hb d_JI_rotateRight_0 rfl (lv_at hl 0 rfl) ?_
  refine lv_iload_n hx hb d_JI_rotateRight_1 rfl (lv_at hl 1 rfl) ?_
  refine lv_iushr hx hb d_JI_rotateRight_2 rfl ?_
  refine lv_iload_n hx hb d_JI_rotateRight_3 rfl (lv_at hl 0 rfl) ?_
  refine lv_iload_n hx hb d_JI_rotateRight_4 rfl (lv_at hl 1 rfl) ?_
  refine lv_ineg hx hb d_JI_rotateRight_5 ?_
  refine lv_ishl hx hb d_JI_rotateRight_6 ?_
  refine lv_ior hx hb d_JI_rotateRight_7 ?_
  exact r_i B hw d_JI_rotateRight_8 ⟨rfl, rfl⟩
set_option maxRecDepth 100000 in
set_option maxHeartbeats 4000000 in
theorem c_NS_asNumber {l : Launch} {D : va_G} {K : Nat → ClassId} {A : Nat → Prop} {wl : va_W} {x : Int32} : ctL l y_NS_asNumber prog_1_method_27_code 1 0 0 0 [.int x] D K A (wl) (fun r w => r = nU x ∧ w = wl) := by
  refine mt_of (by decide) (Nat.le_of_ble_eq_true rfl) ?_
  intro p e s m below meth c ls B hw hl
  have hx := B.1
  have hb := B.2.1
  have hl : lv_has ls 1 [(0, .int x)] := hl
  refine lv_iload_n hx hb d_NS_asNumber_0 rfl (lv_at hl 0 rfl) ?_
  refine lv_i2l hx hb d_NS_asNumber_1 rfl ?_
  refine g_ldc2 B kc_NS_136 d_NS_asNumber_2 ?_
  refine lv_land hx hb d_NS_asNumber_5 ?_
  exact r_l B hw d_NS_asNumber_6 ⟨rfl, rfl⟩
set_option maxRecDepth 100000 in
set_option maxHeartbeats 4000000 in
theorem c_NS_joined {l : Launch} {D : va_G} {K : Nat → ClassId} {A : Nat → Prop} {wl : va_W} {a b : Int32} : ctL l y_NS_joined prog_1_method_28_code 2 1 0 0 [.int a, .int b] D K A (wl) (fun r w => r = jnd a b ∧ w = wl) := by
  refine mt_of (by decide) (Nat.le_of_ble_eq_true rfl) ?_
  intro p e s m below meth c ls B hw hl
  have hx := B.1
  have hb := B.2.1
  have hl : lv_has ls 2 [(0, .int a), (1, .int b)] := hl
  refine lv_iload_n hx hb d_NS_joined_0 rfl (lv_at hl 0 rfl) ?_
  refine lv_i2l hx hb d_NS_joined_1 rfl ?_
  refine lv_bipush (v := 32) hx hb d_NS_joined_2 (by decide) ?_
  refine lv_lshl hx hb d_NS_joined_4 rfl ?_
  refine lv_iload_n hx hb d_NS_joined_5 rfl (lv_at hl 1 rfl) ?_
  refine k_l (k_runS B hw c_NS_asNumber rfl rfl cf_NS_80 ⟨Nat.le_of_ble_eq_true rfl, Nat.le_of_ble_eq_true rfl⟩ rfl hl.1 rfl (Nat.le_of_ble_eq_true rfl) d_NS_joined_6 ⟨Nat.le_of_ble_eq_true rfl, Nat.le_of_ble_eq_true rfl⟩) hw (fun r6 w1 H locs hq hw => ?_)
  obtain ⟨rfl, ew⟩ := hq
  rw [ew] at hw
  refine lv_lor hx hb d_NS_joined_9 ?_
  exact r_l B hw d_NS_joined_10 ⟨rfl, rfl⟩
set_option maxRecDepth 100000 in
set_option maxHeartbeats 4000000 in
theorem c_ST_isKind {l : Launch} {D : va_G} {K : Nat → ClassId} {A : Nat → Prop} {wl : va_W} {k : Int32} : ctI l y_ST_isKind prog_4_method_2_code 1 (some .boolean) 0 0 0 [.int k] D K A (wl) (fun r w => r = isK k ∧ w = wl) := by
  refine mt_of (by decide) (Nat.le_of_ble_eq_true rfl) ?_
  intro p e s m below meth c ls B hw hl
  have hx := B.1
  have hb := B.2.1
  have hl : lv_has ls 1 [(0, .int k)] := hl
  refine lv_iload_n hx hb d_ST_isKind_0 rfl (lv_at hl 0 rfl) ?_
  refine lv_if_lt (tgt := 13) hx hb d_ST_isKind_1 rfl (fun h1 => ?_) (fun h1 => ?_)
  · refine lv_iconst (v := 0) hx hb d_ST_isKind_13 (by decide) ?_
    exact r_z B hw (by decide) d_ST_isKind_14 ⟨by simp [isK, *], rfl⟩
  · refine lv_iload_n hx hb d_ST_isKind_4 rfl (lv_at hl 0 rfl) ?_
    refine lv_iconst (v := 3) hx hb d_ST_isKind_5 (by decide) ?_
    refine lv_icmp_gt (tgt := 13) hx hb d_ST_isKind_6 rfl (fun h6 => ?_) (fun h6 => ?_)
    · refine lv_iconst (v := 0) hx hb d_ST_isKind_13 (by decide) ?_
      exact r_z B hw (by decide) d_ST_isKind_14 ⟨by simp [isK, *], rfl⟩
    · refine lv_iconst (v := 1) hx hb d_ST_isKind_9 (by decide) ?_
      refine lv_goto (tgt := 14) hx hb d_ST_isKind_10 rfl ?_
      exact r_z B hw (by decide) d_ST_isKind_14 ⟨by simp [isK, *], rfl⟩
set_option maxRecDepth 100000 in
set_option maxHeartbeats 4000000 in
theorem c_ST_isFirstLong {l : Launch} {D : va_G} {K : Nat → ClassId} {A : Nat → Prop} {wl : va_W} {k : Int32} : ctI l y_ST_isFirstLong prog_4_method_3_code 1 (some .boolean) 0 0 0 [.int k] D K A (wl) (fun r w => r = isFL k ∧ w = wl) := by
  refine mt_of (by decide) (Nat.le_of_ble_eq_true rfl) ?_
  intro p e s m below meth c ls B hw hl
  have hx := B.1
  have hb := B.2.1
  have hl : lv_has ls 1 [(0, .int k)] := hl
  refine lv_iload_n hx hb d_ST_isFirstLong_0 rfl (lv_at hl 0 rfl) ?_
  refine lv_if_ne (tgt := 8) hx hb d_ST_isFirstLong_1 rfl (fun h1 => ?_) (fun h1 => ?_)
  · refine lv_iconst (v := 0) hx hb d_ST_isFirstLong_8 (by decide) ?_
    exact r_z B hw (by decide) d_ST_isFirstLong_9 ⟨by simp [isFL, *], rfl⟩
  · refine lv_iconst (v := 1) hx hb d_ST_isFirstLong_4 (by decide) ?_
    refine lv_goto (tgt := 9) hx hb d_ST_isFirstLong_5 rfl ?_
    exact r_z B hw (by decide) d_ST_isFirstLong_9 ⟨by simp [isFL, *], rfl⟩
set_option maxRecDepth 100000 in
set_option maxHeartbeats 4000000 in
theorem c_ST_isSecondLong {l : Launch} {D : va_G} {K : Nat → ClassId} {A : Nat → Prop} {wl : va_W} {k : Int32} : ctI l y_ST_isSecondLong prog_4_method_4_code 1 (some .boolean) 0 0 0 [.int k] D K A (wl) (fun r w => r = isSL k ∧ w = wl) := by
  refine mt_of (by decide) (Nat.le_of_ble_eq_true rfl) ?_
  intro p e s m below meth c ls B hw hl
  have hx := B.1
  have hb := B.2.1
  have hl : lv_has ls 1 [(0, .int k)] := hl
  refine lv_iload_n hx hb d_ST_isSecondLong_0 rfl (lv_at hl 0 rfl) ?_
  refine lv_if_eq (tgt := 9) hx hb d_ST_isSecondLong_1 rfl (fun h1 => ?_) (fun h1 => ?_)
  · refine lv_iconst (v := 1) hx hb d_ST_isSecondLong_9 (by decide) ?_
    refine lv_goto (tgt := 14) hx hb d_ST_isSecondLong_10 rfl ?_
    exact r_z B hw (by decide) d_ST_isSecondLong_14 ⟨by simp [isSL, *], rfl⟩
  · refine lv_iload_n hx hb d_ST_isSecondLong_4 rfl (lv_at hl 0 rfl) ?_
    refine lv_iconst (v := 2) hx hb d_ST_isSecondLong_5 (by decide) ?_
    refine lv_icmp_ne (tgt := 13) hx hb d_ST_isSecondLong_6 rfl (fun h6 => ?_) (fun h6 => ?_)
    · refine lv_iconst (v := 0) hx hb d_ST_isSecondLong_13 (by decide) ?_
      exact r_z B hw (by decide) d_ST_isSecondLong_14 ⟨by simp [isSL, *], rfl⟩
    · refine lv_iconst (v := 1) hx hb d_ST_isSecondLong_9 (by decide) ?_
      refine lv_goto (tgt := 14) hx hb d_ST_isSecondLong_10 rfl ?_
      exact r_z B hw (by decide) d_ST_isSecondLong_14 ⟨by simp [isSL, *], rfl⟩
set_option maxRecDepth 100000 in
set_option maxHeartbeats 4000000 in
theorem c_ST_firstOfSeed {l : Launch} {D : va_G} {K : Nat → ClassId} {A : Nat → Prop} {wl : va_W} {k a b : Int32} : ctL l y_ST_firstOfSeed prog_4_method_5_code 3 2 0 0 [.int k, .int a, .int b] D K A (wl) (fun r w => r = fsd k a b ∧ w = wl) := by
  refine mt_of (by decide) (Nat.le_of_ble_eq_true rfl) ?_
  intro p e s m below meth c ls B hw hl
  have hx := B.1
  have hb := B.2.1
  have hl : lv_has ls 3 [(0, .int k), (1, .int a), (2, .int b)] := hl
  refine lv_iload_n hx hb d_ST_firstOfSeed_0 rfl (lv_at hl 0 rfl) ?_
  refine lv_if_ne (tgt := 12) hx hb d_ST_firstOfSeed_1 rfl (fun h1 => ?_) (fun h1 => ?_)
  · refine lv_iload_n hx hb d_ST_firstOfSeed_12 rfl (lv_at hl 1 rfl) ?_
    refine lv_i2l hx hb d_ST_firstOfSeed_13 rfl ?_
    exact r_l B hw d_ST_firstOfSeed_14 ⟨by simp [fsd, *], rfl⟩
  · refine lv_iload_n hx hb d_ST_firstOfSeed_4 rfl (lv_at hl 1 rfl) ?_
    refine lv_iload_n hx hb d_ST_firstOfSeed_5 rfl (lv_at hl 2 rfl) ?_
    refine k_l (k_runN B hw c_NS_joined rfl rfl cf_ST_20 ⟨Nat.le_of_ble_eq_true rfl, Nat.le_of_ble_eq_true rfl⟩ rfl hl.1 rfl (Nat.le_of_ble_eq_true rfl) d_ST_firstOfSeed_6 ⟨Nat.le_of_ble_eq_true rfl, Nat.le_of_ble_eq_true rfl⟩) hw (fun r6 w1 H locs hq hw => ?_)
    obtain ⟨rfl, ew⟩ := hq
    rw [ew] at hw
    refine lv_goto (tgt := 14) hx hb d_ST_firstOfSeed_9 rfl ?_
    exact r_l B hw d_ST_firstOfSeed_14 ⟨by simp [fsd, *], rfl⟩
set_option maxRecDepth 100000 in
set_option maxHeartbeats 4000000 in
theorem c_ST_secondOfSeed {l : Launch} {D : va_G} {K : Nat → ClassId} {A : Nat → Prop} {wl : va_W} {k a b : Int32} : ctL l y_ST_secondOfSeed prog_4_method_6_code 3 2 0 0 [.int k, .int a, .int b] D K A (wl) (fun r w => r = ssd k a b ∧ w = wl) := by
  refine mt_of (by decide) (Nat.le_of_ble_eq_true rfl) ?_
  intro p e s m below meth c ls B hw hl
  have hx := B.1
  have hb := B.2.1
  have hl : lv_has ls 3 [(0, .int k), (1, .int a), (2, .int b)] := hl
  refine lv_iload_n hx hb d_ST_secondOfSeed_0 rfl (lv_at hl 0 rfl) ?_
  rcases Classical.em (k = 0) with rfl | n0
  · refine lv_lookup (tgt := 28) hx hb d_ST_secondOfSeed_1 (by decide) (by decide : _ = (27 : Int)) rfl ?_
    refine g_ldc2 B kc_ST_26 d_ST_secondOfSeed_28 ?_
    refine lv_iload_n hx hb d_ST_secondOfSeed_31 rfl (lv_at hl 1 rfl) ?_
    refine lv_iload_n hx hb d_ST_secondOfSeed_32 rfl (lv_at hl 2 rfl) ?_
    refine k_l (k_runN B hw c_NS_joined rfl rfl cf_ST_20 ⟨Nat.le_of_ble_eq_true rfl, Nat.le_of_ble_eq_true rfl⟩ rfl hl.1 rfl (Nat.le_of_ble_eq_true rfl) d_ST_secondOfSeed_33 ⟨Nat.le_of_ble_eq_true rfl, Nat.le_of_ble_eq_true rfl⟩) hw (fun r33 w1 H locs hq hw => ?_)
    obtain ⟨rfl, ew⟩ := hq
    rw [ew] at hw
    refine lv_lmul hx hb d_ST_secondOfSeed_36 ?_
    refine lv_lconst (v := 1) hx hb d_ST_secondOfSeed_37 (by decide) ?_
    refine lv_ladd hx hb d_ST_secondOfSeed_38 ?_
    exact r_l B hw d_ST_secondOfSeed_39 ⟨by simp [ssd, *], rfl⟩
  rcases Classical.em (k = 2) with rfl | n2
  · refine lv_lookup (tgt := 40) hx hb d_ST_secondOfSeed_1 (by decide) (by decide : _ = (39 : Int)) rfl ?_
    refine lv_iload_n hx hb d_ST_secondOfSeed_40 rfl (lv_at hl 2 rfl) ?_
    refine k_l (k_runN B hw c_NS_asNumber rfl rfl cf_ST_28 ⟨Nat.le_of_ble_eq_true rfl, Nat.le_of_ble_eq_true rfl⟩ rfl hl.1 rfl (Nat.le_of_ble_eq_true rfl) d_ST_secondOfSeed_41 ⟨Nat.le_of_ble_eq_true rfl, Nat.le_of_ble_eq_true rfl⟩) hw (fun r41 w1 H locs hq hw => ?_)
    obtain ⟨rfl, ew⟩ := hq
    rw [ew] at hw
    exact r_l B hw d_ST_secondOfSeed_44 ⟨by simp [ssd, *], rfl⟩
  refine lv_lookup (tgt := 45) (off := 44) hx hb d_ST_secondOfSeed_1 (by decide) (by show Op.lookupswitch.offset [(0, 27), (2, 39)] 44 k.toInt = 44; rw [lv_osw n0 (by decide), lv_osw n2 (by decide)]; rfl) rfl ?_
  refine lv_iload_n hx hb d_ST_secondOfSeed_45 rfl (lv_at hl 2 rfl) ?_
  refine lv_i2l hx hb d_ST_secondOfSeed_46 rfl ?_
  exact r_l B hw d_ST_secondOfSeed_47 ⟨by simp [ssd, *], rfl⟩
set_option maxRecDepth 100000 in
set_option maxHeartbeats 4000000 in
theorem c_ST_isRemainder {l : Launch} {D : va_G} {K : Nat → ClassId} {A : Nat → Prop} {wl : va_W} {x : Int64} : ctI l y_ST_isRemainder prog_4_method_8_code 2 (some .boolean) 0 0 0 [.long x] D K A (wl) (fun r w => r = isR x ∧ w = wl) := by
  refine mt_of (by decide) (Nat.le_of_ble_eq_true rfl) ?_
  intro p e s m below meth c ls B hw hl
  have hx := B.1
  have hb := B.2.1
  have hl : lv_has ls 2 [(0, .long x)] := hl
  refine lv_lload_n hx hb d_ST_isRemainder_0 rfl (lv_at hl 0 rfl) ?_
  refine lv_lconst (v := 0) hx hb d_ST_isRemainder_1 (by decide) ?_
  refine W.lcmp hx hb d_ST_isRemainder_2 ?_
  refine lv_if_lt (tgt := 18) hx hb d_ST_isRemainder_3 rfl (fun h3 => ?_) (fun h3 => ?_)
  · rw [lg_cmp_lt] at h3
    refine lv_iconst (v := 0) hx hb d_ST_isRemainder_18 (by decide) ?_
    exact r_z B hw (by decide) d_ST_isRemainder_19 ⟨by simp [isR, *], rfl⟩
  · rw [lg_cmp_lt] at h3
    refine lv_lload_n hx hb d_ST_isRemainder_6 rfl (lv_at hl 0 rfl) ?_
    refine g_ldc2 B kc_ST_36 d_ST_isRemainder_7 ?_
    refine W.lcmp hx hb d_ST_isRemainder_10 ?_
    refine lv_if_ge (tgt := 18) hx hb d_ST_isRemainder_11 rfl (fun h11 => ?_) (fun h11 => ?_)
    · rw [lg_cmp_ge] at h11
      refine lv_iconst (v := 0) hx hb d_ST_isRemainder_18 (by decide) ?_
      exact r_z B hw (by decide) d_ST_isRemainder_19 ⟨by simp [isR, *], rfl⟩
    · rw [lg_cmp_ge] at h11
      refine lv_iconst (v := 1) hx hb d_ST_isRemainder_14 (by decide) ?_
      refine lv_goto (tgt := 19) hx hb d_ST_isRemainder_15 rfl ?_
      exact r_z B hw (by decide) d_ST_isRemainder_19 ⟨by simp [isR, *], rfl⟩
set_option maxRecDepth 100000 in
set_option maxHeartbeats 4000000 in
theorem c_ST_isState {l : Launch} {D : va_G} {K : Nat → ClassId} {A : Nat → Prop} {wl : va_W} {k : Int32} {f g : Int64} : ctI l y_ST_isState prog_4_method_7_code 5 (some .boolean) 1 0 0 [.int k, .long f, .long g] D K A (wl) (fun r w => r = isSt k f g ∧ w = wl) := by
  refine mt_of (by decide) (Nat.le_of_ble_eq_true rfl) ?_
  intro p e s m below meth c ls B hw hl
  have hx := B.1
  have hb := B.2.1
  have hl : lv_has ls 5 [(0, .int k), (1, .long f), (3, .long g)] := hl
  refine lv_iload_n hx hb d_ST_isState_0 rfl (lv_at hl 0 rfl) ?_
  rcases sw4 k with rfl | rfl | rfl | rfl | ⟨hd1, n0, n1, n2, n3⟩
  · refine lv_tableIn (tgt := 32) hx hb d_ST_isState_1 (by decide) (by decide) rfl rfl ?_
    refine lv_lload_n hx hb d_ST_isState_32 rfl (lv_at hl 2 rfl) ?_
    refine lv_lconst (v := 1) hx hb d_ST_isState_33 (by decide) ?_
    refine lv_land hx hb d_ST_isState_34 ?_
    refine lv_lconst (v := 1) hx hb d_ST_isState_35 (by decide) ?_
    refine W.lcmp hx hb d_ST_isState_36 ?_
    refine lv_if_ne (tgt := 44) hx hb d_ST_isState_37 rfl (fun h37 => ?_) (fun h37 => ?_)
    · rw [lg_cmp_eq] at h37
      refine lv_iconst (v := 0) hx hb d_ST_isState_44 (by decide) ?_
      exact r_z B hw (by decide) d_ST_isState_45 ⟨by simp [isSt, *], rfl⟩
    · rw [lg_cmp_eq] at h37
      refine lv_iconst (v := 1) hx hb d_ST_isState_40 (by decide) ?_
      refine lv_goto (tgt := 45) hx hb d_ST_isState_41 rfl ?_
      exact r_z B hw (by decide) d_ST_isState_45 ⟨by simp [isSt, *], rfl⟩
  · refine lv_tableIn (tgt := 46) hx hb d_ST_isState_1 (by decide) (by decide) rfl rfl ?_
    refine lv_lload_n hx hb d_ST_isState_46 rfl (lv_at hl 1 rfl) ?_
    refine lv_lconst (v := 0) hx hb d_ST_isState_47 (by decide) ?_
    refine W.lcmp hx hb d_ST_isState_48 ?_
    refine lv_if_ne (tgt := 58) hx hb d_ST_isState_49 rfl (fun h49 => ?_) (fun h49 => ?_)
    · rw [lg_cmp_eq] at h49
      refine lv_iconst (v := 1) hx hb d_ST_isState_58 (by decide) ?_
      refine lv_goto (tgt := 63) hx hb d_ST_isState_59 rfl ?_
      exact r_z B hw (by decide) d_ST_isState_63 ⟨by simp [isSt, *], rfl⟩
    · rw [lg_cmp_eq] at h49
      refine lv_lload_n hx hb d_ST_isState_52 rfl (lv_at hl 2 rfl) ?_
      refine lv_lconst (v := 0) hx hb d_ST_isState_53 (by decide) ?_
      refine W.lcmp hx hb d_ST_isState_54 ?_
      refine lv_if_eq (tgt := 62) hx hb d_ST_isState_55 rfl (fun h55 => ?_) (fun h55 => ?_)
      · rw [lg_cmp_eq] at h55
        refine lv_iconst (v := 0) hx hb d_ST_isState_62 (by decide) ?_
        exact r_z B hw (by decide) d_ST_isState_63 ⟨by simp [isSt, *], rfl⟩
      · rw [lg_cmp_eq] at h55
        refine lv_iconst (v := 1) hx hb d_ST_isState_58 (by decide) ?_
        refine lv_goto (tgt := 63) hx hb d_ST_isState_59 rfl ?_
        exact r_z B hw (by decide) d_ST_isState_63 ⟨by simp [isSt, *], rfl⟩
  · refine lv_tableIn (tgt := 64) hx hb d_ST_isState_1 (by decide) (by decide) rfl rfl ?_
    refine lv_lload_n hx hb d_ST_isState_64 rfl (lv_at hl 2 rfl) ?_
    refine lv_lconst (v := 0) hx hb d_ST_isState_65 (by decide) ?_
    refine W.lcmp hx hb d_ST_isState_66 ?_
    refine lv_if_lt (tgt := 74) hx hb d_ST_isState_67 rfl (fun h67 => ?_) (fun h67 => ?_)
    · rw [lg_cmp_lt] at h67
      refine lv_iconst (v := 0) hx hb d_ST_isState_74 (by decide) ?_
      exact r_z B hw (by decide) d_ST_isState_75 ⟨by simp [isSt, *], rfl⟩
    · rw [lg_cmp_lt] at h67
      refine lv_iconst (v := 1) hx hb d_ST_isState_70 (by decide) ?_
      refine lv_goto (tgt := 75) hx hb d_ST_isState_71 rfl ?_
      exact r_z B hw (by decide) d_ST_isState_75 ⟨by simp [isSt, *], rfl⟩
  · refine lv_tableIn (tgt := 76) hx hb d_ST_isState_1 (by decide) (by decide) rfl rfl ?_
    refine lv_lload_n hx hb d_ST_isState_76 rfl (lv_at hl 1 rfl) ?_
    refine k_i (k_runS B hw c_ST_isRemainder rfl rfl cf_ST_32 ⟨Nat.le_of_ble_eq_true rfl, Nat.le_of_ble_eq_true rfl⟩ rfl hl.1 rfl (Nat.le_of_ble_eq_true rfl) d_ST_isState_77 ⟨Nat.le_of_ble_eq_true rfl, Nat.le_of_ble_eq_true rfl⟩) hw (fun r77 w1 H locs hq hw => ?_)
    obtain ⟨rfl, ew⟩ := hq
    rw [ew] at hw
    refine lv_if_eq (tgt := 106) hx hb d_ST_isState_80 rfl (fun h80 => ?_) (fun h80 => ?_)
    · refine lv_iconst (v := 0) hx hb d_ST_isState_106 (by decide) ?_
      exact r_z B hw (by decide) d_ST_isState_107 ⟨by simp [isSt, *], rfl⟩
    · refine lv_lload_n hx hb d_ST_isState_83 rfl (lv_at hl 2 rfl) ?_
      refine k_i (k_runS B hw c_ST_isRemainder rfl rfl cf_ST_32 ⟨Nat.le_of_ble_eq_true rfl, Nat.le_of_ble_eq_true rfl⟩ rfl hl.1 rfl (Nat.le_of_ble_eq_true rfl) d_ST_isState_84 ⟨Nat.le_of_ble_eq_true rfl, Nat.le_of_ble_eq_true rfl⟩) hw (fun r84 w1 H locs hq hw => ?_)
      obtain ⟨rfl, ew⟩ := hq
      rw [ew] at hw
      refine lv_if_eq (tgt := 106) hx hb d_ST_isState_87 rfl (fun h87 => ?_) (fun h87 => ?_)
      · refine lv_iconst (v := 0) hx hb d_ST_isState_106 (by decide) ?_
        exact r_z B hw (by decide) d_ST_isState_107 ⟨by simp [isSt, *], rfl⟩
      · refine lv_lload_n hx hb d_ST_isState_90 rfl (lv_at hl 1 rfl) ?_
        refine lv_lconst (v := 0) hx hb d_ST_isState_91 (by decide) ?_
        refine W.lcmp hx hb d_ST_isState_92 ?_
        refine lv_if_ne (tgt := 102) hx hb d_ST_isState_93 rfl (fun h93 => ?_) (fun h93 => ?_)
        · rw [lg_cmp_eq] at h93
          refine lv_iconst (v := 1) hx hb d_ST_isState_102 (by decide) ?_
          refine lv_goto (tgt := 107) hx hb d_ST_isState_103 rfl ?_
          exact r_z B hw (by decide) d_ST_isState_107 ⟨by simp [isSt, *], rfl⟩
        · rw [lg_cmp_eq] at h93
          subst h93
          refine lv_lload_n hx hb d_ST_isState_96 rfl (lv_at hl 2 rfl) ?_
          refine lv_lconst (v := 0) hx hb d_ST_isState_97 (by decide) ?_
          refine W.lcmp hx hb d_ST_isState_98 ?_
          refine lv_if_eq (tgt := 106) hx hb d_ST_isState_99 rfl (fun h99 => ?_) (fun h99 => ?_)
          · rw [lg_cmp_eq] at h99
            refine lv_iconst (v := 0) hx hb d_ST_isState_106 (by decide) ?_
            exact r_z B hw (by decide) d_ST_isState_107 ⟨by simp [isSt, *], rfl⟩
          · rw [lg_cmp_eq] at h99
            refine lv_iconst (v := 1) hx hb d_ST_isState_102 (by decide) ?_
            refine lv_goto (tgt := 107) hx hb d_ST_isState_103 rfl ?_
            exact r_z B hw (by decide) d_ST_isState_107 ⟨by simp [isSt, *], rfl⟩
  · refine lv_tableOut (tgt := 108) hx hb d_ST_isState_1 hd1 rfl ?_
    refine lv_iconst (v := 0) hx hb d_ST_isState_108 (by decide) ?_
    exact r_z B hw (by decide) d_ST_isState_109 ⟨by simp [isSt, *], rfl⟩
set_option maxRecDepth 100000 in
set_option maxHeartbeats 4000000 in
theorem c_SV_wordsOfPart {l : Launch} {D : va_G} {K : Nat → ClassId} {A : Nat → Prop} {wl : va_W} {b : Int32} : ctI l y_SV_wordsOfPart prog_3_method_8_code 1 (some .int) 0 0 0 [.int b] D K A (wl) (fun r w => r = wOP b ∧ w = wl) := by
  refine mt_of (by decide) (Nat.le_of_ble_eq_true rfl) ?_
  intro p e s m below meth c ls B hw hl
  have hx := B.1
  have hb := B.2.1
  have hl : lv_has ls 1 [(0, .int b)] := hl
  refine lv_iload_n hx hb d_SV_wordsOfPart_0 rfl (lv_at hl 0 rfl) ?_
  refine lv_if_eq (tgt := 8) hx hb d_SV_wordsOfPart_1 rfl (fun h1 => ?_) (fun h1 => ?_)
  · refine lv_iconst (v := 1) hx hb d_SV_wordsOfPart_8 (by decide) ?_
    exact r_i B hw d_SV_wordsOfPart_9 ⟨by simp [wOP, *], rfl⟩
  · refine lv_iconst (v := 2) hx hb d_SV_wordsOfPart_4 (by decide) ?_
    refine lv_goto (tgt := 9) hx hb d_SV_wordsOfPart_5 rfl ?_
    exact r_i B hw d_SV_wordsOfPart_9 ⟨by simp [wOP, *], rfl⟩
set_option maxRecDepth 100000 in
set_option maxHeartbeats 4000000 in
theorem c_SV_wordsOfKind {l : Launch} {D : va_G} {K : Nat → ClassId} {A : Nat → Prop} {wl : va_W} {k : Int32} : ctI l y_SV_wordsOfKind prog_3_method_7_code 1 (some .int) 1 0 0 [.int k] D K A (wl) (fun r w => r = wOK k ∧ w = wl) := by
  refine mt_of (by decide) (Nat.le_of_ble_eq_true rfl) ?_
  intro p e s m below meth c ls B hw hl
  have hx := B.1
  have hb := B.2.1
  have hl : lv_has ls 1 [(0, .int k)] := hl
  refine lv_iconst (v := 2) hx hb d_SV_wordsOfKind_0 (by decide) ?_
  refine lv_iload_n hx hb d_SV_wordsOfKind_1 rfl (lv_at hl 0 rfl) ?_
  refine k_i (k_runS B hw c_ST_isFirstLong rfl rfl cf_SV_31 ⟨Nat.le_of_ble_eq_true rfl, Nat.le_of_ble_eq_true rfl⟩ rfl hl.1 rfl (Nat.le_of_ble_eq_true rfl) d_SV_wordsOfKind_2 ⟨Nat.le_of_ble_eq_true rfl, Nat.le_of_ble_eq_true rfl⟩) hw (fun r2 w1 H locs hq hw => ?_)
  obtain ⟨rfl, ew⟩ := hq
  rw [ew] at hw
  refine k_i (k_runS B hw c_SV_wordsOfPart rfl rfl cf_SV_67 ⟨Nat.le_of_ble_eq_true rfl, Nat.le_of_ble_eq_true rfl⟩ rfl hl.1 rfl (Nat.le_of_ble_eq_true rfl) d_SV_wordsOfKind_5 ⟨Nat.le_of_ble_eq_true rfl, Nat.le_of_ble_eq_true rfl⟩) hw (fun r5 w1 H locs hq hw => ?_)
  obtain ⟨rfl, ew⟩ := hq
  rw [ew] at hw
  refine lv_iadd hx hb d_SV_wordsOfKind_8 ?_
  refine lv_iload_n hx hb d_SV_wordsOfKind_9 rfl (lv_at hl 0 rfl) ?_
  refine k_i (k_runS B hw c_ST_isSecondLong rfl rfl cf_SV_42 ⟨Nat.le_of_ble_eq_true rfl, Nat.le_of_ble_eq_true rfl⟩ rfl hl.1 rfl (Nat.le_of_ble_eq_true rfl) d_SV_wordsOfKind_10 ⟨Nat.le_of_ble_eq_true rfl, Nat.le_of_ble_eq_true rfl⟩) hw (fun r10 w1 H locs hq hw => ?_)
  obtain ⟨rfl, ew⟩ := hq
  rw [ew] at hw
  refine k_i (k_runS B hw c_SV_wordsOfPart rfl rfl cf_SV_67 ⟨Nat.le_of_ble_eq_true rfl, Nat.le_of_ble_eq_true rfl⟩ rfl hl.1 rfl (Nat.le_of_ble_eq_true rfl) d_SV_wordsOfKind_13 ⟨Nat.le_of_ble_eq_true rfl, Nat.le_of_ble_eq_true rfl⟩) hw (fun r13 w1 H locs hq hw => ?_)
  obtain ⟨rfl, ew⟩ := hq
  rw [ew] at hw
  refine lv_iadd hx hb d_SV_wordsOfKind_16 ?_
  exact r_i B hw d_SV_wordsOfKind_17 ⟨rfl, rfl⟩
