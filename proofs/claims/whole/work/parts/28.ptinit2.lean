/-! Points' constructor, walked. -/
def ptW (K : Nat → ClassId) (wl : va_W) (q : Nat) (G : Nat → Nat → Int32) : va_W := wl ++ [(q, arQ K 4 4 (gQ q)), (q + 1, arI K 20 (G 0)), (q + 2, arI K 20 (G 1)), (q + 3, arI K 20 (G 2)), (q + 4, arI K 20 (G 3))]
def upG (G : Nat → Nat → Int32) (r : Nat) (F : Nat → Int32) : Nat → Nat → Int32 := fun k => if k = r then F else G k
theorem upG_s {G : Nat → Nat → Int32} {r : Nat} {F : Nat → Int32} : upG G r F r = F := if_pos rfl
theorem upG_n {G : Nat → Nat → Int32} {r k : Nat} {F : Nat → Int32} (h : k ≠ r) : upG G r F k = G k := if_neg h
section PTW
variable {K : Nat → ClassId} {wl : va_W} {q : Nat} {G : Nat → Nat → Int32}
theorem pt_old {i : Nat} {x : Nat × va_E} (h : wl[i]? = some x) : (ptW K wl q G)[i]? = some x := ga_old h
theorem pt_d : (ptW K wl q G)[wl.length]? = some (q, arQ K 4 4 (gQ q)) := by
  unfold ptW
  rw [List.getElem?_append_right (Nat.le_refl _), Nat.sub_self]; rfl
theorem pt_r {r : Nat} (hr : r < 4) : (ptW K wl q G)[wl.length + 1 + r]? = some (q + 1 + r, arI K 20 (G r)) := by
  unfold ptW
  rw [List.getElem?_append_right (by omega)]
  rcases (by omega : r = 0 ∨ r = 1 ∨ r = 2 ∨ r = 3) with rfl | rfl | rfl | rfl
  · rw [show wl.length + 1 + 0 - wl.length = 1 by omega]; rfl
  · rw [show wl.length + 1 + 1 - wl.length = 2 by omega]; rfl
  · rw [show wl.length + 1 + 2 - wl.length = 3 by omega]; rfl
  · rw [show wl.length + 1 + 3 - wl.length = 4 by omega]; rfl
theorem pt_set {r : Nat} (hr : r < 4) {F : Nat → Int32} : (ptW K wl q G).set (wl.length + 1 + r) (q + 1 + r, arI K 20 F) = ptW K wl q (upG G r F) := by
  unfold ptW
  rw [List.set_append_right _ _ (by omega)]
  rcases (by omega : r = 0 ∨ r = 1 ∨ r = 2 ∨ r = 3) with rfl | rfl | rfl | rfl
  · rw [show wl.length + 1 + 0 - wl.length = 1 by omega]; rfl
  · rw [show wl.length + 1 + 1 - wl.length = 2 by omega]; rfl
  · rw [show wl.length + 1 + 2 - wl.length = 3 by omega]; rfl
  · rw [show wl.length + 1 + 3 - wl.length = 4 by omega]; rfl
theorem pt_self {i : Nat} {y : Nat × va_E} (hi : i < wl.length) : (ptW K wl q G).set i y = ptW K (wl.set i y) q G := by
  unfold ptW
  rw [List.set_append_left _ _ hi]
end PTW
theorem pt_s1 {F : Nat → Int32} : ∀ i, i < 1 → upd (upd (upd F 0 1) 1 0) 2 0 i = mT 1 i := by
  intro i hi
  obtain rfl : i = 0 := by omega
  show (1 : Int32) = mT 1 0
  decide
theorem pt_s2 {F : Nat → Int32} : ∀ i, i < 2 → upd (upd (upd F 0 1) 1 3) 2 0 i = mT 2 i := by
  intro i hi
  rcases (by omega : i = 0 ∨ i = 1) with rfl | rfl
  · show (1 : Int32) = mT 2 0
    decide
  · show (3 : Int32) = mT 2 1
    decide
theorem pt_s3 {F : Nat → Int32} : ∀ i, i < 3 → upd (upd (upd F 0 1) 1 3) 2 1 i = mT 3 i := by
  intro i hi
  rcases (by omega : i = 0 ∨ i = 1 ∨ i = 2) with rfl | rfl | rfl
  · show (1 : Int32) = mT 3 0
    decide
  · show (3 : Int32) = mT 3 1
    decide
  · show (1 : Int32) = mT 3 2
    decide
set_option maxRecDepth 100000 in
set_option maxHeartbeats 4000000 in
theorem c_PT_init {l : Launch} {D : va_G} {K : Nat → ClassId} {A : Nat → Prop} {wl : va_W} {ip h : Nat} (he : wl[ip]? = some (h, .inr (1, [.null, .int 0]))) : ctV l y_PT_init prog_2_method_1_code 2 1 5 84 [.ref h] D K A (wl) (fun v => ∃ q G, v = ptW K (wl.set ip (h, oPt q 0)) q G ∧ ∀ k, k < 4 → ∀ i, i < 20 → G k i = dirT k i) := by
  refine mt_of (by decide) (Nat.le_of_ble_eq_true rfl) ?_
  intro p e s m below meth c ls B hw hl
  have hx := B.1
  have hb := B.2.1
  have hl : lv_has ls 2 [(0, .ref h)] := hl
  have hip : ip < wl.length := (List.getElem?_eq_some_iff.mp he).1
  refine lv_aload_n hx hb d_PT_init_0 rfl (lv_at hl 0 rfl) ?_
  refine W.objInit hx hb B.2.2.2.1 (B.2.2.2.2.1 _ ml_PT_1) (B.2.2.2.2.1 _ im_OB_init) (B.2.2.2.2.1 _ co_OB_init) rfl (by rw [B.2.2.1]; exact hl.1) rfl d_PT_init_1 (Nat.le_of_ble_eq_true rfl) (Nat.le_of_ble_eq_true rfl) ?_
  refine W.eq (g2 := F0 m 4 ls []) rfl ?_
  refine lv_aload_n hx hb d_PT_init_4 rfl (lv_at hl 0 rfl) ?_
  refine lv_iconst (v := 4) hx hb d_PT_init_5 (by decide) ?_
  refine lv_bipush (v := 20) hx hb d_PT_init_6 (by decide) ?_
  refine g_mna B hw cl_PT_9 (Nat.le_of_ble_eq_true rfl) (Nat.le_of_ble_eq_true rfl) d_PT_init_8 (fun q H locs hw => ?_)
  refine g_putF B hw fl_PT_11 ck_PT (ga_old he) rfl rfl rfl rfl (Nat.le_of_ble_eq_true rfl) d_PT_init_12 (fun H locs hw => ?_)
  refine lv_aload_n hx hb d_PT_init_15 rfl (lv_at hl 0 rfl) ?_
  refine lv_iconst (v := 0) hx hb d_PT_init_16 (by decide) ?_
  refine g_put B hw fl_PT_14 ck_PT (gs_eq (ga_old he)) rfl rfl rfl (Nat.le_of_ble_eq_true rfl) d_PT_init_17 (fun H locs hw => ?_)
  rw [List.set_set] at hw
  have hw : wd D A ((ptW K wl q (fun _ _ => 0)).set ip (h, oPt q 0)) s H locs := hw
  rw [pt_self hip] at hw
  have he1 : (wl.set ip (h, oPt q 0))[ip]? = some (h, oPt q 0) := gs_eq he
  have hlw : (wl.set ip (h, oPt q 0)).length = wl.length := List.length_set
  generalize hW : wl.set ip (h, oPt q 0) = wp at hw he1 hlw
  refine lv_iconst (v := 0) hx hb d_PT_init_20 (by decide) ?_
  refine lv_istore_n hx hb d_PT_init_21 rfl hl (by decide) rfl (fun ls (hl : lv_has ls 2 [(1, .int _), (0, .ref _)]) => ?_)
  refine lp_w (σ := Nat × (Nat → Nat → Int32)) (fun x => 20 - x.1) (fun x H locs ls => x.1 ≤ 20 ∧ (∀ i, i < x.1 → x.2 0 i = mT 0 i) ∧ lv_has ls 2 [(1, .int (nI x.1)), (0, .ref h)] ∧ wd D A (ptW K wp q x.2) s H locs) ?_ (0, fun _ _ => 0) _ _ _ ⟨by show 0 ≤ 20; omega, fun i hi => absurd hi (Nat.not_lt_zero _), lv_sub hl [0, 1] rfl, hw⟩
  rintro ⟨j, G⟩ H locs ls ⟨hj, hG, hl, hw⟩ ih
  dsimp only at hj hG hl hw
  refine lv_iload_n hx hb d_PT_init_22 rfl (lv_at hl 0 rfl) ?_
  refine lv_bipush (v := 20) hx hb d_PT_init_23 (by decide) ?_
  refine lv_icmp_ge (tgt := 43) hx hb d_PT_init_25 rfl (fun h25 => ?_) (fun h25 => ?_)
  · have h25 : 20 ≤ j := (nI_leI (a := 20) (by omega) (by omega)).mp h25
    have hj20 : j = 20 := by omega
    rw [hj20] at hG
    refine lv_aload_n hx hb d_PT_init_43 rfl (lv_at hl 1 rfl) ?_
    refine lv_iconst (v := 1) hx hb d_PT_init_44 (by decide) ?_
    refine lv_iconst (v := 1) hx hb d_PT_init_45 (by decide) ?_
    refine lv_iconst (v := 0) hx hb d_PT_init_46 (by decide) ?_
    refine lv_iconst (v := 0) hx hb d_PT_init_47 (by decide) ?_
    refine k_v (k_runV B hw (c_PT_startRow (r := 1) (pt_old he1) pt_d (by omega) rfl (pt_r (by omega)) (m1 := 1) (m2 := 0) (m3 := 0)) rfl rfl cf_PT_18 (pt_old he1) rfl rfl ⟨Nat.le_of_ble_eq_true rfl, Nat.le_of_ble_eq_true rfl⟩ rfl hl.1 rfl (Nat.le_of_ble_eq_true rfl) d_PT_init_48 ⟨Nat.le_of_ble_eq_true rfl, Nat.le_of_ble_eq_true rfl⟩) hw (fun w1 H locs hq hw => ?_)
    rw [hq, pt_set (by omega)] at hw
    refine lv_aload_n hx hb d_PT_init_51 rfl (lv_at hl 1 rfl) ?_
    refine lv_iconst (v := 1) hx hb d_PT_init_52 (by decide) ?_
    refine lv_iconst (v := 1) hx hb d_PT_init_53 (by decide) ?_
    refine lv_iconst (v := 0) hx hb d_PT_init_54 (by decide) ?_
    refine k_v (k_runV B hw (c_PT_growRow (r := 1) (dg := 1) (pt_old he1) pt_d (by omega) rfl (pt_r (by omega)) (by omega) (fun i hi => (congrFun upG_s i).trans (pt_s1 i hi))) rfl rfl cf_PT_22 (pt_old he1) rfl rfl ⟨Nat.le_of_ble_eq_true rfl, Nat.le_of_ble_eq_true rfl⟩ rfl hl.1 rfl (Nat.le_of_ble_eq_true rfl) d_PT_init_55 ⟨Nat.le_of_ble_eq_true rfl, Nat.le_of_ble_eq_true rfl⟩) hw (fun w1 H locs hq hw => ?_)
    obtain ⟨F1, ew, hF1⟩ := hq
    rw [ew, pt_set (by omega)] at hw
    refine lv_aload_n hx hb d_PT_init_58 rfl (lv_at hl 1 rfl) ?_
    refine lv_iconst (v := 2) hx hb d_PT_init_59 (by decide) ?_
    refine lv_iconst (v := 1) hx hb d_PT_init_60 (by decide) ?_
    refine lv_iconst (v := 3) hx hb d_PT_init_61 (by decide) ?_
    refine lv_iconst (v := 0) hx hb d_PT_init_62 (by decide) ?_
    refine k_v (k_runV B hw (c_PT_startRow (r := 2) (pt_old he1) pt_d (by omega) rfl (pt_r (by omega)) (m1 := 1) (m2 := 3) (m3 := 0)) rfl rfl cf_PT_18 (pt_old he1) rfl rfl ⟨Nat.le_of_ble_eq_true rfl, Nat.le_of_ble_eq_true rfl⟩ rfl hl.1 rfl (Nat.le_of_ble_eq_true rfl) d_PT_init_63 ⟨Nat.le_of_ble_eq_true rfl, Nat.le_of_ble_eq_true rfl⟩) hw (fun w1 H locs hq hw => ?_)
    rw [hq, pt_set (by omega)] at hw
    refine lv_aload_n hx hb d_PT_init_66 rfl (lv_at hl 1 rfl) ?_
    refine lv_iconst (v := 2) hx hb d_PT_init_67 (by decide) ?_
    refine lv_iconst (v := 2) hx hb d_PT_init_68 (by decide) ?_
    refine lv_iconst (v := 1) hx hb d_PT_init_69 (by decide) ?_
    refine k_v (k_runV B hw (c_PT_growRow (r := 2) (dg := 2) (pt_old he1) pt_d (by omega) rfl (pt_r (by omega)) (by omega) (fun i hi => (congrFun upG_s i).trans (pt_s2 i hi))) rfl rfl cf_PT_22 (pt_old he1) rfl rfl ⟨Nat.le_of_ble_eq_true rfl, Nat.le_of_ble_eq_true rfl⟩ rfl hl.1 rfl (Nat.le_of_ble_eq_true rfl) d_PT_init_70 ⟨Nat.le_of_ble_eq_true rfl, Nat.le_of_ble_eq_true rfl⟩) hw (fun w1 H locs hq hw => ?_)
    obtain ⟨F2, ew, hF2⟩ := hq
    rw [ew, pt_set (by omega)] at hw
    refine lv_aload_n hx hb d_PT_init_73 rfl (lv_at hl 1 rfl) ?_
    refine lv_iconst (v := 3) hx hb d_PT_init_74 (by decide) ?_
    refine lv_iconst (v := 1) hx hb d_PT_init_75 (by decide) ?_
    refine lv_iconst (v := 3) hx hb d_PT_init_76 (by decide) ?_
    refine lv_iconst (v := 1) hx hb d_PT_init_77 (by decide) ?_
    refine k_v (k_runV B hw (c_PT_startRow (r := 3) (pt_old he1) pt_d (by omega) rfl (pt_r (by omega)) (m1 := 1) (m2 := 3) (m3 := 1)) rfl rfl cf_PT_18 (pt_old he1) rfl rfl ⟨Nat.le_of_ble_eq_true rfl, Nat.le_of_ble_eq_true rfl⟩ rfl hl.1 rfl (Nat.le_of_ble_eq_true rfl) d_PT_init_78 ⟨Nat.le_of_ble_eq_true rfl, Nat.le_of_ble_eq_true rfl⟩) hw (fun w1 H locs hq hw => ?_)
    rw [hq, pt_set (by omega)] at hw
    refine lv_aload_n hx hb d_PT_init_81 rfl (lv_at hl 1 rfl) ?_
    refine lv_iconst (v := 3) hx hb d_PT_init_82 (by decide) ?_
    refine lv_iconst (v := 3) hx hb d_PT_init_83 (by decide) ?_
    refine lv_iconst (v := 1) hx hb d_PT_init_84 (by decide) ?_
    refine k_v (k_runV B hw (c_PT_growRow (r := 3) (dg := 3) (pt_old he1) pt_d (by omega) rfl (pt_r (by omega)) (by omega) (fun i hi => (congrFun upG_s i).trans (pt_s3 i hi))) rfl rfl cf_PT_22 (pt_old he1) rfl rfl ⟨Nat.le_of_ble_eq_true rfl, Nat.le_of_ble_eq_true rfl⟩ rfl hl.1 rfl (Nat.le_of_ble_eq_true rfl) d_PT_init_85 ⟨Nat.le_of_ble_eq_true rfl, Nat.le_of_ble_eq_true rfl⟩) hw (fun w1 H locs hq hw => ?_)
    obtain ⟨F3, ew, hF3⟩ := hq
    rw [ew, pt_set (by omega)] at hw
    generalize hGG : upG _ 3 F3 = GG at hw
    have hM : ∀ k, k < 4 → ∀ i, i < 20 → GG k i = mT k i := by
      intro k hk i hi
      rw [← hGG]
      rcases (by omega : k = 0 ∨ k = 1 ∨ k = 2 ∨ k = 3) with rfl | rfl | rfl | rfl
      · exact hG i hi
      · exact hF1 i hi
      · exact hF2 i hi
      · exact hF3 i hi
    refine lv_iconst (v := 0) hx hb d_PT_init_88 (by decide) ?_
    refine lv_istore_n hx hb d_PT_init_89 rfl hl (by decide) rfl (fun ls (hl : lv_has ls 2 [(1, .int _), (0, .ref _)]) => ?_)
    refine lp_w (σ := Nat × (Nat → Nat → Int32)) (fun x => 4 - x.1) (fun x H locs ls => x.1 ≤ 4 ∧ (∀ k, k < x.1 → ∀ i, i < 20 → x.2 k i = dirT k i) ∧ (∀ k, x.1 ≤ k → k < 4 → ∀ i, i < 20 → x.2 k i = mT k i) ∧ lv_has ls 2 [(1, .int (nI x.1)), (0, .ref h)] ∧ wd D A (ptW K wp q x.2) s H locs) ?_ (0, GG) _ _ _ ⟨by show 0 ≤ 4; omega, fun i hi => absurd hi (Nat.not_lt_zero _), fun k _ hk => hM k hk, lv_sub hl [0, 1] rfl, hw⟩
    rintro ⟨j, Y⟩ H locs ls ⟨hj, hA1, hA2, hl, hw⟩ ih
    dsimp only at hj hA1 hA2 hl hw
    refine lv_iload_n hx hb d_PT_init_90 rfl (lv_at hl 0 rfl) ?_
    refine lv_iconst (v := 4) hx hb d_PT_init_91 (by decide) ?_
    refine lv_icmp_ge (tgt := 106) hx hb d_PT_init_92 rfl (fun h92 => ?_) (fun h92 => ?_)
    · have h92 : 4 ≤ j := (nI_leI (a := 4) (by omega) (by omega)).mp h92
      have hj4 : j = 4 := by omega
      rw [hj4] at hA1
      exact r_v B hw d_PT_init_106 ⟨q, Y, by rw [hW], hA1⟩
    · have h92 : j < 4 := Nat.lt_of_not_le (fun q => h92 ((nI_leI (a := 4) (by omega) (by omega)).mpr q))
      refine lv_aload_n hx hb d_PT_init_95 rfl (lv_at hl 1 rfl) ?_
      refine lv_iload_n hx hb d_PT_init_96 rfl (lv_at hl 0 rfl) ?_
      refine k_v (k_runV B hw (c_PT_alignRow (r := j) (dg := j) (pt_old he1) pt_d h92 rfl (pt_r h92) (hA2 j (Nat.le_refl _) h92)) rfl rfl cf_PT_26 (pt_old he1) rfl rfl ⟨Nat.le_of_ble_eq_true rfl, Nat.le_of_ble_eq_true rfl⟩ rfl hl.1 rfl (Nat.le_of_ble_eq_true rfl) d_PT_init_97 ⟨Nat.le_of_ble_eq_true rfl, Nat.le_of_ble_eq_true rfl⟩) hw (fun w1 H locs hq hw => ?_)
      obtain ⟨Z, ew, hZ⟩ := hq
      rw [ew, pt_set h92] at hw
      have hB1 : ∀ k, k < j + 1 → ∀ i, i < 20 → upG Y j Z k i = dirT k i := by
        intro k hk i hi
        by_cases e : k = j
        · subst e; rw [upG_s]; exact hZ i hi
        · rw [upG_n e]; exact hA1 k (by omega) i hi
      have hB2 : ∀ k, j + 1 ≤ k → k < 4 → ∀ i, i < 20 → upG Y j Z k i = mT k i := by
        intro k hk hk4 i hi
        rw [upG_n (by omega)]; exact hA2 k (by omega) hk4 i hi
      refine lv_iinc (k := 0) hx hb d_PT_init_100 hl rfl (show nI j + Int32.ofInt 1 = nI (j + 1) from (nI_succ j).symm) (by decide) rfl (fun ls (hl : lv_has ls 2 [(1, .int (nI (j + 1))), (0, .ref _)]) => ?_)
      refine lv_goto (tgt := 90) hx hb d_PT_init_103 rfl ?_
      exact ih (j + 1, upG Y j Z) _ _ _ (by show 4 - (j + 1) < 4 - j; omega) ⟨by show j + 1 ≤ 4; omega, hB1, hB2, lv_sub hl [0, 1] rfl, hw⟩
  · have h25 : j < 20 := Nat.lt_of_not_le (fun q => h25 ((nI_leI (a := 20) (by omega) (by omega)).mpr q))
    refine lv_aload_n hx hb d_PT_init_28 rfl (lv_at hl 1 rfl) ?_
    refine g_get B hw fl_PT_11 (pt_old he1) rfl d_PT_init_29 ?_
    refine lv_iconst (v := 0) hx hb d_PT_init_32 (by decide) ?_
    refine g_gald B hw pt_d (vp_in_nI (n := 0) (by omega) (by omega)) d_PT_init_33 ?_
    refine W.eq (g2 := F0 m 34 ls [.ref (q + 1 + 0)]) rfl ?_
    refine lv_iload_n hx hb d_PT_init_34 rfl (lv_at hl 0 rfl) ?_
    refine lv_iconst (v := 1) hx hb d_PT_init_35 (by decide) ?_
    refine g_iast B hw (pt_r (r := 0) (by omega)) (vp_in_nI h25 (by omega)) d_PT_init_36 (fun H locs hw => ?_)
    rw [nI_clamp (by omega), pt_set (by omega)] at hw
    have hG2 : ∀ i, i < j + 1 → upG G 0 (upd (G 0) j 1) 0 i = mT 0 i := by
      intro i hi
      rw [upG_s, mT_0 i (by omega)]
      by_cases e : i = j
      · subst e; exact pk_us
      · rw [pk_un e, hG i (by omega), mT_0 i (by omega)]
    refine lv_iinc (k := 0) hx hb d_PT_init_37 hl rfl (show nI j + Int32.ofInt 1 = nI (j + 1) from (nI_succ j).symm) (by decide) rfl (fun ls (hl : lv_has ls 2 [(1, .int (nI (j + 1))), (0, .ref _)]) => ?_)
    refine lv_goto (tgt := 22) hx hb d_PT_init_40 rfl ?_
    exact ih (j + 1, upG G 0 (upd (G 0) j 1)) _ _ _ (by show 20 - (j + 1) < 20 - j; omega) ⟨by show j + 1 ≤ 20; omega, hG2, lv_sub hl [0, 1] rfl, hw⟩
