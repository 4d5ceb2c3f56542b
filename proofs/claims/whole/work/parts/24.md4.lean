/-! The reference: restore, and one number a call. -/
theorem le15 {x : Int32} : x ≤ 15 ↔ x < 16 := by
  rw [Int32.le_iff_toInt_le, Int32.lt_iff_toInt_lt, show (15 : Int32).toInt = 15 by decide, show (16 : Int32).toInt = 16 by decide]
  omega
theorem gt15 {x : Int32} : 15 < x ↔ 16 ≤ x := by
  rw [Int32.le_iff_toInt_le, Int32.lt_iff_toInt_lt, show (15 : Int32).toInt = 15 by decide, show (16 : Int32).toInt = 16 by decide]
  omega
set_option maxRecDepth 100000 in
set_option maxHeartbeats 4000000 in
theorem c_MD_restore {l : Launch} {D : va_G} {K : Nat → ClassId} {A : Nat → Prop} {q : Nat → Nat} {kd : Nat → Int32} {f1 f2 : Nat → Int64} {ou nk : Int32} {nf ns hi lo : Int64} {rn : Nat} {sd : Nat → Int32} {ix : Int32} {mm wt cd : Nat → Int32} {sz : Nat → Nat} (h6 : rn ≤ 6) (hs : ∀ r, r < rn → sz r ≤ 6) {x : Int32} : ctI l y_MD_restore prog_6_method_30_code 6 (some .int) 3 0 0 [.ref (q 0), .int x] D K A ((mW K q kd f1 f2 ou nk nf ns hi lo (nI rn) (zN sz) sd ix mm wt cd)) (fun r w => r = rsA kd rn sz sd x ∧ MR K q (rsK kd rn sz sd x) (rs1 kd f1 rn sz sd x) (rs2 kd f2 rn sz sd x) (nI rn) (zN sz) sd ix wt cd w) := by
  refine mt_of (by decide) (Nat.le_of_ble_eq_true rfl) ?_
  intro p e s m below meth c ls B hw hl
  have hx := B.1
  have hb := B.2.1
  have hl : lv_has ls 6 [(0, .ref (q 0)), (1, .int x)] := hl
  refine lv_iload_n hx hb d_MD_restore_0 rfl (lv_at hl 1 rfl) ?_
  refine lv_if_lt (tgt := 12) hx hb d_MD_restore_1 rfl (fun h1 => ?_) (fun h1 => ?_)
  · have hn : rcS rn x = none := if_pos h1
    refine lv_iconst (v := (-1)) hx hb d_MD_restore_12 (by decide) ?_
    exact r_i B hw d_MD_restore_13 ⟨by unfold rsA; rw [onR_n hn], by unfold rsK rs1 rs2; rw [onR_n hn, onR_n hn, onR_n hn]; exact ⟨_, _, _, _, _, _, _, rfl⟩⟩
  · refine lv_iload_n hx hb d_MD_restore_4 rfl (lv_at hl 1 rfl) ?_
    refine lv_aload_n hx hb d_MD_restore_5 rfl (lv_at hl 0 rfl) ?_
    refine g_get B hw fl_MD_123 mw_0 rfl d_MD_restore_6 ?_
    refine lv_icmp_lt (tgt := 14) hx hb d_MD_restore_9 rfl (fun h9 => ?_) (fun h9 => ?_)
    · obtain ⟨r, hr, rfl⟩ := slot_of h1 (by omega) h9
      have hn : rcS rn (nI r) = some r := by unfold rcS; rw [if_neg h1, if_pos h9, nI_clamp (by omega)]
      have hs6 := hs r hr
      refine lv_bipush (v := 6) hx hb d_MD_restore_14 (by decide) ?_
      refine lv_iload_n hx hb d_MD_restore_16 rfl (lv_at hl 1 rfl) ?_
      refine lv_imul hx hb d_MD_restore_17 ?_
      rw [show (6 : Int32) * nI r = nI (6 * r) from pk_mul 6 r]
      refine lv_istore_n hx hb d_MD_restore_18 rfl hl (by decide) rfl (fun ls (hl : lv_has ls 6 [(2, .int _), (0, .ref _), (1, .int _)]) => ?_)
      refine lv_aload_n hx hb d_MD_restore_19 rfl (lv_at hl 1 rfl) ?_
      refine g_get B hw fl_MD_20 mw_0 rfl d_MD_restore_20 ?_
      refine lv_iload_n hx hb d_MD_restore_23 rfl (lv_at hl 2 rfl) ?_
      refine g_iald B hw mw_4 (vp_in_nI (by omega) (by omega)) d_MD_restore_24 ?_
      rw [nI_clamp (by omega), show zN sz r = nI (sz r) from rfl]
      refine lv_if_ne (tgt := 32) hx hb d_MD_restore_25 rfl (fun h25 => ?_) (fun h25 => ?_)
      · have h25 : ¬ sz r = 0 := fun z => h25 (by rw [z]; rfl)
        refine lv_aload_n hx hb d_MD_restore_32 rfl (lv_at hl 1 rfl) ?_
        refine g_get B hw fl_MD_23 mw_0 rfl d_MD_restore_33 ?_
        refine lv_iload_n hx hb d_MD_restore_36 rfl (lv_at hl 0 rfl) ?_
        refine g_iald B hw mw_5 (vp_in_nI (by omega) (by omega)) d_MD_restore_37 ?_
        rw [nI_clamp (by omega)]
        refine g_ldc B kc_MD_129 d_MD_restore_38 ?_
        refine lv_isub hx hb d_MD_restore_40 ?_
        rw [show sd (6 * r) - 24301824 = wkd (wOf sd r) from rfl]
        refine lv_istore_n hx hb d_MD_restore_41 rfl hl (by decide) rfl (fun ls (hl : lv_has ls 6 [(3, .int _), (2, .int _), (0, .ref _), (1, .int _)]) => ?_)
        refine lv_iload_n hx hb d_MD_restore_42 rfl (lv_at hl 0 rfl) ?_
        refine lv_if_lt (tgt := 51) hx hb d_MD_restore_43 rfl (fun h43 => ?_) (fun h43 => ?_)
        · have ef : flt (sz r) (wOf sd r) = -2 := by unfold flt; rw [if_neg h25, if_pos (show isK (wkd (wOf sd r)) = 0 from if_pos h43)]
          have ez : rsC kd (sz r) (wOf sd r) = 0 := if_neg (by rw [ef]; decide)
          refine lv_bipush (v := (-2)) hx hb d_MD_restore_51 (by decide) ?_
          exact r_i B hw d_MD_restore_53 ⟨by unfold rsA; rw [onR_s hn]; (try dsimp only); rw [ez, if_pos rfl, ef], by unfold rsK rs1 rs2; rw [onR_s hn, onR_s hn, onR_s hn]; (try dsimp only); rw [ez, if_neg (by decide), if_neg (by decide), if_neg (by decide)]; exact ⟨_, _, _, _, _, _, _, rfl⟩⟩
        · refine lv_iload_n hx hb d_MD_restore_46 rfl (lv_at hl 0 rfl) ?_
          refine lv_iconst (v := 3) hx hb d_MD_restore_47 (by decide) ?_
          refine lv_icmp_le (tgt := 54) hx hb d_MD_restore_48 rfl (fun h48 => ?_) (fun h48 => ?_)
          · have hK : ¬ isK (wkd (wOf sd r)) = 0 := by unfold isK; rw [if_neg h43, if_neg (Int32.not_lt.mpr h48)]; decide
            have ef : flt (sz r) (wOf sd r) = _ := (if_neg h25).trans (if_neg hK)
            refine lv_aload_n hx hb d_MD_restore_54 rfl (lv_at hl 2 rfl) ?_
            refine g_get B hw fl_MD_20 mw_0 rfl d_MD_restore_55 ?_
            refine lv_iload_n hx hb d_MD_restore_58 rfl (lv_at hl 3 rfl) ?_
            refine g_iald B hw mw_4 (vp_in_nI (by omega) (by omega)) d_MD_restore_59 ?_
            rw [nI_clamp (by omega), show zN sz r = nI (sz r) from rfl]
            refine lv_iload_n hx hb d_MD_restore_60 rfl (lv_at hl 0 rfl) ?_
            refine lv_if_ne (tgt := 69) hx hb d_MD_restore_61 rfl (fun h61 => ?_) (fun h61 => ?_)
            · have v1 : wF1 (wOf sd r) = (sd (6 * r + 1)).toInt64 := by unfold wF1; rw [isFL_0 h61]; rfl
              refine lv_iload_n hx hb d_MD_restore_69 rfl (lv_at hl 0 rfl) ?_
              refine lv_iconst (v := 2) hx hb d_MD_restore_70 (by decide) ?_
              refine lv_icmp_ne (tgt := 78) hx hb d_MD_restore_71 rfl (fun h71 => ?_) (fun h71 => ?_)
              · have hwk : wOK (wkd (wOf sd r)) = 4 := wOK_n h61 h71
                have v2 : wF2 (wOf sd r) = (sd (6 * r + 2)).toInt64 := by unfold wF2; rw [isFL_0 h61, show isSL (wkd (wOf sd r)) = 0 from by unfold isSL; rw [if_neg h61, if_neg h71]]; rfl
                refine lv_iconst (v := 4) hx hb d_MD_restore_78 (by decide) ?_
                refine lv_icmp_eq (tgt := 85) hx hb d_MD_restore_79 rfl (fun h79 => ?_) (fun h79 => ?_)
                · rw [if_pos (by rw [hwk]; exact h79)] at ef
                  have hsz : sz r = 4 := (nI_eq (b := 4) (by omega) (by omega)).mp h79
                  refine lv_aload_n hx hb d_MD_restore_85 rfl (lv_at hl 2 rfl) ?_
                  refine g_get B hw fl_MD_20 mw_0 rfl d_MD_restore_86 ?_
                  refine lv_iload_n hx hb d_MD_restore_89 rfl (lv_at hl 3 rfl) ?_
                  refine g_iald B hw mw_4 (vp_in_nI (by omega) (by omega)) d_MD_restore_90 ?_
                  rw [nI_clamp (by omega), show zN sz r = nI (sz r) from rfl]
                  refine lv_iconst (v := 1) hx hb d_MD_restore_91 (by decide) ?_
                  refine lv_isub hx hb d_MD_restore_92 ?_
                  rw [show nI (sz r) - 1 = nI (sz r - 1) from pk_sub (a := sz r) (b := 1) (by omega)]
                  refine lv_istore hx hb d_MD_restore_93 hl (by decide) rfl (fun ls (hl : lv_has ls 6 [(4, .int _), (3, .int _), (2, .int _), (0, .ref _), (1, .int _)]) => ?_)
                  refine lv_aload_n hx hb d_MD_restore_95 rfl (lv_at hl 3 rfl) ?_
                  refine g_get B hw fl_MD_23 mw_0 rfl d_MD_restore_96 ?_
                  refine lv_iload_n hx hb d_MD_restore_99 rfl (lv_at hl 2 rfl) ?_
                  refine lv_iload hx hb d_MD_restore_100 (lv_at hl 0 rfl) ?_
                  refine lv_iadd hx hb d_MD_restore_102 ?_
                  rw [nI_add]
                  refine g_iald B hw mw_5 (vp_in_nI (by omega) (by omega)) d_MD_restore_103 ?_
                  rw [nI_clamp (by omega), show sd (6 * r + (sz r - 1)) = wOf sd r (sz r - 1) from rfl]
                  refine lv_aload_n hx hb d_MD_restore_104 rfl (lv_at hl 3 rfl) ?_
                  refine lv_iload_n hx hb d_MD_restore_105 rfl (lv_at hl 4 rfl) ?_
                  refine lv_iload hx hb d_MD_restore_106 (lv_at hl 0 rfl) ?_
                  refine k_i (k_runV B hw (c_MD_check (by omega) (by omega)) rfl rfl cf_MD_134 mw_0 rfl rfl ⟨Nat.le_of_ble_eq_true rfl, Nat.le_of_ble_eq_true rfl⟩ rfl hl.1 rfl (Nat.le_of_ble_eq_true rfl) d_MD_restore_108 ⟨Nat.le_of_ble_eq_true rfl, Nat.le_of_ble_eq_true rfl⟩) hw (fun r108 w1 H locs hq hw => ?_)
                  have er := hq.1
                  have ew := hq.2
                  rw [ew] at hw
                  rw [er]
                  refine lv_icmp_eq (tgt := 117) hx hb d_MD_restore_111 rfl (fun h111 => ?_) (fun h111 => ?_)
                  · rw [if_pos h111] at ef
                    refine lv_aload_n hx hb d_MD_restore_117 rfl (lv_at hl 3 rfl) ?_
                    refine lv_iload_n hx hb d_MD_restore_118 rfl (lv_at hl 1 rfl) ?_
                    refine g_put B hw fl_MD_90 ck_MD mw_0 rfl rfl rfl (Nat.le_of_ble_eq_true rfl) d_MD_restore_119 (fun H locs (hw : wd D A (mW K q _ _ _ _ _ _ _ _ _ _ _ _ _ _ _ _) s H locs) => ?_)
                    refine lv_aload_n hx hb d_MD_restore_122 rfl (lv_at hl 3 rfl) ?_
                    refine lv_iload_n hx hb d_MD_restore_123 rfl (lv_at hl 1 rfl) ?_
                    refine lv_if_ne (tgt := 137) hx hb d_MD_restore_124 rfl (fun h124 => ?_) (fun h124 => ?_)
                    · refine lv_aload_n hx hb d_MD_restore_137 rfl (lv_at hl 3 rfl) ?_
                      refine g_get B hw fl_MD_23 mw_0 rfl d_MD_restore_138 ?_
                      refine lv_iload_n hx hb d_MD_restore_141 rfl (lv_at hl 2 rfl) ?_
                      refine lv_iconst (v := 1) hx hb d_MD_restore_142 (by decide) ?_
                      refine lv_iadd hx hb d_MD_restore_143 ?_
                      rw [show nI (6 * r) + 1 = nI (6 * r + 1) from nI_add (6 * r) 1]
                      refine g_iald B hw mw_5 (vp_in_nI (by omega) (by omega)) d_MD_restore_144 ?_
                      rw [nI_clamp (by omega)]
                      refine lv_i2l hx hb d_MD_restore_145 rfl ?_
                      refine g_put B hw fl_MD_84 ck_MD mw_0 rfl rfl rfl (Nat.le_of_ble_eq_true rfl) d_MD_restore_146 (fun H locs (hw : wd D A (mW K q _ _ _ _ _ _ _ _ _ _ _ _ _ _ _ _) s H locs) => ?_)
                      refine lv_aload_n hx hb d_MD_restore_149 rfl (lv_at hl 3 rfl) ?_
                      refine lv_iload_n hx hb d_MD_restore_150 rfl (lv_at hl 1 rfl) ?_
                      refine lv_if_ne (tgt := 164) hx hb d_MD_restore_151 rfl (fun h151 => ?_) (fun h151 => ?_)
                      · refine lv_iload_n hx hb d_MD_restore_164 rfl (lv_at hl 1 rfl) ?_
                        refine lv_iconst (v := 2) hx hb d_MD_restore_165 (by decide) ?_
                        refine lv_icmp_ne (tgt := 179) hx hb d_MD_restore_166 rfl (fun h166 => ?_) (fun h166 => ?_)
                        · refine lv_aload_n hx hb d_MD_restore_179 rfl (lv_at hl 3 rfl) ?_
                          refine g_get B hw fl_MD_23 mw_0 rfl d_MD_restore_180 ?_
                          refine lv_iload_n hx hb d_MD_restore_183 rfl (lv_at hl 2 rfl) ?_
                          refine lv_iconst (v := 2) hx hb d_MD_restore_184 (by decide) ?_
                          refine lv_iadd hx hb d_MD_restore_185 ?_
                          rw [show nI (6 * r) + 2 = nI (6 * r + 2) from nI_add (6 * r) 2]
                          refine g_iald B hw mw_5 (vp_in_nI (by omega) (by omega)) d_MD_restore_186 ?_
                          rw [nI_clamp (by omega)]
                          refine lv_i2l hx hb d_MD_restore_187 rfl ?_
                          refine g_put B hw fl_MD_87 ck_MD mw_0 rfl rfl rfl (Nat.le_of_ble_eq_true rfl) d_MD_restore_188 (fun H locs (hw : wd D A (mW K q _ _ _ _ _ _ _ _ _ _ _ _ _ _ _ _) s H locs) => ?_)
                          refine lv_aload_n hx hb d_MD_restore_191 rfl (lv_at hl 3 rfl) ?_
                          refine k_i (k_runV B hw (c_MD_sound (k3of h43 h48)) rfl rfl cf_MD_101 mw_0 rfl rfl ⟨Nat.le_of_ble_eq_true rfl, Nat.le_of_ble_eq_true rfl⟩ rfl hl.1 rfl (Nat.le_of_ble_eq_true rfl) d_MD_restore_192 ⟨Nat.le_of_ble_eq_true rfl, Nat.le_of_ble_eq_true rfl⟩) hw (fun r192 w1 H locs hq hw => ?_)
                          have er := hq.1
                          have ew := hq.2
                          rw [ew] at hw
                          have er2 : r192 = isSt (wkd (wOf sd r)) (wF1 (wOf sd r)) (wF2 (wOf sd r)) := by rw [er, v1, v2]
                          rw [er2]
                          refine lv_if_ne (tgt := 201) hx hb d_MD_restore_195 rfl (fun h195 => ?_) (fun h195 => ?_)
                          · rw [if_neg h195] at ef
                            have ez : rsC kd (sz r) (wOf sd r) = _ := if_pos ef
                            refine lv_aload_n hx hb d_MD_restore_201 rfl (lv_at hl 3 rfl) ?_
                            refine k_i (k_runV B hw c_MD_freeSlot rfl rfl cf_MD_97 mw_0 rfl rfl ⟨Nat.le_of_ble_eq_true rfl, Nat.le_of_ble_eq_true rfl⟩ rfl hl.1 rfl (Nat.le_of_ble_eq_true rfl) d_MD_restore_202 ⟨Nat.le_of_ble_eq_true rfl, Nat.le_of_ble_eq_true rfl⟩) hw (fun r202 w1 H locs hq hw => ?_)
                            obtain ⟨rfl, ew⟩ := hq
                            rw [ew] at hw
                            refine lv_istore hx hb d_MD_restore_205 hl (by decide) rfl (fun ls (hl : lv_has ls 6 [(5, .int _), (4, .int _), (3, .int _), (2, .int _), (0, .ref _), (1, .int _)]) => ?_)
                            refine lv_iload hx hb d_MD_restore_207 (lv_at hl 0 rfl) ?_
                            refine lv_if_ge (tgt := 217) hx hb d_MD_restore_209 rfl (fun h209 => ?_) (fun h209 => ?_)
                            · obtain ⟨kf, hkf, hkl, hfi, hge⟩ := fr_of h209
                              rw [if_neg hge] at ez
                              refine lv_aload_n hx hb d_MD_restore_217 rfl (lv_at hl 4 rfl) ?_
                              refine lv_iload hx hb d_MD_restore_218 (lv_at hl 0 rfl) ?_
                              rw [hfi]
                              refine k_i (k_runV B hw (c_MD_settle hkf) rfl rfl cf_MD_105 mw_0 rfl rfl ⟨Nat.le_of_ble_eq_true rfl, Nat.le_of_ble_eq_true rfl⟩ rfl hl.1 rfl (Nat.le_of_ble_eq_true rfl) d_MD_restore_220 ⟨Nat.le_of_ble_eq_true rfl, Nat.le_of_ble_eq_true rfl⟩) hw (fun r220 w1 H locs hq hw => ?_)
                              obtain ⟨rfl, ew⟩ := hq
                              rw [ew] at hw
                              exact r_i B hw d_MD_restore_223 ⟨by unfold rsA; rw [onR_s hn]; (try dsimp only); rw [ez, if_neg (by decide), if_neg (by decide)]; exact hfi.symm, by unfold rsK rs1 rs2; rw [onR_s hn, onR_s hn, onR_s hn]; (try dsimp only); rw [ez, if_pos rfl, if_pos rfl, if_pos rfl, hfi, nI_clamp (by omega), v1, v2]; exact ⟨_, _, _, _, _, _, _, rfl⟩⟩
                            · rw [if_pos (fr_no h209)] at ez
                              refine lv_bipush (v := (-6)) hx hb d_MD_restore_212 (by decide) ?_
                              refine lv_goto (tgt := 223) hx hb d_MD_restore_214 rfl ?_
                              exact r_i B hw d_MD_restore_223 ⟨by unfold rsA; rw [onR_s hn]; (try dsimp only); rw [ez, if_neg (by decide), if_pos rfl], by unfold rsK rs1 rs2; rw [onR_s hn, onR_s hn, onR_s hn]; (try dsimp only); rw [ez, if_neg (by decide), if_neg (by decide), if_neg (by decide)]; exact ⟨_, _, _, _, _, _, _, rfl⟩⟩
                          · rw [if_pos h195] at ef
                            have ez : rsC kd (sz r) (wOf sd r) = 0 := if_neg (by rw [ef]; decide)
                            refine lv_bipush (v := (-5)) hx hb d_MD_restore_198 (by decide) ?_
                            exact r_i B hw d_MD_restore_200 ⟨by unfold rsA; rw [onR_s hn]; (try dsimp only); rw [ez, if_pos rfl, ef], by unfold rsK rs1 rs2; rw [onR_s hn, onR_s hn, onR_s hn]; (try dsimp only); rw [ez, if_neg (by decide), if_neg (by decide), if_neg (by decide)]; exact ⟨_, _, _, _, _, _, _, rfl⟩⟩
                        · exact absurd h166 h71
                      · exact absurd h151 h61
                    · exact absurd h124 h61
                  · rw [if_neg h111] at ef
                    have ez : rsC kd (sz r) (wOf sd r) = 0 := if_neg (by rw [ef]; decide)
                    refine lv_bipush (v := (-4)) hx hb d_MD_restore_114 (by decide) ?_
                    exact r_i B hw d_MD_restore_116 ⟨by unfold rsA; rw [onR_s hn]; (try dsimp only); rw [ez, if_pos rfl, ef], by unfold rsK rs1 rs2; rw [onR_s hn, onR_s hn, onR_s hn]; (try dsimp only); rw [ez, if_neg (by decide), if_neg (by decide), if_neg (by decide)]; exact ⟨_, _, _, _, _, _, _, rfl⟩⟩
                · rw [if_neg (by rw [hwk]; exact h79)] at ef
                  have ez : rsC kd (sz r) (wOf sd r) = 0 := if_neg (by rw [ef]; decide)
                  refine lv_bipush (v := (-3)) hx hb d_MD_restore_82 (by decide) ?_
                  exact r_i B hw d_MD_restore_84 ⟨by unfold rsA; rw [onR_s hn]; (try dsimp only); rw [ez, if_pos rfl, ef], by unfold rsK rs1 rs2; rw [onR_s hn, onR_s hn, onR_s hn]; (try dsimp only); rw [ez, if_neg (by decide), if_neg (by decide), if_neg (by decide)]; exact ⟨_, _, _, _, _, _, _, rfl⟩⟩
              · have hwk : wOK (wkd (wOf sd r)) = 5 := by rw [h71]; exact wOK_2
                have v2 : wF2 (wOf sd r) = jnd (sd (6 * r + 2)) (sd (6 * r + 2 + 1)) := by unfold wF2; rw [isFL_0 h61, show isSL (wkd (wOf sd r)) = 1 from by unfold isSL; rw [if_neg h61, if_pos h71]]; rfl
                refine lv_iconst (v := 5) hx hb d_MD_restore_74 (by decide) ?_
                refine lv_goto (tgt := 79) hx hb d_MD_restore_75 rfl ?_
                refine lv_icmp_eq (tgt := 85) hx hb d_MD_restore_79 rfl (fun h79 => ?_) (fun h79 => ?_)
                · rw [if_pos (by rw [hwk]; exact h79)] at ef
                  have hsz : sz r = 5 := (nI_eq (b := 5) (by omega) (by omega)).mp h79
                  refine lv_aload_n hx hb d_MD_restore_85 rfl (lv_at hl 2 rfl) ?_
                  refine g_get B hw fl_MD_20 mw_0 rfl d_MD_restore_86 ?_
                  refine lv_iload_n hx hb d_MD_restore_89 rfl (lv_at hl 3 rfl) ?_
                  refine g_iald B hw mw_4 (vp_in_nI (by omega) (by omega)) d_MD_restore_90 ?_
                  rw [nI_clamp (by omega), show zN sz r = nI (sz r) from rfl]
                  refine lv_iconst (v := 1) hx hb d_MD_restore_91 (by decide) ?_
                  refine lv_isub hx hb d_MD_restore_92 ?_
                  rw [show nI (sz r) - 1 = nI (sz r - 1) from pk_sub (a := sz r) (b := 1) (by omega)]
                  refine lv_istore hx hb d_MD_restore_93 hl (by decide) rfl (fun ls (hl : lv_has ls 6 [(4, .int _), (3, .int _), (2, .int _), (0, .ref _), (1, .int _)]) => ?_)
                  refine lv_aload_n hx hb d_MD_restore_95 rfl (lv_at hl 3 rfl) ?_
                  refine g_get B hw fl_MD_23 mw_0 rfl d_MD_restore_96 ?_
                  refine lv_iload_n hx hb d_MD_restore_99 rfl (lv_at hl 2 rfl) ?_
                  refine lv_iload hx hb d_MD_restore_100 (lv_at hl 0 rfl) ?_
                  refine lv_iadd hx hb d_MD_restore_102 ?_
                  rw [nI_add]
                  refine g_iald B hw mw_5 (vp_in_nI (by omega) (by omega)) d_MD_restore_103 ?_
                  rw [nI_clamp (by omega), show sd (6 * r + (sz r - 1)) = wOf sd r (sz r - 1) from rfl]
                  refine lv_aload_n hx hb d_MD_restore_104 rfl (lv_at hl 3 rfl) ?_
                  refine lv_iload_n hx hb d_MD_restore_105 rfl (lv_at hl 4 rfl) ?_
                  refine lv_iload hx hb d_MD_restore_106 (lv_at hl 0 rfl) ?_
                  refine k_i (k_runV B hw (c_MD_check (by omega) (by omega)) rfl rfl cf_MD_134 mw_0 rfl rfl ⟨Nat.le_of_ble_eq_true rfl, Nat.le_of_ble_eq_true rfl⟩ rfl hl.1 rfl (Nat.le_of_ble_eq_true rfl) d_MD_restore_108 ⟨Nat.le_of_ble_eq_true rfl, Nat.le_of_ble_eq_true rfl⟩) hw (fun r108 w1 H locs hq hw => ?_)
                  have er := hq.1
                  have ew := hq.2
                  rw [ew] at hw
                  rw [er]
                  refine lv_icmp_eq (tgt := 117) hx hb d_MD_restore_111 rfl (fun h111 => ?_) (fun h111 => ?_)
                  · rw [if_pos h111] at ef
                    refine lv_aload_n hx hb d_MD_restore_117 rfl (lv_at hl 3 rfl) ?_
                    refine lv_iload_n hx hb d_MD_restore_118 rfl (lv_at hl 1 rfl) ?_
                    refine g_put B hw fl_MD_90 ck_MD mw_0 rfl rfl rfl (Nat.le_of_ble_eq_true rfl) d_MD_restore_119 (fun H locs (hw : wd D A (mW K q _ _ _ _ _ _ _ _ _ _ _ _ _ _ _ _) s H locs) => ?_)
                    refine lv_aload_n hx hb d_MD_restore_122 rfl (lv_at hl 3 rfl) ?_
                    refine lv_iload_n hx hb d_MD_restore_123 rfl (lv_at hl 1 rfl) ?_
                    refine lv_if_ne (tgt := 137) hx hb d_MD_restore_124 rfl (fun h124 => ?_) (fun h124 => ?_)
                    · refine lv_aload_n hx hb d_MD_restore_137 rfl (lv_at hl 3 rfl) ?_
                      refine g_get B hw fl_MD_23 mw_0 rfl d_MD_restore_138 ?_
                      refine lv_iload_n hx hb d_MD_restore_141 rfl (lv_at hl 2 rfl) ?_
                      refine lv_iconst (v := 1) hx hb d_MD_restore_142 (by decide) ?_
                      refine lv_iadd hx hb d_MD_restore_143 ?_
                      rw [show nI (6 * r) + 1 = nI (6 * r + 1) from nI_add (6 * r) 1]
                      refine g_iald B hw mw_5 (vp_in_nI (by omega) (by omega)) d_MD_restore_144 ?_
                      rw [nI_clamp (by omega)]
                      refine lv_i2l hx hb d_MD_restore_145 rfl ?_
                      refine g_put B hw fl_MD_84 ck_MD mw_0 rfl rfl rfl (Nat.le_of_ble_eq_true rfl) d_MD_restore_146 (fun H locs (hw : wd D A (mW K q _ _ _ _ _ _ _ _ _ _ _ _ _ _ _ _) s H locs) => ?_)
                      refine lv_aload_n hx hb d_MD_restore_149 rfl (lv_at hl 3 rfl) ?_
                      refine lv_iload_n hx hb d_MD_restore_150 rfl (lv_at hl 1 rfl) ?_
                      refine lv_if_ne (tgt := 164) hx hb d_MD_restore_151 rfl (fun h151 => ?_) (fun h151 => ?_)
                      · refine lv_iload_n hx hb d_MD_restore_164 rfl (lv_at hl 1 rfl) ?_
                        refine lv_iconst (v := 2) hx hb d_MD_restore_165 (by decide) ?_
                        refine lv_icmp_ne (tgt := 179) hx hb d_MD_restore_166 rfl (fun h166 => ?_) (fun h166 => ?_)
                        · exact absurd h71 h166
                        · refine lv_aload_n hx hb d_MD_restore_169 rfl (lv_at hl 3 rfl) ?_
                          refine lv_iload_n hx hb d_MD_restore_170 rfl (lv_at hl 2 rfl) ?_
                          refine lv_iconst (v := 2) hx hb d_MD_restore_171 (by decide) ?_
                          refine lv_iadd hx hb d_MD_restore_172 ?_
                          rw [show nI (6 * r) + 2 = nI (6 * r + 2) from nI_add (6 * r) 2]
                          refine k_l (k_runV B hw (c_MD_twoWords (a := 6 * r + 2) (by omega)) rfl rfl cf_MD_141 mw_0 rfl rfl ⟨Nat.le_of_ble_eq_true rfl, Nat.le_of_ble_eq_true rfl⟩ rfl hl.1 rfl (Nat.le_of_ble_eq_true rfl) d_MD_restore_173 ⟨Nat.le_of_ble_eq_true rfl, Nat.le_of_ble_eq_true rfl⟩) hw (fun r173 w1 H locs hq hw => ?_)
                          obtain ⟨rfl, ew⟩ := hq
                          rw [ew] at hw
                          refine lv_goto (tgt := 188) hx hb d_MD_restore_176 rfl ?_
                          refine g_put B hw fl_MD_87 ck_MD mw_0 rfl rfl rfl (Nat.le_of_ble_eq_true rfl) d_MD_restore_188 (fun H locs (hw : wd D A (mW K q _ _ _ _ _ _ _ _ _ _ _ _ _ _ _ _) s H locs) => ?_)
                          refine lv_aload_n hx hb d_MD_restore_191 rfl (lv_at hl 3 rfl) ?_
                          refine k_i (k_runV B hw (c_MD_sound (k3of h43 h48)) rfl rfl cf_MD_101 mw_0 rfl rfl ⟨Nat.le_of_ble_eq_true rfl, Nat.le_of_ble_eq_true rfl⟩ rfl hl.1 rfl (Nat.le_of_ble_eq_true rfl) d_MD_restore_192 ⟨Nat.le_of_ble_eq_true rfl, Nat.le_of_ble_eq_true rfl⟩) hw (fun r192 w1 H locs hq hw => ?_)
                          have er := hq.1
                          have ew := hq.2
                          rw [ew] at hw
                          have er2 : r192 = isSt (wkd (wOf sd r)) (wF1 (wOf sd r)) (wF2 (wOf sd r)) := by rw [er, v1, v2]
                          rw [er2]
                          refine lv_if_ne (tgt := 201) hx hb d_MD_restore_195 rfl (fun h195 => ?_) (fun h195 => ?_)
                          · rw [if_neg h195] at ef
                            have ez : rsC kd (sz r) (wOf sd r) = _ := if_pos ef
                            refine lv_aload_n hx hb d_MD_restore_201 rfl (lv_at hl 3 rfl) ?_
                            refine k_i (k_runV B hw c_MD_freeSlot rfl rfl cf_MD_97 mw_0 rfl rfl ⟨Nat.le_of_ble_eq_true rfl, Nat.le_of_ble_eq_true rfl⟩ rfl hl.1 rfl (Nat.le_of_ble_eq_true rfl) d_MD_restore_202 ⟨Nat.le_of_ble_eq_true rfl, Nat.le_of_ble_eq_true rfl⟩) hw (fun r202 w1 H locs hq hw => ?_)
                            obtain ⟨rfl, ew⟩ := hq
                            rw [ew] at hw
                            refine lv_istore hx hb d_MD_restore_205 hl (by decide) rfl (fun ls (hl : lv_has ls 6 [(5, .int _), (4, .int _), (3, .int _), (2, .int _), (0, .ref _), (1, .int _)]) => ?_)
                            refine lv_iload hx hb d_MD_restore_207 (lv_at hl 0 rfl) ?_
                            refine lv_if_ge (tgt := 217) hx hb d_MD_restore_209 rfl (fun h209 => ?_) (fun h209 => ?_)
                            · obtain ⟨kf, hkf, hkl, hfi, hge⟩ := fr_of h209
                              rw [if_neg hge] at ez
                              refine lv_aload_n hx hb d_MD_restore_217 rfl (lv_at hl 4 rfl) ?_
                              refine lv_iload hx hb d_MD_restore_218 (lv_at hl 0 rfl) ?_
                              rw [hfi]
                              refine k_i (k_runV B hw (c_MD_settle hkf) rfl rfl cf_MD_105 mw_0 rfl rfl ⟨Nat.le_of_ble_eq_true rfl, Nat.le_of_ble_eq_true rfl⟩ rfl hl.1 rfl (Nat.le_of_ble_eq_true rfl) d_MD_restore_220 ⟨Nat.le_of_ble_eq_true rfl, Nat.le_of_ble_eq_true rfl⟩) hw (fun r220 w1 H locs hq hw => ?_)
                              obtain ⟨rfl, ew⟩ := hq
                              rw [ew] at hw
                              exact r_i B hw d_MD_restore_223 ⟨by unfold rsA; rw [onR_s hn]; (try dsimp only); rw [ez, if_neg (by decide), if_neg (by decide)]; exact hfi.symm, by unfold rsK rs1 rs2; rw [onR_s hn, onR_s hn, onR_s hn]; (try dsimp only); rw [ez, if_pos rfl, if_pos rfl, if_pos rfl, hfi, nI_clamp (by omega), v1, v2]; exact ⟨_, _, _, _, _, _, _, rfl⟩⟩
                            · rw [if_pos (fr_no h209)] at ez
                              refine lv_bipush (v := (-6)) hx hb d_MD_restore_212 (by decide) ?_
                              refine lv_goto (tgt := 223) hx hb d_MD_restore_214 rfl ?_
                              exact r_i B hw d_MD_restore_223 ⟨by unfold rsA; rw [onR_s hn]; (try dsimp only); rw [ez, if_neg (by decide), if_pos rfl], by unfold rsK rs1 rs2; rw [onR_s hn, onR_s hn, onR_s hn]; (try dsimp only); rw [ez, if_neg (by decide), if_neg (by decide), if_neg (by decide)]; exact ⟨_, _, _, _, _, _, _, rfl⟩⟩
                          · rw [if_pos h195] at ef
                            have ez : rsC kd (sz r) (wOf sd r) = 0 := if_neg (by rw [ef]; decide)
                            refine lv_bipush (v := (-5)) hx hb d_MD_restore_198 (by decide) ?_
                            exact r_i B hw d_MD_restore_200 ⟨by unfold rsA; rw [onR_s hn]; (try dsimp only); rw [ez, if_pos rfl, ef], by unfold rsK rs1 rs2; rw [onR_s hn, onR_s hn, onR_s hn]; (try dsimp only); rw [ez, if_neg (by decide), if_neg (by decide), if_neg (by decide)]; exact ⟨_, _, _, _, _, _, _, rfl⟩⟩
                      · exact absurd h151 h61
                    · exact absurd h124 h61
                  · rw [if_neg h111] at ef
                    have ez : rsC kd (sz r) (wOf sd r) = 0 := if_neg (by rw [ef]; decide)
                    refine lv_bipush (v := (-4)) hx hb d_MD_restore_114 (by decide) ?_
                    exact r_i B hw d_MD_restore_116 ⟨by unfold rsA; rw [onR_s hn]; (try dsimp only); rw [ez, if_pos rfl, ef], by unfold rsK rs1 rs2; rw [onR_s hn, onR_s hn, onR_s hn]; (try dsimp only); rw [ez, if_neg (by decide), if_neg (by decide), if_neg (by decide)]; exact ⟨_, _, _, _, _, _, _, rfl⟩⟩
                · rw [if_neg (by rw [hwk]; exact h79)] at ef
                  have ez : rsC kd (sz r) (wOf sd r) = 0 := if_neg (by rw [ef]; decide)
                  refine lv_bipush (v := (-3)) hx hb d_MD_restore_82 (by decide) ?_
                  exact r_i B hw d_MD_restore_84 ⟨by unfold rsA; rw [onR_s hn]; (try dsimp only); rw [ez, if_pos rfl, ef], by unfold rsK rs1 rs2; rw [onR_s hn, onR_s hn, onR_s hn]; (try dsimp only); rw [ez, if_neg (by decide), if_neg (by decide), if_neg (by decide)]; exact ⟨_, _, _, _, _, _, _, rfl⟩⟩
            · have hwk : wOK (wkd (wOf sd r)) = 6 := by rw [h61]; exact wOK_0
              have v1 : wF1 (wOf sd r) = jnd (sd (6 * r + 1)) (sd (6 * r + 1 + 1)) := by unfold wF1; rw [isFL_1 h61]; rfl
              have v2 : wF2 (wOf sd r) = jnd (sd (6 * r + 3)) (sd (6 * r + 3 + 1)) := by unfold wF2; rw [isFL_1 h61, show isSL (wkd (wOf sd r)) = 1 from if_pos h61]; rfl
              have hnn : (6 : Int32) = nI 6 := rfl
              refine lv_bipush (v := 6) hx hb d_MD_restore_64 (by decide) ?_
              refine lv_goto (tgt := 79) hx hb d_MD_restore_66 rfl ?_
              refine lv_icmp_eq (tgt := 85) hx hb d_MD_restore_79 rfl (fun h79 => ?_) (fun h79 => ?_)
              · rw [if_pos (by rw [hwk]; exact h79)] at ef
                have hsz : sz r = 6 := (nI_eq (b := 6) (by omega) (by omega)).mp h79
                refine lv_aload_n hx hb d_MD_restore_85 rfl (lv_at hl 2 rfl) ?_
                refine g_get B hw fl_MD_20 mw_0 rfl d_MD_restore_86 ?_
                refine lv_iload_n hx hb d_MD_restore_89 rfl (lv_at hl 3 rfl) ?_
                refine g_iald B hw mw_4 (vp_in_nI (by omega) (by omega)) d_MD_restore_90 ?_
                rw [nI_clamp (by omega), show zN sz r = nI (sz r) from rfl]
                refine lv_iconst (v := 1) hx hb d_MD_restore_91 (by decide) ?_
                refine lv_isub hx hb d_MD_restore_92 ?_
                rw [show nI (sz r) - 1 = nI (sz r - 1) from pk_sub (a := sz r) (b := 1) (by omega)]
                refine lv_istore hx hb d_MD_restore_93 hl (by decide) rfl (fun ls (hl : lv_has ls 6 [(4, .int _), (3, .int _), (2, .int _), (0, .ref _), (1, .int _)]) => ?_)
                refine lv_aload_n hx hb d_MD_restore_95 rfl (lv_at hl 3 rfl) ?_
                refine g_get B hw fl_MD_23 mw_0 rfl d_MD_restore_96 ?_
                refine lv_iload_n hx hb d_MD_restore_99 rfl (lv_at hl 2 rfl) ?_
                refine lv_iload hx hb d_MD_restore_100 (lv_at hl 0 rfl) ?_
                refine lv_iadd hx hb d_MD_restore_102 ?_
                rw [nI_add]
                refine g_iald B hw mw_5 (vp_in_nI (by omega) (by omega)) d_MD_restore_103 ?_
                rw [nI_clamp (by omega), show sd (6 * r + (sz r - 1)) = wOf sd r (sz r - 1) from rfl]
                refine lv_aload_n hx hb d_MD_restore_104 rfl (lv_at hl 3 rfl) ?_
                refine lv_iload_n hx hb d_MD_restore_105 rfl (lv_at hl 4 rfl) ?_
                refine lv_iload hx hb d_MD_restore_106 (lv_at hl 0 rfl) ?_
                refine k_i (k_runV B hw (c_MD_check (by omega) (by omega)) rfl rfl cf_MD_134 mw_0 rfl rfl ⟨Nat.le_of_ble_eq_true rfl, Nat.le_of_ble_eq_true rfl⟩ rfl hl.1 rfl (Nat.le_of_ble_eq_true rfl) d_MD_restore_108 ⟨Nat.le_of_ble_eq_true rfl, Nat.le_of_ble_eq_true rfl⟩) hw (fun r108 w1 H locs hq hw => ?_)
                have er := hq.1
                have ew := hq.2
                rw [ew] at hw
                rw [er]
                refine lv_icmp_eq (tgt := 117) hx hb d_MD_restore_111 rfl (fun h111 => ?_) (fun h111 => ?_)
                · rw [if_pos h111] at ef
                  refine lv_aload_n hx hb d_MD_restore_117 rfl (lv_at hl 3 rfl) ?_
                  refine lv_iload_n hx hb d_MD_restore_118 rfl (lv_at hl 1 rfl) ?_
                  refine g_put B hw fl_MD_90 ck_MD mw_0 rfl rfl rfl (Nat.le_of_ble_eq_true rfl) d_MD_restore_119 (fun H locs (hw : wd D A (mW K q _ _ _ _ _ _ _ _ _ _ _ _ _ _ _ _) s H locs) => ?_)
                  refine lv_aload_n hx hb d_MD_restore_122 rfl (lv_at hl 3 rfl) ?_
                  refine lv_iload_n hx hb d_MD_restore_123 rfl (lv_at hl 1 rfl) ?_
                  refine lv_if_ne (tgt := 137) hx hb d_MD_restore_124 rfl (fun h124 => ?_) (fun h124 => ?_)
                  · exact absurd h61 h124
                  · refine lv_aload_n hx hb d_MD_restore_127 rfl (lv_at hl 3 rfl) ?_
                    refine lv_iload_n hx hb d_MD_restore_128 rfl (lv_at hl 2 rfl) ?_
                    refine lv_iconst (v := 1) hx hb d_MD_restore_129 (by decide) ?_
                    refine lv_iadd hx hb d_MD_restore_130 ?_
                    rw [show nI (6 * r) + 1 = nI (6 * r + 1) from nI_add (6 * r) 1]
                    refine k_l (k_runV B hw (c_MD_twoWords (a := 6 * r + 1) (by omega)) rfl rfl cf_MD_141 mw_0 rfl rfl ⟨Nat.le_of_ble_eq_true rfl, Nat.le_of_ble_eq_true rfl⟩ rfl hl.1 rfl (Nat.le_of_ble_eq_true rfl) d_MD_restore_131 ⟨Nat.le_of_ble_eq_true rfl, Nat.le_of_ble_eq_true rfl⟩) hw (fun r131 w1 H locs hq hw => ?_)
                    obtain ⟨rfl, ew⟩ := hq
                    rw [ew] at hw
                    refine lv_goto (tgt := 146) hx hb d_MD_restore_134 rfl ?_
                    refine g_put B hw fl_MD_84 ck_MD mw_0 rfl rfl rfl (Nat.le_of_ble_eq_true rfl) d_MD_restore_146 (fun H locs (hw : wd D A (mW K q _ _ _ _ _ _ _ _ _ _ _ _ _ _ _ _) s H locs) => ?_)
                    refine lv_aload_n hx hb d_MD_restore_149 rfl (lv_at hl 3 rfl) ?_
                    refine lv_iload_n hx hb d_MD_restore_150 rfl (lv_at hl 1 rfl) ?_
                    refine lv_if_ne (tgt := 164) hx hb d_MD_restore_151 rfl (fun h151 => ?_) (fun h151 => ?_)
                    · exact absurd h61 h151
                    · refine lv_aload_n hx hb d_MD_restore_154 rfl (lv_at hl 3 rfl) ?_
                      refine lv_iload_n hx hb d_MD_restore_155 rfl (lv_at hl 2 rfl) ?_
                      refine lv_iconst (v := 3) hx hb d_MD_restore_156 (by decide) ?_
                      refine lv_iadd hx hb d_MD_restore_157 ?_
                      rw [show nI (6 * r) + 3 = nI (6 * r + 3) from nI_add (6 * r) 3]
                      refine k_l (k_runV B hw (c_MD_twoWords (a := 6 * r + 3) (by omega)) rfl rfl cf_MD_141 mw_0 rfl rfl ⟨Nat.le_of_ble_eq_true rfl, Nat.le_of_ble_eq_true rfl⟩ rfl hl.1 rfl (Nat.le_of_ble_eq_true rfl) d_MD_restore_158 ⟨Nat.le_of_ble_eq_true rfl, Nat.le_of_ble_eq_true rfl⟩) hw (fun r158 w1 H locs hq hw => ?_)
                      obtain ⟨rfl, ew⟩ := hq
                      rw [ew] at hw
                      refine lv_goto (tgt := 188) hx hb d_MD_restore_161 rfl ?_
                      refine g_put B hw fl_MD_87 ck_MD mw_0 rfl rfl rfl (Nat.le_of_ble_eq_true rfl) d_MD_restore_188 (fun H locs (hw : wd D A (mW K q _ _ _ _ _ _ _ _ _ _ _ _ _ _ _ _) s H locs) => ?_)
                      refine lv_aload_n hx hb d_MD_restore_191 rfl (lv_at hl 3 rfl) ?_
                      refine k_i (k_runV B hw (c_MD_sound (k3of h43 h48)) rfl rfl cf_MD_101 mw_0 rfl rfl ⟨Nat.le_of_ble_eq_true rfl, Nat.le_of_ble_eq_true rfl⟩ rfl hl.1 rfl (Nat.le_of_ble_eq_true rfl) d_MD_restore_192 ⟨Nat.le_of_ble_eq_true rfl, Nat.le_of_ble_eq_true rfl⟩) hw (fun r192 w1 H locs hq hw => ?_)
                      have er := hq.1
                      have ew := hq.2
                      rw [ew] at hw
                      have er2 : r192 = isSt (wkd (wOf sd r)) (wF1 (wOf sd r)) (wF2 (wOf sd r)) := by rw [er, v1, v2]
                      rw [er2]
                      refine lv_if_ne (tgt := 201) hx hb d_MD_restore_195 rfl (fun h195 => ?_) (fun h195 => ?_)
                      · rw [if_neg h195] at ef
                        have ez : rsC kd (sz r) (wOf sd r) = _ := if_pos ef
                        refine lv_aload_n hx hb d_MD_restore_201 rfl (lv_at hl 3 rfl) ?_
                        refine k_i (k_runV B hw c_MD_freeSlot rfl rfl cf_MD_97 mw_0 rfl rfl ⟨Nat.le_of_ble_eq_true rfl, Nat.le_of_ble_eq_true rfl⟩ rfl hl.1 rfl (Nat.le_of_ble_eq_true rfl) d_MD_restore_202 ⟨Nat.le_of_ble_eq_true rfl, Nat.le_of_ble_eq_true rfl⟩) hw (fun r202 w1 H locs hq hw => ?_)
                        obtain ⟨rfl, ew⟩ := hq
                        rw [ew] at hw
                        refine lv_istore hx hb d_MD_restore_205 hl (by decide) rfl (fun ls (hl : lv_has ls 6 [(5, .int _), (4, .int _), (3, .int _), (2, .int _), (0, .ref _), (1, .int _)]) => ?_)
                        refine lv_iload hx hb d_MD_restore_207 (lv_at hl 0 rfl) ?_
                        refine lv_if_ge (tgt := 217) hx hb d_MD_restore_209 rfl (fun h209 => ?_) (fun h209 => ?_)
                        · obtain ⟨kf, hkf, hkl, hfi, hge⟩ := fr_of h209
                          rw [if_neg hge] at ez
                          refine lv_aload_n hx hb d_MD_restore_217 rfl (lv_at hl 4 rfl) ?_
                          refine lv_iload hx hb d_MD_restore_218 (lv_at hl 0 rfl) ?_
                          rw [hfi]
                          refine k_i (k_runV B hw (c_MD_settle hkf) rfl rfl cf_MD_105 mw_0 rfl rfl ⟨Nat.le_of_ble_eq_true rfl, Nat.le_of_ble_eq_true rfl⟩ rfl hl.1 rfl (Nat.le_of_ble_eq_true rfl) d_MD_restore_220 ⟨Nat.le_of_ble_eq_true rfl, Nat.le_of_ble_eq_true rfl⟩) hw (fun r220 w1 H locs hq hw => ?_)
                          obtain ⟨rfl, ew⟩ := hq
                          rw [ew] at hw
                          exact r_i B hw d_MD_restore_223 ⟨by unfold rsA; rw [onR_s hn]; (try dsimp only); rw [ez, if_neg (by decide), if_neg (by decide)]; exact hfi.symm, by unfold rsK rs1 rs2; rw [onR_s hn, onR_s hn, onR_s hn]; (try dsimp only); rw [ez, if_pos rfl, if_pos rfl, if_pos rfl, hfi, nI_clamp (by omega), v1, v2]; exact ⟨_, _, _, _, _, _, _, rfl⟩⟩
                        · rw [if_pos (fr_no h209)] at ez
                          refine lv_bipush (v := (-6)) hx hb d_MD_restore_212 (by decide) ?_
                          refine lv_goto (tgt := 223) hx hb d_MD_restore_214 rfl ?_
                          exact r_i B hw d_MD_restore_223 ⟨by unfold rsA; rw [onR_s hn]; (try dsimp only); rw [ez, if_neg (by decide), if_pos rfl], by unfold rsK rs1 rs2; rw [onR_s hn, onR_s hn, onR_s hn]; (try dsimp only); rw [ez, if_neg (by decide), if_neg (by decide), if_neg (by decide)]; exact ⟨_, _, _, _, _, _, _, rfl⟩⟩
                      · rw [if_pos h195] at ef
                        have ez : rsC kd (sz r) (wOf sd r) = 0 := if_neg (by rw [ef]; decide)
                        refine lv_bipush (v := (-5)) hx hb d_MD_restore_198 (by decide) ?_
                        exact r_i B hw d_MD_restore_200 ⟨by unfold rsA; rw [onR_s hn]; (try dsimp only); rw [ez, if_pos rfl, ef], by unfold rsK rs1 rs2; rw [onR_s hn, onR_s hn, onR_s hn]; (try dsimp only); rw [ez, if_neg (by decide), if_neg (by decide), if_neg (by decide)]; exact ⟨_, _, _, _, _, _, _, rfl⟩⟩
                · rw [if_neg h111] at ef
                  have ez : rsC kd (sz r) (wOf sd r) = 0 := if_neg (by rw [ef]; decide)
                  refine lv_bipush (v := (-4)) hx hb d_MD_restore_114 (by decide) ?_
                  exact r_i B hw d_MD_restore_116 ⟨by unfold rsA; rw [onR_s hn]; (try dsimp only); rw [ez, if_pos rfl, ef], by unfold rsK rs1 rs2; rw [onR_s hn, onR_s hn, onR_s hn]; (try dsimp only); rw [ez, if_neg (by decide), if_neg (by decide), if_neg (by decide)]; exact ⟨_, _, _, _, _, _, _, rfl⟩⟩
              · rw [if_neg (by rw [hwk]; exact h79)] at ef
                have ez : rsC kd (sz r) (wOf sd r) = 0 := if_neg (by rw [ef]; decide)
                refine lv_bipush (v := (-3)) hx hb d_MD_restore_82 (by decide) ?_
                exact r_i B hw d_MD_restore_84 ⟨by unfold rsA; rw [onR_s hn]; (try dsimp only); rw [ez, if_pos rfl, ef], by unfold rsK rs1 rs2; rw [onR_s hn, onR_s hn, onR_s hn]; (try dsimp only); rw [ez, if_neg (by decide), if_neg (by decide), if_neg (by decide)]; exact ⟨_, _, _, _, _, _, _, rfl⟩⟩
          · have ef : flt (sz r) (wOf sd r) = -2 := by unfold flt; rw [if_neg h25, if_pos (by unfold isK; rw [if_neg h43, if_pos (Int32.not_le.mp h48)])]
            have ez : rsC kd (sz r) (wOf sd r) = 0 := if_neg (by rw [ef]; decide)
            refine lv_bipush (v := (-2)) hx hb d_MD_restore_51 (by decide) ?_
            exact r_i B hw d_MD_restore_53 ⟨by unfold rsA; rw [onR_s hn]; (try dsimp only); rw [ez, if_pos rfl, ef], by unfold rsK rs1 rs2; rw [onR_s hn, onR_s hn, onR_s hn]; (try dsimp only); rw [ez, if_neg (by decide), if_neg (by decide), if_neg (by decide)]; exact ⟨_, _, _, _, _, _, _, rfl⟩⟩
      · have h25 : sz r = 0 := (nI_eq (b := 0) (by omega) (by omega)).mp h25
        have ef : flt (sz r) (wOf sd r) = -2 := if_pos h25
        have ez : rsC kd (sz r) (wOf sd r) = 0 := if_neg (by rw [ef]; decide)
        refine lv_iconst (v := (-1)) hx hb d_MD_restore_28 (by decide) ?_
        refine lv_goto (tgt := 41) hx hb d_MD_restore_29 rfl ?_
        refine lv_istore_n hx hb d_MD_restore_41 rfl hl (by decide) rfl (fun ls (hl : lv_has ls 6 [(3, .int _), (2, .int _), (0, .ref _), (1, .int _)]) => ?_)
        refine lv_iload_n hx hb d_MD_restore_42 rfl (lv_at hl 0 rfl) ?_
        refine lv_if_lt (tgt := 51) hx hb d_MD_restore_43 rfl (fun h43 => ?_) (fun h43 => ?_)
        · refine lv_bipush (v := (-2)) hx hb d_MD_restore_51 (by decide) ?_
          exact r_i B hw d_MD_restore_53 ⟨by unfold rsA; rw [onR_s hn]; (try dsimp only); rw [ez, if_pos rfl, ef], by unfold rsK rs1 rs2; rw [onR_s hn, onR_s hn, onR_s hn]; (try dsimp only); rw [ez, if_neg (by decide), if_neg (by decide), if_neg (by decide)]; exact ⟨_, _, _, _, _, _, _, rfl⟩⟩
        · exact absurd (by decide) h43
    · have hn : rcS rn x = none := by unfold rcS; rw [if_neg h1, if_neg h9]
      refine lv_iconst (v := (-1)) hx hb d_MD_restore_12 (by decide) ?_
      exact r_i B hw d_MD_restore_13 ⟨by unfold rsA; rw [onR_n hn], by unfold rsK rs1 rs2; rw [onR_n hn, onR_n hn, onR_n hn]; exact ⟨_, _, _, _, _, _, _, rfl⟩⟩
set_option maxRecDepth 100000 in
set_option maxHeartbeats 4000000 in
theorem c_MD_seek {l : Launch} {D : va_G} {K : Nat → ClassId} {A : Nat → Prop} {q : Nat → Nat} {kd : Nat → Int32} {f1 f2 : Nat → Int64} {ou nk : Int32} {nf ns hi lo : Int64} {rc : Int32} {zi sd : Nat → Int32} {iN : Nat} {mm wt cd : Nat → Int32} {x : Int32} : ctI l y_MD_seek prog_6_method_31_code 2 (some .boolean) 0 0 0 [.ref (q 0), .int x] D K A ((mW K q kd f1 f2 ou nk nf ns hi lo rc zi sd (nI iN) mm wt cd)) (fun r w => r = bI (skB x) ∧ MR K q kd f1 f2 rc zi sd (nI (skX iN x)) wt cd w) := by
  refine mt_of (by decide) (Nat.le_of_ble_eq_true rfl) ?_
  intro p e s m below meth c ls B hw hl
  have hx := B.1
  have hb := B.2.1
  have hl : lv_has ls 2 [(0, .ref (q 0)), (1, .int x)] := hl
  refine lv_iload_n hx hb d_MD_seek_0 rfl (lv_at hl 1 rfl) ?_
  refine lv_if_lt (tgt := 10) hx hb d_MD_seek_1 rfl (fun h1 => ?_) (fun h1 => ?_)
  · have ez : skB x = false := if_pos h1
    refine lv_iconst (v := 0) hx hb d_MD_seek_10 (by decide) ?_
    exact r_z B hw (by decide) d_MD_seek_11 ⟨by rw [ez]; rfl, by unfold skX; rw [ez]; exact ⟨_, _, _, _, _, _, _, rfl⟩⟩
  · have ez : skB x = _ := if_neg h1
    obtain ⟨k, hk, rfl⟩ := nI_of h1
    refine lv_iload_n hx hb d_MD_seek_4 rfl (lv_at hl 1 rfl) ?_
    refine g_ldc B kc_MD_144 d_MD_seek_5 ?_
    refine lv_icmp_le (tgt := 12) hx hb d_MD_seek_7 rfl (fun h7 => ?_) (fun h7 => ?_)
    · rw [if_pos h7] at ez
      refine lv_aload_n hx hb d_MD_seek_12 rfl (lv_at hl 0 rfl) ?_
      refine lv_iload_n hx hb d_MD_seek_13 rfl (lv_at hl 1 rfl) ?_
      refine g_put B hw fl_MD_145 ck_MD mw_0 rfl rfl rfl (Nat.le_of_ble_eq_true rfl) d_MD_seek_14 (fun H locs (hw : wd D A (mW K q _ _ _ _ _ _ _ _ _ _ _ _ _ _ _ _) s H locs) => ?_)
      refine lv_iconst (v := 1) hx hb d_MD_seek_17 (by decide) ?_
      exact r_z B hw (by decide) d_MD_seek_18 ⟨by rw [ez]; rfl, by unfold skX; rw [ez, if_pos rfl, nI_clamp hk]; exact ⟨_, _, _, _, _, _, _, rfl⟩⟩
    · rw [if_neg h7] at ez
      refine lv_iconst (v := 0) hx hb d_MD_seek_10 (by decide) ?_
      exact r_z B hw (by decide) d_MD_seek_11 ⟨by rw [ez]; rfl, by unfold skX; rw [ez]; exact ⟨_, _, _, _, _, _, _, rfl⟩⟩
set_option maxRecDepth 100000 in
set_option maxHeartbeats 4000000 in
theorem c_MD_advance {l : Launch} {D : va_G} {K : Nat → ClassId} {A : Nat → Prop} {q : Nat → Nat} {kd : Nat → Int32} {f1 f2 : Nat → Int64} {ou nk : Int32} {nf ns hi lo : Int64} {rc : Int32} {zi sd : Nat → Int32} {iN : Nat} {mm wt cd : Nat → Int32} (hix : iN ≤ 1048575) : ctI l y_MD_advance prog_6_method_32_code 1 (some .int) 0 0 0 [.ref (q 0)] D K A ((mW K q kd f1 f2 ou nk nf ns hi lo rc zi sd (nI iN) mm wt cd)) (fun r w => r = nI (adX iN) ∧ MR K q kd f1 f2 rc zi sd (nI (adX iN)) wt cd w) := by
  refine mt_of (by decide) (Nat.le_of_ble_eq_true rfl) ?_
  intro p e s m below meth c ls B hw hl
  have hx := B.1
  have hb := B.2.1
  have hl : lv_has ls 1 [(0, .ref (q 0))] := hl
  refine lv_aload_n hx hb d_MD_advance_0 rfl (lv_at hl 0 rfl) ?_
  refine lv_aload_n hx hb d_MD_advance_1 rfl (lv_at hl 0 rfl) ?_
  refine g_get B hw fl_MD_145 mw_0 rfl d_MD_advance_2 ?_
  refine g_ldc B kc_MD_144 d_MD_advance_5 ?_
  refine lv_icmp_ne (tgt := 14) hx hb d_MD_advance_7 rfl (fun h7 => ?_) (fun h7 => ?_)
  · have ez : adX iN = iN + 1 := if_neg (fun q => h7 (by rw [q]; rfl))
    refine lv_aload_n hx hb d_MD_advance_14 rfl (lv_at hl 0 rfl) ?_
    refine g_get B hw fl_MD_145 mw_0 rfl d_MD_advance_15 ?_
    refine lv_iconst (v := 1) hx hb d_MD_advance_18 (by decide) ?_
    refine lv_iadd hx hb d_MD_advance_19 ?_
    rw [← nI_succ iN]
    refine g_put B hw fl_MD_145 ck_MD mw_0 rfl rfl rfl (Nat.le_of_ble_eq_true rfl) d_MD_advance_20 (fun H locs (hw : wd D A (mW K q _ _ _ _ _ _ _ _ _ _ _ _ _ _ _ _) s H locs) => ?_)
    have hw : wd D A (mW K q kd f1 f2 ou nk nf ns hi lo rc zi sd (nI (adX iN)) mm wt cd) s H locs := by rw [ez]; exact hw
    refine lv_aload_n hx hb d_MD_advance_23 rfl (lv_at hl 0 rfl) ?_
    refine g_get B hw fl_MD_145 mw_0 rfl d_MD_advance_24 ?_
    exact r_i B hw d_MD_advance_27 ⟨rfl, ⟨_, _, _, _, _, _, _, rfl⟩⟩
  · have ez : adX iN = 0 := if_pos ((nI_eq (a := iN) (b := 1048575) (by omega) (by omega)).mp h7)
    refine lv_iconst (v := 0) hx hb d_MD_advance_10 (by decide) ?_
    refine lv_goto (tgt := 20) hx hb d_MD_advance_11 rfl ?_
    refine g_put B hw fl_MD_145 ck_MD mw_0 rfl rfl rfl (Nat.le_of_ble_eq_true rfl) d_MD_advance_20 (fun H locs (hw : wd D A (mW K q _ _ _ _ _ _ _ _ _ _ _ _ _ _ _ _) s H locs) => ?_)
    have hw : wd D A (mW K q kd f1 f2 ou nk nf ns hi lo rc zi sd (nI (adX iN)) mm wt cd) s H locs := by rw [ez]; exact hw
    refine lv_aload_n hx hb d_MD_advance_23 rfl (lv_at hl 0 rfl) ?_
    refine g_get B hw fl_MD_145 mw_0 rfl d_MD_advance_24 ?_
    exact r_i B hw d_MD_advance_27 ⟨rfl, ⟨_, _, _, _, _, _, _, rfl⟩⟩
set_option maxRecDepth 100000 in
set_option maxHeartbeats 4000000 in
theorem c_MD_weigh {l : Launch} {D : va_G} {K : Nat → ClassId} {A : Nat → Prop} {q : Nat → Nat} {kd : Nat → Int32} {f1 f2 : Nat → Int64} {ou nk : Int32} {nf ns hi lo : Int64} {rc : Int32} {zi sd : Nat → Int32} {ix : Int32} {mm wt cd : Nat → Int32} {x y : Int32} : ctI l y_MD_weigh prog_6_method_36_code 3 (some .boolean) 0 0 0 [.ref (q 0), .int x, .int y] D K A (mW K q kd f1 f2 ou nk nf ns hi lo rc zi sd ix mm wt cd) (fun r w => r = bI (wgB x y) ∧ MR K q kd f1 f2 rc zi sd ix (wgW wt x y) cd w) := by
  refine mt_of (by decide) (Nat.le_of_ble_eq_true rfl) ?_
  intro p e s m below meth c ls B hw hl
  have hx := B.1
  have hb := B.2.1
  have hl : lv_has ls 3 [(0, .ref (q 0)), (1, .int x), (2, .int y)] := hl
  refine lv_iload_n hx hb d_MD_weigh_0 rfl (lv_at hl 1 rfl) ?_
  refine lv_if_lt (tgt := 20) hx hb d_MD_weigh_1 rfl (fun h1 => ?_) (fun h1 => ?_)
  · have ez : wgB x y = false := if_pos h1
    refine lv_iconst (v := 0) hx hb d_MD_weigh_20 (by decide) ?_
    exact r_z B hw (by decide) d_MD_weigh_21 ⟨by rw [ez]; rfl, by unfold wgW; rw [ez]; exact ⟨_, _, _, _, _, _, _, rfl⟩⟩
  · have ez : wgB x y = _ := if_neg h1
    refine lv_iload_n hx hb d_MD_weigh_4 rfl (lv_at hl 1 rfl) ?_
    refine lv_bipush (v := 15) hx hb d_MD_weigh_5 (by decide) ?_
    refine lv_icmp_gt (tgt := 20) hx hb d_MD_weigh_7 rfl (fun h7 => ?_) (fun h7 => ?_)
    · rw [if_pos (gt15.mp h7)] at ez
      refine lv_iconst (v := 0) hx hb d_MD_weigh_20 (by decide) ?_
      exact r_z B hw (by decide) d_MD_weigh_21 ⟨by rw [ez]; rfl, by unfold wgW; rw [ez]; exact ⟨_, _, _, _, _, _, _, rfl⟩⟩
    · rw [if_neg (fun z => h7 (gt15.mpr z))] at ez
      obtain ⟨k, hk, rfl⟩ := slot_of h1 (n := 16) (by omega) (le15.mp (Int32.not_lt.mp h7))
      refine lv_iload_n hx hb d_MD_weigh_10 rfl (lv_at hl 2 rfl) ?_
      refine lv_if_lt (tgt := 20) hx hb d_MD_weigh_11 rfl (fun h11 => ?_) (fun h11 => ?_)
      · rw [if_pos h11] at ez
        refine lv_iconst (v := 0) hx hb d_MD_weigh_20 (by decide) ?_
        exact r_z B hw (by decide) d_MD_weigh_21 ⟨by rw [ez]; rfl, by unfold wgW; rw [ez]; exact ⟨_, _, _, _, _, _, _, rfl⟩⟩
      · rw [if_neg h11] at ez
        refine lv_iload_n hx hb d_MD_weigh_14 rfl (lv_at hl 2 rfl) ?_
        refine g_ldc B kc_MD_155 d_MD_weigh_15 ?_
        refine lv_icmp_le (tgt := 22) hx hb d_MD_weigh_17 rfl (fun h17 => ?_) (fun h17 => ?_)
        · rw [if_pos h17] at ez
          refine lv_aload_n hx hb d_MD_weigh_22 rfl (lv_at hl 0 rfl) ?_
          refine g_get B hw fl_MD_29 mw_0 rfl d_MD_weigh_23 ?_
          refine lv_iload_n hx hb d_MD_weigh_26 rfl (lv_at hl 1 rfl) ?_
          refine lv_iload_n hx hb d_MD_weigh_27 rfl (lv_at hl 2 rfl) ?_
          refine g_iast B hw mw_7 (vp_in_nI hk (by omega)) d_MD_weigh_28 (fun H locs (hw : wd D A (mW K q _ _ _ _ _ _ _ _ _ _ _ _ _ _ _ _) s H locs) => ?_)
          refine lv_iconst (v := 1) hx hb d_MD_weigh_29 (by decide) ?_
          exact r_z B hw (by decide) d_MD_weigh_30 ⟨by rw [ez]; rfl, by unfold wgW; rw [ez]; exact ⟨_, _, _, _, _, _, _, rfl⟩⟩
        · rw [if_neg h17] at ez
          refine lv_iconst (v := 0) hx hb d_MD_weigh_20 (by decide) ?_
          exact r_z B hw (by decide) d_MD_weigh_21 ⟨by rw [ez]; rfl, by unfold wgW; rw [ez]; exact ⟨_, _, _, _, _, _, _, rfl⟩⟩
set_option maxRecDepth 100000 in
set_option maxHeartbeats 4000000 in
theorem c_MD_card {l : Launch} {D : va_G} {K : Nat → ClassId} {A : Nat → Prop} {q : Nat → Nat} {kd : Nat → Int32} {f1 f2 : Nat → Int64} {ou nk : Int32} {nf ns hi lo : Int64} {rc : Int32} {zi sd : Nat → Int32} {ix : Int32} {mm wt cd : Nat → Int32} {x : Int32} : ctI l y_MD_card prog_6_method_39_code 2 (some .int) 0 0 0 [.ref (q 0), .int x] D K A (mW K q kd f1 f2 ou nk nf ns hi lo rc zi sd ix mm wt cd) (fun r w => r = cdA cd x ∧ w = mW K q kd f1 f2 ou nk nf ns hi lo rc zi sd ix mm wt cd) := by
  refine mt_of (by decide) (Nat.le_of_ble_eq_true rfl) ?_
  intro p e s m below meth c ls B hw hl
  have hx := B.1
  have hb := B.2.1
  have hl : lv_has ls 2 [(0, .ref (q 0)), (1, .int x)] := hl
  refine lv_iload_n hx hb d_MD_card_0 rfl (lv_at hl 1 rfl) ?_
  refine lv_if_lt (tgt := 10) hx hb d_MD_card_1 rfl (fun h1 => ?_) (fun h1 => ?_)
  · have ez : cdA cd x = -1 := if_pos h1
    refine lv_iconst (v := (-1)) hx hb d_MD_card_10 (by decide) ?_
    refine lv_goto (tgt := 20) hx hb d_MD_card_11 rfl ?_
    exact r_i B hw d_MD_card_20 ⟨ez.symm, rfl⟩
  · have ez : cdA cd x = _ := if_neg h1
    refine lv_iload_n hx hb d_MD_card_4 rfl (lv_at hl 1 rfl) ?_
    refine lv_bipush (v := 15) hx hb d_MD_card_5 (by decide) ?_
    refine lv_icmp_le (tgt := 14) hx hb d_MD_card_7 rfl (fun h7 => ?_) (fun h7 => ?_)
    · rw [if_pos (le15.mp h7)] at ez
      obtain ⟨k, hk, rfl⟩ := slot_of h1 (n := 16) (by omega) (le15.mp h7)
      refine lv_aload_n hx hb d_MD_card_14 rfl (lv_at hl 0 rfl) ?_
      refine g_get B hw fl_MD_32 mw_0 rfl d_MD_card_15 ?_
      refine lv_iload_n hx hb d_MD_card_18 rfl (lv_at hl 1 rfl) ?_
      refine g_iald B hw mw_8 (vp_in_nI hk (by omega)) d_MD_card_19 ?_
      exact r_i B hw d_MD_card_20 ⟨ez.symm, rfl⟩
    · rw [if_neg (fun z => h7 (le15.mpr z))] at ez
      refine lv_iconst (v := (-1)) hx hb d_MD_card_10 (by decide) ?_
      refine lv_goto (tgt := 20) hx hb d_MD_card_11 rfl ?_
      exact r_i B hw d_MD_card_20 ⟨ez.symm, rfl⟩
