/-! The reference: streams. -/
theorem rol5 (x : Int32) : rtN 5 x = rol x 5 := (rol_rtN (n := 5) (by omega) (by omega) x).symm
theorem rol26 (x : Int32) : rtN 26 x = rol x 26 := (rol_rtN (n := 26) (by omega) (by omega) x).symm
theorem rol13 (x : Int32) : rtN 13 x = rol x 13 := (rol_rtN (n := 13) (by omega) (by omega) x).symm
theorem mvF_h0 {k : Int32} (h : k = 0) (f g : Int64) : mvF k f g = f * 6364136223846793005 + g := by rw [h]; exact mvF_0 f g
theorem mvF_h1 {k : Int32} (h : k = 1) (f g : Int64) : mvF k f g = (rol f.toInt32 26 ^^^ (g.toInt32 ^^^ f.toInt32) ^^^ ((g.toInt32 ^^^ f.toInt32) <<< ((9 : Int32) &&& 31))).toInt64 := by rw [h]; exact mvF_1 f g
theorem mvF_h2 {k : Int32} (h : k = 2) (f g : Int64) : mvF k f g = f := by rw [h]; exact mvF_2 f g
theorem mvS_h0 {k : Int32} (h : k = 0) (f g : Int64) : mvS k f g = g := by rw [h]; exact mvS_0 f g
theorem mvS_h1 {k : Int32} (h : k = 1) (f g : Int64) : mvS k f g = (rol (g.toInt32 ^^^ f.toInt32) 13).toInt64 := by rw [h]; exact mvS_1 f g
theorem mvS_h2 {k : Int32} (h : k = 2) (f g : Int64) : mvS k f g = if g = 9223372036854775807 then 0 else g + 1 := by rw [h]; exact mvS_2 f g
theorem otp_h0 {k : Int32} (h : k = 0) (f g : Int64) : otp k f g = ror (lus (lus f 18 ^^^ f) 27).toInt32 (lus f 59).toInt32 := by rw [h]; exact otp_0 f g
theorem otp_h1 {k : Int32} (h : k = 1) (f g : Int64) : otp k f g = rol (f.toInt32 * (-1640531525)) 5 * 5 := by rw [h]; exact otp_1 f g
theorem otp_h2 {k : Int32} (h : k = 2) (f g : Int64) : otp k f g = mxO f g := by rw [h]; exact otp_2 f g
theorem k03 {c : Int32} (h0 : ¬ c < 0) (h3 : ¬ 3 < c) : c = 0 ∨ c = 1 ∨ c = 2 ∨ c = 3 := by
  obtain ⟨k, hk, rfl⟩ := nI_of h0
  have h : k ≤ 3 := Nat.le_of_not_lt (fun q => h3 (nI_lt (a := 3) q (by omega)))
  rcases (by omega : k = 0 ∨ k = 1 ∨ k = 2 ∨ k = 3) with rfl | rfl | rfl | rfl
  · exact Or.inl rfl
  · exact Or.inr (Or.inl rfl)
  · exact Or.inr (Or.inr (Or.inl rfl))
  · exact Or.inr (Or.inr (Or.inr rfl))
theorem k3of {c : Int32} (h0 : ¬ c < 0) (h3 : c ≤ 3) : c = 0 ∨ c = 1 ∨ c = 2 ∨ c = 3 := k03 h0 (Int32.not_lt.mpr h3)
/-- the reference's cells hold the state; what is scratch may be anything -/
def MR (K : Nat → ClassId) (q : Nat → Nat) (kd : Nat → Int32) (f1 f2 : Nat → Int64) (rc : Int32) (zi sd : Nat → Int32) (ix : Int32) (wt cd : Nat → Int32) (w : va_W) : Prop := ∃ ou nk nf ns hi lo mm, w = mW K q kd f1 f2 ou nk nf ns hi lo rc zi sd ix mm wt cd
set_option maxRecDepth 100000 in
set_option maxHeartbeats 4000000 in
theorem c_MD_step {l : Launch} {D : va_G} {K : Nat → ClassId} {A : Nat → Prop} {q : Nat → Nat} {kd : Nat → Int32} {f1 f2 : Nat → Int64} {ou nk : Int32} {nf ns hi lo : Int64} {rc : Int32} {zi sd : Nat → Int32} {ix : Int32} {mm wt cd : Nat → Int32} {k : Nat} (hk8 : k < 8) (hk3 : kd k = 0 ∨ kd k = 1 ∨ kd k = 2 ∨ kd k = 3) (hok : okS (kd k) (f1 k) (f2 k)) : ctV l y_MD_step prog_6_method_5_code 8 2 0 0 [.ref (q 0), .int (nI k)] D K A (mW K q kd f1 f2 ou nk nf ns hi lo rc zi sd ix mm wt cd) (fun w => ∃ h2 l2, w = (mW K q kd (vp_updL f1 k (mvF (kd k) (f1 k) (f2 k))) (vp_updL f2 k (mvS (kd k) (f1 k) (f2 k))) (otp (kd k) (f1 k) (f2 k)) nk nf ns h2 l2 rc zi sd ix mm wt cd)) := by
  refine mt_of (by decide) (Nat.le_of_ble_eq_true rfl) ?_
  intro p e s m below meth c ls B hw hl
  have hx := B.1
  have hb := B.2.1
  have hl : lv_has ls 8 [(0, .ref (q 0)), (1, .int (nI k))] := hl
  refine lv_aload_n hx hb d_MD_step_0 rfl (lv_at hl 0 rfl) ?_
  refine g_get B hw fl_MD_13 mw_0 rfl d_MD_step_1 ?_
  refine lv_iload_n hx hb d_MD_step_4 rfl (lv_at hl 1 rfl) ?_
  refine g_lald B hw mw_2 (vp_in_nI hk8 (by omega)) d_MD_step_5 ?_
  rw [nI_clamp (by omega)]
  refine lv_lstore_n hx hb d_MD_step_6 rfl hl (by decide) rfl (fun ls (hl : lv_has ls 8 [(2, .long _), (0, .ref _), (1, .int _)]) => ?_)
  refine lv_aload_n hx hb d_MD_step_7 rfl (lv_at hl 1 rfl) ?_
  refine g_get B hw fl_MD_17 mw_0 rfl d_MD_step_8 ?_
  refine lv_iload_n hx hb d_MD_step_11 rfl (lv_at hl 2 rfl) ?_
  refine g_lald B hw mw_3 (vp_in_nI hk8 (by omega)) d_MD_step_12 ?_
  rw [nI_clamp (by omega)]
  refine lv_lstore hx hb d_MD_step_13 hl (by decide) rfl (fun ls (hl : lv_has ls 8 [(4, .long _), (2, .long _), (0, .ref _), (1, .int _)]) => ?_)
  refine lv_aload_n hx hb d_MD_step_15 rfl (lv_at hl 2 rfl) ?_
  refine g_get B hw fl_MD_7 mw_0 rfl d_MD_step_16 ?_
  refine lv_iload_n hx hb d_MD_step_19 rfl (lv_at hl 3 rfl) ?_
  refine g_iald B hw mw_1 (vp_in_nI hk8 (by omega)) d_MD_step_20 ?_
  rw [nI_clamp (by omega)]
  refine lv_if_ne (tgt := 74) hx hb d_MD_step_21 rfl (fun h21 => ?_) (fun h21 => ?_)
  · refine lv_aload_n hx hb d_MD_step_74 rfl (lv_at hl 2 rfl) ?_
    refine g_get B hw fl_MD_7 mw_0 rfl d_MD_step_75 ?_
    refine lv_iload_n hx hb d_MD_step_78 rfl (lv_at hl 3 rfl) ?_
    refine g_iald B hw mw_1 (vp_in_nI hk8 (by omega)) d_MD_step_79 ?_
    rw [nI_clamp (by omega)]
    refine lv_iconst (v := 1) hx hb d_MD_step_80 (by decide) ?_
    refine lv_icmp_ne (tgt := 159) hx hb d_MD_step_81 rfl (fun h81 => ?_) (fun h81 => ?_)
    · refine lv_aload_n hx hb d_MD_step_159 rfl (lv_at hl 2 rfl) ?_
      refine g_get B hw fl_MD_7 mw_0 rfl d_MD_step_160 ?_
      refine lv_iload_n hx hb d_MD_step_163 rfl (lv_at hl 3 rfl) ?_
      refine g_iald B hw mw_1 (vp_in_nI hk8 (by omega)) d_MD_step_164 ?_
      rw [nI_clamp (by omega)]
      refine lv_iconst (v := 2) hx hb d_MD_step_165 (by decide) ?_
      refine lv_icmp_ne (tgt := 203) hx hb d_MD_step_166 rfl (fun h166 => ?_) (fun h166 => ?_)
      · have m1 := mvF_n h21 h81 h166 (f1 k) (f2 k)
        have m2 := mvS_n h21 h81 h166 (f1 k) (f2 k)
        have m3 := otp_n h21 h81 h166 (f1 k) (f2 k)
        have h3 := hk3.elim (fun z => absurd z h21) (fun z => z.elim (fun z => absurd z h81) (fun z => z.elim (fun z => absurd z h166) id))
        refine g_ldc2 B kc_MD_63 d_MD_step_203 ?_
        refine lv_lload_n hx hb d_MD_step_206 rfl (lv_at hl 1 rfl) ?_
        refine lv_lmul hx hb d_MD_step_207 ?_
        refine g_ldc2 B kc_MD_65 d_MD_step_208 ?_
        refine lv_lload hx hb d_MD_step_211 (lv_at hl 0 rfl) ?_
        refine lv_lmul hx hb d_MD_step_213 ?_
        refine lv_ladd hx hb d_MD_step_214 ?_
        refine g_ldc2 B kc_MD_67 d_MD_step_215 ?_
        refine lv_lrem hx hb d_MD_step_218 (by decide) ?_
        refine lv_lstore hx hb d_MD_step_219 hl (by decide) rfl (fun ls (hl : lv_has ls 8 [(6, .long (nxR (f1 k) (f2 k))), (4, .long _), (2, .long _), (0, .ref _), (1, .int _)]) => ?_)
        refine lv_aload_n hx hb d_MD_step_221 rfl (lv_at hl 3 rfl) ?_
        refine g_ldc2 B kc_MD_69 d_MD_step_222 ?_
        refine lv_lload hx hb d_MD_step_225 (lv_at hl 0 rfl) ?_
        refine lv_lmul hx hb d_MD_step_227 ?_
        refine lv_lload_n hx hb d_MD_step_228 rfl (lv_at hl 2 rfl) ?_
        refine g_ldc2 B kc_MD_69 d_MD_step_229 ?_
        refine lv_lrem hx hb d_MD_step_232 (by decide) ?_
        rw [odd_nn (hok.2 h3).1.1]
        refine lv_ladd hx hb d_MD_step_233 ?_
        refine lv_l2i hx hb d_MD_step_234 rfl ?_
        refine g_put B hw fl_MD_50 ck_MD mw_0 rfl rfl rfl (Nat.le_of_ble_eq_true rfl) d_MD_step_235 (fun H locs (hw : wd D A (mW K q _ _ _ _ _ _ _ _ _ _ _ _ _ _ _ _) s H locs) => ?_)
        refine lv_aload_n hx hb d_MD_step_238 rfl (lv_at hl 3 rfl) ?_
        refine g_get B hw fl_MD_17 mw_0 rfl d_MD_step_239 ?_
        refine lv_iload_n hx hb d_MD_step_242 rfl (lv_at hl 4 rfl) ?_
        refine lv_lload_n hx hb d_MD_step_243 rfl (lv_at hl 2 rfl) ?_
        refine g_last B hw mw_3 (vp_in_nI hk8 (by omega)) d_MD_step_244 (fun H locs (hw : wd D A (mW K q _ _ _ _ _ _ _ _ _ _ _ _ _ _ _ _) s H locs) => ?_)
        rw [nI_clamp (by omega)] at hw
        refine lv_aload_n hx hb d_MD_step_245 rfl (lv_at hl 3 rfl) ?_
        refine g_get B hw fl_MD_13 mw_0 rfl d_MD_step_246 ?_
        refine lv_iload_n hx hb d_MD_step_249 rfl (lv_at hl 4 rfl) ?_
        refine lv_lload hx hb d_MD_step_250 (lv_at hl 0 rfl) ?_
        refine g_last B hw mw_2 (vp_in_nI hk8 (by omega)) d_MD_step_252 (fun H locs (hw : wd D A (mW K q _ _ _ _ _ _ _ _ _ _ _ _ _ _ _ _) s H locs) => ?_)
        rw [nI_clamp (by omega)] at hw
        exact r_v B hw d_MD_step_253 ⟨_, _, by rw [m1, m2, m3]⟩
      · have m1 := mvF_h2 h166 (f1 k) (f2 k)
        have m2 := mvS_h2 h166 (f1 k) (f2 k)
        have m3 := otp_h2 h166 (f1 k) (f2 k)
        refine lv_aload_n hx hb d_MD_step_169 rfl (lv_at hl 2 rfl) ?_
        refine lv_lload_n hx hb d_MD_step_170 rfl (lv_at hl 1 rfl) ?_
        refine lv_l2i hx hb d_MD_step_171 rfl ?_
        refine lv_lload hx hb d_MD_step_172 (lv_at hl 0 rfl) ?_
        refine k_v (k_runV B hw (c_MD_rounds (hok.1 h166)) rfl rfl cf_MD_57 mw_0 rfl rfl ⟨Nat.le_of_ble_eq_true rfl, Nat.le_of_ble_eq_true rfl⟩ rfl hl.1 rfl (Nat.le_of_ble_eq_true rfl) d_MD_step_174 ⟨Nat.le_of_ble_eq_true rfl, Nat.le_of_ble_eq_true rfl⟩) hw (fun w1 H locs hq hw => ?_)
        obtain ⟨h2, l2, ew⟩ := hq
        rw [ew] at hw
        refine lv_aload_n hx hb d_MD_step_177 rfl (lv_at hl 2 rfl) ?_
        refine g_get B hw fl_MD_17 mw_0 rfl d_MD_step_178 ?_
        refine lv_iload_n hx hb d_MD_step_181 rfl (lv_at hl 3 rfl) ?_
        refine lv_lload hx hb d_MD_step_182 (lv_at hl 0 rfl) ?_
        refine g_ldc2 B kc_MD_61 d_MD_step_184 ?_
        refine W.lcmp hx hb d_MD_step_187 ?_
        refine lv_if_ne (tgt := 195) hx hb d_MD_step_188 rfl (fun h188 => ?_) (fun h188 => ?_)
        · rw [lg_cmp_eq] at h188
          rw [if_neg h188] at m2
          refine lv_lload hx hb d_MD_step_195 (lv_at hl 0 rfl) ?_
          refine lv_lconst (v := 1) hx hb d_MD_step_197 (by decide) ?_
          refine lv_ladd hx hb d_MD_step_198 ?_
          refine g_last B hw mw_3 (vp_in_nI hk8 (by omega)) d_MD_step_199 (fun H locs (hw : wd D A (mW K q _ _ _ _ _ _ _ _ _ _ _ _ _ _ _ _) s H locs) => ?_)
          rw [nI_clamp (by omega)] at hw
          refine lv_goto (tgt := 253) hx hb d_MD_step_200 rfl ?_
          exact r_v B hw d_MD_step_253 ⟨_, _, by rw [m1, m2, m3, updL_self]⟩
        · rw [lg_cmp_eq] at h188
          rw [if_pos h188] at m2
          refine lv_lconst (v := 0) hx hb d_MD_step_191 (by decide) ?_
          refine lv_goto (tgt := 199) hx hb d_MD_step_192 rfl ?_
          refine g_last B hw mw_3 (vp_in_nI hk8 (by omega)) d_MD_step_199 (fun H locs (hw : wd D A (mW K q _ _ _ _ _ _ _ _ _ _ _ _ _ _ _ _) s H locs) => ?_)
          rw [nI_clamp (by omega)] at hw
          refine lv_goto (tgt := 253) hx hb d_MD_step_200 rfl ?_
          exact r_v B hw d_MD_step_253 ⟨_, _, by rw [m1, m2, m3, updL_self]⟩
    · have m1 := mvF_h1 h81 (f1 k) (f2 k)
      have m2 := mvS_h1 h81 (f1 k) (f2 k)
      have m3 := otp_h1 h81 (f1 k) (f2 k)
      refine lv_lload_n hx hb d_MD_step_84 rfl (lv_at hl 1 rfl) ?_
      refine lv_l2i hx hb d_MD_step_85 rfl ?_
      refine lv_istore hx hb d_MD_step_86 hl (by decide) rfl (fun ls (hl : lv_has ls 8 [(6, .int _), (4, .long _), (2, .long _), (0, .ref _), (1, .int _)]) => ?_)
      refine lv_lload hx hb d_MD_step_88 (lv_at hl 1 rfl) ?_
      refine lv_l2i hx hb d_MD_step_90 rfl ?_
      refine lv_istore hx hb d_MD_step_91 hl (by decide) rfl (fun ls (hl : lv_has ls 8 [(7, .int _), (6, .int _), (4, .long _), (2, .long _), (0, .ref _), (1, .int _)]) => ?_)
      refine lv_aload_n hx hb d_MD_step_93 rfl (lv_at hl 4 rfl) ?_
      refine lv_iload hx hb d_MD_step_94 (lv_at hl 1 rfl) ?_
      refine g_ldc B kc_MD_56 d_MD_step_96 ?_
      refine lv_imul hx hb d_MD_step_98 ?_
      refine lv_iconst (v := 5) hx hb d_MD_step_99 (by decide) ?_
      refine k_i (k_runS B hw (c_MD_rotl (n := 5) (by omega)) rfl rfl cf_MD_46 ⟨Nat.le_of_ble_eq_true rfl, Nat.le_of_ble_eq_true rfl⟩ rfl hl.1 rfl (Nat.le_of_ble_eq_true rfl) d_MD_step_100 ⟨Nat.le_of_ble_eq_true rfl, Nat.le_of_ble_eq_true rfl⟩) hw (fun r100 w1 H locs hq hw => ?_)
      have er := hq.1
      have ew := hq.2
      rw [ew] at hw
      rw [er, rol5]
      refine lv_iconst (v := 5) hx hb d_MD_step_103 (by decide) ?_
      refine lv_imul hx hb d_MD_step_104 ?_
      refine g_put B hw fl_MD_50 ck_MD mw_0 rfl rfl rfl (Nat.le_of_ble_eq_true rfl) d_MD_step_105 (fun H locs (hw : wd D A (mW K q _ _ _ _ _ _ _ _ _ _ _ _ _ _ _ _) s H locs) => ?_)
      refine lv_iload hx hb d_MD_step_108 (lv_at hl 1 rfl) ?_
      refine lv_iload hx hb d_MD_step_110 (lv_at hl 0 rfl) ?_
      refine lv_ixor hx hb d_MD_step_112 ?_
      rw [Int32.xor_comm (f1 k).toInt32 (f2 k).toInt32]
      refine lv_istore hx hb d_MD_step_113 hl (by decide) rfl (fun ls (hl : lv_has ls 8 [(7, .int _), (6, .int _), (4, .long _), (2, .long _), (0, .ref _), (1, .int _)]) => ?_)
      refine lv_iload hx hb d_MD_step_115 (lv_at hl 1 rfl) ?_
      refine lv_bipush (v := 26) hx hb d_MD_step_117 (by decide) ?_
      refine k_i (k_runS B hw (c_MD_rotl (n := 26) (by omega)) rfl rfl cf_MD_46 ⟨Nat.le_of_ble_eq_true rfl, Nat.le_of_ble_eq_true rfl⟩ rfl hl.1 rfl (Nat.le_of_ble_eq_true rfl) d_MD_step_119 ⟨Nat.le_of_ble_eq_true rfl, Nat.le_of_ble_eq_true rfl⟩) hw (fun r119 w1 H locs hq hw => ?_)
      have er := hq.1
      have ew := hq.2
      rw [ew] at hw
      rw [er, rol26]
      refine lv_iload hx hb d_MD_step_122 (lv_at hl 0 rfl) ?_
      refine lv_ixor hx hb d_MD_step_124 ?_
      refine lv_iload hx hb d_MD_step_125 (lv_at hl 0 rfl) ?_
      refine lv_bipush (v := 9) hx hb d_MD_step_127 (by decide) ?_
      refine lv_ishl hx hb d_MD_step_129 ?_
      refine lv_ixor hx hb d_MD_step_130 ?_
      refine lv_istore hx hb d_MD_step_131 hl (by decide) rfl (fun ls (hl : lv_has ls 8 [(6, .int _), (7, .int _), (4, .long _), (2, .long _), (0, .ref _), (1, .int _)]) => ?_)
      refine lv_aload_n hx hb d_MD_step_133 rfl (lv_at hl 4 rfl) ?_
      refine g_get B hw fl_MD_13 mw_0 rfl d_MD_step_134 ?_
      refine lv_iload_n hx hb d_MD_step_137 rfl (lv_at hl 5 rfl) ?_
      refine lv_iload hx hb d_MD_step_138 (lv_at hl 0 rfl) ?_
      refine lv_i2l hx hb d_MD_step_140 rfl ?_
      refine g_last B hw mw_2 (vp_in_nI hk8 (by omega)) d_MD_step_141 (fun H locs (hw : wd D A (mW K q _ _ _ _ _ _ _ _ _ _ _ _ _ _ _ _) s H locs) => ?_)
      rw [nI_clamp (by omega)] at hw
      refine lv_aload_n hx hb d_MD_step_142 rfl (lv_at hl 4 rfl) ?_
      refine g_get B hw fl_MD_17 mw_0 rfl d_MD_step_143 ?_
      refine lv_iload_n hx hb d_MD_step_146 rfl (lv_at hl 5 rfl) ?_
      refine lv_iload hx hb d_MD_step_147 (lv_at hl 1 rfl) ?_
      refine lv_bipush (v := 13) hx hb d_MD_step_149 (by decide) ?_
      refine k_i (k_runS B hw (c_MD_rotl (n := 13) (by omega)) rfl rfl cf_MD_46 ⟨Nat.le_of_ble_eq_true rfl, Nat.le_of_ble_eq_true rfl⟩ rfl hl.1 rfl (Nat.le_of_ble_eq_true rfl) d_MD_step_151 ⟨Nat.le_of_ble_eq_true rfl, Nat.le_of_ble_eq_true rfl⟩) hw (fun r151 w1 H locs hq hw => ?_)
      have er := hq.1
      have ew := hq.2
      rw [ew] at hw
      rw [er, rol13]
      refine lv_i2l hx hb d_MD_step_154 rfl ?_
      refine g_last B hw mw_3 (vp_in_nI hk8 (by omega)) d_MD_step_155 (fun H locs (hw : wd D A (mW K q _ _ _ _ _ _ _ _ _ _ _ _ _ _ _ _) s H locs) => ?_)
      rw [nI_clamp (by omega)] at hw
      refine lv_goto (tgt := 253) hx hb d_MD_step_156 rfl ?_
      exact r_v B hw d_MD_step_253 ⟨_, _, by rw [m1, m2, m3]⟩
  · have m1 := mvF_h0 h21 (f1 k) (f2 k)
    have m2 := mvS_h0 h21 (f1 k) (f2 k)
    have m3 := otp_h0 h21 (f1 k) (f2 k)
    refine lv_lload_n hx hb d_MD_step_24 rfl (lv_at hl 1 rfl) ?_
    refine lv_bipush (v := 18) hx hb d_MD_step_25 (by decide) ?_
    refine lv_lushr hx hb d_MD_step_27 rfl ?_
    refine lv_lload_n hx hb d_MD_step_28 rfl (lv_at hl 1 rfl) ?_
    refine lv_lxor hx hb d_MD_step_29 ?_
    refine lv_bipush (v := 27) hx hb d_MD_step_30 (by decide) ?_
    refine lv_lushr hx hb d_MD_step_32 rfl ?_
    refine lv_l2i hx hb d_MD_step_33 rfl ?_
    refine lv_istore hx hb d_MD_step_34 hl (by decide) rfl (fun ls (hl : lv_has ls 8 [(6, .int _), (4, .long _), (2, .long _), (0, .ref _), (1, .int _)]) => ?_)
    refine lv_lload_n hx hb d_MD_step_36 rfl (lv_at hl 2 rfl) ?_
    refine lv_bipush (v := 59) hx hb d_MD_step_37 (by decide) ?_
    refine lv_lushr hx hb d_MD_step_39 rfl ?_
    refine lv_l2i hx hb d_MD_step_40 rfl ?_
    refine lv_istore hx hb d_MD_step_41 hl (by decide) rfl (fun ls (hl : lv_has ls 8 [(7, .int _), (6, .int _), (4, .long _), (2, .long _), (0, .ref _), (1, .int _)]) => ?_)
    refine lv_aload_n hx hb d_MD_step_43 rfl (lv_at hl 4 rfl) ?_
    refine lv_iload hx hb d_MD_step_44 (lv_at hl 1 rfl) ?_
    refine lv_bipush (v := 32) hx hb d_MD_step_46 (by decide) ?_
    refine lv_iload hx hb d_MD_step_48 (lv_at hl 0 rfl) ?_
    refine lv_isub hx hb d_MD_step_50 ?_
    obtain ⟨j, hj, ej⟩ := r59 (f1 k)
    rw [ej, show (32 : Int32) - nI j = nI (32 - j) from pk_sub (a := 32) (b := j) (by omega)]
    refine k_i (k_runS B hw (c_MD_rotl (n := 32 - j) (by omega)) rfl rfl cf_MD_46 ⟨Nat.le_of_ble_eq_true rfl, Nat.le_of_ble_eq_true rfl⟩ rfl hl.1 rfl (Nat.le_of_ble_eq_true rfl) d_MD_step_51 ⟨Nat.le_of_ble_eq_true rfl, Nat.le_of_ble_eq_true rfl⟩) hw (fun r51 w1 H locs hq hw => ?_)
    have er := hq.1
    have ew := hq.2
    rw [ew] at hw
    rw [er, ← ror_rtN hj, ← ej]
    refine g_put B hw fl_MD_50 ck_MD mw_0 rfl rfl rfl (Nat.le_of_ble_eq_true rfl) d_MD_step_54 (fun H locs (hw : wd D A (mW K q _ _ _ _ _ _ _ _ _ _ _ _ _ _ _ _) s H locs) => ?_)
    refine lv_aload_n hx hb d_MD_step_57 rfl (lv_at hl 4 rfl) ?_
    refine g_get B hw fl_MD_13 mw_0 rfl d_MD_step_58 ?_
    refine lv_iload_n hx hb d_MD_step_61 rfl (lv_at hl 5 rfl) ?_
    refine lv_lload_n hx hb d_MD_step_62 rfl (lv_at hl 3 rfl) ?_
    refine g_ldc2 B kc_MD_54 d_MD_step_63 ?_
    refine lv_lmul hx hb d_MD_step_66 ?_
    refine lv_lload hx hb d_MD_step_67 (lv_at hl 2 rfl) ?_
    refine lv_ladd hx hb d_MD_step_69 ?_
    refine g_last B hw mw_2 (vp_in_nI hk8 (by omega)) d_MD_step_70 (fun H locs (hw : wd D A (mW K q _ _ _ _ _ _ _ _ _ _ _ _ _ _ _ _) s H locs) => ?_)
    rw [nI_clamp (by omega)] at hw
    refine lv_goto (tgt := 253) hx hb d_MD_step_71 rfl ?_
    exact r_v B hw d_MD_step_253 ⟨_, _, by rw [m1, m2, m3, updL_self]⟩
set_option maxRecDepth 100000 in
set_option maxHeartbeats 4000000 in
theorem c_MD_below {l : Launch} {D : va_G} {K : Nat → ClassId} {A : Nat → Prop} {q : Nat → Nat} {kd : Nat → Int32} {f1 f2 : Nat → Int64} {ou nk : Int32} {nf ns hi lo : Int64} {rc : Int32} {zi sd : Nat → Int32} {ix : Int32} {mm wt cd : Nat → Int32} {k : Nat} (hk8 : k < 8) (hk3 : kd k = 0 ∨ kd k = 1 ∨ kd k = 2 ∨ kd k = 3) (hok : okS (kd k) (f1 k) (f2 k)) {N : Nat} (h0 : 0 < N) (hN : N < 2 ^ 31) : ctI l y_MD_below prog_6_method_17_code 6 (some .int) 3 0 0 [.ref (q 0), .int (nI k), .int (nI N)] D K A (mW K q kd f1 f2 ou nk nf ns hi lo rc zi sd ix mm wt cd) (fun r w => r = (bel (nI N) (kd k) 8 (f1 k, f2 k)).1 ∧ ∃ o2 h2 l2, w = (mW K q kd (vp_updL f1 k (bel (nI N) (kd k) 8 (f1 k, f2 k)).2.1) (vp_updL f2 k (bel (nI N) (kd k) 8 (f1 k, f2 k)).2.2) o2 nk nf ns h2 l2 rc zi sd ix mm wt cd)) := by
  refine mt_of (by decide) (Nat.le_of_ble_eq_true rfl) ?_
  intro p e s m below meth c ls B hw hl
  have hx := B.1
  have hb := B.2.1
  have hl : lv_has ls 6 [(0, .ref (q 0)), (1, .int (nI k)), (2, .int (nI N))] := hl
  refine g_ldc2 B kc_MD_35 d_MD_below_0 ?_
  refine lv_iload_n hx hb d_MD_below_3 rfl (lv_at hl 2 rfl) ?_
  refine lv_i2l hx hb d_MD_below_4 rfl ?_
  refine lv_lrem hx hb d_MD_below_5 (ne64 h0 hN) ?_
  refine lv_lstore_n hx hb d_MD_below_6 rfl hl (by decide) rfl (fun ls (hl : lv_has ls 6 [(3, .long (lst (nI N))), (0, .ref _), (1, .int _), (2, .int _)]) => ?_)
  refine lv_iconst (v := 1) hx hb d_MD_below_7 (by decide) ?_
  refine lv_istore hx hb d_MD_below_8 hl (by decide) rfl (fun ls (hl : lv_has ls 6 [(5, .int _), (3, .long _), (0, .ref _), (1, .int _), (2, .int _)]) => ?_)
  refine lp_w (σ := Nat × (Int64 × Int64) × Int32 × Int64 × Int64) (fun x => x.1) (fun x H locs ls => 0 < x.1 ∧ x.1 ≤ 8 ∧ bel (nI N) (kd k) 8 (f1 k, f2 k) = bel (nI N) (kd k) x.1 x.2.1 ∧ okS (kd k) x.2.1.1 x.2.1.2 ∧ lv_has ls 6 [(5, .int (nI (9 - x.1))), (3, .long (lst (nI N))), (0, .ref (q 0)), (1, .int (nI k)), (2, .int (nI N))] ∧ wd D A (mW K q kd (vp_updL f1 k x.2.1.1) (vp_updL f2 k x.2.1.2) x.2.2.1 nk nf ns x.2.2.2.1 x.2.2.2.2 rc zi sd ix mm wt cd) s H locs) ?_ (8, (f1 k, f2 k), ou, hi, lo) _ _ _ ⟨by show 0 < 8; omega, by show 8 ≤ 8; omega, rfl, hok, lv_sub hl [0, 1, 2, 3, 4] rfl, by show wd D A (mW K q kd (vp_updL f1 k (f1 k)) (vp_updL f2 k (f2 k)) ou nk nf ns hi lo rc zi sd ix mm wt cd) s _ _; rw [updL_self, updL_self]; exact hw⟩
  rintro ⟨j, ⟨F, G⟩, o2, h2, l2⟩ H locs ls ⟨hj, hj8, hbel, hokj, hl, hw⟩ ih
  dsimp only at hj hj8 hbel hokj hl hw
  refine lv_iload hx hb d_MD_below_10 (lv_at hl 0 rfl) ?_
  refine lv_bipush (v := 8) hx hb d_MD_below_12 (by decide) ?_
  refine lv_icmp_gt (tgt := 63) hx hb d_MD_below_14 rfl (fun h14 => ?_) (fun h14 => ?_)
  · exact absurd ((nI_ltI (a := 8) (by omega) (by omega)).mp h14) (by omega)
  · refine lv_aload_n hx hb d_MD_below_17 rfl (lv_at hl 2 rfl) ?_
    refine lv_iload_n hx hb d_MD_below_18 rfl (lv_at hl 3 rfl) ?_
    refine k_v (k_runV B hw (c_MD_step (k := k) hk8 hk3 (by rw [updL_s, updL_s]; exact hokj)) rfl rfl cf_MD_115 mw_0 rfl rfl ⟨Nat.le_of_ble_eq_true rfl, Nat.le_of_ble_eq_true rfl⟩ rfl hl.1 rfl (Nat.le_of_ble_eq_true rfl) d_MD_below_19 ⟨Nat.le_of_ble_eq_true rfl, Nat.le_of_ble_eq_true rfl⟩) hw (fun w1 H locs hq hw => ?_)
    obtain ⟨h3, l3, ew⟩ := hq
    rw [ew, updL_s, updL_s, updL_updL, updL_updL] at hw
    refine lv_aload_n hx hb d_MD_below_22 rfl (lv_at hl 2 rfl) ?_
    refine lv_aload_n hx hb d_MD_below_23 rfl (lv_at hl 2 rfl) ?_
    refine g_get B hw fl_MD_50 mw_0 rfl d_MD_below_24 ?_
    refine k_l (k_runS B hw c_MD_number rfl rfl cf_MD_71 ⟨Nat.le_of_ble_eq_true rfl, Nat.le_of_ble_eq_true rfl⟩ rfl hl.1 rfl (Nat.le_of_ble_eq_true rfl) d_MD_below_27 ⟨Nat.le_of_ble_eq_true rfl, Nat.le_of_ble_eq_true rfl⟩) hw (fun r27 w1 H locs hq hw => ?_)
    obtain ⟨rfl, ew⟩ := hq
    rw [ew] at hw
    refine lv_iload_n hx hb d_MD_below_30 rfl (lv_at hl 4 rfl) ?_
    refine lv_i2l hx hb d_MD_below_31 rfl ?_
    refine k_v (k_runV B hw c_MD_multiply rfl rfl cf_MD_77 mw_0 rfl rfl ⟨Nat.le_of_ble_eq_true rfl, Nat.le_of_ble_eq_true rfl⟩ rfl hl.1 rfl (Nat.le_of_ble_eq_true rfl) d_MD_below_32 ⟨Nat.le_of_ble_eq_true rfl, Nat.le_of_ble_eq_true rfl⟩) hw (fun w1 H locs hq hw => ?_)
    rw [hq] at hw
    refine lv_aload_n hx hb d_MD_below_35 rfl (lv_at hl 2 rfl) ?_
    refine g_get B hw fl_MD_39 mw_0 rfl d_MD_below_36 ?_
    refine lv_lload_n hx hb d_MD_below_39 rfl (lv_at hl 1 rfl) ?_
    refine W.lcmp hx hb d_MD_below_40 ?_
    refine lv_if_ge (tgt := 51) hx hb d_MD_below_41 rfl (fun h41 => ?_) (fun h41 => ?_)
    · rw [lg_cmp_ge, (dr_mul _ hN).2] at h41
      have hs := bel_stop (n := nI N) (k := kd k) (t := (F, G)) hj (Or.inr (Int64.not_lt.mpr h41))
      refine lv_aload_n hx hb d_MD_below_51 rfl (lv_at hl 2 rfl) ?_
      refine g_get B hw fl_MD_43 mw_0 rfl d_MD_below_52 ?_
      refine lv_l2i hx hb d_MD_below_55 rfl ?_
      rw [(dr_mul _ hN).1]
      exact r_i B hw d_MD_below_56 ⟨by rw [hbel, hs]; rfl, _, _, _, by rw [hbel, hs]⟩
    · rw [lg_cmp_ge, (dr_mul _ hN).2] at h41
      have h41 := Int64.not_le.mp h41
      refine lv_iload hx hb d_MD_below_44 (lv_at hl 0 rfl) ?_
      refine lv_bipush (v := 8) hx hb d_MD_below_46 (by decide) ?_
      refine lv_icmp_ne (tgt := 57) hx hb d_MD_below_48 rfl (fun h48 => ?_) (fun h48 => ?_)
      · have h48 : 1 < j := Nat.lt_of_not_le (fun z => h48 (by rw [show 9 - j = 8 by omega]; rfl))
        refine lv_iinc (k := 0) hx hb d_MD_below_57 hl rfl (show nI (9 - j) + Int32.ofInt 1 = nI (9 - (j - 1)) from by rw [show 9 - (j - 1) = (9 - j) + 1 by omega]; exact (nI_succ _).symm) (by decide) rfl (fun ls (hl : lv_has ls 6 [(5, .int (nI (9 - (j - 1)))), (3, .long _), (0, .ref _), (1, .int _), (2, .int _)]) => ?_)
        refine lv_goto (tgt := 10) hx hb d_MD_below_60 rfl ?_
        exact ih (j - 1, (mvF (kd k) F G, mvS (kd k) F G), _, _, _) _ _ _ (by show j - 1 < j; omega) ⟨by show 0 < j - 1; omega, by show j - 1 ≤ 8; omega, hbel.trans (bel_go h48 h41), okS_mv hokj, lv_sub hl [0, 1, 2, 3, 4] rfl, hw⟩
      · have h48 : 9 - j = 8 := (nI_eq (b := 8) (by omega) (by omega)).mp h48
        have hs := bel_stop (n := nI N) (k := kd k) (t := (F, G)) hj (Or.inl (by omega))
        refine lv_aload_n hx hb d_MD_below_51 rfl (lv_at hl 2 rfl) ?_
        refine g_get B hw fl_MD_43 mw_0 rfl d_MD_below_52 ?_
        refine lv_l2i hx hb d_MD_below_55 rfl ?_
        rw [(dr_mul _ hN).1]
        exact r_i B hw d_MD_below_56 ⟨by rw [hbel, hs]; rfl, _, _, _, by rw [hbel, hs]⟩
set_option maxRecDepth 100000 in
set_option maxHeartbeats 4000000 in
theorem c_MD_release {l : Launch} {D : va_G} {K : Nat → ClassId} {A : Nat → Prop} {q : Nat → Nat} {kd : Nat → Int32} {f1 f2 : Nat → Int64} {ou nk : Int32} {nf ns hi lo : Int64} {rc : Int32} {zi sd : Nat → Int32} {ix : Int32} {mm wt cd : Nat → Int32} {x : Int32} : ctI l y_MD_release prog_6_method_14_code 2 (some .boolean) 1 0 0 [.ref (q 0), .int x] D K A (mW K q kd f1 f2 ou nk nf ns hi lo rc zi sd ix mm wt cd) (fun r w => r = rlA kd x ∧ MR K q (rlK kd x) f1 f2 rc zi sd ix wt cd w) := by
  refine mt_of (by decide) (Nat.le_of_ble_eq_true rfl) ?_
  intro p e s m below meth c ls B hw hl
  have hx := B.1
  have hb := B.2.1
  have hl : lv_has ls 2 [(0, .ref (q 0)), (1, .int x)] := hl
  refine lv_aload_n hx hb d_MD_release_0 rfl (lv_at hl 0 rfl) ?_
  refine lv_iload_n hx hb d_MD_release_1 rfl (lv_at hl 1 rfl) ?_
  refine k_i (k_runV B hw c_MD_holds rfl rfl cf_MD_109 mw_0 rfl rfl ⟨Nat.le_of_ble_eq_true rfl, Nat.le_of_ble_eq_true rfl⟩ rfl hl.1 rfl (Nat.le_of_ble_eq_true rfl) d_MD_release_2 ⟨Nat.le_of_ble_eq_true rfl, Nat.le_of_ble_eq_true rfl⟩) hw (fun r2 w1 H locs hq hw => ?_)
  obtain ⟨rfl, ew⟩ := hq
  rw [ew] at hw
  rcases hd_case kd x with ⟨hn, hz⟩ | ⟨k, hk8, rfl, hn, hkd, hz⟩
  · rw [hz]
    refine lv_if_ne (tgt := 10) hx hb d_MD_release_5 rfl (fun h5 => ?_) (fun h5 => ?_)
    · exact absurd rfl h5
    · refine lv_iconst (v := 0) hx hb d_MD_release_8 (by decide) ?_
      exact r_z B hw (by decide) d_MD_release_9 ⟨rfl, by unfold rlK; rw [onS_n hn]; exact ⟨_, _, _, _, _, _, _, rfl⟩⟩
  · rw [hz]
    refine lv_if_ne (tgt := 10) hx hb d_MD_release_5 rfl (fun h5 => ?_) (fun h5 => ?_)
    · refine lv_aload_n hx hb d_MD_release_10 rfl (lv_at hl 0 rfl) ?_
      refine g_get B hw fl_MD_7 mw_0 rfl d_MD_release_11 ?_
      refine lv_iload_n hx hb d_MD_release_14 rfl (lv_at hl 1 rfl) ?_
      refine lv_iconst (v := (-1)) hx hb d_MD_release_15 (by decide) ?_
      refine g_iast B hw mw_1 (vp_in_nI hk8 (by omega)) d_MD_release_16 (fun H locs (hw : wd D A (mW K q _ _ _ _ _ _ _ _ _ _ _ _ _ _ _ _) s H locs) => ?_)
      rw [nI_clamp (by omega)] at hw
      refine lv_iconst (v := 1) hx hb d_MD_release_17 (by decide) ?_
      exact r_z B hw (by decide) d_MD_release_18 ⟨rfl, by unfold rlK; rw [onS_s hn]; exact ⟨_, _, _, _, _, _, _, rfl⟩⟩
    · exact absurd h5 (by decide)
set_option maxRecDepth 100000 in
set_option maxHeartbeats 4000000 in
theorem c_MD_next {l : Launch} {D : va_G} {K : Nat → ClassId} {A : Nat → Prop} {q : Nat → Nat} {kd : Nat → Int32} {f1 f2 : Nat → Int64} {ou nk : Int32} {nf ns hi lo : Int64} {rc : Int32} {zi sd : Nat → Int32} {ix : Int32} {mm wt cd : Nat → Int32} (hI : ∀ k, k < 8 → ¬ kd k < 0 → kd k ≤ 3 ∧ okS (kd k) (f1 k) (f2 k)) {x : Int32} : ctL l y_MD_next prog_6_method_15_code 2 3 0 0 [.ref (q 0), .int x] D K A (mW K q kd f1 f2 ou nk nf ns hi lo rc zi sd ix mm wt cd) (fun r w => r = nxA kd f1 f2 x ∧ MR K q kd (nx1 kd f1 f2 x) (nx2 kd f1 f2 x) rc zi sd ix wt cd w) := by
  refine mt_of (by decide) (Nat.le_of_ble_eq_true rfl) ?_
  intro p e s m below meth c ls B hw hl
  have hx := B.1
  have hb := B.2.1
  have hl : lv_has ls 2 [(0, .ref (q 0)), (1, .int x)] := hl
  refine lv_aload_n hx hb d_MD_next_0 rfl (lv_at hl 0 rfl) ?_
  refine lv_iload_n hx hb d_MD_next_1 rfl (lv_at hl 1 rfl) ?_
  refine k_i (k_runV B hw c_MD_holds rfl rfl cf_MD_109 mw_0 rfl rfl ⟨Nat.le_of_ble_eq_true rfl, Nat.le_of_ble_eq_true rfl⟩ rfl hl.1 rfl (Nat.le_of_ble_eq_true rfl) d_MD_next_2 ⟨Nat.le_of_ble_eq_true rfl, Nat.le_of_ble_eq_true rfl⟩) hw (fun r2 w1 H locs hq hw => ?_)
  obtain ⟨rfl, ew⟩ := hq
  rw [ew] at hw
  rcases hd_case kd x with ⟨hn, hz⟩ | ⟨k, hk8, rfl, hn, hkd, hz⟩
  · rw [hz]
    refine lv_if_ne (tgt := 12) hx hb d_MD_next_5 rfl (fun h5 => ?_) (fun h5 => ?_)
    · exact absurd rfl h5
    · refine g_ldc2 B kc_MD_113 d_MD_next_8 ?_
      exact r_l B hw d_MD_next_11 ⟨by unfold nxA; rw [onS_n hn], by unfold nx1 nx2; rw [onS_n hn, onS_n hn]; exact ⟨_, _, _, _, _, _, _, rfl⟩⟩
  · rw [hz]
    have hk3 := k3of hkd (hI k hk8 hkd).1
    have hok := (hI k hk8 hkd).2
    refine lv_if_ne (tgt := 12) hx hb d_MD_next_5 rfl (fun h5 => ?_) (fun h5 => ?_)
    · refine lv_aload_n hx hb d_MD_next_12 rfl (lv_at hl 0 rfl) ?_
      refine lv_iload_n hx hb d_MD_next_13 rfl (lv_at hl 1 rfl) ?_
      refine k_v (k_runV B hw (c_MD_step hk8 hk3 hok) rfl rfl cf_MD_115 mw_0 rfl rfl ⟨Nat.le_of_ble_eq_true rfl, Nat.le_of_ble_eq_true rfl⟩ rfl hl.1 rfl (Nat.le_of_ble_eq_true rfl) d_MD_next_14 ⟨Nat.le_of_ble_eq_true rfl, Nat.le_of_ble_eq_true rfl⟩) hw (fun w1 H locs hq hw => ?_)
      obtain ⟨h2, l2, ew⟩ := hq
      rw [ew] at hw
      refine lv_aload_n hx hb d_MD_next_17 rfl (lv_at hl 0 rfl) ?_
      refine g_get B hw fl_MD_50 mw_0 rfl d_MD_next_18 ?_
      refine k_l (k_runS B hw c_MD_number rfl rfl cf_MD_71 ⟨Nat.le_of_ble_eq_true rfl, Nat.le_of_ble_eq_true rfl⟩ rfl hl.1 rfl (Nat.le_of_ble_eq_true rfl) d_MD_next_21 ⟨Nat.le_of_ble_eq_true rfl, Nat.le_of_ble_eq_true rfl⟩) hw (fun r21 w1 H locs hq hw => ?_)
      obtain ⟨rfl, ew⟩ := hq
      rw [ew] at hw
      exact r_l B hw d_MD_next_24 ⟨by unfold nxA; rw [onS_s hn], by unfold nx1 nx2; rw [onS_s hn, onS_s hn]; exact ⟨_, _, _, _, _, _, _, rfl⟩⟩
    · exact absurd h5 (by decide)
set_option maxRecDepth 100000 in
set_option maxHeartbeats 4000000 in
theorem c_MD_jump {l : Launch} {D : va_G} {K : Nat → ClassId} {A : Nat → Prop} {q : Nat → Nat} {kd : Nat → Int32} {f1 f2 : Nat → Int64} {ou nk : Int32} {nf ns hi lo : Int64} {rc : Int32} {zi sd : Nat → Int32} {ix : Int32} {mm wt cd : Nat → Int32} (hI : ∀ k, k < 8 → ¬ kd k < 0 → kd k ≤ 3 ∧ okS (kd k) (f1 k) (f2 k)) {x y : Int32} : ctI l y_MD_jump prog_6_method_16_code 4 (some .boolean) 3 0 0 [.ref (q 0), .int x, .int y] D K A (mW K q kd f1 f2 ou nk nf ns hi lo rc zi sd ix mm wt cd) (fun r w => r = jpA kd x y ∧ MR K q kd (jp1 kd f1 f2 x y) (jp2 kd f1 f2 x y) rc zi sd ix wt cd w) := by
  refine mt_of (by decide) (Nat.le_of_ble_eq_true rfl) ?_
  intro p e s m below meth c ls B hw hl
  have hx := B.1
  have hb := B.2.1
  have hl : lv_has ls 4 [(0, .ref (q 0)), (1, .int x), (2, .int y)] := hl
  refine lv_aload_n hx hb d_MD_jump_0 rfl (lv_at hl 0 rfl) ?_
  refine lv_iload_n hx hb d_MD_jump_1 rfl (lv_at hl 1 rfl) ?_
  refine k_i (k_runV B hw c_MD_holds rfl rfl cf_MD_109 mw_0 rfl rfl ⟨Nat.le_of_ble_eq_true rfl, Nat.le_of_ble_eq_true rfl⟩ rfl hl.1 rfl (Nat.le_of_ble_eq_true rfl) d_MD_jump_2 ⟨Nat.le_of_ble_eq_true rfl, Nat.le_of_ble_eq_true rfl⟩) hw (fun r2 w1 H locs hq hw => ?_)
  obtain ⟨rfl, ew⟩ := hq
  rw [ew] at hw
  rcases hd_case kd x with ⟨hn, hz⟩ | ⟨k, hk8, rfl, hn, hkd, hz⟩
  · rw [hz]
    refine lv_if_eq (tgt := 18) hx hb d_MD_jump_5 rfl (fun h5 => ?_) (fun h5 => ?_)
    · refine lv_iconst (v := 0) hx hb d_MD_jump_18 (by decide) ?_
      exact r_z B hw (by decide) d_MD_jump_19 ⟨by unfold jpA; rw [onS_n hn], by unfold jp1 jp2; rw [onS_n hn, onS_n hn]; exact ⟨_, _, _, _, _, _, _, rfl⟩⟩
    · exact absurd rfl h5
  · rw [hz]
    have hk3 := k3of hkd (hI k hk8 hkd).1
    have hok := (hI k hk8 hkd).2
    refine lv_if_eq (tgt := 18) hx hb d_MD_jump_5 rfl (fun h5 => ?_) (fun h5 => ?_)
    · exact absurd h5 (by decide)
    · refine lv_iload_n hx hb d_MD_jump_8 rfl (lv_at hl 2 rfl) ?_
      refine lv_if_lt (tgt := 18) hx hb d_MD_jump_9 rfl (fun h9 => ?_) (fun h9 => ?_)
      · have ez : jpB y = false := if_pos h9
        refine lv_iconst (v := 0) hx hb d_MD_jump_18 (by decide) ?_
        exact r_z B hw (by decide) d_MD_jump_19 ⟨by unfold jpA; rw [onS_s hn, ez]; rfl, by unfold jp1 jp2; rw [onS_s hn, onS_s hn]; (try dsimp only); rw [ez]; exact ⟨_, _, _, _, _, _, _, rfl⟩⟩
      · have ez : jpB y = _ := if_neg h9
        refine lv_iload_n hx hb d_MD_jump_12 rfl (lv_at hl 2 rfl) ?_
        refine g_ldc B kc_MD_119 d_MD_jump_13 ?_
        refine lv_icmp_le (tgt := 20) hx hb d_MD_jump_15 rfl (fun h15 => ?_) (fun h15 => ?_)
        · rw [if_pos h15] at ez
          obtain ⟨N, hN, rfl⟩ := nI_of h9
          have h15 : N ≤ 65535 := (nI_leI (b := 65535) (by omega) (by omega)).mp h15
          refine lv_iconst (v := 0) hx hb d_MD_jump_20 (by decide) ?_
          refine lv_istore_n hx hb d_MD_jump_21 rfl hl (by decide) rfl (fun ls (hl : lv_has ls 4 [(3, .int _), (0, .ref _), (1, .int _), (2, .int _)]) => ?_)
          refine lp_w (σ := Nat × (Int64 × Int64) × Int32 × Int64 × Int64) (fun z => N - z.1) (fun z H locs ls => z.1 ≤ N ∧ mvN (kd k) N (f1 k, f2 k) = mvN (kd k) (N - z.1) z.2.1 ∧ okS (kd k) z.2.1.1 z.2.1.2 ∧ lv_has ls 4 [(3, .int (nI z.1)), (0, .ref (q 0)), (1, .int (nI k)), (2, .int (nI N))] ∧ wd D A (mW K q kd (vp_updL f1 k z.2.1.1) (vp_updL f2 k z.2.1.2) z.2.2.1 nk nf ns z.2.2.2.1 z.2.2.2.2 rc zi sd ix mm wt cd) s H locs) ?_ (0, (f1 k, f2 k), ou, hi, lo) _ _ _ ⟨by show 0 ≤ N; omega, rfl, hok, lv_sub hl [0, 1, 2, 3] rfl, by show wd D A (mW K q kd (vp_updL f1 k (f1 k)) (vp_updL f2 k (f2 k)) ou nk nf ns hi lo rc zi sd ix mm wt cd) s _ _; rw [updL_self, updL_self]; exact hw⟩
          rintro ⟨j, ⟨F, G⟩, o2, h2, l2⟩ H locs ls ⟨hj, hmv, hokj, hl, hw⟩ ih
          dsimp only at hj hmv hokj hl hw
          refine lv_iload_n hx hb d_MD_jump_22 rfl (lv_at hl 0 rfl) ?_
          refine lv_iload_n hx hb d_MD_jump_23 rfl (lv_at hl 3 rfl) ?_
          refine lv_icmp_ge (tgt := 38) hx hb d_MD_jump_24 rfl (fun h24 => ?_) (fun h24 => ?_)
          · have h24 : N ≤ j := (nI_leI (by omega) (by omega)).mp h24
            have hjN : j = N := by omega
            rw [hjN, Nat.sub_self] at hmv
            have hmv : mvN (kd k) N (f1 k, f2 k) = (F, G) := hmv
            refine lv_iconst (v := 1) hx hb d_MD_jump_38 (by decide) ?_
            exact r_z B hw (by decide) d_MD_jump_39 ⟨by unfold jpA; rw [onS_s hn, ez]; rfl, by unfold jp1 jp2; rw [onS_s hn, onS_s hn]; (try dsimp only); rw [ez, if_pos rfl, if_pos rfl, nI_clamp (by omega), hmv]; exact ⟨_, _, _, _, _, _, _, rfl⟩⟩
          · have h24 : j < N := Nat.lt_of_not_le (fun q => h24 ((nI_leI (by omega) (by omega)).mpr q))
            refine lv_aload_n hx hb d_MD_jump_27 rfl (lv_at hl 1 rfl) ?_
            refine lv_iload_n hx hb d_MD_jump_28 rfl (lv_at hl 2 rfl) ?_
            refine k_v (k_runV B hw (c_MD_step (k := k) hk8 hk3 (by rw [updL_s, updL_s]; exact hokj)) rfl rfl cf_MD_115 mw_0 rfl rfl ⟨Nat.le_of_ble_eq_true rfl, Nat.le_of_ble_eq_true rfl⟩ rfl hl.1 rfl (Nat.le_of_ble_eq_true rfl) d_MD_jump_29 ⟨Nat.le_of_ble_eq_true rfl, Nat.le_of_ble_eq_true rfl⟩) hw (fun w1 H locs hq hw => ?_)
            obtain ⟨h3, l3, ew⟩ := hq
            rw [ew, updL_s, updL_s, updL_updL, updL_updL] at hw
            refine lv_iinc (k := 0) hx hb d_MD_jump_32 hl rfl (show nI j + Int32.ofInt 1 = nI (j + 1) from (nI_succ j).symm) (by decide) rfl (fun ls (hl : lv_has ls 4 [(3, .int (nI (j + 1))), (0, .ref _), (1, .int _), (2, .int _)]) => ?_)
            refine lv_goto (tgt := 22) hx hb d_MD_jump_35 rfl ?_
            exact ih (j + 1, (mvF (kd k) F G, mvS (kd k) F G), _, _, _) _ _ _ (by show N - (j + 1) < N - j; omega) ⟨by show j + 1 ≤ N; omega, hmv.trans (mvN_go h24 _), okS_mv hokj, lv_sub hl [0, 1, 2, 3] rfl, hw⟩
        · rw [if_neg h15] at ez
          refine lv_iconst (v := 0) hx hb d_MD_jump_18 (by decide) ?_
          exact r_z B hw (by decide) d_MD_jump_19 ⟨by unfold jpA; rw [onS_s hn, ez]; rfl, by unfold jp1 jp2; rw [onS_s hn, onS_s hn]; (try dsimp only); rw [ez]; exact ⟨_, _, _, _, _, _, _, rfl⟩⟩
set_option maxRecDepth 100000 in
set_option maxHeartbeats 4000000 in
theorem c_MD_draw {l : Launch} {D : va_G} {K : Nat → ClassId} {A : Nat → Prop} {q : Nat → Nat} {kd : Nat → Int32} {f1 f2 : Nat → Int64} {ou nk : Int32} {nf ns hi lo : Int64} {rc : Int32} {zi sd : Nat → Int32} {ix : Int32} {mm wt cd : Nat → Int32} (hI : ∀ k, k < 8 → ¬ kd k < 0 → kd k ≤ 3 ∧ okS (kd k) (f1 k) (f2 k)) {x y : Int32} : ctI l y_MD_draw prog_6_method_18_code 3 (some .int) 4 0 0 [.ref (q 0), .int x, .int y] D K A (mW K q kd f1 f2 ou nk nf ns hi lo rc zi sd ix mm wt cd) (fun r w => r = drA kd f1 f2 x y ∧ MR K q kd (dr1 kd f1 f2 x y) (dr2 kd f1 f2 x y) rc zi sd ix wt cd w) := by
  refine mt_of (by decide) (Nat.le_of_ble_eq_true rfl) ?_
  intro p e s m below meth c ls B hw hl
  have hx := B.1
  have hb := B.2.1
  have hl : lv_has ls 3 [(0, .ref (q 0)), (1, .int x), (2, .int y)] := hl
  refine lv_aload_n hx hb d_MD_draw_0 rfl (lv_at hl 0 rfl) ?_
  refine lv_iload_n hx hb d_MD_draw_1 rfl (lv_at hl 1 rfl) ?_
  refine k_i (k_runV B hw c_MD_holds rfl rfl cf_MD_109 mw_0 rfl rfl ⟨Nat.le_of_ble_eq_true rfl, Nat.le_of_ble_eq_true rfl⟩ rfl hl.1 rfl (Nat.le_of_ble_eq_true rfl) d_MD_draw_2 ⟨Nat.le_of_ble_eq_true rfl, Nat.le_of_ble_eq_true rfl⟩) hw (fun r2 w1 H locs hq hw => ?_)
  obtain ⟨rfl, ew⟩ := hq
  rw [ew] at hw
  rcases hd_case kd x with ⟨hn, hz⟩ | ⟨k, hk8, rfl, hn, hkd, hz⟩
  · rw [hz]
    refine lv_if_eq (tgt := 13) hx hb d_MD_draw_5 rfl (fun h5 => ?_) (fun h5 => ?_)
    · refine lv_iconst (v := (-1)) hx hb d_MD_draw_13 (by decide) ?_
      refine lv_goto (tgt := 23) hx hb d_MD_draw_14 rfl ?_
      exact r_i B hw d_MD_draw_23 ⟨by unfold drA; rw [onS_n hn], by unfold dr1 dr2; rw [onS_n hn, onS_n hn]; exact ⟨_, _, _, _, _, _, _, rfl⟩⟩
    · exact absurd rfl h5
  · rw [hz]
    have hk3 := k3of hkd (hI k hk8 hkd).1
    have hok := (hI k hk8 hkd).2
    refine lv_if_eq (tgt := 13) hx hb d_MD_draw_5 rfl (fun h5 => ?_) (fun h5 => ?_)
    · exact absurd h5 (by decide)
    · refine lv_iload_n hx hb d_MD_draw_8 rfl (lv_at hl 2 rfl) ?_
      refine lv_iconst (v := 1) hx hb d_MD_draw_9 (by decide) ?_
      refine lv_icmp_ge (tgt := 17) hx hb d_MD_draw_10 rfl (fun h10 => ?_) (fun h10 => ?_)
      · have h10b := h10
        obtain ⟨N, hN0, hN, rfl⟩ := pos_of h10
        refine lv_aload_n hx hb d_MD_draw_17 rfl (lv_at hl 0 rfl) ?_
        refine lv_iload_n hx hb d_MD_draw_18 rfl (lv_at hl 1 rfl) ?_
        refine lv_iload_n hx hb d_MD_draw_19 rfl (lv_at hl 2 rfl) ?_
        refine k_i (k_runV B hw (c_MD_below hk8 hk3 hok hN0 hN) rfl rfl cf_MD_120 mw_0 rfl rfl ⟨Nat.le_of_ble_eq_true rfl, Nat.le_of_ble_eq_true rfl⟩ rfl hl.1 rfl (Nat.le_of_ble_eq_true rfl) d_MD_draw_20 ⟨Nat.le_of_ble_eq_true rfl, Nat.le_of_ble_eq_true rfl⟩) hw (fun r20 w1 H locs hq hw => ?_)
        have er := hq.1
        obtain ⟨o2, h2, l2, ew⟩ := hq.2
        rw [ew] at hw
        rw [er]
        exact r_i B hw d_MD_draw_23 ⟨by unfold drA; rw [onS_s hn]; exact (if_pos h10b).symm, by unfold dr1 dr2; rw [onS_s hn, onS_s hn]; (try dsimp only); rw [if_pos h10b, if_pos h10b]; exact ⟨_, _, _, _, _, _, _, rfl⟩⟩
      · refine lv_iconst (v := (-1)) hx hb d_MD_draw_13 (by decide) ?_
        refine lv_goto (tgt := 23) hx hb d_MD_draw_14 rfl ?_
        exact r_i B hw d_MD_draw_23 ⟨by unfold drA; rw [onS_s hn]; exact (if_neg h10).symm, by unfold dr1 dr2; rw [onS_s hn, onS_s hn]; (try dsimp only); rw [if_neg h10, if_neg h10]; exact ⟨_, _, _, _, _, _, _, rfl⟩⟩
set_option maxRecDepth 100000 in
set_option maxHeartbeats 4000000 in
theorem c_MD_same {l : Launch} {D : va_G} {K : Nat → ClassId} {A : Nat → Prop} {q : Nat → Nat} {kd : Nat → Int32} {f1 f2 : Nat → Int64} {ou nk : Int32} {nf ns hi lo : Int64} {rc : Int32} {zi sd : Nat → Int32} {ix : Int32} {mm wt cd : Nat → Int32} {x y : Int32} : ctI l y_MD_same prog_6_method_19_code 3 (some .boolean) 1 0 0 [.ref (q 0), .int x, .int y] D K A (mW K q kd f1 f2 ou nk nf ns hi lo rc zi sd ix mm wt cd) (fun r w => r = smA kd f1 f2 x y ∧ w = mW K q kd f1 f2 ou nk nf ns hi lo rc zi sd ix mm wt cd) := by
  refine mt_of (by decide) (Nat.le_of_ble_eq_true rfl) ?_
  intro p e s m below meth c ls B hw hl
  have hx := B.1
  have hb := B.2.1
  have hl : lv_has ls 3 [(0, .ref (q 0)), (1, .int x), (2, .int y)] := hl
  refine lv_aload_n hx hb d_MD_same_0 rfl (lv_at hl 0 rfl) ?_
  refine lv_iload_n hx hb d_MD_same_1 rfl (lv_at hl 1 rfl) ?_
  refine k_i (k_runV B hw c_MD_holds rfl rfl cf_MD_109 mw_0 rfl rfl ⟨Nat.le_of_ble_eq_true rfl, Nat.le_of_ble_eq_true rfl⟩ rfl hl.1 rfl (Nat.le_of_ble_eq_true rfl) d_MD_same_2 ⟨Nat.le_of_ble_eq_true rfl, Nat.le_of_ble_eq_true rfl⟩) hw (fun r2 w1 H locs hq hw => ?_)
  obtain ⟨rfl, ew⟩ := hq
  rw [ew] at hw
  rcases hd_case kd x with ⟨hn, hz⟩ | ⟨k, hk8, rfl, hn, hkd, hz⟩
  · rw [hz]
    refine lv_if_eq (tgt := 67) hx hb d_MD_same_5 rfl (fun h5 => ?_) (fun h5 => ?_)
    · refine lv_iconst (v := 0) hx hb d_MD_same_67 (by decide) ?_
      exact r_z B hw (by decide) d_MD_same_68 ⟨by unfold smA; rw [onS_n hn], rfl⟩
    · exact absurd rfl h5
  · rw [hz]
    refine lv_if_eq (tgt := 67) hx hb d_MD_same_5 rfl (fun h5 => ?_) (fun h5 => ?_)
    · exact absurd h5 (by decide)
    · refine lv_aload_n hx hb d_MD_same_8 rfl (lv_at hl 0 rfl) ?_
      refine lv_iload_n hx hb d_MD_same_9 rfl (lv_at hl 2 rfl) ?_
      refine k_i (k_runV B hw c_MD_holds rfl rfl cf_MD_109 mw_0 rfl rfl ⟨Nat.le_of_ble_eq_true rfl, Nat.le_of_ble_eq_true rfl⟩ rfl hl.1 rfl (Nat.le_of_ble_eq_true rfl) d_MD_same_10 ⟨Nat.le_of_ble_eq_true rfl, Nat.le_of_ble_eq_true rfl⟩) hw (fun r10 w1 H locs hq hw => ?_)
      obtain ⟨rfl, ew⟩ := hq
      rw [ew] at hw
      rcases hd_case kd y with ⟨hn2, hz2⟩ | ⟨k2, hk82, rfl, hn2, hkd2, hz2⟩
      · rw [hz2]
        refine lv_if_eq (tgt := 67) hx hb d_MD_same_13 rfl (fun h13 => ?_) (fun h13 => ?_)
        · refine lv_iconst (v := 0) hx hb d_MD_same_67 (by decide) ?_
          exact r_z B hw (by decide) d_MD_same_68 ⟨by unfold smA; rw [onS_s hn, onS_n hn2], rfl⟩
        · exact absurd rfl h13
      · rw [hz2]
        refine lv_if_eq (tgt := 67) hx hb d_MD_same_13 rfl (fun h13 => ?_) (fun h13 => ?_)
        · exact absurd h13 (by decide)
        · refine lv_aload_n hx hb d_MD_same_16 rfl (lv_at hl 0 rfl) ?_
          refine g_get B hw fl_MD_7 mw_0 rfl d_MD_same_17 ?_
          refine lv_iload_n hx hb d_MD_same_20 rfl (lv_at hl 1 rfl) ?_
          refine g_iald B hw mw_1 (vp_in_nI hk8 (by omega)) d_MD_same_21 ?_
          rw [nI_clamp (by omega)]
          refine lv_aload_n hx hb d_MD_same_22 rfl (lv_at hl 0 rfl) ?_
          refine g_get B hw fl_MD_7 mw_0 rfl d_MD_same_23 ?_
          refine lv_iload_n hx hb d_MD_same_26 rfl (lv_at hl 2 rfl) ?_
          refine g_iald B hw mw_1 (vp_in_nI hk82 (by omega)) d_MD_same_27 ?_
          rw [nI_clamp (by omega)]
          refine lv_icmp_ne (tgt := 67) hx hb d_MD_same_28 rfl (fun h28 => ?_) (fun h28 => ?_)
          · have ez : smA kd f1 f2 (nI k) (nI k2) = 0 := by unfold smA; rw [onS_s hn, onS_s hn2]; exact if_neg h28
            refine lv_iconst (v := 0) hx hb d_MD_same_67 (by decide) ?_
            exact r_z B hw (by decide) d_MD_same_68 ⟨ez.symm, rfl⟩
          · have ez : smA kd f1 f2 (nI k) (nI k2) = (if f1 k = f1 k2 then (if f2 k = f2 k2 then 1 else 0) else 0) := by unfold smA; rw [onS_s hn, onS_s hn2]; exact if_pos h28
            refine lv_aload_n hx hb d_MD_same_31 rfl (lv_at hl 0 rfl) ?_
            refine g_get B hw fl_MD_13 mw_0 rfl d_MD_same_32 ?_
            refine lv_iload_n hx hb d_MD_same_35 rfl (lv_at hl 1 rfl) ?_
            refine g_lald B hw mw_2 (vp_in_nI hk8 (by omega)) d_MD_same_36 ?_
            rw [nI_clamp (by omega)]
            refine lv_aload_n hx hb d_MD_same_37 rfl (lv_at hl 0 rfl) ?_
            refine g_get B hw fl_MD_13 mw_0 rfl d_MD_same_38 ?_
            refine lv_iload_n hx hb d_MD_same_41 rfl (lv_at hl 2 rfl) ?_
            refine g_lald B hw mw_2 (vp_in_nI hk82 (by omega)) d_MD_same_42 ?_
            rw [nI_clamp (by omega)]
            refine W.lcmp hx hb d_MD_same_43 ?_
            refine lv_if_ne (tgt := 67) hx hb d_MD_same_44 rfl (fun h44 => ?_) (fun h44 => ?_)
            · rw [lg_cmp_eq] at h44
              rw [if_neg h44] at ez
              refine lv_iconst (v := 0) hx hb d_MD_same_67 (by decide) ?_
              exact r_z B hw (by decide) d_MD_same_68 ⟨ez.symm, rfl⟩
            · rw [lg_cmp_eq] at h44
              rw [if_pos h44] at ez
              refine lv_aload_n hx hb d_MD_same_47 rfl (lv_at hl 0 rfl) ?_
              refine g_get B hw fl_MD_17 mw_0 rfl d_MD_same_48 ?_
              refine lv_iload_n hx hb d_MD_same_51 rfl (lv_at hl 1 rfl) ?_
              refine g_lald B hw mw_3 (vp_in_nI hk8 (by omega)) d_MD_same_52 ?_
              rw [nI_clamp (by omega)]
              refine lv_aload_n hx hb d_MD_same_53 rfl (lv_at hl 0 rfl) ?_
              refine g_get B hw fl_MD_17 mw_0 rfl d_MD_same_54 ?_
              refine lv_iload_n hx hb d_MD_same_57 rfl (lv_at hl 2 rfl) ?_
              refine g_lald B hw mw_3 (vp_in_nI hk82 (by omega)) d_MD_same_58 ?_
              rw [nI_clamp (by omega)]
              refine W.lcmp hx hb d_MD_same_59 ?_
              refine lv_if_ne (tgt := 67) hx hb d_MD_same_60 rfl (fun h60 => ?_) (fun h60 => ?_)
              · rw [lg_cmp_eq] at h60
                rw [if_neg h60] at ez
                refine lv_iconst (v := 0) hx hb d_MD_same_67 (by decide) ?_
                exact r_z B hw (by decide) d_MD_same_68 ⟨ez.symm, rfl⟩
              · rw [lg_cmp_eq] at h60
                rw [if_pos h60] at ez
                refine lv_iconst (v := 1) hx hb d_MD_same_63 (by decide) ?_
                refine lv_goto (tgt := 68) hx hb d_MD_same_64 rfl ?_
                exact r_z B hw (by decide) d_MD_same_68 ⟨ez.symm, rfl⟩
set_option maxRecDepth 100000 in
set_option maxHeartbeats 4000000 in
theorem c_MD_twin {l : Launch} {D : va_G} {K : Nat → ClassId} {A : Nat → Prop} {q : Nat → Nat} {kd : Nat → Int32} {f1 f2 : Nat → Int64} {ou nk : Int32} {nf ns hi lo : Int64} {rc : Int32} {zi sd : Nat → Int32} {ix : Int32} {mm wt cd : Nat → Int32} {x : Int32} : ctI l y_MD_twin prog_6_method_13_code 3 (some .int) 1 0 0 [.ref (q 0), .int x] D K A (mW K q kd f1 f2 ou nk nf ns hi lo rc zi sd ix mm wt cd) (fun r w => r = twA kd x ∧ MR K q (twK kd x) (twL kd f1 x) (twL kd f2 x) rc zi sd ix wt cd w) := by
  refine mt_of (by decide) (Nat.le_of_ble_eq_true rfl) ?_
  intro p e s m below meth c ls B hw hl
  have hx := B.1
  have hb := B.2.1
  have hl : lv_has ls 3 [(0, .ref (q 0)), (1, .int x)] := hl
  refine lv_aload_n hx hb d_MD_twin_0 rfl (lv_at hl 0 rfl) ?_
  refine k_i (k_runV B hw c_MD_freeSlot rfl rfl cf_MD_97 mw_0 rfl rfl ⟨Nat.le_of_ble_eq_true rfl, Nat.le_of_ble_eq_true rfl⟩ rfl hl.1 rfl (Nat.le_of_ble_eq_true rfl) d_MD_twin_1 ⟨Nat.le_of_ble_eq_true rfl, Nat.le_of_ble_eq_true rfl⟩) hw (fun r1 w1 H locs hq hw => ?_)
  obtain ⟨rfl, ew⟩ := hq
  rw [ew] at hw
  refine lv_istore_n hx hb d_MD_twin_4 rfl hl (by decide) rfl (fun ls (hl : lv_has ls 3 [(2, .int _), (0, .ref _), (1, .int _)]) => ?_)
  refine lv_aload_n hx hb d_MD_twin_5 rfl (lv_at hl 1 rfl) ?_
  refine lv_iload_n hx hb d_MD_twin_6 rfl (lv_at hl 2 rfl) ?_
  refine k_i (k_runV B hw c_MD_holds rfl rfl cf_MD_109 mw_0 rfl rfl ⟨Nat.le_of_ble_eq_true rfl, Nat.le_of_ble_eq_true rfl⟩ rfl hl.1 rfl (Nat.le_of_ble_eq_true rfl) d_MD_twin_7 ⟨Nat.le_of_ble_eq_true rfl, Nat.le_of_ble_eq_true rfl⟩) hw (fun r7 w1 H locs hq hw => ?_)
  obtain ⟨rfl, ew⟩ := hq
  rw [ew] at hw
  rcases hd_case kd x with ⟨hn, hz⟩ | ⟨k, hk8, rfl, hn, hkd, hz⟩
  · rw [hz]
    refine lv_if_eq (tgt := 17) hx hb d_MD_twin_10 rfl (fun h10 => ?_) (fun h10 => ?_)
    · refine lv_iconst (v := (-1)) hx hb d_MD_twin_17 (by decide) ?_
      exact r_i B hw d_MD_twin_18 ⟨by unfold twA; rw [onS_n hn], by unfold twK twL; rw [onS_n hn, onS_n hn, onS_n hn]; exact ⟨_, _, _, _, _, _, _, rfl⟩⟩
    · exact absurd rfl h10
  · rw [hz]
    refine lv_if_eq (tgt := 17) hx hb d_MD_twin_10 rfl (fun h10 => ?_) (fun h10 => ?_)
    · exact absurd h10 (by decide)
    · refine lv_iload_n hx hb d_MD_twin_13 rfl (lv_at hl 0 rfl) ?_
      refine lv_if_ge (tgt := 19) hx hb d_MD_twin_14 rfl (fun h14 => ?_) (fun h14 => ?_)
      · obtain ⟨kf, hkf, hkl, hfi, hge⟩ := fr_of h14
        refine lv_aload_n hx hb d_MD_twin_19 rfl (lv_at hl 1 rfl) ?_
        refine g_get B hw fl_MD_7 mw_0 rfl d_MD_twin_20 ?_
        refine lv_iload_n hx hb d_MD_twin_23 rfl (lv_at hl 0 rfl) ?_
        refine lv_aload_n hx hb d_MD_twin_24 rfl (lv_at hl 1 rfl) ?_
        refine g_get B hw fl_MD_7 mw_0 rfl d_MD_twin_25 ?_
        refine lv_iload_n hx hb d_MD_twin_28 rfl (lv_at hl 2 rfl) ?_
        refine g_iald B hw mw_1 (vp_in_nI hk8 (by omega)) d_MD_twin_29 ?_
        rw [nI_clamp (by omega)]
        refine g_iast B hw mw_1 (by rw [hfi]; exact vp_in_nI hkf (by omega)) d_MD_twin_30 (fun H locs (hw : wd D A (mW K q _ _ _ _ _ _ _ _ _ _ _ _ _ _ _ _) s H locs) => ?_)
        rw [hfi, nI_clamp (by omega)] at hw
        refine lv_aload_n hx hb d_MD_twin_31 rfl (lv_at hl 1 rfl) ?_
        refine g_get B hw fl_MD_13 mw_0 rfl d_MD_twin_32 ?_
        refine lv_iload_n hx hb d_MD_twin_35 rfl (lv_at hl 0 rfl) ?_
        refine lv_aload_n hx hb d_MD_twin_36 rfl (lv_at hl 1 rfl) ?_
        refine g_get B hw fl_MD_13 mw_0 rfl d_MD_twin_37 ?_
        refine lv_iload_n hx hb d_MD_twin_40 rfl (lv_at hl 2 rfl) ?_
        refine g_lald B hw mw_2 (vp_in_nI hk8 (by omega)) d_MD_twin_41 ?_
        rw [nI_clamp (by omega)]
        refine g_last B hw mw_2 (by rw [hfi]; exact vp_in_nI hkf (by omega)) d_MD_twin_42 (fun H locs (hw : wd D A (mW K q _ _ _ _ _ _ _ _ _ _ _ _ _ _ _ _) s H locs) => ?_)
        rw [hfi, nI_clamp (by omega)] at hw
        refine lv_aload_n hx hb d_MD_twin_43 rfl (lv_at hl 1 rfl) ?_
        refine g_get B hw fl_MD_17 mw_0 rfl d_MD_twin_44 ?_
        refine lv_iload_n hx hb d_MD_twin_47 rfl (lv_at hl 0 rfl) ?_
        refine lv_aload_n hx hb d_MD_twin_48 rfl (lv_at hl 1 rfl) ?_
        refine g_get B hw fl_MD_17 mw_0 rfl d_MD_twin_49 ?_
        refine lv_iload_n hx hb d_MD_twin_52 rfl (lv_at hl 2 rfl) ?_
        refine g_lald B hw mw_3 (vp_in_nI hk8 (by omega)) d_MD_twin_53 ?_
        rw [nI_clamp (by omega)]
        refine g_last B hw mw_3 (by rw [hfi]; exact vp_in_nI hkf (by omega)) d_MD_twin_54 (fun H locs (hw : wd D A (mW K q _ _ _ _ _ _ _ _ _ _ _ _ _ _ _ _) s H locs) => ?_)
        rw [hfi, nI_clamp (by omega)] at hw
        refine lv_iload_n hx hb d_MD_twin_55 rfl (lv_at hl 0 rfl) ?_
        exact r_i B hw d_MD_twin_56 ⟨by unfold twA; rw [onS_s hn]; exact (if_neg hge).symm, by unfold twK twL; rw [onS_s hn, onS_s hn, onS_s hn]; (try dsimp only); rw [if_neg hge, if_neg hge, if_neg hge, hfi, nI_clamp (by omega)]; exact ⟨_, _, _, _, _, _, _, rfl⟩⟩
      · have hge := fr_no h14
        refine lv_iconst (v := (-1)) hx hb d_MD_twin_17 (by decide) ?_
        exact r_i B hw d_MD_twin_18 ⟨by unfold twA; rw [onS_s hn]; exact (if_pos hge).symm, by unfold twK twL; rw [onS_s hn, onS_s hn, onS_s hn]; (try dsimp only); rw [if_pos hge, if_pos hge, if_pos hge]; exact ⟨_, _, _, _, _, _, _, rfl⟩⟩
set_option maxRecDepth 100000 in
set_option maxHeartbeats 4000000 in
theorem c_MD_make {l : Launch} {D : va_G} {K : Nat → ClassId} {A : Nat → Prop} {q : Nat → Nat} {kd : Nat → Int32} {f1 f2 : Nat → Int64} {ou nk : Int32} {nf ns hi lo : Int64} {rc : Int32} {zi sd : Nat → Int32} {ix : Int32} {mm wt cd : Nat → Int32} {c0 a0 b0 : Int32} : ctI l y_MD_make prog_6_method_12_code 5 (some .int) 2 0 0 [.ref (q 0), .int c0, .int a0, .int b0] D K A (mW K q kd f1 f2 ou nk nf ns hi lo rc zi sd ix mm wt cd) (fun r w => r = mkA kd c0 a0 b0 ∧ MR K q (mkK kd c0 a0 b0) (mk1 kd f1 c0 a0 b0) (mk2 kd f2 c0 a0 b0) rc zi sd ix wt cd w) := by
  refine mt_of (by decide) (Nat.le_of_ble_eq_true rfl) ?_
  intro p e s m below meth c ls B hw hl
  have hx := B.1
  have hb := B.2.1
  have hl : lv_has ls 5 [(0, .ref (q 0)), (1, .int c0), (2, .int a0), (3, .int b0)] := hl
  refine lv_aload_n hx hb d_MD_make_0 rfl (lv_at hl 0 rfl) ?_
  refine k_i (k_runV B hw c_MD_freeSlot rfl rfl cf_MD_97 mw_0 rfl rfl ⟨Nat.le_of_ble_eq_true rfl, Nat.le_of_ble_eq_true rfl⟩ rfl hl.1 rfl (Nat.le_of_ble_eq_true rfl) d_MD_make_1 ⟨Nat.le_of_ble_eq_true rfl, Nat.le_of_ble_eq_true rfl⟩) hw (fun r1 w1 H locs hq hw => ?_)
  obtain ⟨rfl, ew⟩ := hq
  rw [ew] at hw
  refine lv_istore hx hb d_MD_make_4 hl (by decide) rfl (fun ls (hl : lv_has ls 5 [(4, .int _), (0, .ref _), (1, .int _), (2, .int _), (3, .int _)]) => ?_)
  refine lv_iload_n hx hb d_MD_make_6 rfl (lv_at hl 2 rfl) ?_
  refine lv_if_lt (tgt := 20) hx hb d_MD_make_7 rfl (fun h7 => ?_) (fun h7 => ?_)
  · have ez : mkC kd c0 a0 b0 = 0 := if_pos (if_pos h7)
    refine lv_iconst (v := (-1)) hx hb d_MD_make_20 (by decide) ?_
    exact r_i B hw d_MD_make_21 ⟨by unfold mkA; rw [ez, if_pos rfl], by unfold mkK mk1 mk2; rw [ez, if_neg (by decide), if_neg (by decide), if_neg (by decide)]; exact ⟨_, _, _, _, _, _, _, rfl⟩⟩
  · refine lv_iload_n hx hb d_MD_make_10 rfl (lv_at hl 2 rfl) ?_
    refine lv_iconst (v := 3) hx hb d_MD_make_11 (by decide) ?_
    refine lv_icmp_gt (tgt := 20) hx hb d_MD_make_12 rfl (fun h12 => ?_) (fun h12 => ?_)
    · have ez : mkC kd c0 a0 b0 = 0 := if_pos (by unfold isK; rw [if_neg h7, if_pos h12])
      refine lv_iconst (v := (-1)) hx hb d_MD_make_20 (by decide) ?_
      exact r_i B hw d_MD_make_21 ⟨by unfold mkA; rw [ez, if_pos rfl], by unfold mkK mk1 mk2; rw [ez, if_neg (by decide), if_neg (by decide), if_neg (by decide)]; exact ⟨_, _, _, _, _, _, _, rfl⟩⟩
    · have ez : mkC kd c0 a0 b0 = _ := if_neg (by unfold isK; rw [if_neg h7, if_neg h12]; decide)
      refine lv_iload hx hb d_MD_make_15 (lv_at hl 0 rfl) ?_
      refine lv_if_ge (tgt := 22) hx hb d_MD_make_17 rfl (fun h17 => ?_) (fun h17 => ?_)
      · obtain ⟨kf, hkf, hkl, hfi, hge⟩ := fr_of h17
        rw [if_neg hge] at ez
        refine lv_aload_n hx hb d_MD_make_22 rfl (lv_at hl 1 rfl) ?_
        refine lv_iload_n hx hb d_MD_make_23 rfl (lv_at hl 2 rfl) ?_
        refine g_put B hw fl_MD_90 ck_MD mw_0 rfl rfl rfl (Nat.le_of_ble_eq_true rfl) d_MD_make_24 (fun H locs (hw : wd D A (mW K q _ _ _ _ _ _ _ _ _ _ _ _ _ _ _ _) s H locs) => ?_)
        refine lv_aload_n hx hb d_MD_make_27 rfl (lv_at hl 1 rfl) ?_
        refine lv_iload_n hx hb d_MD_make_28 rfl (lv_at hl 3 rfl) ?_
        refine lv_i2l hx hb d_MD_make_29 rfl ?_
        refine g_put B hw fl_MD_84 ck_MD mw_0 rfl rfl rfl (Nat.le_of_ble_eq_true rfl) d_MD_make_30 (fun H locs (hw : wd D A (mW K q _ _ _ _ _ _ _ _ _ _ _ _ _ _ _ _) s H locs) => ?_)
        refine lv_aload_n hx hb d_MD_make_33 rfl (lv_at hl 1 rfl) ?_
        refine lv_iload_n hx hb d_MD_make_34 rfl (lv_at hl 2 rfl) ?_
        refine lv_iconst (v := 2) hx hb d_MD_make_35 (by decide) ?_
        refine lv_icmp_ne (tgt := 46) hx hb d_MD_make_36 rfl (fun h36 => ?_) (fun h36 => ?_)
        · refine lv_iload_n hx hb d_MD_make_46 rfl (lv_at hl 4 rfl) ?_
          refine lv_i2l hx hb d_MD_make_47 rfl ?_
          refine g_put B hw fl_MD_87 ck_MD mw_0 rfl rfl rfl (Nat.le_of_ble_eq_true rfl) d_MD_make_48 (fun H locs (hw : wd D A (mW K q _ _ _ _ _ _ _ _ _ _ _ _ _ _ _ _) s H locs) => ?_)
          refine lv_iload_n hx hb d_MD_make_51 rfl (lv_at hl 2 rfl) ?_
          refine lv_if_ne (tgt := 84) hx hb d_MD_make_52 rfl (fun h52 => ?_) (fun h52 => ?_)
          · have y1 : fsd c0 a0 b0 = a0.toInt64 := if_neg h52
            have y2 : ssd c0 a0 b0 = b0.toInt64 := by unfold ssd; rw [if_neg h52, if_neg h36]
            refine lv_aload_n hx hb d_MD_make_84 rfl (lv_at hl 1 rfl) ?_
            refine k_i (k_runV B hw (c_MD_sound (k03 h7 h12)) rfl rfl cf_MD_101 mw_0 rfl rfl ⟨Nat.le_of_ble_eq_true rfl, Nat.le_of_ble_eq_true rfl⟩ rfl hl.1 rfl (Nat.le_of_ble_eq_true rfl) d_MD_make_85 ⟨Nat.le_of_ble_eq_true rfl, Nat.le_of_ble_eq_true rfl⟩) hw (fun r85 w1 H locs hq hw => ?_)
            have er := hq.1
            have ew := hq.2
            rw [ew] at hw
            have er2 : r85 = isSt c0 (fsd c0 a0 b0) (ssd c0 a0 b0) := by rw [er, y1, y2]
            rw [er2]
            refine lv_if_eq (tgt := 100) hx hb d_MD_make_88 rfl (fun h88 => ?_) (fun h88 => ?_)
            · rw [if_pos h88] at ez
              refine lv_bipush (v := (-2)) hx hb d_MD_make_100 (by decide) ?_
              exact r_i B hw d_MD_make_102 ⟨by unfold mkA; rw [ez, if_neg (by decide), if_pos rfl], by unfold mkK mk1 mk2; rw [ez, if_neg (by decide), if_neg (by decide), if_neg (by decide)]; exact ⟨_, _, _, _, _, _, _, rfl⟩⟩
            · rw [if_neg h88] at ez
              refine lv_aload_n hx hb d_MD_make_91 rfl (lv_at hl 1 rfl) ?_
              refine lv_iload hx hb d_MD_make_92 (lv_at hl 0 rfl) ?_
              rw [hfi]
              refine k_i (k_runV B hw (c_MD_settle hkf) rfl rfl cf_MD_105 mw_0 rfl rfl ⟨Nat.le_of_ble_eq_true rfl, Nat.le_of_ble_eq_true rfl⟩ rfl hl.1 rfl (Nat.le_of_ble_eq_true rfl) d_MD_make_94 ⟨Nat.le_of_ble_eq_true rfl, Nat.le_of_ble_eq_true rfl⟩) hw (fun r94 w1 H locs hq hw => ?_)
              obtain ⟨rfl, ew⟩ := hq
              rw [ew] at hw
              refine lv_goto (tgt := 102) hx hb d_MD_make_97 rfl ?_
              exact r_i B hw d_MD_make_102 ⟨by unfold mkA; rw [ez, if_neg (by decide), if_neg (by decide)]; exact hfi.symm, by unfold mkK mk1 mk2; rw [ez, if_pos rfl, if_pos rfl, if_pos rfl, hfi, nI_clamp (by omega), y1, y2]; exact ⟨_, _, _, _, _, _, _, rfl⟩⟩
          · have y1 : fsd c0 a0 b0 = jnd a0 b0 := if_pos h52
            have y2 : ssd c0 a0 b0 = 2 * jnd a0 b0 + 1 := if_pos h52
            refine lv_aload_n hx hb d_MD_make_55 rfl (lv_at hl 1 rfl) ?_
            refine lv_iload_n hx hb d_MD_make_56 rfl (lv_at hl 3 rfl) ?_
            refine lv_i2l hx hb d_MD_make_57 rfl ?_
            refine g_ldc2 B kc_MD_35 d_MD_make_58 ?_
            refine lv_lmul hx hb d_MD_make_61 ?_
            refine lv_iload_n hx hb d_MD_make_62 rfl (lv_at hl 4 rfl) ?_
            refine k_l (k_runS B hw c_MD_number rfl rfl cf_MD_71 ⟨Nat.le_of_ble_eq_true rfl, Nat.le_of_ble_eq_true rfl⟩ rfl hl.1 rfl (Nat.le_of_ble_eq_true rfl) d_MD_make_63 ⟨Nat.le_of_ble_eq_true rfl, Nat.le_of_ble_eq_true rfl⟩) hw (fun r63 w1 H locs hq hw => ?_)
            obtain ⟨rfl, ew⟩ := hq
            rw [ew] at hw
            refine lv_ladd hx hb d_MD_make_66 ?_
            rw [jnd_eq]
            refine g_put B hw fl_MD_84 ck_MD mw_0 rfl rfl rfl (Nat.le_of_ble_eq_true rfl) d_MD_make_67 (fun H locs (hw : wd D A (mW K q _ _ _ _ _ _ _ _ _ _ _ _ _ _ _ _) s H locs) => ?_)
            refine lv_aload_n hx hb d_MD_make_70 rfl (lv_at hl 1 rfl) ?_
            refine g_ldc2 B kc_MD_69 d_MD_make_71 ?_
            refine lv_aload_n hx hb d_MD_make_74 rfl (lv_at hl 1 rfl) ?_
            refine g_get B hw fl_MD_84 mw_0 rfl d_MD_make_75 ?_
            refine lv_lmul hx hb d_MD_make_78 ?_
            refine lv_lconst (v := 1) hx hb d_MD_make_79 (by decide) ?_
            refine lv_ladd hx hb d_MD_make_80 ?_
            refine g_put B hw fl_MD_87 ck_MD mw_0 rfl rfl rfl (Nat.le_of_ble_eq_true rfl) d_MD_make_81 (fun H locs (hw : wd D A (mW K q _ _ _ _ _ _ _ _ _ _ _ _ _ _ _ _) s H locs) => ?_)
            refine lv_aload_n hx hb d_MD_make_84 rfl (lv_at hl 1 rfl) ?_
            refine k_i (k_runV B hw (c_MD_sound (k03 h7 h12)) rfl rfl cf_MD_101 mw_0 rfl rfl ⟨Nat.le_of_ble_eq_true rfl, Nat.le_of_ble_eq_true rfl⟩ rfl hl.1 rfl (Nat.le_of_ble_eq_true rfl) d_MD_make_85 ⟨Nat.le_of_ble_eq_true rfl, Nat.le_of_ble_eq_true rfl⟩) hw (fun r85 w1 H locs hq hw => ?_)
            have er := hq.1
            have ew := hq.2
            rw [ew] at hw
            have er2 : r85 = isSt c0 (fsd c0 a0 b0) (ssd c0 a0 b0) := by rw [er, y1, y2]
            rw [er2]
            refine lv_if_eq (tgt := 100) hx hb d_MD_make_88 rfl (fun h88 => ?_) (fun h88 => ?_)
            · rw [if_pos h88] at ez
              refine lv_bipush (v := (-2)) hx hb d_MD_make_100 (by decide) ?_
              exact r_i B hw d_MD_make_102 ⟨by unfold mkA; rw [ez, if_neg (by decide), if_pos rfl], by unfold mkK mk1 mk2; rw [ez, if_neg (by decide), if_neg (by decide), if_neg (by decide)]; exact ⟨_, _, _, _, _, _, _, rfl⟩⟩
            · rw [if_neg h88] at ez
              refine lv_aload_n hx hb d_MD_make_91 rfl (lv_at hl 1 rfl) ?_
              refine lv_iload hx hb d_MD_make_92 (lv_at hl 0 rfl) ?_
              rw [hfi]
              refine k_i (k_runV B hw (c_MD_settle hkf) rfl rfl cf_MD_105 mw_0 rfl rfl ⟨Nat.le_of_ble_eq_true rfl, Nat.le_of_ble_eq_true rfl⟩ rfl hl.1 rfl (Nat.le_of_ble_eq_true rfl) d_MD_make_94 ⟨Nat.le_of_ble_eq_true rfl, Nat.le_of_ble_eq_true rfl⟩) hw (fun r94 w1 H locs hq hw => ?_)
              obtain ⟨rfl, ew⟩ := hq
              rw [ew] at hw
              refine lv_goto (tgt := 102) hx hb d_MD_make_97 rfl ?_
              exact r_i B hw d_MD_make_102 ⟨by unfold mkA; rw [ez, if_neg (by decide), if_neg (by decide)]; exact hfi.symm, by unfold mkK mk1 mk2; rw [ez, if_pos rfl, if_pos rfl, if_pos rfl, hfi, nI_clamp (by omega), y1, y2]; exact ⟨_, _, _, _, _, _, _, rfl⟩⟩
        · refine lv_iload_n hx hb d_MD_make_39 rfl (lv_at hl 4 rfl) ?_
          refine k_l (k_runS B hw c_MD_number rfl rfl cf_MD_71 ⟨Nat.le_of_ble_eq_true rfl, Nat.le_of_ble_eq_true rfl⟩ rfl hl.1 rfl (Nat.le_of_ble_eq_true rfl) d_MD_make_40 ⟨Nat.le_of_ble_eq_true rfl, Nat.le_of_ble_eq_true rfl⟩) hw (fun r40 w1 H locs hq hw => ?_)
          obtain ⟨rfl, ew⟩ := hq
          rw [ew] at hw
          refine lv_goto (tgt := 48) hx hb d_MD_make_43 rfl ?_
          refine g_put B hw fl_MD_87 ck_MD mw_0 rfl rfl rfl (Nat.le_of_ble_eq_true rfl) d_MD_make_48 (fun H locs (hw : wd D A (mW K q _ _ _ _ _ _ _ _ _ _ _ _ _ _ _ _) s H locs) => ?_)
          refine lv_iload_n hx hb d_MD_make_51 rfl (lv_at hl 2 rfl) ?_
          refine lv_if_ne (tgt := 84) hx hb d_MD_make_52 rfl (fun h52 => ?_) (fun h52 => ?_)
          · have y1 : fsd c0 a0 b0 = a0.toInt64 := if_neg h52
            have y2 : ssd c0 a0 b0 = nU b0 := by unfold ssd; rw [if_neg h52, if_pos h36]
            refine lv_aload_n hx hb d_MD_make_84 rfl (lv_at hl 1 rfl) ?_
            refine k_i (k_runV B hw (c_MD_sound (k03 h7 h12)) rfl rfl cf_MD_101 mw_0 rfl rfl ⟨Nat.le_of_ble_eq_true rfl, Nat.le_of_ble_eq_true rfl⟩ rfl hl.1 rfl (Nat.le_of_ble_eq_true rfl) d_MD_make_85 ⟨Nat.le_of_ble_eq_true rfl, Nat.le_of_ble_eq_true rfl⟩) hw (fun r85 w1 H locs hq hw => ?_)
            have er := hq.1
            have ew := hq.2
            rw [ew] at hw
            have er2 : r85 = isSt c0 (fsd c0 a0 b0) (ssd c0 a0 b0) := by rw [er, y1, y2]
            rw [er2]
            refine lv_if_eq (tgt := 100) hx hb d_MD_make_88 rfl (fun h88 => ?_) (fun h88 => ?_)
            · rw [if_pos h88] at ez
              refine lv_bipush (v := (-2)) hx hb d_MD_make_100 (by decide) ?_
              exact r_i B hw d_MD_make_102 ⟨by unfold mkA; rw [ez, if_neg (by decide), if_pos rfl], by unfold mkK mk1 mk2; rw [ez, if_neg (by decide), if_neg (by decide), if_neg (by decide)]; exact ⟨_, _, _, _, _, _, _, rfl⟩⟩
            · rw [if_neg h88] at ez
              refine lv_aload_n hx hb d_MD_make_91 rfl (lv_at hl 1 rfl) ?_
              refine lv_iload hx hb d_MD_make_92 (lv_at hl 0 rfl) ?_
              rw [hfi]
              refine k_i (k_runV B hw (c_MD_settle hkf) rfl rfl cf_MD_105 mw_0 rfl rfl ⟨Nat.le_of_ble_eq_true rfl, Nat.le_of_ble_eq_true rfl⟩ rfl hl.1 rfl (Nat.le_of_ble_eq_true rfl) d_MD_make_94 ⟨Nat.le_of_ble_eq_true rfl, Nat.le_of_ble_eq_true rfl⟩) hw (fun r94 w1 H locs hq hw => ?_)
              obtain ⟨rfl, ew⟩ := hq
              rw [ew] at hw
              refine lv_goto (tgt := 102) hx hb d_MD_make_97 rfl ?_
              exact r_i B hw d_MD_make_102 ⟨by unfold mkA; rw [ez, if_neg (by decide), if_neg (by decide)]; exact hfi.symm, by unfold mkK mk1 mk2; rw [ez, if_pos rfl, if_pos rfl, if_pos rfl, hfi, nI_clamp (by omega), y1, y2]; exact ⟨_, _, _, _, _, _, _, rfl⟩⟩
          · exact absurd (h36.symm.trans h52) (by decide)
      · rw [if_pos (fr_no h17)] at ez
        refine lv_iconst (v := (-1)) hx hb d_MD_make_20 (by decide) ?_
        exact r_i B hw d_MD_make_21 ⟨by unfold mkA; rw [ez, if_pos rfl], by unfold mkK mk1 mk2; rw [ez, if_neg (by decide), if_neg (by decide), if_neg (by decide)]; exact ⟨_, _, _, _, _, _, _, rfl⟩⟩
