/-! The reference: points, picks, shuffles. -/
theorem ishr_e : ∀ dg, dg < 4 → ∀ p, p < 4 → inE dg >>> ((nI dg - 1 - nI (p + 1)) &&& 31) = ius (inE dg) (nI dg - 1 - nI (p + 1)) := by decide +kernel
theorem mT_st {dg j : Nat} (hd : dg = 1 ∨ dg = 2 ∨ dg = 3) (h1 : 1 ≤ j) (hj : j ≤ dg) : mT dg (j - 1) = if j = 2 then 3 else 1 := by
  obtain ⟨a1, a2, a3, a4, a5, a6⟩ := mT_b
  rcases hd with rfl | rfl | rfl
  · obtain rfl : j = 1 := by omega
    exact a1
  · rcases (by omega : j = 1 ∨ j = 2) with rfl | rfl
    · exact a2
    · exact a3
  · rcases (by omega : j = 1 ∨ j = 2 ∨ j = 3) with rfl | rfl | rfl
    · exact a4
    · exact a5
    · exact a6
theorem shr_nI {n i : Nat} (hn : n < 2 ^ 31) (hi : i < 32) : nI n >>> (nI i &&& 31) = ius (nI n) (nI i) := by
  have a1 : ((nI i &&& 31).toBitVec.smod 32).toNat = i := (by decide +kernel : ∀ i, i < 32 → ((nI i &&& 31).toBitVec.smod 32).toNat = i) i hi
  have a2 : (((nI i).toUInt32 &&& Int32.toUInt32 31).toBitVec % 32).toNat = i := (by decide +kernel : ∀ i, i < 32 → (((nI i).toUInt32 &&& Int32.toUInt32 31).toBitVec % 32).toNat = i) i hi
  rw [pk_shrN hn (nI i &&& 31) i a1]
  exact (pk_ushrN (by omega) (nI i) i a2).symm
theorem gr_nI {n : Nat} (hn : n ≤ 1048575) : ∃ G : Nat, G < 2 ^ 31 ∧ grC (nI n) = nI G := by
  have h1 : ius (nI n) 1 = nI (n / 2 ^ 1) := pk_ushrN (by omega) 1 1 (by decide)
  refine ⟨n ^^^ (n / 2), ?_, ?_⟩
  · exact Nat.xor_lt_two_pow (by omega) (by omega)
  · unfold grC
    rw [h1]
    apply Int32.toBitVec_inj.1
    show BitVec.ofNat 32 n ^^^ BitVec.ofNat 32 (n / 2 ^ 1) = BitVec.ofNat 32 (n ^^^ (n / 2))
    apply BitVec.eq_of_getLsbD_eq
    intro i hi
    simp [hi]
theorem i32m : ∀ i, i < 20 → (32 : Int32) - nI (i + 1) = 31 - nI i := by decide +kernel
theorem coA_d {iN dd : Nat} (h : dd < 4) : coA iN (nI dd) = nU (joN dd (grC (nI iN)) 20) := by
  rcases (by omega : dd = 0 ∨ dd = 1 ∨ dd = 2 ∨ dd = 3) with rfl | rfl | rfl | rfl
  · exact coA_0 iN
  · exact coA_1 iN
  · exact coA_2 iN
  · exact coA_3 iN
theorem gw_0 {dg j : Nat} {M : Nat → Int32} (h1 : 1 ≤ dg) (hj : dg < j) : gwN dg (inE dg) (fun i => M (i + 1)) (j - 1) 0 = M (j - dg) ^^^ (M (j - dg) <<< (nI dg &&& 31)) := by
  show M (j - 1 - dg + 1) ^^^ (M (j - 1 - dg + 1) <<< (nI dg &&& 31)) = _
  rw [show j - 1 - dg + 1 = j - dg by omega]
theorem gw_p {dg j p : Nat} {M : Nat → Int32} (hp : p + 1 < dg) (hj : dg < j) (h : ius (inE dg) (nI dg - 1 - nI (p + 1)) &&& 1 = 1) : gwN dg (inE dg) (fun i => M (i + 1)) (j - 1) (p + 1) = gwN dg (inE dg) (fun i => M (i + 1)) (j - 1) p ^^^ (M (j - (p + 1)) <<< (nI (p + 1) &&& 31)) := by
  have e : gwN dg (inE dg) (fun i => M (i + 1)) (j - 1) (p + 1) = gwN dg (inE dg) (fun i => M (i + 1)) (j - 1) p ^^^ (M (j - 1 - (p + 1) + 1) <<< (nI (p + 1) &&& 31)) := if_pos h
  rw [e, show j - 1 - (p + 1) + 1 = j - (p + 1) by omega]
theorem gw_n {dg j p : Nat} {M : Nat → Int32} (h : ¬ ius (inE dg) (nI dg - 1 - nI (p + 1)) &&& 1 = 1) : gwN dg (inE dg) (fun i => M (i + 1)) (j - 1) (p + 1) = gwN dg (inE dg) (fun i => M (i + 1)) (j - 1) p := if_neg h
set_option maxRecDepth 100000 in
set_option maxHeartbeats 4000000 in
theorem c_MD_inner {l : Launch} {D : va_G} {K : Nat → ClassId} {A : Nat → Prop} {q : Nat → Nat} {kd : Nat → Int32} {f1 f2 : Nat → Int64} {ou nk : Int32} {nf ns hi lo : Int64} {rc : Int32} {zi sd : Nat → Int32} {ix : Int32} {mm wt cd : Nat → Int32} {dg : Nat} (hdg : dg = 1 ∨ dg = 2 ∨ dg = 3) : ctV l y_MD_inner prog_6_method_33_code 6 0 0 0 [.ref (q 0), .int (nI dg)] D K A (mW K q kd f1 f2 ou nk nf ns hi lo rc zi sd ix mm wt cd) (fun w => ∃ M, w = (mW K q kd f1 f2 ou nk nf ns hi lo rc zi sd ix M wt cd) ∧ ∀ j, 1 ≤ j → j ≤ 20 → M j = mT dg (j - 1)) := by
  refine mt_of (by decide) (Nat.le_of_ble_eq_true rfl) ?_
  intro p e s m below meth c ls B hw hl
  have hx := B.1
  have hb := B.2.1
  have hl : lv_has ls 6 [(0, .ref (q 0)), (1, .int (nI dg))] := hl
  have hdg4 : 1 ≤ dg ∧ dg ≤ 3 := by omega
  refine lv_iload_n hx hb d_MD_inner_0 rfl (lv_at hl 1 rfl) ?_
  refine lv_iconst (v := 1) hx hb d_MD_inner_1 (by decide) ?_
  refine lv_icmp_ne (tgt := 9) hx hb d_MD_inner_2 rfl (fun h2 => ?_) (fun h2 => ?_)
  · have hE : inE dg = 1 := if_neg (fun z => h2 (by rw [z]; rfl))
    refine lv_iconst (v := 1) hx hb d_MD_inner_9 (by decide) ?_
    rw [← hE]
    refine lv_istore_n hx hb d_MD_inner_10 rfl hl (by decide) rfl (fun ls (hl : lv_has ls 6 [(2, .int _), (0, .ref _), (1, .int _)]) => ?_)
    refine lv_iconst (v := 1) hx hb d_MD_inner_11 (by decide) ?_
    refine lv_istore_n hx hb d_MD_inner_12 rfl hl (by decide) rfl (fun ls (hl : lv_has ls 6 [(3, .int _), (2, .int _), (0, .ref _), (1, .int _)]) => ?_)
    refine lp_w (σ := Nat × (Nat → Int32)) (fun x => 21 - x.1) (fun x H locs ls => 1 ≤ x.1 ∧ x.1 ≤ 21 ∧ (∀ i, 1 ≤ i → i < x.1 → x.2 i = mT dg (i - 1)) ∧ lv_has ls 6 [(3, .int (nI x.1)), (2, .int (inE dg)), (0, .ref (q 0)), (1, .int (nI dg))] ∧ wd D A (mW K q kd f1 f2 ou nk nf ns hi lo rc zi sd ix x.2 wt cd) s H locs) ?_ (1, mm) _ _ _ ⟨by show 1 ≤ 1; omega, by show 1 ≤ 21; omega, fun i h1 h2 => by have h2 : i < 1 := h2; omega, lv_sub hl [0, 1, 2, 3] rfl, hw⟩
    rintro ⟨j, M⟩ H locs ls ⟨hj1, hj, hM, hl, hw⟩ ih
    dsimp only at hj1 hj hM hl hw
    refine lv_iload_n hx hb d_MD_inner_13 rfl (lv_at hl 0 rfl) ?_
    refine lv_bipush (v := 20) hx hb d_MD_inner_14 (by decide) ?_
    refine lv_icmp_gt (tgt := 141) hx hb d_MD_inner_16 rfl (fun h16 => ?_) (fun h16 => ?_)
    · have h16 : 20 < j := (nI_ltI (a := 20) (by omega) (by omega)).mp h16
      exact r_v B hw d_MD_inner_141 ⟨M, rfl, fun i h1 h2 => hM i h1 (by omega)⟩
    · have h16 : j ≤ 20 := Nat.le_of_not_lt (fun z => h16 ((nI_ltI (a := 20) (by omega) (by omega)).mpr z))
      refine lv_iload_n hx hb d_MD_inner_19 rfl (lv_at hl 0 rfl) ?_
      refine lv_iload_n hx hb d_MD_inner_20 rfl (lv_at hl 3 rfl) ?_
      refine lv_icmp_gt (tgt := 43) hx hb d_MD_inner_21 rfl (fun h21 => ?_) (fun h21 => ?_)
      · have h21 : dg < j := (nI_ltI (by omega) (by omega)).mp h21
        refine lv_aload_n hx hb d_MD_inner_43 rfl (lv_at hl 2 rfl) ?_
        refine g_get B hw fl_MD_26 mw_0 rfl d_MD_inner_44 ?_
        refine lv_iload_n hx hb d_MD_inner_47 rfl (lv_at hl 0 rfl) ?_
        refine lv_aload_n hx hb d_MD_inner_48 rfl (lv_at hl 2 rfl) ?_
        refine g_get B hw fl_MD_26 mw_0 rfl d_MD_inner_49 ?_
        refine lv_iload_n hx hb d_MD_inner_52 rfl (lv_at hl 0 rfl) ?_
        refine lv_iload_n hx hb d_MD_inner_53 rfl (lv_at hl 3 rfl) ?_
        refine lv_isub hx hb d_MD_inner_54 ?_
        rw [pk_sub (a := j) (b := dg) (by omega)]
        refine g_iald B hw mw_6 (vp_in_nI (by omega) (by omega)) d_MD_inner_55 ?_
        rw [nI_clamp (by omega)]
        refine lv_aload_n hx hb d_MD_inner_56 rfl (lv_at hl 2 rfl) ?_
        refine g_get B hw fl_MD_26 mw_0 rfl d_MD_inner_57 ?_
        refine lv_iload_n hx hb d_MD_inner_60 rfl (lv_at hl 0 rfl) ?_
        refine lv_iload_n hx hb d_MD_inner_61 rfl (lv_at hl 3 rfl) ?_
        refine lv_isub hx hb d_MD_inner_62 ?_
        rw [pk_sub (a := j) (b := dg) (by omega)]
        refine g_iald B hw mw_6 (vp_in_nI (by omega) (by omega)) d_MD_inner_63 ?_
        rw [nI_clamp (by omega)]
        refine lv_iload_n hx hb d_MD_inner_64 rfl (lv_at hl 3 rfl) ?_
        refine lv_ishl hx hb d_MD_inner_65 ?_
        refine lv_ixor hx hb d_MD_inner_66 ?_
        refine g_iast B hw mw_6 (vp_in_nI (by omega) (by omega)) d_MD_inner_67 (fun H locs (hw : wd D A (mW K q _ _ _ _ _ _ _ _ _ _ _ _ _ _ _ _) s H locs) => ?_)
        rw [nI_clamp (by omega), ← gw_0 (M := M) (by omega) h21] at hw
        refine lv_iconst (v := 1) hx hb d_MD_inner_68 (by decide) ?_
        refine lv_istore hx hb d_MD_inner_69 hl (by decide) rfl (fun ls (hl : lv_has ls 6 [(4, .int _), (3, .int _), (2, .int _), (0, .ref _), (1, .int _)]) => ?_)
        refine lp_w (σ := Nat) (fun p => dg - p) (fun p H locs ls => p < dg ∧ lv_has ls 6 [(4, .int (nI (p + 1))), (3, .int (nI j)), (2, .int (inE dg)), (0, .ref (q 0)), (1, .int (nI dg))] ∧ wd D A (mW K q kd f1 f2 ou nk nf ns hi lo rc zi sd ix (upd M j (gwN dg (inE dg) (fun i => M (i + 1)) (j - 1) p)) wt cd) s H locs) ?_ 0 _ _ _ ⟨by omega, lv_sub hl [0, 1, 2, 3, 4] rfl, hw⟩
        rintro p H locs ls ⟨hp, hl, hw⟩ ih2
        refine lv_iload hx hb d_MD_inner_71 (lv_at hl 0 rfl) ?_
        refine lv_iload_n hx hb d_MD_inner_73 rfl (lv_at hl 4 rfl) ?_
        refine lv_icmp_ge (tgt := 135) hx hb d_MD_inner_74 rfl (fun h74 => ?_) (fun h74 => ?_)
        · have h74 : dg ≤ p + 1 := (nI_leI (by omega) (by omega)).mp h74
          have hpd : p = dg - 1 := by omega
          have hg := gw_mT hdg (F := (fun i => M (i + 1))) (j := j - 1) (by omega) (by omega) (fun i hi => hM (i + 1) (by omega) (by omega))
          have hw : wd D A (mW K q kd f1 f2 ou nk nf ns hi lo rc zi sd ix (upd M j (mT dg (j - 1))) wt cd) s H locs := by rw [← hg, ← hpd]; exact hw
          refine lv_iinc (k := 1) hx hb d_MD_inner_135 hl rfl (show nI j + Int32.ofInt 1 = nI (j + 1) from (nI_succ j).symm) (by decide) rfl (fun ls (hl : lv_has ls 6 [(3, .int (nI (j + 1))), (4, .int _), (2, .int _), (0, .ref _), (1, .int _)]) => ?_)
          refine lv_goto (tgt := 13) hx hb d_MD_inner_138 rfl ?_
          exact ih (j + 1, upd M j (mT dg (j - 1))) _ _ _ (by show 21 - (j + 1) < 21 - j; omega) ⟨by show 1 ≤ j + 1; omega, by show j + 1 ≤ 21; omega, fun i h1 h2 => by
              have h2 : i < j + 1 := h2
              show upd M j (mT dg (j - 1)) i = _
              by_cases e : i = j
              · subst e; rw [pk_us]
              · rw [pk_un e]; exact hM i h1 (by omega), lv_sub hl [0, 2, 3, 4] rfl, hw⟩
        · have h74 : p + 1 < dg := Nat.lt_of_not_le (fun z => h74 ((nI_leI (by omega) (by omega)).mpr z))
          refine lv_iload_n hx hb d_MD_inner_77 rfl (lv_at hl 2 rfl) ?_
          refine lv_iload_n hx hb d_MD_inner_78 rfl (lv_at hl 4 rfl) ?_
          refine lv_iconst (v := 1) hx hb d_MD_inner_79 (by decide) ?_
          refine lv_isub hx hb d_MD_inner_80 ?_
          refine lv_iload hx hb d_MD_inner_81 (lv_at hl 0 rfl) ?_
          refine lv_isub hx hb d_MD_inner_83 ?_
          refine lv_ishr hx hb d_MD_inner_84 ?_
          rw [ishr_e dg (by omega) p (by omega)]
          refine lv_iconst (v := 1) hx hb d_MD_inner_85 (by decide) ?_
          refine lv_iand hx hb d_MD_inner_86 ?_
          refine lv_istore hx hb d_MD_inner_87 hl (by decide) rfl (fun ls (hl : lv_has ls 6 [(5, .int _), (4, .int _), (3, .int _), (2, .int _), (0, .ref _), (1, .int _)]) => ?_)
          refine lv_aload_n hx hb d_MD_inner_89 rfl (lv_at hl 4 rfl) ?_
          refine g_get B hw fl_MD_26 mw_0 rfl d_MD_inner_90 ?_
          refine lv_iload_n hx hb d_MD_inner_93 rfl (lv_at hl 2 rfl) ?_
          refine lv_iload hx hb d_MD_inner_94 (lv_at hl 0 rfl) ?_
          refine lv_iconst (v := 1) hx hb d_MD_inner_96 (by decide) ?_
          refine lv_icmp_ne (tgt := 122) hx hb d_MD_inner_97 rfl (fun h97 => ?_) (fun h97 => ?_)
          · have hgx := gw_n (j := j) (M := M) h97
            refine lv_aload_n hx hb d_MD_inner_122 rfl (lv_at hl 4 rfl) ?_
            refine g_get B hw fl_MD_26 mw_0 rfl d_MD_inner_123 ?_
            refine lv_iload_n hx hb d_MD_inner_126 rfl (lv_at hl 2 rfl) ?_
            refine g_iald B hw mw_6 (vp_in_nI (by omega) (by omega)) d_MD_inner_127 ?_
            rw [nI_clamp (by omega), pk_us]
            refine g_iast B hw mw_6 (vp_in_nI (by omega) (by omega)) d_MD_inner_128 (fun H locs (hw : wd D A (mW K q _ _ _ _ _ _ _ _ _ _ _ _ _ _ _ _) s H locs) => ?_)
            rw [nI_clamp (by omega), upd_upd, ← hgx] at hw
            refine lv_iinc (k := 1) hx hb d_MD_inner_129 hl rfl (show nI (p + 1) + Int32.ofInt 1 = nI (p + 1 + 1) from (nI_succ (p + 1)).symm) (by decide) rfl (fun ls (hl : lv_has ls 6 [(4, .int (nI (p + 1 + 1))), (5, .int _), (3, .int _), (2, .int _), (0, .ref _), (1, .int _)]) => ?_)
            refine lv_goto (tgt := 71) hx hb d_MD_inner_132 rfl ?_
            exact ih2 (p + 1) _ _ _ (by omega) ⟨by omega, lv_sub hl [0, 2, 3, 4, 5] rfl, hw⟩
          · have hgx := gw_p (M := M) h74 h21 h97
            refine lv_aload_n hx hb d_MD_inner_100 rfl (lv_at hl 4 rfl) ?_
            refine g_get B hw fl_MD_26 mw_0 rfl d_MD_inner_101 ?_
            refine lv_iload_n hx hb d_MD_inner_104 rfl (lv_at hl 2 rfl) ?_
            refine g_iald B hw mw_6 (vp_in_nI (by omega) (by omega)) d_MD_inner_105 ?_
            rw [nI_clamp (by omega), pk_us]
            refine lv_aload_n hx hb d_MD_inner_106 rfl (lv_at hl 4 rfl) ?_
            refine g_get B hw fl_MD_26 mw_0 rfl d_MD_inner_107 ?_
            refine lv_iload_n hx hb d_MD_inner_110 rfl (lv_at hl 2 rfl) ?_
            refine lv_iload hx hb d_MD_inner_111 (lv_at hl 1 rfl) ?_
            refine lv_isub hx hb d_MD_inner_113 ?_
            rw [pk_sub (a := j) (b := p + 1) (by omega)]
            refine g_iald B hw mw_6 (vp_in_nI (by omega) (by omega)) d_MD_inner_114 ?_
            rw [nI_clamp (by omega), pk_un (by omega)]
            refine lv_iload hx hb d_MD_inner_115 (lv_at hl 1 rfl) ?_
            refine lv_ishl hx hb d_MD_inner_117 ?_
            refine lv_ixor hx hb d_MD_inner_118 ?_
            refine lv_goto (tgt := 128) hx hb d_MD_inner_119 rfl ?_
            refine g_iast B hw mw_6 (vp_in_nI (by omega) (by omega)) d_MD_inner_128 (fun H locs (hw : wd D A (mW K q _ _ _ _ _ _ _ _ _ _ _ _ _ _ _ _) s H locs) => ?_)
            rw [nI_clamp (by omega), upd_upd, ← hgx] at hw
            refine lv_iinc (k := 1) hx hb d_MD_inner_129 hl rfl (show nI (p + 1) + Int32.ofInt 1 = nI (p + 1 + 1) from (nI_succ (p + 1)).symm) (by decide) rfl (fun ls (hl : lv_has ls 6 [(4, .int (nI (p + 1 + 1))), (5, .int _), (3, .int _), (2, .int _), (0, .ref _), (1, .int _)]) => ?_)
            refine lv_goto (tgt := 71) hx hb d_MD_inner_132 rfl ?_
            exact ih2 (p + 1) _ _ _ (by omega) ⟨by omega, lv_sub hl [0, 2, 3, 4, 5] rfl, hw⟩
      · have h21 : j ≤ dg := Nat.le_of_not_lt (fun z => h21 ((nI_ltI (by omega) (by omega)).mpr z))
        have hst := mT_st hdg hj1 h21
        refine lv_aload_n hx hb d_MD_inner_24 rfl (lv_at hl 2 rfl) ?_
        refine g_get B hw fl_MD_26 mw_0 rfl d_MD_inner_25 ?_
        refine lv_iload_n hx hb d_MD_inner_28 rfl (lv_at hl 0 rfl) ?_
        refine lv_iload_n hx hb d_MD_inner_29 rfl (lv_at hl 0 rfl) ?_
        refine lv_iconst (v := 2) hx hb d_MD_inner_30 (by decide) ?_
        refine lv_icmp_ne (tgt := 38) hx hb d_MD_inner_31 rfl (fun h31 => ?_) (fun h31 => ?_)
        · rw [if_neg (fun z => h31 (by rw [z]; rfl))] at hst
          refine lv_iconst (v := 1) hx hb d_MD_inner_38 (by decide) ?_
          refine g_iast B hw mw_6 (vp_in_nI (by omega) (by omega)) d_MD_inner_39 (fun H locs (hw : wd D A (mW K q _ _ _ _ _ _ _ _ _ _ _ _ _ _ _ _) s H locs) => ?_)
          rw [nI_clamp (by omega)] at hw
          have hw : wd D A (mW K q kd f1 f2 ou nk nf ns hi lo rc zi sd ix (upd M j (mT dg (j - 1))) wt cd) s H locs := by rw [hst]; exact hw
          refine lv_goto (tgt := 135) hx hb d_MD_inner_40 rfl ?_
          refine lv_iinc (k := 0) hx hb d_MD_inner_135 hl rfl (show nI j + Int32.ofInt 1 = nI (j + 1) from (nI_succ j).symm) (by decide) rfl (fun ls (hl : lv_has ls 6 [(3, .int (nI (j + 1))), (2, .int _), (0, .ref _), (1, .int _)]) => ?_)
          refine lv_goto (tgt := 13) hx hb d_MD_inner_138 rfl ?_
          exact ih (j + 1, upd M j (mT dg (j - 1))) _ _ _ (by show 21 - (j + 1) < 21 - j; omega) ⟨by show 1 ≤ j + 1; omega, by show j + 1 ≤ 21; omega, fun i h1 h2 => by
              have h2 : i < j + 1 := h2
              show upd M j (mT dg (j - 1)) i = _
              by_cases e : i = j
              · subst e; rw [pk_us]
              · rw [pk_un e]; exact hM i h1 (by omega), lv_sub hl [0, 1, 2, 3] rfl, hw⟩
        · rw [if_pos ((nI_eq (b := 2) (by omega) (by omega)).mp h31)] at hst
          refine lv_iconst (v := 3) hx hb d_MD_inner_34 (by decide) ?_
          refine lv_goto (tgt := 39) hx hb d_MD_inner_35 rfl ?_
          refine g_iast B hw mw_6 (vp_in_nI (by omega) (by omega)) d_MD_inner_39 (fun H locs (hw : wd D A (mW K q _ _ _ _ _ _ _ _ _ _ _ _ _ _ _ _) s H locs) => ?_)
          rw [nI_clamp (by omega)] at hw
          have hw : wd D A (mW K q kd f1 f2 ou nk nf ns hi lo rc zi sd ix (upd M j (mT dg (j - 1))) wt cd) s H locs := by rw [hst]; exact hw
          refine lv_goto (tgt := 135) hx hb d_MD_inner_40 rfl ?_
          refine lv_iinc (k := 0) hx hb d_MD_inner_135 hl rfl (show nI j + Int32.ofInt 1 = nI (j + 1) from (nI_succ j).symm) (by decide) rfl (fun ls (hl : lv_has ls 6 [(3, .int (nI (j + 1))), (2, .int _), (0, .ref _), (1, .int _)]) => ?_)
          refine lv_goto (tgt := 13) hx hb d_MD_inner_138 rfl ?_
          exact ih (j + 1, upd M j (mT dg (j - 1))) _ _ _ (by show 21 - (j + 1) < 21 - j; omega) ⟨by show 1 ≤ j + 1; omega, by show j + 1 ≤ 21; omega, fun i h1 h2 => by
              have h2 : i < j + 1 := h2
              show upd M j (mT dg (j - 1)) i = _
              by_cases e : i = j
              · subst e; rw [pk_us]
              · rw [pk_un e]; exact hM i h1 (by omega), lv_sub hl [0, 1, 2, 3] rfl, hw⟩
  · have hE : inE dg = 0 := if_pos ((nI_eq (b := 1) (by omega) (by omega)).mp h2)
    refine lv_iconst (v := 0) hx hb d_MD_inner_5 (by decide) ?_
    refine lv_goto (tgt := 10) hx hb d_MD_inner_6 rfl ?_
    rw [← hE]
    refine lv_istore_n hx hb d_MD_inner_10 rfl hl (by decide) rfl (fun ls (hl : lv_has ls 6 [(2, .int _), (0, .ref _), (1, .int _)]) => ?_)
    refine lv_iconst (v := 1) hx hb d_MD_inner_11 (by decide) ?_
    refine lv_istore_n hx hb d_MD_inner_12 rfl hl (by decide) rfl (fun ls (hl : lv_has ls 6 [(3, .int _), (2, .int _), (0, .ref _), (1, .int _)]) => ?_)
    refine lp_w (σ := Nat × (Nat → Int32)) (fun x => 21 - x.1) (fun x H locs ls => 1 ≤ x.1 ∧ x.1 ≤ 21 ∧ (∀ i, 1 ≤ i → i < x.1 → x.2 i = mT dg (i - 1)) ∧ lv_has ls 6 [(3, .int (nI x.1)), (2, .int (inE dg)), (0, .ref (q 0)), (1, .int (nI dg))] ∧ wd D A (mW K q kd f1 f2 ou nk nf ns hi lo rc zi sd ix x.2 wt cd) s H locs) ?_ (1, mm) _ _ _ ⟨by show 1 ≤ 1; omega, by show 1 ≤ 21; omega, fun i h1 h2 => by have h2 : i < 1 := h2; omega, lv_sub hl [0, 1, 2, 3] rfl, hw⟩
    rintro ⟨j, M⟩ H locs ls ⟨hj1, hj, hM, hl, hw⟩ ih
    dsimp only at hj1 hj hM hl hw
    refine lv_iload_n hx hb d_MD_inner_13 rfl (lv_at hl 0 rfl) ?_
    refine lv_bipush (v := 20) hx hb d_MD_inner_14 (by decide) ?_
    refine lv_icmp_gt (tgt := 141) hx hb d_MD_inner_16 rfl (fun h16 => ?_) (fun h16 => ?_)
    · have h16 : 20 < j := (nI_ltI (a := 20) (by omega) (by omega)).mp h16
      exact r_v B hw d_MD_inner_141 ⟨M, rfl, fun i h1 h2 => hM i h1 (by omega)⟩
    · have h16 : j ≤ 20 := Nat.le_of_not_lt (fun z => h16 ((nI_ltI (a := 20) (by omega) (by omega)).mpr z))
      refine lv_iload_n hx hb d_MD_inner_19 rfl (lv_at hl 0 rfl) ?_
      refine lv_iload_n hx hb d_MD_inner_20 rfl (lv_at hl 3 rfl) ?_
      refine lv_icmp_gt (tgt := 43) hx hb d_MD_inner_21 rfl (fun h21 => ?_) (fun h21 => ?_)
      · have h21 : dg < j := (nI_ltI (by omega) (by omega)).mp h21
        refine lv_aload_n hx hb d_MD_inner_43 rfl (lv_at hl 2 rfl) ?_
        refine g_get B hw fl_MD_26 mw_0 rfl d_MD_inner_44 ?_
        refine lv_iload_n hx hb d_MD_inner_47 rfl (lv_at hl 0 rfl) ?_
        refine lv_aload_n hx hb d_MD_inner_48 rfl (lv_at hl 2 rfl) ?_
        refine g_get B hw fl_MD_26 mw_0 rfl d_MD_inner_49 ?_
        refine lv_iload_n hx hb d_MD_inner_52 rfl (lv_at hl 0 rfl) ?_
        refine lv_iload_n hx hb d_MD_inner_53 rfl (lv_at hl 3 rfl) ?_
        refine lv_isub hx hb d_MD_inner_54 ?_
        rw [pk_sub (a := j) (b := dg) (by omega)]
        refine g_iald B hw mw_6 (vp_in_nI (by omega) (by omega)) d_MD_inner_55 ?_
        rw [nI_clamp (by omega)]
        refine lv_aload_n hx hb d_MD_inner_56 rfl (lv_at hl 2 rfl) ?_
        refine g_get B hw fl_MD_26 mw_0 rfl d_MD_inner_57 ?_
        refine lv_iload_n hx hb d_MD_inner_60 rfl (lv_at hl 0 rfl) ?_
        refine lv_iload_n hx hb d_MD_inner_61 rfl (lv_at hl 3 rfl) ?_
        refine lv_isub hx hb d_MD_inner_62 ?_
        rw [pk_sub (a := j) (b := dg) (by omega)]
        refine g_iald B hw mw_6 (vp_in_nI (by omega) (by omega)) d_MD_inner_63 ?_
        rw [nI_clamp (by omega)]
        refine lv_iload_n hx hb d_MD_inner_64 rfl (lv_at hl 3 rfl) ?_
        refine lv_ishl hx hb d_MD_inner_65 ?_
        refine lv_ixor hx hb d_MD_inner_66 ?_
        refine g_iast B hw mw_6 (vp_in_nI (by omega) (by omega)) d_MD_inner_67 (fun H locs (hw : wd D A (mW K q _ _ _ _ _ _ _ _ _ _ _ _ _ _ _ _) s H locs) => ?_)
        rw [nI_clamp (by omega), ← gw_0 (M := M) (by omega) h21] at hw
        refine lv_iconst (v := 1) hx hb d_MD_inner_68 (by decide) ?_
        refine lv_istore hx hb d_MD_inner_69 hl (by decide) rfl (fun ls (hl : lv_has ls 6 [(4, .int _), (3, .int _), (2, .int _), (0, .ref _), (1, .int _)]) => ?_)
        refine lp_w (σ := Nat) (fun p => dg - p) (fun p H locs ls => p < dg ∧ lv_has ls 6 [(4, .int (nI (p + 1))), (3, .int (nI j)), (2, .int (inE dg)), (0, .ref (q 0)), (1, .int (nI dg))] ∧ wd D A (mW K q kd f1 f2 ou nk nf ns hi lo rc zi sd ix (upd M j (gwN dg (inE dg) (fun i => M (i + 1)) (j - 1) p)) wt cd) s H locs) ?_ 0 _ _ _ ⟨by omega, lv_sub hl [0, 1, 2, 3, 4] rfl, hw⟩
        rintro p H locs ls ⟨hp, hl, hw⟩ ih2
        refine lv_iload hx hb d_MD_inner_71 (lv_at hl 0 rfl) ?_
        refine lv_iload_n hx hb d_MD_inner_73 rfl (lv_at hl 4 rfl) ?_
        refine lv_icmp_ge (tgt := 135) hx hb d_MD_inner_74 rfl (fun h74 => ?_) (fun h74 => ?_)
        · have h74 : dg ≤ p + 1 := (nI_leI (by omega) (by omega)).mp h74
          have hpd : p = dg - 1 := by omega
          have hg := gw_mT hdg (F := (fun i => M (i + 1))) (j := j - 1) (by omega) (by omega) (fun i hi => hM (i + 1) (by omega) (by omega))
          have hw : wd D A (mW K q kd f1 f2 ou nk nf ns hi lo rc zi sd ix (upd M j (mT dg (j - 1))) wt cd) s H locs := by rw [← hg, ← hpd]; exact hw
          refine lv_iinc (k := 1) hx hb d_MD_inner_135 hl rfl (show nI j + Int32.ofInt 1 = nI (j + 1) from (nI_succ j).symm) (by decide) rfl (fun ls (hl : lv_has ls 6 [(3, .int (nI (j + 1))), (4, .int _), (2, .int _), (0, .ref _), (1, .int _)]) => ?_)
          refine lv_goto (tgt := 13) hx hb d_MD_inner_138 rfl ?_
          exact ih (j + 1, upd M j (mT dg (j - 1))) _ _ _ (by show 21 - (j + 1) < 21 - j; omega) ⟨by show 1 ≤ j + 1; omega, by show j + 1 ≤ 21; omega, fun i h1 h2 => by
              have h2 : i < j + 1 := h2
              show upd M j (mT dg (j - 1)) i = _
              by_cases e : i = j
              · subst e; rw [pk_us]
              · rw [pk_un e]; exact hM i h1 (by omega), lv_sub hl [0, 2, 3, 4] rfl, hw⟩
        · have h74 : p + 1 < dg := Nat.lt_of_not_le (fun z => h74 ((nI_leI (by omega) (by omega)).mpr z))
          refine lv_iload_n hx hb d_MD_inner_77 rfl (lv_at hl 2 rfl) ?_
          refine lv_iload_n hx hb d_MD_inner_78 rfl (lv_at hl 4 rfl) ?_
          refine lv_iconst (v := 1) hx hb d_MD_inner_79 (by decide) ?_
          refine lv_isub hx hb d_MD_inner_80 ?_
          refine lv_iload hx hb d_MD_inner_81 (lv_at hl 0 rfl) ?_
          refine lv_isub hx hb d_MD_inner_83 ?_
          refine lv_ishr hx hb d_MD_inner_84 ?_
          rw [ishr_e dg (by omega) p (by omega)]
          refine lv_iconst (v := 1) hx hb d_MD_inner_85 (by decide) ?_
          refine lv_iand hx hb d_MD_inner_86 ?_
          refine lv_istore hx hb d_MD_inner_87 hl (by decide) rfl (fun ls (hl : lv_has ls 6 [(5, .int _), (4, .int _), (3, .int _), (2, .int _), (0, .ref _), (1, .int _)]) => ?_)
          refine lv_aload_n hx hb d_MD_inner_89 rfl (lv_at hl 4 rfl) ?_
          refine g_get B hw fl_MD_26 mw_0 rfl d_MD_inner_90 ?_
          refine lv_iload_n hx hb d_MD_inner_93 rfl (lv_at hl 2 rfl) ?_
          refine lv_iload hx hb d_MD_inner_94 (lv_at hl 0 rfl) ?_
          refine lv_iconst (v := 1) hx hb d_MD_inner_96 (by decide) ?_
          refine lv_icmp_ne (tgt := 122) hx hb d_MD_inner_97 rfl (fun h97 => ?_) (fun h97 => ?_)
          · have hgx := gw_n (j := j) (M := M) h97
            refine lv_aload_n hx hb d_MD_inner_122 rfl (lv_at hl 4 rfl) ?_
            refine g_get B hw fl_MD_26 mw_0 rfl d_MD_inner_123 ?_
            refine lv_iload_n hx hb d_MD_inner_126 rfl (lv_at hl 2 rfl) ?_
            refine g_iald B hw mw_6 (vp_in_nI (by omega) (by omega)) d_MD_inner_127 ?_
            rw [nI_clamp (by omega), pk_us]
            refine g_iast B hw mw_6 (vp_in_nI (by omega) (by omega)) d_MD_inner_128 (fun H locs (hw : wd D A (mW K q _ _ _ _ _ _ _ _ _ _ _ _ _ _ _ _) s H locs) => ?_)
            rw [nI_clamp (by omega), upd_upd, ← hgx] at hw
            refine lv_iinc (k := 1) hx hb d_MD_inner_129 hl rfl (show nI (p + 1) + Int32.ofInt 1 = nI (p + 1 + 1) from (nI_succ (p + 1)).symm) (by decide) rfl (fun ls (hl : lv_has ls 6 [(4, .int (nI (p + 1 + 1))), (5, .int _), (3, .int _), (2, .int _), (0, .ref _), (1, .int _)]) => ?_)
            refine lv_goto (tgt := 71) hx hb d_MD_inner_132 rfl ?_
            exact ih2 (p + 1) _ _ _ (by omega) ⟨by omega, lv_sub hl [0, 2, 3, 4, 5] rfl, hw⟩
          · have hgx := gw_p (M := M) h74 h21 h97
            refine lv_aload_n hx hb d_MD_inner_100 rfl (lv_at hl 4 rfl) ?_
            refine g_get B hw fl_MD_26 mw_0 rfl d_MD_inner_101 ?_
            refine lv_iload_n hx hb d_MD_inner_104 rfl (lv_at hl 2 rfl) ?_
            refine g_iald B hw mw_6 (vp_in_nI (by omega) (by omega)) d_MD_inner_105 ?_
            rw [nI_clamp (by omega), pk_us]
            refine lv_aload_n hx hb d_MD_inner_106 rfl (lv_at hl 4 rfl) ?_
            refine g_get B hw fl_MD_26 mw_0 rfl d_MD_inner_107 ?_
            refine lv_iload_n hx hb d_MD_inner_110 rfl (lv_at hl 2 rfl) ?_
            refine lv_iload hx hb d_MD_inner_111 (lv_at hl 1 rfl) ?_
            refine lv_isub hx hb d_MD_inner_113 ?_
            rw [pk_sub (a := j) (b := p + 1) (by omega)]
            refine g_iald B hw mw_6 (vp_in_nI (by omega) (by omega)) d_MD_inner_114 ?_
            rw [nI_clamp (by omega), pk_un (by omega)]
            refine lv_iload hx hb d_MD_inner_115 (lv_at hl 1 rfl) ?_
            refine lv_ishl hx hb d_MD_inner_117 ?_
            refine lv_ixor hx hb d_MD_inner_118 ?_
            refine lv_goto (tgt := 128) hx hb d_MD_inner_119 rfl ?_
            refine g_iast B hw mw_6 (vp_in_nI (by omega) (by omega)) d_MD_inner_128 (fun H locs (hw : wd D A (mW K q _ _ _ _ _ _ _ _ _ _ _ _ _ _ _ _) s H locs) => ?_)
            rw [nI_clamp (by omega), upd_upd, ← hgx] at hw
            refine lv_iinc (k := 1) hx hb d_MD_inner_129 hl rfl (show nI (p + 1) + Int32.ofInt 1 = nI (p + 1 + 1) from (nI_succ (p + 1)).symm) (by decide) rfl (fun ls (hl : lv_has ls 6 [(4, .int (nI (p + 1 + 1))), (5, .int _), (3, .int _), (2, .int _), (0, .ref _), (1, .int _)]) => ?_)
            refine lv_goto (tgt := 71) hx hb d_MD_inner_132 rfl ?_
            exact ih2 (p + 1) _ _ _ (by omega) ⟨by omega, lv_sub hl [0, 2, 3, 4, 5] rfl, hw⟩
      · have h21 : j ≤ dg := Nat.le_of_not_lt (fun z => h21 ((nI_ltI (by omega) (by omega)).mpr z))
        have hst := mT_st hdg hj1 h21
        refine lv_aload_n hx hb d_MD_inner_24 rfl (lv_at hl 2 rfl) ?_
        refine g_get B hw fl_MD_26 mw_0 rfl d_MD_inner_25 ?_
        refine lv_iload_n hx hb d_MD_inner_28 rfl (lv_at hl 0 rfl) ?_
        refine lv_iload_n hx hb d_MD_inner_29 rfl (lv_at hl 0 rfl) ?_
        refine lv_iconst (v := 2) hx hb d_MD_inner_30 (by decide) ?_
        refine lv_icmp_ne (tgt := 38) hx hb d_MD_inner_31 rfl (fun h31 => ?_) (fun h31 => ?_)
        · rw [if_neg (fun z => h31 (by rw [z]; rfl))] at hst
          refine lv_iconst (v := 1) hx hb d_MD_inner_38 (by decide) ?_
          refine g_iast B hw mw_6 (vp_in_nI (by omega) (by omega)) d_MD_inner_39 (fun H locs (hw : wd D A (mW K q _ _ _ _ _ _ _ _ _ _ _ _ _ _ _ _) s H locs) => ?_)
          rw [nI_clamp (by omega)] at hw
          have hw : wd D A (mW K q kd f1 f2 ou nk nf ns hi lo rc zi sd ix (upd M j (mT dg (j - 1))) wt cd) s H locs := by rw [hst]; exact hw
          refine lv_goto (tgt := 135) hx hb d_MD_inner_40 rfl ?_
          refine lv_iinc (k := 0) hx hb d_MD_inner_135 hl rfl (show nI j + Int32.ofInt 1 = nI (j + 1) from (nI_succ j).symm) (by decide) rfl (fun ls (hl : lv_has ls 6 [(3, .int (nI (j + 1))), (2, .int _), (0, .ref _), (1, .int _)]) => ?_)
          refine lv_goto (tgt := 13) hx hb d_MD_inner_138 rfl ?_
          exact ih (j + 1, upd M j (mT dg (j - 1))) _ _ _ (by show 21 - (j + 1) < 21 - j; omega) ⟨by show 1 ≤ j + 1; omega, by show j + 1 ≤ 21; omega, fun i h1 h2 => by
              have h2 : i < j + 1 := h2
              show upd M j (mT dg (j - 1)) i = _
              by_cases e : i = j
              · subst e; rw [pk_us]
              · rw [pk_un e]; exact hM i h1 (by omega), lv_sub hl [0, 1, 2, 3] rfl, hw⟩
        · rw [if_pos ((nI_eq (b := 2) (by omega) (by omega)).mp h31)] at hst
          refine lv_iconst (v := 3) hx hb d_MD_inner_34 (by decide) ?_
          refine lv_goto (tgt := 39) hx hb d_MD_inner_35 rfl ?_
          refine g_iast B hw mw_6 (vp_in_nI (by omega) (by omega)) d_MD_inner_39 (fun H locs (hw : wd D A (mW K q _ _ _ _ _ _ _ _ _ _ _ _ _ _ _ _) s H locs) => ?_)
          rw [nI_clamp (by omega)] at hw
          have hw : wd D A (mW K q kd f1 f2 ou nk nf ns hi lo rc zi sd ix (upd M j (mT dg (j - 1))) wt cd) s H locs := by rw [hst]; exact hw
          refine lv_goto (tgt := 135) hx hb d_MD_inner_40 rfl ?_
          refine lv_iinc (k := 0) hx hb d_MD_inner_135 hl rfl (show nI j + Int32.ofInt 1 = nI (j + 1) from (nI_succ j).symm) (by decide) rfl (fun ls (hl : lv_has ls 6 [(3, .int (nI (j + 1))), (2, .int _), (0, .ref _), (1, .int _)]) => ?_)
          refine lv_goto (tgt := 13) hx hb d_MD_inner_138 rfl ?_
          exact ih (j + 1, upd M j (mT dg (j - 1))) _ _ _ (by show 21 - (j + 1) < 21 - j; omega) ⟨by show 1 ≤ j + 1; omega, by show j + 1 ≤ 21; omega, fun i h1 h2 => by
              have h2 : i < j + 1 := h2
              show upd M j (mT dg (j - 1)) i = _
              by_cases e : i = j
              · subst e; rw [pk_us]
              · rw [pk_un e]; exact hM i h1 (by omega), lv_sub hl [0, 1, 2, 3] rfl, hw⟩
set_option maxRecDepth 100000 in
set_option maxHeartbeats 4000000 in
theorem c_MD_turned {l : Launch} {D : va_G} {K : Nat → ClassId} {A : Nat → Prop} {q : Nat → Nat} {kd : Nat → Int32} {f1 f2 : Nat → Int64} {ou nk : Int32} {nf ns hi lo : Int64} {rc : Int32} {zi sd : Nat → Int32} {iN : Nat} {mm wt cd : Nat → Int32} {b n : Nat} (hi0 : iN < 2 ^ 31) (hbp : 0 < b) (hb2 : b < 2 ^ 31) (hn : n < 2 ^ 30) : ctL l y_MD_turned prog_6_method_34_code 7 0 0 0 [.ref (q 0), .int (nI b), .int (nI n)] D K A ((mW K q kd f1 f2 ou nk nf ns hi lo rc zi sd (nI iN) mm wt cd)) (fun z v => z = lN (tuN b n (0, iN)).1 ∧ v = (mW K q kd f1 f2 ou nk nf ns hi lo rc zi sd (nI iN) mm wt cd)) := by
  refine mt_of (by decide) (Nat.le_of_ble_eq_true rfl) ?_
  intro p e s m below meth c ls B hw hl
  have hx := B.1
  have hb := B.2.1
  have hl : lv_has ls 7 [(0, .ref (q 0)), (1, .int (nI b)), (2, .int (nI n))] := hl
  refine lv_lconst (v := 0) hx hb d_MD_turned_0 (by decide) ?_
  refine lv_lstore_n hx hb d_MD_turned_1 rfl hl (by decide) rfl (fun ls (hl : lv_has ls 7 [(3, .long _), (0, .ref _), (1, .int _), (2, .int _)]) => ?_)
  refine lv_aload_n hx hb d_MD_turned_2 rfl (lv_at hl 1 rfl) ?_
  refine g_get B hw fl_MD_145 mw_0 rfl d_MD_turned_3 ?_
  refine lv_istore hx hb d_MD_turned_6 hl (by decide) rfl (fun ls (hl : lv_has ls 7 [(5, .int _), (3, .long _), (0, .ref _), (1, .int _), (2, .int _)]) => ?_)
  refine lv_iconst (v := 0) hx hb d_MD_turned_8 (by decide) ?_
  refine lv_istore hx hb d_MD_turned_9 hl (by decide) rfl (fun ls (hl : lv_has ls 7 [(6, .int _), (5, .int _), (3, .long _), (0, .ref _), (1, .int _), (2, .int _)]) => ?_)
  refine lp_w (σ := Nat) (fun j => n - j) (fun j H locs ls => j ≤ n ∧ lv_has ls 7 [(6, .int (nI j)), (5, .int (nI (tuN b j (0, iN)).2)), (3, .long (lN (tuN b j (0, iN)).1)), (0, .ref (q 0)), (1, .int (nI b)), (2, .int (nI n))] ∧ wd D A (mW K q kd f1 f2 ou nk nf ns hi lo rc zi sd (nI iN) mm wt cd) s H locs) ?_ 0 _ _ _ ⟨by omega, lv_sub hl [0, 1, 2, 3, 4, 5] rfl, hw⟩
  rintro j H locs ls ⟨hj, hl, hw⟩ ih
  have hle := tuN_le b (0, iN) j
  dsimp only at hle
  refine lv_iload hx hb d_MD_turned_11 (lv_at hl 0 rfl) ?_
  refine lv_iload_n hx hb d_MD_turned_13 rfl (lv_at hl 5 rfl) ?_
  refine lv_icmp_ge (tgt := 40) hx hb d_MD_turned_14 rfl (fun h14 => ?_) (fun h14 => ?_)
  · have h14 : n ≤ j := (nI_leI (by omega) (by omega)).mp h14
    have hjn : j = n := by omega
    refine lv_lload_n hx hb d_MD_turned_40 rfl (lv_at hl 2 rfl) ?_
    exact r_l B hw d_MD_turned_41 ⟨by rw [hjn], rfl⟩
  · have h14 : j < n := Nat.lt_of_not_le (fun q => h14 ((nI_leI (by omega) (by omega)).mpr q))
    refine lv_lload_n hx hb d_MD_turned_17 rfl (lv_at hl 2 rfl) ?_
    refine lv_iload_n hx hb d_MD_turned_18 rfl (lv_at hl 4 rfl) ?_
    refine lv_i2l hx hb d_MD_turned_19 rfl ?_
    rw [i64_nI hb2]
    refine lv_lmul hx hb d_MD_turned_20 ?_
    rw [lN_mul]
    refine lv_iload hx hb d_MD_turned_21 (lv_at hl 1 rfl) ?_
    refine lv_iload_n hx hb d_MD_turned_23 rfl (lv_at hl 4 rfl) ?_
    refine lv_irem hx hb d_MD_turned_24 (nI_ne0 hbp hb2) ?_
    rw [pk_rem (by omega) hbp hb2]
    refine lv_i2l hx hb d_MD_turned_25 rfl ?_
    rw [i64_nI (Nat.lt_trans (Nat.mod_lt _ hbp) hb2)]
    refine lv_ladd hx hb d_MD_turned_26 ?_
    rw [lN_add]
    refine lv_lstore_n hx hb d_MD_turned_27 rfl hl (by decide) rfl (fun ls (hl : lv_has ls 7 [(3, .long _), (6, .int _), (5, .int _), (0, .ref _), (1, .int _), (2, .int _)]) => ?_)
    refine lv_iload hx hb d_MD_turned_28 (lv_at hl 2 rfl) ?_
    refine lv_iload_n hx hb d_MD_turned_30 rfl (lv_at hl 4 rfl) ?_
    refine lv_idiv hx hb d_MD_turned_31 (nI_ne0 hbp hb2) ?_
    rw [pk_div (by omega) hbp hb2]
    refine lv_istore hx hb d_MD_turned_32 hl (by decide) rfl (fun ls (hl : lv_has ls 7 [(5, .int _), (3, .long _), (6, .int _), (0, .ref _), (1, .int _), (2, .int _)]) => ?_)
    refine lv_iinc (k := 2) hx hb d_MD_turned_34 hl rfl (show nI j + Int32.ofInt 1 = nI (j + 1) from (nI_succ j).symm) (by decide) rfl (fun ls (hl : lv_has ls 7 [(6, .int (nI (j + 1))), (5, .int _), (3, .long _), (0, .ref _), (1, .int _), (2, .int _)]) => ?_)
    refine lv_goto (tgt := 11) hx hb d_MD_turned_37 rfl ?_
    exact ih (j + 1) _ _ _ (by omega) ⟨by omega, lv_sub hl [0, 1, 2, 3, 4, 5] rfl, hw⟩
set_option maxRecDepth 100000 in
set_option maxHeartbeats 4000000 in
theorem c_MD_coordinate {l : Launch} {D : va_G} {K : Nat → ClassId} {A : Nat → Prop} {q : Nat → Nat} {kd : Nat → Int32} {f1 f2 : Nat → Int64} {ou nk : Int32} {nf ns hi lo : Int64} {rc : Int32} {zi sd : Nat → Int32} {iN : Nat} {mm wt cd : Nat → Int32} (hix : iN ≤ 1048575) {x : Int32} : ctL l y_MD_coordinate prog_6_method_35_code 5 1 0 0 [.ref (q 0), .int x] D K A ((mW K q kd f1 f2 ou nk nf ns hi lo rc zi sd (nI iN) mm wt cd)) (fun r w => r = coA iN x ∧ MR K q kd f1 f2 rc zi sd (nI iN) wt cd w) := by
  refine mt_of (by decide) (Nat.le_of_ble_eq_true rfl) ?_
  intro p e s m below meth c ls B hw hl
  have hx := B.1
  have hb := B.2.1
  have hl : lv_has ls 5 [(0, .ref (q 0)), (1, .int x)] := hl
  refine lv_iload_n hx hb d_MD_coordinate_0 rfl (lv_at hl 1 rfl) ?_
  refine lv_if_lt (tgt := 9) hx hb d_MD_coordinate_1 rfl (fun h1 => ?_) (fun h1 => ?_)
  · have ez : coA iN x = -1 := by
      apply coA_n <;> (rintro rfl; revert h1; decide)
    refine g_ldc2 B kc_MD_113 d_MD_coordinate_9 ?_
    exact r_l B hw d_MD_coordinate_12 ⟨ez.symm, ⟨_, _, _, _, _, _, _, rfl⟩⟩
  · refine lv_iload_n hx hb d_MD_coordinate_4 rfl (lv_at hl 1 rfl) ?_
    refine lv_iconst (v := 5) hx hb d_MD_coordinate_5 (by decide) ?_
    refine lv_icmp_le (tgt := 13) hx hb d_MD_coordinate_6 rfl (fun h6 => ?_) (fun h6 => ?_)
    · refine lv_iload_n hx hb d_MD_coordinate_13 rfl (lv_at hl 1 rfl) ?_
      refine lv_iconst (v := 3) hx hb d_MD_coordinate_14 (by decide) ?_
      refine lv_icmp_le (tgt := 41) hx hb d_MD_coordinate_15 rfl (fun h15 => ?_) (fun h15 => ?_)
      · obtain ⟨dd, hdd, rfl⟩ := slot_of h1 (n := 4) (by omega) (by rw [Int32.lt_iff_toInt_lt]; rw [Int32.le_iff_toInt_le, show (3 : Int32).toInt = 3 by decide] at h15; rw [show (nI 4).toInt = 4 by decide]; omega)
        have ez := coA_d (iN := iN) hdd
        obtain ⟨G, hG, hgr⟩ := gr_nI hix
        refine lv_iload_n hx hb d_MD_coordinate_41 rfl (lv_at hl 1 rfl) ?_
        refine lv_if_ne (tgt := 69) hx hb d_MD_coordinate_42 rfl (fun h42 => ?_) (fun h42 => ?_)
        · have hdg : dd = 1 ∨ dd = 2 ∨ dd = 3 := by
            have : dd ≠ 0 := fun z => h42 (by rw [z]; rfl)
            omega
          refine lv_aload_n hx hb d_MD_coordinate_69 rfl (lv_at hl 0 rfl) ?_
          refine lv_iload_n hx hb d_MD_coordinate_70 rfl (lv_at hl 1 rfl) ?_
          refine k_v (k_runV B hw (c_MD_inner hdg) rfl rfl cf_MD_152 mw_0 rfl rfl ⟨Nat.le_of_ble_eq_true rfl, Nat.le_of_ble_eq_true rfl⟩ rfl hl.1 rfl (Nat.le_of_ble_eq_true rfl) d_MD_coordinate_71 ⟨Nat.le_of_ble_eq_true rfl, Nat.le_of_ble_eq_true rfl⟩) hw (fun w1 H locs hq hw => ?_)
          obtain ⟨M, ew, hM2⟩ := hq
          rw [ew] at hw
          refine lv_aload_n hx hb d_MD_coordinate_74 rfl (lv_at hl 0 rfl) ?_
          refine g_get B hw fl_MD_145 mw_0 rfl d_MD_coordinate_75 ?_
          refine lv_aload_n hx hb d_MD_coordinate_78 rfl (lv_at hl 0 rfl) ?_
          refine g_get B hw fl_MD_145 mw_0 rfl d_MD_coordinate_79 ?_
          refine lv_iconst (v := 1) hx hb d_MD_coordinate_82 (by decide) ?_
          refine lv_ishr hx hb d_MD_coordinate_83 ?_
          rw [show nI iN >>> ((1 : Int32) &&& 31) = ius (nI iN) 1 from shr_nI (n := iN) (i := 1) (by omega) (by omega)]
          refine lv_ixor hx hb d_MD_coordinate_84 ?_
          rw [show nI iN ^^^ ius (nI iN) 1 = grC (nI iN) from rfl]
          refine lv_istore_n hx hb d_MD_coordinate_85 rfl hl (by decide) rfl (fun ls (hl : lv_has ls 5 [(2, .int _), (0, .ref _), (1, .int _)]) => ?_)
          refine lv_iconst (v := 0) hx hb d_MD_coordinate_86 (by decide) ?_
          refine lv_istore_n hx hb d_MD_coordinate_87 rfl hl (by decide) rfl (fun ls (hl : lv_has ls 5 [(3, .int _), (2, .int _), (0, .ref _), (1, .int _)]) => ?_)
          refine lv_iconst (v := 1) hx hb d_MD_coordinate_88 (by decide) ?_
          refine lv_istore hx hb d_MD_coordinate_89 hl (by decide) rfl (fun ls (hl : lv_has ls 5 [(4, .int _), (3, .int _), (2, .int _), (0, .ref _), (1, .int _)]) => ?_)
          refine lp_w (σ := Nat) (fun i => 20 - i) (fun i H locs ls => i ≤ 20 ∧ lv_has ls 5 [(4, .int (nI (i + 1))), (3, .int (joN dd (grC (nI iN)) i)), (2, .int (grC (nI iN))), (0, .ref (q 0)), (1, .int (nI dd))] ∧ wd D A (mW K q kd f1 f2 ou nk nf ns hi lo rc zi sd (nI iN) M wt cd) s H locs) ?_ 0 _ _ _ ⟨by omega, lv_sub hl [0, 1, 2, 3, 4] rfl, hw⟩
          rintro i H locs ls ⟨hi20, hl, hw⟩ ih3
          refine lv_iload hx hb d_MD_coordinate_91 (lv_at hl 0 rfl) ?_
          refine lv_bipush (v := 20) hx hb d_MD_coordinate_93 (by decide) ?_
          refine lv_icmp_gt (tgt := 136) hx hb d_MD_coordinate_95 rfl (fun h95 => ?_) (fun h95 => ?_)
          · have h95 : 20 < i + 1 := (nI_ltI (a := 20) (by omega) (by omega)).mp h95
            have hie : i = 20 := by omega
            refine lv_iload_n hx hb d_MD_coordinate_136 rfl (lv_at hl 1 rfl) ?_
            refine k_l (k_runS B hw c_MD_number rfl rfl cf_MD_71 ⟨Nat.le_of_ble_eq_true rfl, Nat.le_of_ble_eq_true rfl⟩ rfl hl.1 rfl (Nat.le_of_ble_eq_true rfl) d_MD_coordinate_137 ⟨Nat.le_of_ble_eq_true rfl, Nat.le_of_ble_eq_true rfl⟩) hw (fun r137 w1 H locs hq hw => ?_)
            obtain ⟨rfl, ew⟩ := hq
            rw [ew] at hw
            exact r_l B hw d_MD_coordinate_140 ⟨by rw [ez, hie], ⟨_, _, _, _, _, _, _, rfl⟩⟩
          · have h95 : i < 20 := by
              apply Nat.lt_of_not_le
              intro z
              exact h95 ((nI_ltI (a := 20) (by omega) (by omega)).mpr (by omega))
            refine lv_iload_n hx hb d_MD_coordinate_98 rfl (lv_at hl 2 rfl) ?_
            refine lv_iload hx hb d_MD_coordinate_99 (lv_at hl 0 rfl) ?_
            refine lv_iconst (v := 1) hx hb d_MD_coordinate_101 (by decide) ?_
            refine lv_isub hx hb d_MD_coordinate_102 ?_
            rw [nI_pred]
            refine lv_ishr hx hb d_MD_coordinate_103 ?_
            rw [hgr, shr_nI hG (by omega), ← hgr]
            refine lv_iconst (v := 1) hx hb d_MD_coordinate_104 (by decide) ?_
            refine lv_iand hx hb d_MD_coordinate_105 ?_
            refine lv_iconst (v := 1) hx hb d_MD_coordinate_106 (by decide) ?_
            refine lv_icmp_ne (tgt := 128) hx hb d_MD_coordinate_107 rfl (fun h107 => ?_) (fun h107 => ?_)
            · have hjo : joN dd (grC (nI iN)) (i + 1) = joN dd (grC (nI iN)) i := if_neg h107
              refine lv_iload_n hx hb d_MD_coordinate_128 rfl (lv_at hl 1 rfl) ?_
              refine lv_istore_n hx hb d_MD_coordinate_129 rfl hl (by decide) rfl (fun ls (hl : lv_has ls 5 [(3, .int _), (4, .int _), (2, .int _), (0, .ref _), (1, .int _)]) => ?_)
              refine lv_iinc (k := 1) hx hb d_MD_coordinate_130 hl rfl (show nI (i + 1) + Int32.ofInt 1 = nI (i + 1 + 1) from (nI_succ (i + 1)).symm) (by decide) rfl (fun ls (hl : lv_has ls 5 [(4, .int (nI (i + 1 + 1))), (3, .int _), (2, .int _), (0, .ref _), (1, .int _)]) => ?_)
              refine lv_goto (tgt := 91) hx hb d_MD_coordinate_133 rfl ?_
              exact ih3 (i + 1) _ _ _ (by omega) ⟨by omega, by rw [hjo]; exact lv_sub hl [0, 1, 2, 3, 4] rfl, hw⟩
            · have hjo : joN dd (grC (nI iN)) (i + 1) = joN dd (grC (nI iN)) i ^^^ dirT dd i := if_pos h107
              refine lv_iload_n hx hb d_MD_coordinate_110 rfl (lv_at hl 1 rfl) ?_
              refine lv_aload_n hx hb d_MD_coordinate_111 rfl (lv_at hl 3 rfl) ?_
              refine g_get B hw fl_MD_26 mw_0 rfl d_MD_coordinate_112 ?_
              refine lv_iload hx hb d_MD_coordinate_115 (lv_at hl 0 rfl) ?_
              refine g_iald B hw mw_6 (vp_in_nI (by omega) (by omega)) d_MD_coordinate_117 ?_
              rw [nI_clamp (by omega), hM2 (i + 1) (by omega) (by omega), show i + 1 - 1 = i by omega]
              refine lv_bipush (v := 32) hx hb d_MD_coordinate_118 (by decide) ?_
              refine lv_iload hx hb d_MD_coordinate_120 (lv_at hl 0 rfl) ?_
              refine lv_isub hx hb d_MD_coordinate_122 ?_
              rw [i32m i h95]
              refine lv_ishl hx hb d_MD_coordinate_123 ?_
              rw [show mT dd i <<< ((31 - nI i) &&& 31) = dirT dd i from rfl]
              refine lv_ixor hx hb d_MD_coordinate_124 ?_
              refine lv_goto (tgt := 129) hx hb d_MD_coordinate_125 rfl ?_
              refine lv_istore_n hx hb d_MD_coordinate_129 rfl hl (by decide) rfl (fun ls (hl : lv_has ls 5 [(3, .int _), (4, .int _), (2, .int _), (0, .ref _), (1, .int _)]) => ?_)
              refine lv_iinc (k := 1) hx hb d_MD_coordinate_130 hl rfl (show nI (i + 1) + Int32.ofInt 1 = nI (i + 1 + 1) from (nI_succ (i + 1)).symm) (by decide) rfl (fun ls (hl : lv_has ls 5 [(4, .int (nI (i + 1 + 1))), (3, .int _), (2, .int _), (0, .ref _), (1, .int _)]) => ?_)
              refine lv_goto (tgt := 91) hx hb d_MD_coordinate_133 rfl ?_
              exact ih3 (i + 1) _ _ _ (by omega) ⟨by omega, by rw [hjo]; exact lv_sub hl [0, 1, 2, 3, 4] rfl, hw⟩
        · have hd0 : dd = 0 := (nI_eq (b := 0) (by omega) (by omega)).mp h42
          refine lv_iconst (v := 1) hx hb d_MD_coordinate_45 (by decide) ?_
          refine lv_istore_n hx hb d_MD_coordinate_46 rfl hl (by decide) rfl (fun ls (hl : lv_has ls 5 [(2, .int _), (0, .ref _), (1, .int _)]) => ?_)
          refine lp_w (σ := Nat × (Nat → Int32)) (fun x => 21 - x.1) (fun x H locs ls => 1 ≤ x.1 ∧ x.1 ≤ 21 ∧ (∀ i, 1 ≤ i → i < x.1 → x.2 i = mT dd (i - 1)) ∧ lv_has ls 5 [(2, .int (nI x.1)), (0, .ref (q 0)), (1, .int (nI dd))] ∧ wd D A (mW K q kd f1 f2 ou nk nf ns hi lo rc zi sd (nI iN) x.2 wt cd) s H locs) ?_ (1, mm) _ _ _ ⟨by show 1 ≤ 1; omega, by show 1 ≤ 21; omega, fun i h1 h2 => by have h2 : i < 1 := h2; omega, lv_sub hl [0, 1, 2] rfl, hw⟩
          rintro ⟨j, M⟩ H locs ls ⟨hj1, hj, hM, hl, hw⟩ ih
          dsimp only at hj1 hj hM hl hw
          refine lv_iload_n hx hb d_MD_coordinate_47 rfl (lv_at hl 0 rfl) ?_
          refine lv_bipush (v := 20) hx hb d_MD_coordinate_48 (by decide) ?_
          refine lv_icmp_gt (tgt := 66) hx hb d_MD_coordinate_50 rfl (fun h50 => ?_) (fun h50 => ?_)
          · have h50 : 20 < j := (nI_ltI (a := 20) (by omega) (by omega)).mp h50
            have hM2 : ∀ i, 1 ≤ i → i ≤ 20 → M i = mT dd (i - 1) := fun i h1 h2 => hM i h1 (by omega)
            refine lv_goto (tgt := 74) hx hb d_MD_coordinate_66 rfl ?_
            refine lv_aload_n hx hb d_MD_coordinate_74 rfl (lv_at hl 1 rfl) ?_
            refine g_get B hw fl_MD_145 mw_0 rfl d_MD_coordinate_75 ?_
            refine lv_aload_n hx hb d_MD_coordinate_78 rfl (lv_at hl 1 rfl) ?_
            refine g_get B hw fl_MD_145 mw_0 rfl d_MD_coordinate_79 ?_
            refine lv_iconst (v := 1) hx hb d_MD_coordinate_82 (by decide) ?_
            refine lv_ishr hx hb d_MD_coordinate_83 ?_
            rw [show nI iN >>> ((1 : Int32) &&& 31) = ius (nI iN) 1 from shr_nI (n := iN) (i := 1) (by omega) (by omega)]
            refine lv_ixor hx hb d_MD_coordinate_84 ?_
            rw [show nI iN ^^^ ius (nI iN) 1 = grC (nI iN) from rfl]
            refine lv_istore_n hx hb d_MD_coordinate_85 rfl hl (by decide) rfl (fun ls (hl : lv_has ls 5 [(2, .int _), (0, .ref _), (1, .int _)]) => ?_)
            refine lv_iconst (v := 0) hx hb d_MD_coordinate_86 (by decide) ?_
            refine lv_istore_n hx hb d_MD_coordinate_87 rfl hl (by decide) rfl (fun ls (hl : lv_has ls 5 [(3, .int _), (2, .int _), (0, .ref _), (1, .int _)]) => ?_)
            refine lv_iconst (v := 1) hx hb d_MD_coordinate_88 (by decide) ?_
            refine lv_istore hx hb d_MD_coordinate_89 hl (by decide) rfl (fun ls (hl : lv_has ls 5 [(4, .int _), (3, .int _), (2, .int _), (0, .ref _), (1, .int _)]) => ?_)
            refine lp_w (σ := Nat) (fun i => 20 - i) (fun i H locs ls => i ≤ 20 ∧ lv_has ls 5 [(4, .int (nI (i + 1))), (3, .int (joN dd (grC (nI iN)) i)), (2, .int (grC (nI iN))), (0, .ref (q 0)), (1, .int (nI dd))] ∧ wd D A (mW K q kd f1 f2 ou nk nf ns hi lo rc zi sd (nI iN) M wt cd) s H locs) ?_ 0 _ _ _ ⟨by omega, lv_sub hl [0, 1, 2, 3, 4] rfl, hw⟩
            rintro i H locs ls ⟨hi20, hl, hw⟩ ih3
            refine lv_iload hx hb d_MD_coordinate_91 (lv_at hl 0 rfl) ?_
            refine lv_bipush (v := 20) hx hb d_MD_coordinate_93 (by decide) ?_
            refine lv_icmp_gt (tgt := 136) hx hb d_MD_coordinate_95 rfl (fun h95 => ?_) (fun h95 => ?_)
            · have h95 : 20 < i + 1 := (nI_ltI (a := 20) (by omega) (by omega)).mp h95
              have hie : i = 20 := by omega
              refine lv_iload_n hx hb d_MD_coordinate_136 rfl (lv_at hl 1 rfl) ?_
              refine k_l (k_runS B hw c_MD_number rfl rfl cf_MD_71 ⟨Nat.le_of_ble_eq_true rfl, Nat.le_of_ble_eq_true rfl⟩ rfl hl.1 rfl (Nat.le_of_ble_eq_true rfl) d_MD_coordinate_137 ⟨Nat.le_of_ble_eq_true rfl, Nat.le_of_ble_eq_true rfl⟩) hw (fun r137 w1 H locs hq hw => ?_)
              obtain ⟨rfl, ew⟩ := hq
              rw [ew] at hw
              exact r_l B hw d_MD_coordinate_140 ⟨by rw [ez, hie], ⟨_, _, _, _, _, _, _, rfl⟩⟩
            · have h95 : i < 20 := by
                apply Nat.lt_of_not_le
                intro z
                exact h95 ((nI_ltI (a := 20) (by omega) (by omega)).mpr (by omega))
              refine lv_iload_n hx hb d_MD_coordinate_98 rfl (lv_at hl 2 rfl) ?_
              refine lv_iload hx hb d_MD_coordinate_99 (lv_at hl 0 rfl) ?_
              refine lv_iconst (v := 1) hx hb d_MD_coordinate_101 (by decide) ?_
              refine lv_isub hx hb d_MD_coordinate_102 ?_
              rw [nI_pred]
              refine lv_ishr hx hb d_MD_coordinate_103 ?_
              rw [hgr, shr_nI hG (by omega), ← hgr]
              refine lv_iconst (v := 1) hx hb d_MD_coordinate_104 (by decide) ?_
              refine lv_iand hx hb d_MD_coordinate_105 ?_
              refine lv_iconst (v := 1) hx hb d_MD_coordinate_106 (by decide) ?_
              refine lv_icmp_ne (tgt := 128) hx hb d_MD_coordinate_107 rfl (fun h107 => ?_) (fun h107 => ?_)
              · have hjo : joN dd (grC (nI iN)) (i + 1) = joN dd (grC (nI iN)) i := if_neg h107
                refine lv_iload_n hx hb d_MD_coordinate_128 rfl (lv_at hl 1 rfl) ?_
                refine lv_istore_n hx hb d_MD_coordinate_129 rfl hl (by decide) rfl (fun ls (hl : lv_has ls 5 [(3, .int _), (4, .int _), (2, .int _), (0, .ref _), (1, .int _)]) => ?_)
                refine lv_iinc (k := 1) hx hb d_MD_coordinate_130 hl rfl (show nI (i + 1) + Int32.ofInt 1 = nI (i + 1 + 1) from (nI_succ (i + 1)).symm) (by decide) rfl (fun ls (hl : lv_has ls 5 [(4, .int (nI (i + 1 + 1))), (3, .int _), (2, .int _), (0, .ref _), (1, .int _)]) => ?_)
                refine lv_goto (tgt := 91) hx hb d_MD_coordinate_133 rfl ?_
                exact ih3 (i + 1) _ _ _ (by omega) ⟨by omega, by rw [hjo]; exact lv_sub hl [0, 1, 2, 3, 4] rfl, hw⟩
              · have hjo : joN dd (grC (nI iN)) (i + 1) = joN dd (grC (nI iN)) i ^^^ dirT dd i := if_pos h107
                refine lv_iload_n hx hb d_MD_coordinate_110 rfl (lv_at hl 1 rfl) ?_
                refine lv_aload_n hx hb d_MD_coordinate_111 rfl (lv_at hl 3 rfl) ?_
                refine g_get B hw fl_MD_26 mw_0 rfl d_MD_coordinate_112 ?_
                refine lv_iload hx hb d_MD_coordinate_115 (lv_at hl 0 rfl) ?_
                refine g_iald B hw mw_6 (vp_in_nI (by omega) (by omega)) d_MD_coordinate_117 ?_
                rw [nI_clamp (by omega), hM2 (i + 1) (by omega) (by omega), show i + 1 - 1 = i by omega]
                refine lv_bipush (v := 32) hx hb d_MD_coordinate_118 (by decide) ?_
                refine lv_iload hx hb d_MD_coordinate_120 (lv_at hl 0 rfl) ?_
                refine lv_isub hx hb d_MD_coordinate_122 ?_
                rw [i32m i h95]
                refine lv_ishl hx hb d_MD_coordinate_123 ?_
                rw [show mT dd i <<< ((31 - nI i) &&& 31) = dirT dd i from rfl]
                refine lv_ixor hx hb d_MD_coordinate_124 ?_
                refine lv_goto (tgt := 129) hx hb d_MD_coordinate_125 rfl ?_
                refine lv_istore_n hx hb d_MD_coordinate_129 rfl hl (by decide) rfl (fun ls (hl : lv_has ls 5 [(3, .int _), (4, .int _), (2, .int _), (0, .ref _), (1, .int _)]) => ?_)
                refine lv_iinc (k := 1) hx hb d_MD_coordinate_130 hl rfl (show nI (i + 1) + Int32.ofInt 1 = nI (i + 1 + 1) from (nI_succ (i + 1)).symm) (by decide) rfl (fun ls (hl : lv_has ls 5 [(4, .int (nI (i + 1 + 1))), (3, .int _), (2, .int _), (0, .ref _), (1, .int _)]) => ?_)
                refine lv_goto (tgt := 91) hx hb d_MD_coordinate_133 rfl ?_
                exact ih3 (i + 1) _ _ _ (by omega) ⟨by omega, by rw [hjo]; exact lv_sub hl [0, 1, 2, 3, 4] rfl, hw⟩
          · have h50 : j ≤ 20 := Nat.le_of_not_lt (fun z => h50 ((nI_ltI (a := 20) (by omega) (by omega)).mpr z))
            refine lv_aload_n hx hb d_MD_coordinate_53 rfl (lv_at hl 1 rfl) ?_
            refine g_get B hw fl_MD_26 mw_0 rfl d_MD_coordinate_54 ?_
            refine lv_iload_n hx hb d_MD_coordinate_57 rfl (lv_at hl 0 rfl) ?_
            refine lv_iconst (v := 1) hx hb d_MD_coordinate_58 (by decide) ?_
            refine g_iast B hw mw_6 (vp_in_nI (by omega) (by omega)) d_MD_coordinate_59 (fun H locs (hw : wd D A (mW K q _ _ _ _ _ _ _ _ _ _ _ _ _ _ _ _) s H locs) => ?_)
            rw [nI_clamp (by omega)] at hw
            refine lv_iinc (k := 0) hx hb d_MD_coordinate_60 hl rfl (show nI j + Int32.ofInt 1 = nI (j + 1) from (nI_succ j).symm) (by decide) rfl (fun ls (hl : lv_has ls 5 [(2, .int (nI (j + 1))), (0, .ref _), (1, .int _)]) => ?_)
            refine lv_goto (tgt := 47) hx hb d_MD_coordinate_63 rfl ?_
            exact ih (j + 1, upd M j 1) _ _ _ (by show 21 - (j + 1) < 21 - j; omega) ⟨by show 1 ≤ j + 1; omega, by show j + 1 ≤ 21; omega, fun i h1 h2 => by
                have h2 : i < j + 1 := h2
                show upd M j 1 i = _
                by_cases e : i = j
                · subst e; rw [pk_us, hd0, mT_0 (i - 1) (by omega)]
                · rw [pk_un e]; exact hM i h1 (by omega), lv_sub hl [0, 1, 2] rfl, hw⟩
      · refine lv_iload_n hx hb d_MD_coordinate_18 rfl (lv_at hl 1 rfl) ?_
        refine lv_iconst (v := 4) hx hb d_MD_coordinate_19 (by decide) ?_
        refine lv_icmp_ne (tgt := 33) hx hb d_MD_coordinate_20 rfl (fun h20 => ?_) (fun h20 => ?_)
        · have hx5 : x = 5 := by
            apply Int32.toInt_inj.mp
            have := lv_neT h20 (show (4 : Int32).toInt = 4 by decide)
            rw [Int32.le_iff_toInt_le, show (3 : Int32).toInt = 3 by decide] at h15
            rw [Int32.le_iff_toInt_le, show (5 : Int32).toInt = 5 by decide] at h6
            rw [show (5 : Int32).toInt = 5 by decide]
            omega
          subst hx5
          have ez := coA_5 iN
          refine lv_aload_n hx hb d_MD_coordinate_33 rfl (lv_at hl 0 rfl) ?_
          refine lv_iconst (v := 5) hx hb d_MD_coordinate_34 (by decide) ?_
          refine lv_bipush (v := 9) hx hb d_MD_coordinate_35 (by decide) ?_
          refine k_l (k_runV B hw (c_MD_turned (b := 5) (n := 9) (by omega) (by omega) (by omega) (by omega)) rfl rfl cf_MD_148 mw_0 rfl rfl ⟨Nat.le_of_ble_eq_true rfl, Nat.le_of_ble_eq_true rfl⟩ rfl hl.1 rfl (Nat.le_of_ble_eq_true rfl) d_MD_coordinate_37 ⟨Nat.le_of_ble_eq_true rfl, Nat.le_of_ble_eq_true rfl⟩) hw (fun r37 w1 H locs hq hw => ?_)
          obtain ⟨rfl, ew⟩ := hq
          rw [ew] at hw
          exact r_l B hw d_MD_coordinate_40 ⟨ez.symm, ⟨_, _, _, _, _, _, _, rfl⟩⟩
        · subst h20
          have ez := coA_4 iN
          refine lv_aload_n hx hb d_MD_coordinate_23 rfl (lv_at hl 0 rfl) ?_
          refine lv_iconst (v := 3) hx hb d_MD_coordinate_24 (by decide) ?_
          refine lv_bipush (v := 13) hx hb d_MD_coordinate_25 (by decide) ?_
          refine k_l (k_runV B hw (c_MD_turned (b := 3) (n := 13) (by omega) (by omega) (by omega) (by omega)) rfl rfl cf_MD_148 mw_0 rfl rfl ⟨Nat.le_of_ble_eq_true rfl, Nat.le_of_ble_eq_true rfl⟩ rfl hl.1 rfl (Nat.le_of_ble_eq_true rfl) d_MD_coordinate_27 ⟨Nat.le_of_ble_eq_true rfl, Nat.le_of_ble_eq_true rfl⟩) hw (fun r27 w1 H locs hq hw => ?_)
          obtain ⟨rfl, ew⟩ := hq
          rw [ew] at hw
          refine lv_goto (tgt := 40) hx hb d_MD_coordinate_30 rfl ?_
          exact r_l B hw d_MD_coordinate_40 ⟨ez.symm, ⟨_, _, _, _, _, _, _, rfl⟩⟩
    · have ez : coA iN x = -1 := by
        apply coA_n <;> (rintro rfl; revert h6; decide)
      refine g_ldc2 B kc_MD_113 d_MD_coordinate_9 ?_
      exact r_l B hw d_MD_coordinate_12 ⟨ez.symm, ⟨_, _, _, _, _, _, _, rfl⟩⟩
set_option maxRecDepth 100000 in
set_option maxHeartbeats 4000000 in
theorem c_MD_pick {l : Launch} {D : va_G} {K : Nat → ClassId} {A : Nat → Prop} {q : Nat → Nat} {kd : Nat → Int32} {f1 f2 : Nat → Int64} {ou nk : Int32} {nf ns hi lo : Int64} {rc : Int32} {zi sd : Nat → Int32} {ix : Int32} {mm wt cd : Nat → Int32} (hI : ∀ k, k < 8 → ¬ kd k < 0 → kd k ≤ 3 ∧ okS (kd k) (f1 k) (f2 k)) (hW : ∀ k, k < 16 → ∃ v : Nat, v ≤ 1000000 ∧ wt k = nI v) {x : Int32} : ctI l y_MD_pick prog_6_method_37_code 5 (some .int) 4 0 0 [.ref (q 0), .int x] D K A (mW K q kd f1 f2 ou nk nf ns hi lo rc zi sd ix mm wt cd) (fun r w => r = piA kd f1 f2 wt x ∧ MR K q kd (dr1 kd f1 f2 x (toW wt 16)) (dr2 kd f1 f2 x (toW wt 16)) rc zi sd ix wt cd w) := by
  refine mt_of (by decide) (Nat.le_of_ble_eq_true rfl) ?_
  intro p e s m below meth c ls B hw hl
  have hx := B.1
  have hb := B.2.1
  have hl : lv_has ls 5 [(0, .ref (q 0)), (1, .int x)] := hl
  refine lv_iconst (v := 0) hx hb d_MD_pick_0 (by decide) ?_
  refine lv_istore_n hx hb d_MD_pick_1 rfl hl (by decide) rfl (fun ls (hl : lv_has ls 5 [(2, .int _), (0, .ref _), (1, .int _)]) => ?_)
  refine lv_iconst (v := 0) hx hb d_MD_pick_2 (by decide) ?_
  refine lv_istore_n hx hb d_MD_pick_3 rfl hl (by decide) rfl (fun ls (hl : lv_has ls 5 [(3, .int _), (2, .int _), (0, .ref _), (1, .int _)]) => ?_)
  refine lp_w (σ := Nat) (fun i => 16 - i) (fun i H locs ls => i ≤ 16 ∧ lv_has ls 5 [(3, .int (nI i)), (2, .int (toW wt i)), (0, .ref (q 0)), (1, .int x)] ∧ wd D A (mW K q kd f1 f2 ou nk nf ns hi lo rc zi sd ix mm wt cd) s H locs) ?_ 0 _ _ _ ⟨by omega, lv_sub hl [0, 1, 2, 3] rfl, hw⟩
  rintro i H locs ls ⟨hi16, hl, hw⟩ ih
  refine lv_iload_n hx hb d_MD_pick_4 rfl (lv_at hl 0 rfl) ?_
  refine lv_bipush (v := 16) hx hb d_MD_pick_5 (by decide) ?_
  refine lv_icmp_ge (tgt := 25) hx hb d_MD_pick_7 rfl (fun h7 => ?_) (fun h7 => ?_)
  · have h7 : 16 ≤ i := (nI_leI (a := 16) (by omega) (by omega)).mp h7
    have hend : i = 16 := by omega
    refine lv_aload_n hx hb d_MD_pick_25 rfl (lv_at hl 2 rfl) ?_
    refine lv_iload_n hx hb d_MD_pick_26 rfl (lv_at hl 3 rfl) ?_
    refine k_i (k_runV B hw c_MD_holds rfl rfl cf_MD_109 mw_0 rfl rfl ⟨Nat.le_of_ble_eq_true rfl, Nat.le_of_ble_eq_true rfl⟩ rfl hl.1 rfl (Nat.le_of_ble_eq_true rfl) d_MD_pick_27 ⟨Nat.le_of_ble_eq_true rfl, Nat.le_of_ble_eq_true rfl⟩) hw (fun r27 w1 H locs hq hw => ?_)
    obtain ⟨rfl, ew⟩ := hq
    rw [ew] at hw
    rcases hd_case kd x with ⟨hn, hz⟩ | ⟨k, hk8, rfl, hn, hkd, hz⟩
    · rw [hz]
      refine lv_if_eq (tgt := 37) hx hb d_MD_pick_30 rfl (fun b30 => ?_) (fun b30 => ?_)
      · refine lv_iconst (v := (-1)) hx hb d_MD_pick_37 (by decide) ?_
        exact r_i B hw d_MD_pick_38 ⟨by unfold piA; rw [onS_n hn], by unfold dr1 dr2; rw [onS_n hn, onS_n hn]; exact ⟨_, _, _, _, _, _, _, rfl⟩⟩
      · exact absurd rfl b30
    · rw [hz]
      have hk3 := k3of hkd (hI k hk8 hkd).1
      have hok := (hI k hk8 hkd).2
      refine lv_if_eq (tgt := 37) hx hb d_MD_pick_30 rfl (fun b30 => ?_) (fun b30 => ?_)
      · exact absurd b30 (by decide)
      · refine lv_iload_n hx hb d_MD_pick_33 rfl (lv_at hl 1 rfl) ?_
        obtain ⟨T, hT1, hT2⟩ := toW_nI hW 16 (by omega)
        rw [hend]
        have hT2b := hT2
        refine lv_if_ne (tgt := 39) hx hb d_MD_pick_34 rfl (fun h34 => ?_) (fun h34 => ?_)
        · have h34b : 1 ≤ T := Nat.pos_of_ne_zero (fun z => h34 (by rw [hT2, z]; rfl))
          have h34c : 1 ≤ toW wt 16 := by rw [hT2]; exact nI_le (a := 1) h34b (by omega)
          have hl : lv_has ls 5 [(3, .int (nI i)), (2, .int (nI T)), (0, .ref (q 0)), (1, .int (nI k))] := by rw [← hT2, ← hend]; exact hl
          refine lv_aload_n hx hb d_MD_pick_39 rfl (lv_at hl 2 rfl) ?_
          refine lv_iload_n hx hb d_MD_pick_40 rfl (lv_at hl 3 rfl) ?_
          refine lv_iload_n hx hb d_MD_pick_41 rfl (lv_at hl 1 rfl) ?_
          refine k_i (k_runV B hw (c_MD_below hk8 hk3 hok h34b (by omega)) rfl rfl cf_MD_120 mw_0 rfl rfl ⟨Nat.le_of_ble_eq_true rfl, Nat.le_of_ble_eq_true rfl⟩ rfl hl.1 rfl (Nat.le_of_ble_eq_true rfl) d_MD_pick_42 ⟨Nat.le_of_ble_eq_true rfl, Nat.le_of_ble_eq_true rfl⟩) hw (fun r42 w1 H locs hq hw => ?_)
          have er := hq.1
          obtain ⟨o2, h2, l2, ew⟩ := hq.2
          rw [ew] at hw
          rw [er]
          obtain ⟨L, hL, hLr⟩ := bel_lt (N := T) (by omega) (by omega) (kd k) 8 (f1 k, f2 k)
          rw [hLr]
          refine lv_istore_n hx hb d_MD_pick_45 rfl hl (by decide) rfl (fun ls (hl : lv_has ls 5 [(3, .int _), (2, .int _), (0, .ref _), (1, .int _)]) => ?_)
          refine lv_iconst (v := 0) hx hb d_MD_pick_46 (by decide) ?_
          refine lv_istore hx hb d_MD_pick_47 hl (by decide) rfl (fun ls (hl : lv_has ls 5 [(4, .int _), (3, .int _), (2, .int _), (0, .ref _), (1, .int _)]) => ?_)
          refine lp_w (σ := Nat × Nat) (fun z => 16 - z.1) (fun z H locs ls => z.1 ≤ 16 ∧ toW wt z.1 = nI z.2 ∧ z.2 ≤ L ∧ ocN wt (nI L) 0 16 = ocN wt (nI L) z.1 (16 - z.1) ∧ lv_has ls 5 [(4, .int (nI z.1)), (3, .int (nI (L - z.2))), (0, .ref (q 0)), (1, .int (nI k))] ∧ wd D A (mW K q kd (vp_updL f1 k (bel (nI T) (kd k) 8 (f1 k, f2 k)).2.1) (vp_updL f2 k (bel (nI T) (kd k) 8 (f1 k, f2 k)).2.2) o2 nk nf ns h2 l2 rc zi sd ix mm wt cd) s H locs) ?_ (0, 0) _ _ _ ⟨by show 0 ≤ 16; omega, rfl, by show 0 ≤ L; omega, rfl, lv_sub hl [0, 1, 3, 4] rfl, hw⟩
          rintro ⟨j, U⟩ H locs ls ⟨hj, hU, hUL, hoc, hl, hw⟩ ih4
          dsimp only at hj hU hUL hoc hl hw
          refine lv_iload hx hb d_MD_pick_49 (lv_at hl 0 rfl) ?_
          refine lv_bipush (v := 16) hx hb d_MD_pick_51 (by decide) ?_
          refine lv_icmp_ge (tgt := 86) hx hb d_MD_pick_53 rfl (fun h53 => ?_) (fun h53 => ?_)
          · have h53 : 16 ≤ j := (nI_leI (a := 16) (by omega) (by omega)).mp h53
            have hje : j = 16 := by omega
            refine lv_iconst (v := (-1)) hx hb d_MD_pick_86 (by decide) ?_
            exact r_i B hw d_MD_pick_87 ⟨by unfold piA; rw [onS_s hn]; (try dsimp only); rw [if_pos h34c, hT2, hLr, hoc, hje]; rfl, by unfold dr1 dr2; rw [onS_s hn, onS_s hn]; (try dsimp only); rw [if_pos h34c, if_pos h34c, hT2]; exact ⟨_, _, _, _, _, _, _, rfl⟩⟩
          · have h53 : j < 16 := Nat.lt_of_not_le (fun z => h53 ((nI_leI (a := 16) (by omega) (by omega)).mpr z))
            obtain ⟨v, hv1, hv2⟩ := hW j h53
            have hU1 : toW wt (j + 1) = nI (U + v) := by show toW wt j + wt j = _; rw [hU, hv2, nI_add]
            refine lv_iload_n hx hb d_MD_pick_56 rfl (lv_at hl 1 rfl) ?_
            refine lv_aload_n hx hb d_MD_pick_57 rfl (lv_at hl 2 rfl) ?_
            refine g_get B hw fl_MD_29 mw_0 rfl d_MD_pick_58 ?_
            refine lv_iload hx hb d_MD_pick_61 (lv_at hl 0 rfl) ?_
            refine g_iald B hw mw_7 (vp_in_nI (by omega) (by omega)) d_MD_pick_63 ?_
            rw [nI_clamp (by omega), hv2]
            refine lv_icmp_ge (tgt := 70) hx hb d_MD_pick_64 rfl (fun h64 => ?_) (fun h64 => ?_)
            · have h64 : v ≤ L - U := (nI_leI (by omega) (by omega)).mp h64
              refine lv_iload_n hx hb d_MD_pick_70 rfl (lv_at hl 1 rfl) ?_
              refine lv_aload_n hx hb d_MD_pick_71 rfl (lv_at hl 2 rfl) ?_
              refine g_get B hw fl_MD_29 mw_0 rfl d_MD_pick_72 ?_
              refine lv_iload hx hb d_MD_pick_75 (lv_at hl 0 rfl) ?_
              refine g_iald B hw mw_7 (vp_in_nI (by omega) (by omega)) d_MD_pick_77 ?_
              rw [nI_clamp (by omega), hv2]
              refine lv_isub hx hb d_MD_pick_78 ?_
              rw [pk_sub (a := L - U) (b := v) (by omega), show L - U - v = L - (U + v) by omega]
              refine lv_istore_n hx hb d_MD_pick_79 rfl hl (by decide) rfl (fun ls (hl : lv_has ls 5 [(3, .int _), (4, .int _), (0, .ref _), (1, .int _)]) => ?_)
              refine lv_iinc (k := 1) hx hb d_MD_pick_80 hl rfl (show nI j + Int32.ofInt 1 = nI (j + 1) from (nI_succ j).symm) (by decide) rfl (fun ls (hl : lv_has ls 5 [(4, .int (nI (j + 1))), (3, .int _), (0, .ref _), (1, .int _)]) => ?_)
              refine lv_goto (tgt := 49) hx hb d_MD_pick_83 rfl ?_
              exact ih4 (j + 1, U + v) _ _ _ (by show 16 - (j + 1) < 16 - j; omega) ⟨by show j + 1 ≤ 16; omega, hU1, by show U + v ≤ L; omega, hoc.trans (ocN_miss h53 (by rw [hU1]; exact nI_le (by omega) (by omega))), lv_sub hl [0, 1, 2, 3] rfl, hw⟩
            · have h64 : L - U < v := Nat.lt_of_not_le (fun z => h64 ((nI_leI (by omega) (by omega)).mpr z))
              refine lv_iload hx hb d_MD_pick_67 (lv_at hl 0 rfl) ?_
              exact r_i B hw d_MD_pick_69 ⟨by unfold piA; rw [onS_s hn]; (try dsimp only); rw [if_pos h34c, hT2, hLr, hoc, ocN_hit h53 (by rw [hU1]; exact nI_ge (by omega) (by omega))], by unfold dr1 dr2; rw [onS_s hn, onS_s hn]; (try dsimp only); rw [if_pos h34c, if_pos h34c, hT2]; exact ⟨_, _, _, _, _, _, _, rfl⟩⟩
        · have h34b : T = 0 := (nI_eq (b := 0) (by omega) (by omega)).mp (by rw [← hT2]; exact h34)
          have h34c : ¬ 1 ≤ toW wt 16 := by rw [hT2, h34b]; decide
          refine lv_iconst (v := (-1)) hx hb d_MD_pick_37 (by decide) ?_
          exact r_i B hw d_MD_pick_38 ⟨by unfold piA; rw [onS_s hn]; exact (if_neg h34c).symm, by unfold dr1 dr2; rw [onS_s hn, onS_s hn]; (try dsimp only); rw [if_neg h34c, if_neg h34c]; exact ⟨_, _, _, _, _, _, _, rfl⟩⟩
  · have h7 : i < 16 := Nat.lt_of_not_le (fun q => h7 ((nI_leI (a := 16) (by omega) (by omega)).mpr q))
    refine lv_iload_n hx hb d_MD_pick_10 rfl (lv_at hl 1 rfl) ?_
    refine lv_aload_n hx hb d_MD_pick_11 rfl (lv_at hl 2 rfl) ?_
    refine g_get B hw fl_MD_29 mw_0 rfl d_MD_pick_12 ?_
    refine lv_iload_n hx hb d_MD_pick_15 rfl (lv_at hl 0 rfl) ?_
    refine g_iald B hw mw_7 (vp_in_nI h7 (by omega)) d_MD_pick_16 ?_
    rw [nI_clamp (by omega)]
    refine lv_iadd hx hb d_MD_pick_17 ?_
    refine lv_istore_n hx hb d_MD_pick_18 rfl hl (by decide) rfl (fun ls (hl : lv_has ls 5 [(2, .int _), (3, .int _), (0, .ref _), (1, .int _)]) => ?_)
    refine lv_iinc (k := 1) hx hb d_MD_pick_19 hl rfl (show nI i + Int32.ofInt 1 = nI (i + 1) from (nI_succ i).symm) (by decide) rfl (fun ls (hl : lv_has ls 5 [(3, .int (nI (i + 1))), (2, .int _), (0, .ref _), (1, .int _)]) => ?_)
    refine lv_goto (tgt := 4) hx hb d_MD_pick_22 rfl ?_
    exact ih (i + 1) _ _ _ (by omega) ⟨by omega, lv_sub hl [0, 1, 2, 3] rfl, hw⟩
set_option maxRecDepth 100000 in
set_option maxHeartbeats 4000000 in
theorem c_MD_shuffle {l : Launch} {D : va_G} {K : Nat → ClassId} {A : Nat → Prop} {q : Nat → Nat} {kd : Nat → Int32} {f1 f2 : Nat → Int64} {ou nk : Int32} {nf ns hi lo : Int64} {rc : Int32} {zi sd : Nat → Int32} {ix : Int32} {mm wt cd : Nat → Int32} (hI : ∀ k, k < 8 → ¬ kd k < 0 → kd k ≤ 3 ∧ okS (kd k) (f1 k) (f2 k)) {x : Int32} : ctI l y_MD_shuffle prog_6_method_38_code 5 (some .boolean) 4 0 0 [.ref (q 0), .int x] D K A (mW K q kd f1 f2 ou nk nf ns hi lo rc zi sd ix mm wt cd) (fun r w => r = rlA kd x ∧ MR K q kd (sh1 kd f1 f2 cd x) (sh2 kd f1 f2 cd x) rc zi sd ix wt (shC kd f1 f2 cd x) w) := by
  refine mt_of (by decide) (Nat.le_of_ble_eq_true rfl) ?_
  intro p e s m below meth c ls B hw hl
  have hx := B.1
  have hb := B.2.1
  have hl : lv_has ls 5 [(0, .ref (q 0)), (1, .int x)] := hl
  refine lv_aload_n hx hb d_MD_shuffle_0 rfl (lv_at hl 0 rfl) ?_
  refine lv_iload_n hx hb d_MD_shuffle_1 rfl (lv_at hl 1 rfl) ?_
  refine k_i (k_runV B hw c_MD_holds rfl rfl cf_MD_109 mw_0 rfl rfl ⟨Nat.le_of_ble_eq_true rfl, Nat.le_of_ble_eq_true rfl⟩ rfl hl.1 rfl (Nat.le_of_ble_eq_true rfl) d_MD_shuffle_2 ⟨Nat.le_of_ble_eq_true rfl, Nat.le_of_ble_eq_true rfl⟩) hw (fun r2 w1 H locs hq hw => ?_)
  obtain ⟨rfl, ew⟩ := hq
  rw [ew] at hw
  rcases hd_case kd x with ⟨hn, hz⟩ | ⟨k, hk8, rfl, hn, hkd, hz⟩
  · rw [hz]
    refine lv_if_ne (tgt := 10) hx hb d_MD_shuffle_5 rfl (fun b5 => ?_) (fun b5 => ?_)
    · exact absurd rfl b5
    · refine lv_iconst (v := 0) hx hb d_MD_shuffle_8 (by decide) ?_
      exact r_z B hw (by decide) d_MD_shuffle_9 ⟨rfl, by unfold sh1 sh2 shC; rw [onS_n hn, onS_n hn, onS_n hn]; exact ⟨_, _, _, _, _, _, _, rfl⟩⟩
  · rw [hz]
    have hk3 := k3of hkd (hI k hk8 hkd).1
    have hok := (hI k hk8 hkd).2
    refine lv_if_ne (tgt := 10) hx hb d_MD_shuffle_5 rfl (fun b5 => ?_) (fun b5 => ?_)
    · refine lv_bipush (v := 15) hx hb d_MD_shuffle_10 (by decide) ?_
      refine lv_istore_n hx hb d_MD_shuffle_12 rfl hl (by decide) rfl (fun ls (hl : lv_has ls 5 [(2, .int _), (0, .ref _), (1, .int _)]) => ?_)
      refine lp_w (σ := Nat × ((Nat → Int32) × Int64 × Int64) × Int32 × Int64 × Int64) (fun z => z.1) (fun z H locs ls => z.1 ≤ 15 ∧ shN (kd k) 15 (cd, f1 k, f2 k) = shN (kd k) z.1 z.2.1 ∧ okS (kd k) z.2.1.2.1 z.2.1.2.2 ∧ lv_has ls 5 [(2, .int (nI z.1)), (0, .ref (q 0)), (1, .int (nI k))] ∧ wd D A (mW K q kd (vp_updL f1 k z.2.1.2.1) (vp_updL f2 k z.2.1.2.2) z.2.2.1 nk nf ns z.2.2.2.1 z.2.2.2.2 rc zi sd ix mm wt z.2.1.1) s H locs) ?_ (15, (cd, f1 k, f2 k), ou, hi, lo) _ _ _ ⟨by show 15 ≤ 15; omega, rfl, hok, lv_sub hl [0, 1, 2] rfl, by show wd D A (mW K q kd (vp_updL f1 k (f1 k)) (vp_updL f2 k (f2 k)) ou nk nf ns hi lo rc zi sd ix mm wt cd) s _ _; rw [updL_self, updL_self]; exact hw⟩
      rintro ⟨i, ⟨c, F, G⟩, o2, h2, l2⟩ H locs ls ⟨hi15, hsh, hokj, hl, hw⟩ ih
      dsimp only at hi15 hsh hokj hl hw
      refine lv_iload_n hx hb d_MD_shuffle_13 rfl (lv_at hl 0 rfl) ?_
      refine lv_iconst (v := 1) hx hb d_MD_shuffle_14 (by decide) ?_
      refine lv_icmp_lt (tgt := 61) hx hb d_MD_shuffle_15 rfl (fun h15 => ?_) (fun h15 => ?_)
      · have h15 : i < 1 := (nI_ltI (b := 1) (by omega) (by omega)).mp h15
        obtain rfl : i = 0 := by omega
        have hsh : shN (kd k) 15 (cd, f1 k, f2 k) = (c, F, G) := hsh
        refine lv_iconst (v := 1) hx hb d_MD_shuffle_61 (by decide) ?_
        exact r_z B hw (by decide) d_MD_shuffle_62 ⟨rfl, by unfold sh1 sh2 shC; rw [onS_s hn, onS_s hn, onS_s hn]; (try dsimp only); rw [hsh]; exact ⟨_, _, _, _, _, _, _, rfl⟩⟩
      · have h15 : 0 < i := Nat.lt_of_not_le (fun z => h15 ((nI_ltI (b := 1) (by omega) (by omega)).mpr (by omega)))
        refine lv_aload_n hx hb d_MD_shuffle_18 rfl (lv_at hl 1 rfl) ?_
        refine lv_iload_n hx hb d_MD_shuffle_19 rfl (lv_at hl 2 rfl) ?_
        refine lv_iload_n hx hb d_MD_shuffle_20 rfl (lv_at hl 0 rfl) ?_
        refine lv_iconst (v := 1) hx hb d_MD_shuffle_21 (by decide) ?_
        refine lv_iadd hx hb d_MD_shuffle_22 ?_
        rw [← nI_succ i]
        refine k_i (k_runV B hw (c_MD_below (N := i + 1) hk8 hk3 (by rw [updL_s, updL_s]; exact hokj) (by omega) (by omega)) rfl rfl cf_MD_120 mw_0 rfl rfl ⟨Nat.le_of_ble_eq_true rfl, Nat.le_of_ble_eq_true rfl⟩ rfl hl.1 rfl (Nat.le_of_ble_eq_true rfl) d_MD_shuffle_23 ⟨Nat.le_of_ble_eq_true rfl, Nat.le_of_ble_eq_true rfl⟩) hw (fun r23 w1 H locs hq hw => ?_)
        have er := hq.1
        obtain ⟨o3, h3, l3, ew⟩ := hq.2
        rw [updL_s, updL_s] at er
        rw [ew, updL_s, updL_s, updL_updL, updL_updL] at hw
        rw [er]
        have hok2 := bel_ok (n := nI (i + 1)) 8 (F, G) hokj
        obtain ⟨j, hj, hjr⟩ := bel_lt (N := i + 1) (by omega) (by omega) (kd k) 8 (F, G)
        generalize hbe : bel (nI (i + 1)) (kd k) 8 (F, G) = be at hw hjr hok2 ⊢
        obtain ⟨be1, be2, be3⟩ := be
        dsimp only at hw hjr hok2 ⊢
        subst hjr
        refine lv_istore_n hx hb d_MD_shuffle_26 rfl hl (by decide) rfl (fun ls (hl : lv_has ls 5 [(3, .int _), (2, .int _), (0, .ref _), (1, .int _)]) => ?_)
        refine lv_aload_n hx hb d_MD_shuffle_27 rfl (lv_at hl 2 rfl) ?_
        refine g_get B hw fl_MD_32 mw_0 rfl d_MD_shuffle_28 ?_
        refine lv_iload_n hx hb d_MD_shuffle_31 rfl (lv_at hl 1 rfl) ?_
        refine g_iald B hw mw_8 (vp_in_nI (by omega) (by omega)) d_MD_shuffle_32 ?_
        rw [nI_clamp (by omega)]
        refine lv_istore hx hb d_MD_shuffle_33 hl (by decide) rfl (fun ls (hl : lv_has ls 5 [(4, .int _), (3, .int _), (2, .int _), (0, .ref _), (1, .int _)]) => ?_)
        refine lv_aload_n hx hb d_MD_shuffle_35 rfl (lv_at hl 3 rfl) ?_
        refine g_get B hw fl_MD_32 mw_0 rfl d_MD_shuffle_36 ?_
        refine lv_iload_n hx hb d_MD_shuffle_39 rfl (lv_at hl 2 rfl) ?_
        refine lv_aload_n hx hb d_MD_shuffle_40 rfl (lv_at hl 3 rfl) ?_
        refine g_get B hw fl_MD_32 mw_0 rfl d_MD_shuffle_41 ?_
        refine lv_iload_n hx hb d_MD_shuffle_44 rfl (lv_at hl 1 rfl) ?_
        refine g_iald B hw mw_8 (vp_in_nI (by omega) (by omega)) d_MD_shuffle_45 ?_
        rw [nI_clamp (by omega)]
        refine g_iast B hw mw_8 (vp_in_nI (by omega) (by omega)) d_MD_shuffle_46 (fun H locs (hw : wd D A (mW K q _ _ _ _ _ _ _ _ _ _ _ _ _ _ _ _) s H locs) => ?_)
        rw [nI_clamp (by omega)] at hw
        refine lv_aload_n hx hb d_MD_shuffle_47 rfl (lv_at hl 3 rfl) ?_
        refine g_get B hw fl_MD_32 mw_0 rfl d_MD_shuffle_48 ?_
        refine lv_iload_n hx hb d_MD_shuffle_51 rfl (lv_at hl 1 rfl) ?_
        refine lv_iload hx hb d_MD_shuffle_52 (lv_at hl 0 rfl) ?_
        refine g_iast B hw mw_8 (vp_in_nI (by omega) (by omega)) d_MD_shuffle_54 (fun H locs (hw : wd D A (mW K q _ _ _ _ _ _ _ _ _ _ _ _ _ _ _ _) s H locs) => ?_)
        rw [nI_clamp (by omega)] at hw
        refine lv_iinc (k := 2) hx hb d_MD_shuffle_55 hl rfl (show nI i + Int32.ofInt (-1) = nI (i - 1) from sb_m1 h15) (by decide) rfl (fun ls (hl : lv_has ls 5 [(2, .int (nI (i - 1))), (4, .int _), (3, .int _), (0, .ref _), (1, .int _)]) => ?_)
        refine lv_goto (tgt := 13) hx hb d_MD_shuffle_58 rfl ?_
        exact ih (i - 1, (swp c i j, be2, be3), _, _, _) _ _ _ (by show i - 1 < i; omega) ⟨by show i - 1 ≤ 15; omega, hsh.trans (shN_gx h15 hbe (by omega)), hok2, lv_sub hl [0, 3, 4] rfl, hw⟩
    · exact absurd b5 (by decide)
