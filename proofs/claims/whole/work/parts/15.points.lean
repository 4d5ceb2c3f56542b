/-! Points: its cell (the rows, the index), the array of four rows, a row of twenty words. -/
abbrev oPt (aD : Nat) (ix : Int32) : va_E := .inr (1, [.ref aD, .int ix])
theorem va_rf_some (a : Nat) : va_rf (some a) = .ref a := rfl
theorem va_rf_none : va_rf none = .null := rfl
theorem ne_iq {K : Nat → ClassId} {w : va_W} {i j a b n m t : Nat} {f : Nat → Int32} {g : Nat → Option Nat} (h1 : w[i]? = some (a, arI K n f)) (h2 : w[j]? = some (b, arQ K t m g)) : i ≠ j := by
  rintro rfl
  rw [h1] at h2
  have h4 := (Prod.mk.inj (Option.some.inj h2)).2
  have h6 := (Prod.mk.inj (Prod.mk.inj (Sum.inl.inj h4)).2).2
  cases h6
theorem set_self {w : va_W} {i : Nat} {x : Nat × va_E} (h : w[i]? = some x) : w.set i x = w := by
  apply List.ext_getElem?
  intro j
  rw [List.getElem?_set]
  by_cases e : i = j
  · subst e
    rw [if_pos rfl, if_pos (List.getElem?_eq_some_iff.mp h).1, h]
  · rw [if_neg e]
/-- a row's next word, q of the inner bits looked at -/
def gwN (dg : Nat) (e : Int32) (F : Nat → Int32) (j : Nat) : Nat → Int32
  | 0 => F (j - dg) ^^^ (F (j - dg) <<< (nI dg &&& 31))
  | q + 1 => if ius e (nI dg - 1 - nI (q + 1)) &&& 1 = 1 then gwN dg e F j q ^^^ (F (j - (q + 1)) <<< (nI (q + 1) &&& 31)) else gwN dg e F j q
def inE (dg : Nat) : Int32 := if dg = 1 then 0 else 1
theorem gw_mT {dg : Nat} (hd : dg = 1 ∨ dg = 2 ∨ dg = 3) {F : Nat → Int32} {j : Nat} (hj : dg ≤ j) (hj2 : j < 20) (hF : ∀ i, i < j → F i = mT dg i) : gwN dg (inE dg) F j (dg - 1) = mT dg j := by
  rcases hd with rfl | rfl | rfl
  · show F (j - 1) ^^^ (F (j - 1) <<< (nI 1 &&& 31)) = _
    rw [hF (j - 1) (by omega), mT_1 j hj2 hj]
    rfl
  · show (if ius 1 (nI 2 - 1 - nI 1) &&& 1 = 1 then (F (j - 2) ^^^ (F (j - 2) <<< (nI 2 &&& 31))) ^^^ (F (j - 1) <<< (nI 1 &&& 31)) else _) = _
    rw [if_pos (by decide), hF (j - 1) (by omega), hF (j - 2) (by omega), mT_2 j hj2 hj]
    rfl
  · show (if ius 1 (nI 3 - 1 - nI 2) &&& 1 = 1 then (if ius 1 (nI 3 - 1 - nI 1) &&& 1 = 1 then _ else (F (j - 3) ^^^ (F (j - 3) <<< (nI 3 &&& 31)))) ^^^ (F (j - 2) <<< (nI 2 &&& 31)) else _) = _
    rw [if_pos (by decide), if_neg (by decide), hF (j - 2) (by omega), hF (j - 3) (by omega), mT_3 j hj2 hj]
    rfl
set_option maxRecDepth 100000 in
set_option maxHeartbeats 4000000 in
theorem c_PT_startRow {l : Launch} {D : va_G} {K : Nat → ClassId} {A : Nat → Prop} {wl : va_W} {ip id ir h aD a r : Nat} {ix : Int32} {gd : Nat → Option Nat} {F : Nat → Int32} (he : wl[ip]? = some (h, oPt aD ix)) (hd : wl[id]? = some (aD, arQ K 4 4 gd)) (hr4 : r < 4) (hg : gd r = some a) (hr : wl[ir]? = some (a, arI K 20 F)) {m1 m2 m3 : Int32} : ctV l y_PT_startRow prog_2_method_2_code 5 0 0 0 [.ref h, .int (nI r), .int m1, .int m2, .int m3] D K A (wl) (fun v => v = wl.set ir (a, arI K 20 (upd (upd (upd F 0 m1) 1 m2) 2 m3))) := by
  refine mt_of (by decide) (Nat.le_of_ble_eq_true rfl) ?_
  intro p e s m below meth c ls B hw hl
  have hx := B.1
  have hb := B.2.1
  have hl : lv_has ls 5 [(0, .ref h), (1, .int (nI r)), (2, .int m1), (3, .int m2), (4, .int m3)] := hl
  refine lv_aload_n hx hb d_PT_startRow_0 rfl (lv_at hl 0 rfl) ?_
  refine g_get B hw fl_PT_11 he rfl d_PT_startRow_1 ?_
  refine lv_iload_n hx hb d_PT_startRow_4 rfl (lv_at hl 1 rfl) ?_
  refine g_gald B hw hd (vp_in_nI hr4 (by omega)) d_PT_startRow_5 ?_
  rw [nI_clamp (by omega), hg, va_rf_some]
  refine lv_iconst (v := 0) hx hb d_PT_startRow_6 (by decide) ?_
  refine lv_iload_n hx hb d_PT_startRow_7 rfl (lv_at hl 2 rfl) ?_
  refine g_iast B hw hr (vp_in_nI (n := 0) (by omega) (by omega)) d_PT_startRow_8 (fun H locs hw => ?_)
  have hw : wd D A (wl.set ir (a, arI K 20 (upd F 0 m1))) s H locs := hw
  refine lv_aload_n hx hb d_PT_startRow_9 rfl (lv_at hl 0 rfl) ?_
  refine g_get B hw fl_PT_11 (gs_ne (ne_oa he hr).symm he) rfl d_PT_startRow_10 ?_
  refine lv_iload_n hx hb d_PT_startRow_13 rfl (lv_at hl 1 rfl) ?_
  refine g_gald B hw (gs_ne (ne_iq hr hd) hd) (vp_in_nI hr4 (by omega)) d_PT_startRow_14 ?_
  rw [nI_clamp (by omega), hg, va_rf_some]
  refine lv_iconst (v := 1) hx hb d_PT_startRow_15 (by decide) ?_
  refine lv_iload_n hx hb d_PT_startRow_16 rfl (lv_at hl 3 rfl) ?_
  refine g_iast B hw (gs_eq hr) (vp_in_nI (n := 1) (by omega) (by omega)) d_PT_startRow_17 (fun H locs hw => ?_)
  rw [List.set_set] at hw
  have hw : wd D A (wl.set ir (a, arI K 20 (upd (upd F 0 m1) 1 m2))) s H locs := hw
  refine lv_aload_n hx hb d_PT_startRow_18 rfl (lv_at hl 0 rfl) ?_
  refine g_get B hw fl_PT_11 (gs_ne (ne_oa he hr).symm he) rfl d_PT_startRow_19 ?_
  refine lv_iload_n hx hb d_PT_startRow_22 rfl (lv_at hl 1 rfl) ?_
  refine g_gald B hw (gs_ne (ne_iq hr hd) hd) (vp_in_nI hr4 (by omega)) d_PT_startRow_23 ?_
  rw [nI_clamp (by omega), hg, va_rf_some]
  refine lv_iconst (v := 2) hx hb d_PT_startRow_24 (by decide) ?_
  refine lv_iload hx hb d_PT_startRow_25 (lv_at hl 4 rfl) ?_
  refine g_iast B hw (gs_eq hr) (vp_in_nI (n := 2) (by omega) (by omega)) d_PT_startRow_27 (fun H locs hw => ?_)
  rw [List.set_set] at hw
  have hw : wd D A (wl.set ir (a, arI K 20 (upd (upd (upd F 0 m1) 1 m2) 2 m3))) s H locs := hw
  exact r_v B hw d_PT_startRow_28 rfl
set_option maxRecDepth 100000 in
set_option maxHeartbeats 4000000 in
theorem c_PT_growRow {l : Launch} {D : va_G} {K : Nat → ClassId} {A : Nat → Prop} {wl : va_W} {ip id ir h aD a r : Nat} {ix : Int32} {gd : Nat → Option Nat} {F : Nat → Int32} (he : wl[ip]? = some (h, oPt aD ix)) (hd : wl[id]? = some (aD, arQ K 4 4 gd)) (hr4 : r < 4) (hg : gd r = some a) (hr : wl[ir]? = some (a, arI K 20 F)) {dg : Nat} (hdg : dg = 1 ∨ dg = 2 ∨ dg = 3) (hF : ∀ i, i < dg → F i = mT dg i) : ctV l y_PT_growRow prog_2_method_3_code 8 0 0 0 [.ref h, .int (nI r), .int (nI dg), .int (inE dg)] D K A (wl) (fun v => ∃ G, v = wl.set ir (a, arI K 20 G) ∧ ∀ i, i < 20 → G i = mT dg i) := by
  refine mt_of (by decide) (Nat.le_of_ble_eq_true rfl) ?_
  intro p e s m below meth c ls B hw hl
  have hx := B.1
  have hb := B.2.1
  have hl : lv_has ls 8 [(0, .ref h), (1, .int (nI r)), (2, .int (nI dg)), (3, .int (inE dg))] := hl
  have hdg4 : 1 ≤ dg ∧ dg ≤ 3 := by omega
  refine lv_aload_n hx hb d_PT_growRow_0 rfl (lv_at hl 0 rfl) ?_
  refine g_get B hw fl_PT_11 he rfl d_PT_growRow_1 ?_
  refine lv_iload_n hx hb d_PT_growRow_4 rfl (lv_at hl 1 rfl) ?_
  refine g_gald B hw hd (vp_in_nI hr4 (by omega)) d_PT_growRow_5 ?_
  rw [nI_clamp (by omega), hg, va_rf_some]
  refine lv_astore hx hb d_PT_growRow_6 hl (by decide) rfl (fun ls (hl : lv_has ls 8 [(4, .ref _), (0, .ref _), (1, .int _), (2, .int _), (3, .int _)]) => ?_)
  refine lv_iload_n hx hb d_PT_growRow_8 rfl (lv_at hl 3 rfl) ?_
  refine lv_istore hx hb d_PT_growRow_9 hl (by decide) rfl (fun ls (hl : lv_has ls 8 [(5, .int _), (4, .ref _), (0, .ref _), (1, .int _), (2, .int _), (3, .int _)]) => ?_)
  refine lp_w (σ := Nat × (Nat → Int32)) (fun x => 20 - x.1) (fun x H locs ls => dg ≤ x.1 ∧ x.1 ≤ 20 ∧ (∀ i, i < x.1 → x.2 i = mT dg i) ∧ lv_has ls 8 [(5, .int (nI x.1)), (4, .ref a), (0, .ref h), (1, .int (nI r)), (2, .int (nI dg)), (3, .int (inE dg))] ∧ wd D A (wl.set ir (a, arI K 20 x.2)) s H locs) ?_ (dg, F) _ _ _ ⟨Nat.le_refl _, by show dg ≤ 20; omega, hF, lv_sub hl [0, 1, 2, 3, 4, 5] rfl, by show wd D A (wl.set ir (a, arI K 20 F)) s _ _; rw [set_self hr]; exact hw⟩
  rintro ⟨j, G⟩ H locs ls ⟨hj, hj2, hG, hl, hw⟩ ih
  dsimp only at hj hj2 hG hl hw
  refine lv_iload hx hb d_PT_growRow_11 (lv_at hl 0 rfl) ?_
  refine lv_bipush (v := 20) hx hb d_PT_growRow_13 (by decide) ?_
  refine lv_icmp_ge (tgt := 95) hx hb d_PT_growRow_15 rfl (fun h15 => ?_) (fun h15 => ?_)
  · have h15 : 20 ≤ j := (nI_leI (a := 20) (by omega) (by omega)).mp h15
    have hj20 : j = 20 := by omega
    exact r_v B hw d_PT_growRow_95 ⟨G, rfl, by rw [hj20] at hG; exact hG⟩
  · have h15 : j < 20 := Nat.lt_of_not_le (fun q => h15 ((nI_leI (a := 20) (by omega) (by omega)).mpr q))
    refine lv_aload hx hb d_PT_growRow_18 (lv_at hl 1 rfl) ?_
    refine lv_iload hx hb d_PT_growRow_20 (lv_at hl 0 rfl) ?_
    refine lv_iload_n hx hb d_PT_growRow_22 rfl (lv_at hl 4 rfl) ?_
    refine lv_isub hx hb d_PT_growRow_23 ?_
    rw [pk_sub (a := j) (b := dg) (by omega)]
    refine g_iald B hw (gs_eq hr) (vp_in_nI (by omega) (by omega)) d_PT_growRow_24 ?_
    rw [nI_clamp (by omega)]
    refine lv_aload hx hb d_PT_growRow_25 (lv_at hl 1 rfl) ?_
    refine lv_iload hx hb d_PT_growRow_27 (lv_at hl 0 rfl) ?_
    refine lv_iload_n hx hb d_PT_growRow_29 rfl (lv_at hl 4 rfl) ?_
    refine lv_isub hx hb d_PT_growRow_30 ?_
    rw [pk_sub (a := j) (b := dg) (by omega)]
    refine g_iald B hw (gs_eq hr) (vp_in_nI (by omega) (by omega)) d_PT_growRow_31 ?_
    rw [nI_clamp (by omega)]
    refine lv_iload_n hx hb d_PT_growRow_32 rfl (lv_at hl 4 rfl) ?_
    refine lv_ishl hx hb d_PT_growRow_33 ?_
    refine lv_ixor hx hb d_PT_growRow_34 ?_
    refine lv_istore hx hb d_PT_growRow_35 hl (by decide) rfl (fun ls (hl : lv_has ls 8 [(6, .int _), (5, .int _), (4, .ref _), (0, .ref _), (1, .int _), (2, .int _), (3, .int _)]) => ?_)
    refine lv_iconst (v := 1) hx hb d_PT_growRow_37 (by decide) ?_
    refine lv_istore hx hb d_PT_growRow_38 hl (by decide) rfl (fun ls (hl : lv_has ls 8 [(7, .int _), (6, .int _), (5, .int _), (4, .ref _), (0, .ref _), (1, .int _), (2, .int _), (3, .int _)]) => ?_)
    refine lp_w (σ := Nat) (fun q => dg - q) (fun q H locs ls => q < dg ∧ lv_has ls 8 [(7, .int (nI (q + 1))), (6, .int (gwN dg (inE dg) G j q)), (5, .int (nI j)), (4, .ref a), (0, .ref h), (1, .int (nI r)), (2, .int (nI dg)), (3, .int (inE dg))] ∧ wd D A (wl.set ir (a, arI K 20 G)) s H locs) ?_ 0 _ _ _ ⟨by omega, lv_sub hl [0, 1, 2, 3, 4, 5, 6, 7] rfl, hw⟩
    rintro q H locs ls ⟨hq, hl, hw⟩ ih2
    refine lv_iload hx hb d_PT_growRow_40 (lv_at hl 0 rfl) ?_
    refine lv_iload_n hx hb d_PT_growRow_42 rfl (lv_at hl 6 rfl) ?_
    refine lv_icmp_ge (tgt := 82) hx hb d_PT_growRow_43 rfl (fun h43 => ?_) (fun h43 => ?_)
    · have h43 : dg ≤ q + 1 := (nI_leI (by omega) (by omega)).mp h43
      have hqd : q = dg - 1 := by omega
      refine lv_aload hx hb d_PT_growRow_82 (lv_at hl 3 rfl) ?_
      refine lv_iload hx hb d_PT_growRow_84 (lv_at hl 2 rfl) ?_
      refine lv_iload hx hb d_PT_growRow_86 (lv_at hl 1 rfl) ?_
      refine g_iast B hw (gs_eq hr) (vp_in_nI h15 (by omega)) d_PT_growRow_88 (fun H locs hw => ?_)
      rw [List.set_set, nI_clamp (by omega), hqd] at hw
      have hG2 : ∀ i, i < j + 1 → upd G j (gwN dg (inE dg) G j (dg - 1)) i = mT dg i := by
        intro i hi
        by_cases e : i = j
        · subst e; rw [pk_us]; exact gw_mT hdg hj h15 hG
        · rw [pk_un e]; exact hG i (by omega)
      refine lv_iinc (k := 2) hx hb d_PT_growRow_89 hl rfl (show nI j + Int32.ofInt 1 = nI (j + 1) from (nI_succ j).symm) (by decide) rfl (fun ls (hl : lv_has ls 8 [(5, .int (nI (j + 1))), (7, .int _), (6, .int _), (4, .ref _), (0, .ref _), (1, .int _), (2, .int _), (3, .int _)]) => ?_)
      refine lv_goto (tgt := 11) hx hb d_PT_growRow_92 rfl ?_
      exact ih (j + 1, upd G j (gwN dg (inE dg) G j (dg - 1))) _ _ _ (by show 20 - (j + 1) < 20 - j; omega) ⟨by show dg ≤ j + 1; omega, by show j + 1 ≤ 20; omega, hG2, lv_sub hl [0, 3, 4, 5, 6, 7] rfl, hw⟩
    · have h43 : q + 1 < dg := Nat.lt_of_not_le (fun z => h43 ((nI_leI (by omega) (by omega)).mpr z))
      refine lv_iload_n hx hb d_PT_growRow_46 rfl (lv_at hl 7 rfl) ?_
      refine lv_iload_n hx hb d_PT_growRow_47 rfl (lv_at hl 6 rfl) ?_
      refine lv_iconst (v := 1) hx hb d_PT_growRow_48 (by decide) ?_
      refine lv_isub hx hb d_PT_growRow_49 ?_
      refine lv_iload hx hb d_PT_growRow_50 (lv_at hl 0 rfl) ?_
      refine lv_isub hx hb d_PT_growRow_52 ?_
      refine lv_iushr hx hb d_PT_growRow_53 rfl ?_
      refine lv_iconst (v := 1) hx hb d_PT_growRow_54 (by decide) ?_
      refine lv_iand hx hb d_PT_growRow_55 ?_
      refine lv_iconst (v := 1) hx hb d_PT_growRow_56 (by decide) ?_
      refine lv_icmp_ne (tgt := 76) hx hb d_PT_growRow_57 rfl (fun h57 => ?_) (fun h57 => ?_)
      · have ew : gwN dg (inE dg) G j (q + 1) = gwN dg (inE dg) G j q := if_neg h57
        refine lv_iinc (k := 0) hx hb d_PT_growRow_76 hl rfl (show nI (q + 1) + Int32.ofInt 1 = nI (q + 1 + 1) from (nI_succ (q + 1)).symm) (by decide) rfl (fun ls (hl : lv_has ls 8 [(7, .int (nI (q + 1 + 1))), (6, .int _), (5, .int _), (4, .ref _), (0, .ref _), (1, .int _), (2, .int _), (3, .int _)]) => ?_)
        refine lv_goto (tgt := 40) hx hb d_PT_growRow_79 rfl ?_
        exact ih2 (q + 1) _ _ _ (by omega) ⟨by omega, by rw [ew]; exact lv_sub hl [0, 1, 2, 3, 4, 5, 6, 7] rfl, hw⟩
      · have ew : gwN dg (inE dg) G j (q + 1) = gwN dg (inE dg) G j q ^^^ (G (j - (q + 1)) <<< (nI (q + 1) &&& 31)) := if_pos h57
        refine lv_iload hx hb d_PT_growRow_60 (lv_at hl 1 rfl) ?_
        refine lv_aload hx hb d_PT_growRow_62 (lv_at hl 3 rfl) ?_
        refine lv_iload hx hb d_PT_growRow_64 (lv_at hl 2 rfl) ?_
        refine lv_iload hx hb d_PT_growRow_66 (lv_at hl 0 rfl) ?_
        refine lv_isub hx hb d_PT_growRow_68 ?_
        rw [pk_sub (a := j) (b := q + 1) (by omega)]
        refine g_iald B hw (gs_eq hr) (vp_in_nI (by omega) (by omega)) d_PT_growRow_69 ?_
        rw [nI_clamp (by omega)]
        refine lv_iload hx hb d_PT_growRow_70 (lv_at hl 0 rfl) ?_
        refine lv_ishl hx hb d_PT_growRow_72 ?_
        refine lv_ixor hx hb d_PT_growRow_73 ?_
        refine lv_istore hx hb d_PT_growRow_74 hl (by decide) rfl (fun ls (hl : lv_has ls 8 [(6, .int _), (7, .int _), (5, .int _), (4, .ref _), (0, .ref _), (1, .int _), (2, .int _), (3, .int _)]) => ?_)
        refine lv_iinc (k := 1) hx hb d_PT_growRow_76 hl rfl (show nI (q + 1) + Int32.ofInt 1 = nI (q + 1 + 1) from (nI_succ (q + 1)).symm) (by decide) rfl (fun ls (hl : lv_has ls 8 [(7, .int (nI (q + 1 + 1))), (6, .int _), (5, .int _), (4, .ref _), (0, .ref _), (1, .int _), (2, .int _), (3, .int _)]) => ?_)
        refine lv_goto (tgt := 40) hx hb d_PT_growRow_79 rfl ?_
        exact ih2 (q + 1) _ _ _ (by omega) ⟨by omega, by rw [ew]; exact lv_sub hl [0, 1, 2, 3, 4, 5, 6, 7] rfl, hw⟩
set_option maxRecDepth 100000 in
set_option maxHeartbeats 4000000 in
theorem c_PT_alignRow {l : Launch} {D : va_G} {K : Nat → ClassId} {A : Nat → Prop} {wl : va_W} {ip id ir h aD a r : Nat} {ix : Int32} {gd : Nat → Option Nat} {F : Nat → Int32} (he : wl[ip]? = some (h, oPt aD ix)) (hd : wl[id]? = some (aD, arQ K 4 4 gd)) (hr4 : r < 4) (hg : gd r = some a) (hr : wl[ir]? = some (a, arI K 20 F)) {dg : Nat} (hF : ∀ i, i < 20 → F i = mT dg i) : ctV l y_PT_alignRow prog_2_method_4_code 3 0 0 0 [.ref h, .int (nI r)] D K A (wl) (fun v => ∃ G, v = wl.set ir (a, arI K 20 G) ∧ ∀ i, i < 20 → G i = dirT dg i) := by
  refine mt_of (by decide) (Nat.le_of_ble_eq_true rfl) ?_
  intro p e s m below meth c ls B hw hl
  have hx := B.1
  have hb := B.2.1
  have hl : lv_has ls 3 [(0, .ref h), (1, .int (nI r))] := hl
  refine lv_iconst (v := 0) hx hb d_PT_alignRow_0 (by decide) ?_
  refine lv_istore_n hx hb d_PT_alignRow_1 rfl hl (by decide) rfl (fun ls (hl : lv_has ls 3 [(2, .int _), (0, .ref _), (1, .int _)]) => ?_)
  refine lp_w (σ := Nat × (Nat → Int32)) (fun x => 20 - x.1) (fun x H locs ls => x.1 ≤ 20 ∧ (∀ i, i < x.1 → x.2 i = dirT dg i) ∧ (∀ i, x.1 ≤ i → i < 20 → x.2 i = mT dg i) ∧ lv_has ls 3 [(2, .int (nI x.1)), (0, .ref h), (1, .int (nI r))] ∧ wd D A (wl.set ir (a, arI K 20 x.2)) s H locs) ?_ (0, F) _ _ _ ⟨by show 0 ≤ 20; omega, fun i hi => absurd hi (Nat.not_lt_zero _), fun i _ hi => hF i hi, lv_sub hl [0, 1, 2] rfl, by show wd D A (wl.set ir (a, arI K 20 F)) s _ _; rw [set_self hr]; exact hw⟩
  rintro ⟨j, G⟩ H locs ls ⟨hj, hG, hG2, hl, hw⟩ ih
  dsimp only at hj hG hG2 hl hw
  refine lv_iload_n hx hb d_PT_alignRow_2 rfl (lv_at hl 0 rfl) ?_
  refine lv_bipush (v := 20) hx hb d_PT_alignRow_3 (by decide) ?_
  refine lv_icmp_ge (tgt := 29) hx hb d_PT_alignRow_5 rfl (fun h5 => ?_) (fun h5 => ?_)
  · have h5 : 20 ≤ j := (nI_leI (a := 20) (by omega) (by omega)).mp h5
    have hj20 : j = 20 := by omega
    exact r_v B hw d_PT_alignRow_29 ⟨G, rfl, by rw [hj20] at hG; exact hG⟩
  · have h5 : j < 20 := Nat.lt_of_not_le (fun q => h5 ((nI_leI (a := 20) (by omega) (by omega)).mpr q))
    refine lv_aload_n hx hb d_PT_alignRow_8 rfl (lv_at hl 1 rfl) ?_
    refine g_get B hw fl_PT_11 (gs_ne (ne_oa he hr).symm he) rfl d_PT_alignRow_9 ?_
    refine lv_iload_n hx hb d_PT_alignRow_12 rfl (lv_at hl 2 rfl) ?_
    refine g_gald B hw (gs_ne (ne_iq hr hd) hd) (vp_in_nI hr4 (by omega)) d_PT_alignRow_13 ?_
    rw [nI_clamp (by omega), hg, va_rf_some]
    refine lv_iload_n hx hb d_PT_alignRow_14 rfl (lv_at hl 0 rfl) ?_
    refine lv_dup2_11 hx hb d_PT_alignRow_15 rfl rfl ?_
    refine g_iald B hw (gs_eq hr) (vp_in_nI h5 (by omega)) d_PT_alignRow_16 ?_
    rw [nI_clamp (by omega)]
    refine lv_bipush (v := 31) hx hb d_PT_alignRow_17 (by decide) ?_
    refine lv_iload_n hx hb d_PT_alignRow_19 rfl (lv_at hl 0 rfl) ?_
    refine lv_isub hx hb d_PT_alignRow_20 ?_
    refine lv_ishl hx hb d_PT_alignRow_21 ?_
    refine g_iast B hw (gs_eq hr) (vp_in_nI h5 (by omega)) d_PT_alignRow_22 (fun H locs hw => ?_)
    rw [List.set_set, nI_clamp (by omega)] at hw
    have hG3 : ∀ i, i < j + 1 → upd G j (G j <<< ((31 - nI j) &&& 31)) i = dirT dg i := by
      intro i hi
      by_cases e : i = j
      · subst e; rw [pk_us, hG2 i (Nat.le_refl _) h5]; rfl
      · rw [pk_un e]; exact hG i (by omega)
    have hG4 : ∀ i, j + 1 ≤ i → i < 20 → upd G j (G j <<< ((31 - nI j) &&& 31)) i = mT dg i := by
      intro i hi hi2
      rw [pk_un (by omega)]; exact hG2 i (by omega) hi2
    refine lv_iinc (k := 0) hx hb d_PT_alignRow_23 hl rfl (show nI j + Int32.ofInt 1 = nI (j + 1) from (nI_succ j).symm) (by decide) rfl (fun ls (hl : lv_has ls 3 [(2, .int (nI (j + 1))), (0, .ref _), (1, .int _)]) => ?_)
    refine lv_goto (tgt := 2) hx hb d_PT_alignRow_26 rfl ?_
    exact ih (j + 1, upd G j (G j <<< ((31 - nI j) &&& 31))) _ _ _ (by show 20 - (j + 1) < 20 - j; omega) ⟨by show j + 1 ≤ 20; omega, hG3, hG4, lv_sub hl [0, 1, 2] rfl, hw⟩
set_option maxRecDepth 100000 in
set_option maxHeartbeats 4000000 in
theorem c_PT_joinedDirections {l : Launch} {D : va_G} {K : Nat → ClassId} {A : Nat → Prop} {wl : va_W} {ip id ir h aD a r : Nat} {ix : Int32} {gd : Nat → Option Nat} {F : Nat → Int32} (he : wl[ip]? = some (h, oPt aD ix)) (hd : wl[id]? = some (aD, arQ K 4 4 gd)) (hr4 : r < 4) (hg : gd r = some a) (hr : wl[ir]? = some (a, arI K 20 F)) (hF : ∀ i, i < 20 → F i = dirT r i) : ctI l y_PT_joinedDirections prog_2_method_5_code 5 (some .int) 0 0 0 [.ref h, .int (nI r)] D K A (wl) (fun z v => z = joN r (grC ix) 20 ∧ v = wl) := by
  refine mt_of (by decide) (Nat.le_of_ble_eq_true rfl) ?_
  intro p e s m below meth c ls B hw hl
  have hx := B.1
  have hb := B.2.1
  have hl : lv_has ls 5 [(0, .ref h), (1, .int (nI r))] := hl
  refine lv_aload_n hx hb d_PT_joinedDirections_0 rfl (lv_at hl 0 rfl) ?_
  refine g_get B hw fl_PT_14 he rfl d_PT_joinedDirections_1 ?_
  refine lv_aload_n hx hb d_PT_joinedDirections_4 rfl (lv_at hl 0 rfl) ?_
  refine g_get B hw fl_PT_14 he rfl d_PT_joinedDirections_5 ?_
  refine lv_iconst (v := 1) hx hb d_PT_joinedDirections_8 (by decide) ?_
  refine lv_iushr hx hb d_PT_joinedDirections_9 rfl ?_
  refine lv_ixor hx hb d_PT_joinedDirections_10 ?_
  refine lv_istore_n hx hb d_PT_joinedDirections_11 rfl hl (by decide) rfl (fun ls (hl : lv_has ls 5 [(2, .int _), (0, .ref _), (1, .int _)]) => ?_)
  refine lv_iconst (v := 0) hx hb d_PT_joinedDirections_12 (by decide) ?_
  refine lv_istore_n hx hb d_PT_joinedDirections_13 rfl hl (by decide) rfl (fun ls (hl : lv_has ls 5 [(3, .int _), (2, .int _), (0, .ref _), (1, .int _)]) => ?_)
  refine lv_iconst (v := 0) hx hb d_PT_joinedDirections_14 (by decide) ?_
  refine lv_istore hx hb d_PT_joinedDirections_15 hl (by decide) rfl (fun ls (hl : lv_has ls 5 [(4, .int _), (3, .int _), (2, .int _), (0, .ref _), (1, .int _)]) => ?_)
  refine lp_w (σ := Nat) (fun j => 20 - j) (fun j H locs ls => j ≤ 20 ∧ lv_has ls 5 [(4, .int (nI j)), (3, .int (joN r (grC ix) j)), (2, .int (grC ix)), (0, .ref h), (1, .int (nI r))] ∧ wd D A wl s H locs) ?_ 0 _ _ _ ⟨by omega, lv_sub hl [0, 1, 2, 3, 4] rfl, hw⟩
  rintro j H locs ls ⟨hj, hl, hw⟩ ih
  refine lv_iload hx hb d_PT_joinedDirections_17 (lv_at hl 0 rfl) ?_
  refine lv_bipush (v := 20) hx hb d_PT_joinedDirections_19 (by decide) ?_
  refine lv_icmp_ge (tgt := 52) hx hb d_PT_joinedDirections_21 rfl (fun h21 => ?_) (fun h21 => ?_)
  · have h21 : 20 ≤ j := (nI_leI (a := 20) (by omega) (by omega)).mp h21
    have hj20 : j = 20 := by omega
    refine lv_iload_n hx hb d_PT_joinedDirections_52 rfl (lv_at hl 1 rfl) ?_
    exact r_i B hw d_PT_joinedDirections_53 ⟨by rw [hj20], rfl⟩
  · have h21 : j < 20 := Nat.lt_of_not_le (fun q => h21 ((nI_leI (a := 20) (by omega) (by omega)).mpr q))
    refine lv_iload_n hx hb d_PT_joinedDirections_24 rfl (lv_at hl 2 rfl) ?_
    refine lv_iload hx hb d_PT_joinedDirections_25 (lv_at hl 0 rfl) ?_
    refine lv_iushr hx hb d_PT_joinedDirections_27 rfl ?_
    refine lv_iconst (v := 1) hx hb d_PT_joinedDirections_28 (by decide) ?_
    refine lv_iand hx hb d_PT_joinedDirections_29 ?_
    refine lv_iconst (v := 1) hx hb d_PT_joinedDirections_30 (by decide) ?_
    refine lv_icmp_ne (tgt := 46) hx hb d_PT_joinedDirections_31 rfl (fun h31 => ?_) (fun h31 => ?_)
    · have ew : joN r (grC ix) (j + 1) = joN r (grC ix) j := if_neg h31
      refine lv_iinc (k := 0) hx hb d_PT_joinedDirections_46 hl rfl (show nI j + Int32.ofInt 1 = nI (j + 1) from (nI_succ j).symm) (by decide) rfl (fun ls (hl : lv_has ls 5 [(4, .int (nI (j + 1))), (3, .int _), (2, .int _), (0, .ref _), (1, .int _)]) => ?_)
      refine lv_goto (tgt := 17) hx hb d_PT_joinedDirections_49 rfl ?_
      exact ih (j + 1) _ _ _ (by omega) ⟨by omega, by rw [ew]; exact lv_sub hl [0, 1, 2, 3, 4] rfl, hw⟩
    · have ew : joN r (grC ix) (j + 1) = joN r (grC ix) j ^^^ dirT r j := if_pos h31
      refine lv_iload_n hx hb d_PT_joinedDirections_34 rfl (lv_at hl 1 rfl) ?_
      refine lv_aload_n hx hb d_PT_joinedDirections_35 rfl (lv_at hl 3 rfl) ?_
      refine g_get B hw fl_PT_11 he rfl d_PT_joinedDirections_36 ?_
      refine lv_iload_n hx hb d_PT_joinedDirections_39 rfl (lv_at hl 4 rfl) ?_
      refine g_gald B hw hd (vp_in_nI hr4 (by omega)) d_PT_joinedDirections_40 ?_
      rw [nI_clamp (by omega), hg, va_rf_some]
      refine lv_iload hx hb d_PT_joinedDirections_41 (lv_at hl 0 rfl) ?_
      refine g_iald B hw hr (vp_in_nI h21 (by omega)) d_PT_joinedDirections_43 ?_
      rw [nI_clamp (by omega), hF j h21]
      refine lv_ixor hx hb d_PT_joinedDirections_44 ?_
      refine lv_istore_n hx hb d_PT_joinedDirections_45 rfl hl (by decide) rfl (fun ls (hl : lv_has ls 5 [(3, .int _), (4, .int _), (2, .int _), (0, .ref _), (1, .int _)]) => ?_)
      refine lv_iinc (k := 1) hx hb d_PT_joinedDirections_46 hl rfl (show nI j + Int32.ofInt 1 = nI (j + 1) from (nI_succ j).symm) (by decide) rfl (fun ls (hl : lv_has ls 5 [(4, .int (nI (j + 1))), (3, .int _), (2, .int _), (0, .ref _), (1, .int _)]) => ?_)
      refine lv_goto (tgt := 17) hx hb d_PT_joinedDirections_49 rfl ?_
      exact ih (j + 1) _ _ _ (by omega) ⟨by omega, by rw [ew]; exact lv_sub hl [0, 1, 2, 3, 4] rfl, hw⟩
theorem tuN_le (b : Nat) (t : Nat × Nat) : ∀ n, (tuN b n t).2 ≤ t.2
  | 0 => Nat.le_refl _
  | n + 1 => Nat.le_trans (Nat.div_le_self _ _) (tuN_le b t n)
set_option maxRecDepth 100000 in
set_option maxHeartbeats 4000000 in
theorem c_PT_turnedDigits {l : Launch} {D : va_G} {K : Nat → ClassId} {A : Nat → Prop} {wl : va_W} {ip h aD i0 b n : Nat} (he : wl[ip]? = some (h, oPt aD (nI i0))) (hi0 : i0 < 2 ^ 31) (hbp : 0 < b) (hb2 : b < 2 ^ 31) (hn : n < 2 ^ 30) : ctI l y_PT_turnedDigits prog_2_method_6_code 6 (some .int) 0 0 0 [.ref h, .int (nI b), .int (nI n)] D K A (wl) (fun z v => z = nI (tuN b n (0, i0)).1 ∧ v = wl) := by
  refine mt_of (by decide) (Nat.le_of_ble_eq_true rfl) ?_
  intro p e s m below meth c ls B hw hl
  have hx := B.1
  have hb := B.2.1
  have hl : lv_has ls 6 [(0, .ref h), (1, .int (nI b)), (2, .int (nI n))] := hl
  refine lv_aload_n hx hb d_PT_turnedDigits_0 rfl (lv_at hl 0 rfl) ?_
  refine g_get B hw fl_PT_14 he rfl d_PT_turnedDigits_1 ?_
  refine lv_istore_n hx hb d_PT_turnedDigits_4 rfl hl (by decide) rfl (fun ls (hl : lv_has ls 6 [(3, .int _), (0, .ref _), (1, .int _), (2, .int _)]) => ?_)
  refine lv_iconst (v := 0) hx hb d_PT_turnedDigits_5 (by decide) ?_
  refine lv_istore hx hb d_PT_turnedDigits_6 hl (by decide) rfl (fun ls (hl : lv_has ls 6 [(4, .int _), (3, .int _), (0, .ref _), (1, .int _), (2, .int _)]) => ?_)
  refine lv_iconst (v := 0) hx hb d_PT_turnedDigits_8 (by decide) ?_
  refine lv_istore hx hb d_PT_turnedDigits_9 hl (by decide) rfl (fun ls (hl : lv_has ls 6 [(5, .int _), (4, .int _), (3, .int _), (0, .ref _), (1, .int _), (2, .int _)]) => ?_)
  refine lp_w (σ := Nat) (fun j => n - j) (fun j H locs ls => j ≤ n ∧ lv_has ls 6 [(5, .int (nI j)), (4, .int (nI (tuN b j (0, i0)).1)), (3, .int (nI (tuN b j (0, i0)).2)), (0, .ref h), (1, .int (nI b)), (2, .int (nI n))] ∧ wd D A wl s H locs) ?_ 0 _ _ _ ⟨by omega, lv_sub hl [0, 1, 2, 3, 4, 5] rfl, hw⟩
  rintro j H locs ls ⟨hj, hl, hw⟩ ih
  have hle := tuN_le b (0, i0) j
  dsimp only at hle
  refine lv_iload hx hb d_PT_turnedDigits_11 (lv_at hl 0 rfl) ?_
  refine lv_iload_n hx hb d_PT_turnedDigits_13 rfl (lv_at hl 5 rfl) ?_
  refine lv_icmp_ge (tgt := 37) hx hb d_PT_turnedDigits_14 rfl (fun h14 => ?_) (fun h14 => ?_)
  · have h14 : n ≤ j := (nI_leI (by omega) (by omega)).mp h14
    have hjn : j = n := by omega
    refine lv_iload hx hb d_PT_turnedDigits_37 (lv_at hl 1 rfl) ?_
    exact r_i B hw d_PT_turnedDigits_39 ⟨by rw [hjn], rfl⟩
  · have h14 : j < n := Nat.lt_of_not_le (fun q => h14 ((nI_leI (by omega) (by omega)).mpr q))
    refine lv_iload hx hb d_PT_turnedDigits_17 (lv_at hl 1 rfl) ?_
    refine lv_iload_n hx hb d_PT_turnedDigits_19 rfl (lv_at hl 4 rfl) ?_
    refine lv_imul hx hb d_PT_turnedDigits_20 ?_
    rw [pk_mul]
    refine lv_iload_n hx hb d_PT_turnedDigits_21 rfl (lv_at hl 2 rfl) ?_
    refine lv_iload_n hx hb d_PT_turnedDigits_22 rfl (lv_at hl 4 rfl) ?_
    refine lv_irem hx hb d_PT_turnedDigits_23 (nI_ne0 hbp hb2) ?_
    rw [pk_rem (by omega) hbp hb2]
    refine lv_iadd hx hb d_PT_turnedDigits_24 ?_
    rw [nI_add]
    refine lv_istore hx hb d_PT_turnedDigits_25 hl (by decide) rfl (fun ls (hl : lv_has ls 6 [(4, .int _), (5, .int _), (3, .int _), (0, .ref _), (1, .int _), (2, .int _)]) => ?_)
    refine lv_iload_n hx hb d_PT_turnedDigits_27 rfl (lv_at hl 2 rfl) ?_
    refine lv_iload_n hx hb d_PT_turnedDigits_28 rfl (lv_at hl 4 rfl) ?_
    refine lv_idiv hx hb d_PT_turnedDigits_29 (nI_ne0 hbp hb2) ?_
    rw [pk_div (by omega) hbp hb2]
    refine lv_istore_n hx hb d_PT_turnedDigits_30 rfl hl (by decide) rfl (fun ls (hl : lv_has ls 6 [(3, .int _), (4, .int _), (5, .int _), (0, .ref _), (1, .int _), (2, .int _)]) => ?_)
    refine lv_iinc (k := 2) hx hb d_PT_turnedDigits_31 hl rfl (show nI j + Int32.ofInt 1 = nI (j + 1) from (nI_succ j).symm) (by decide) rfl (fun ls (hl : lv_has ls 6 [(5, .int (nI (j + 1))), (3, .int _), (4, .int _), (0, .ref _), (1, .int _), (2, .int _)]) => ?_)
    refine lv_goto (tgt := 11) hx hb d_PT_turnedDigits_34 rfl ?_
    exact ih (j + 1) _ _ _ (by omega) ⟨by omega, lv_sub hl [0, 2, 1, 3, 4, 5] rfl, hw⟩
