/-! NumberStreams: the records' calls. -/
section XREC
variable {K : Nat → ClassId} {h aS aR aP aD aW aC rc ix : Nat} {g rr gd : Nat → Option Nat} {wt cd kd sd : Nat → Int32} {f1 f2 : Nat → Int64} {sz ra wa : Nat → Nat} {wl : va_W}
theorem XR.cut (hF : XF K h aS aR aP aD aW aC rc g rr gd ix wt cd wl) (hX : XS kd f1 f2 g wl) (hV : XV K rc sz sd rr ra wa wl) {r i : Nat} (hr : r < rc) (hi : wl[i]? = some (ra r, oSv (wa r) (sz r))) : XR K h kd f1 f2 rc (updN sz r (sz r - 1)) sd ix wt cd (wl.set i (ra r, oSv (wa r) (sz r - 1))) := by
  have h10 := hF.st hi (by omega)
  refine ⟨aS, aR, aP, aD, aW, aC, g, rr, gd, ra, wa, hF.keep (fun j x hj hx => gs_ne (by omega) hx), hX.keep (fun j b c F G hx => gs_ne (ne_oo hi hx (by omega)) hx), hV.1, fun t ht => ?_, hV.2.2⟩
  obtain ⟨q1, q2, i2, j2, w2, q3, q4, q5⟩ := hV.2.1 t ht
  by_cases e : t = r
  · subst e
    rw [updN_s]
    exact ⟨q1, by omega, i, j2, w2, gs_eq hi, gs_ne (ne_oa hi q4) q4, fun u hu => q5 u (by omega)⟩
  · rw [updN_n e]
    exact ⟨q1, q2, i2, j2, w2, gs_ne (ne_aa hi q3 (fun z => e (hV.2.2.1 t r ht hr z.symm))) q3, gs_ne (ne_oa hi q4) q4, q5⟩
theorem XR.spoil (hF : XF K h aS aR aP aD aW aC rc g rr gd ix wt cd wl) (hX : XS kd f1 f2 g wl) (hV : XV K rc sz sd rr ra wa wl) {r i j n : Nat} {w : Nat → Int32} (hr : r < rc) (hs : sz r ≤ 6) (hi : wl[i]? = some (ra r, oSv (wa r) (sz r))) (hj : wl[j]? = some (wa r, arI K 6 w)) (hw : ∀ t, t < sz r → w t = sd (6 * r + t)) (hn : n < sz r) (x : Int32) : XR K h kd f1 f2 rc sz (upd sd (6 * r + n) x) ix wt cd (wl.set j (wa r, arI K 6 (upd w n x))) := by
  have h10 := hF.wd hj
  refine ⟨aS, aR, aP, aD, aW, aC, g, rr, gd, ra, wa, hF.keep (fun j x hj hx => gs_ne (by omega) hx), hX.keep (fun i2 b c F G hx => gs_ne (ne_oa hx hj).symm hx), hV.1, fun t ht => ?_, hV.2.2⟩
  obtain ⟨q1, q2, i2, j2, w2, q3, q4, q5⟩ := hV.2.1 t ht
  by_cases e : t = r
  · subst e
    refine ⟨q1, q2, i, j, upd w n x, gs_ne (ne_oa hi hj).symm hi, gs_eq hj, fun u hu => ?_⟩
    by_cases eu : u = n
    · subst eu; rw [pk_us, pk_us]
    · rw [pk_un eu, pk_un (by omega)]; exact hw u hu
  · refine ⟨q1, q2, i2, j2, w2, gs_ne (ne_oa q3 hj).symm q3, gs_ne (ne_aa hj q4 (fun z => e (hV.2.2.2 t r ht hr z.symm))) q4, fun u hu => ?_⟩
    rw [pk_un (by omega)]
    exact q5 u hu
theorem blk_in {b n u : Nat} {w : Nat → Int32} (h : u < n) : blk sd b n w (b + u) = w u := by
  unfold blk
  rw [if_pos ⟨by omega, by omega⟩, Nat.add_sub_cancel_left]
theorem blk_out {b n t : Nat} {w : Nat → Int32} (h : t < b ∨ b + n ≤ t) : blk sd b n w t = sd t := by
  unfold blk
  rw [if_neg (by omega)]
theorem XR.rec (hF : XF K h aS aR aP aD aW aC rc g rr gd ix wt cd wl) (hX : XS kd f1 f2 g wl) (hV : XV K rc sz sd rr ra wa wl) {A : Nat → Prop} {q q2 n : Nat} {w : Nat → Int32} (hrc : rc < 6) (hn : n ≤ 6) (hD : va_D A ((wl ++ [(q, oSv q2 n)]) ++ [(q2, arI K 6 w)])) :
    XR K h kd f1 f2 (rc + 1) (updN sz rc n) (blk sd (6 * rc) n w) ix wt cd ((((wl ++ [(q, oSv q2 n)]) ++ [(q2, arI K 6 w)]).set 2 (aR, arQ K 3 6 (va_up rr rc (some q)))).set 0 (h, oNS aS aR (rc + 1) aP aW aC)) := by
  have hq : ∀ (i a : Nat) (x : va_E), wl[i]? = some (a, x) → a ≠ q := fun i a x hx z => by
    have hl : i < wl.length := (List.getElem?_eq_some_iff.mp hx).1
    have := hD.1 i wl.length (a, x) _ (ga_old (ga_old hx)) (ga_old ga_new) z
    omega
  have hq2 : ∀ (i a : Nat) (x : va_E), wl[i]? = some (a, x) → a ≠ q2 := fun i a x hx z => by
    have hl : i < wl.length := (List.getElem?_eq_some_iff.mp hx).1
    have := hD.1 i (wl ++ [(q, oSv q2 n)]).length (a, x) _ (ga_old (ga_old hx)) ga_new z
    simp at this
    omega
  have hF2 := hF
  obtain ⟨e0, e1, e2, e3, e4, e5, e9, e10⟩ := hF
  have hl1 : 10 < wl.length := (List.getElem?_eq_some_iff.mp e10).1
  have up : ∀ {i : Nat} {x : Nat × va_E}, i ≠ 0 → i ≠ 2 → wl[i]? = some x → ((((wl ++ [(q, oSv q2 n)]) ++ [(q2, arI K 6 w)]).set 2 (aR, arQ K 3 6 (va_up rr rc (some q)))).set 0 (h, oNS aS aR (rc + 1) aP aW aC))[i]? = some x := fun h1 h2 hx => gs_ne (Ne.symm h1) (gs_ne (Ne.symm h2) (ga_old (ga_old hx)))
  refine ⟨aS, aR, aP, aD, aW, aC, g, va_up rr rc (some q), gd, updN ra rc q, updN wa rc q2, ⟨gs_eq (gs_ne (by omega) (ga_old (ga_old e0))), up (by omega) (by omega) e1, gs_ne (by omega) (gs_eq (ga_old (ga_old e2))), up (by omega) (by omega) e3, up (by omega) (by omega) e4, fun j hj => ?_, up (by omega) (by omega) e9, up (by omega) (by omega) e10⟩, hX.keep (fun j b c F G hx => by have := hF2.st hx (by omega); exact up (by omega) (by omega) hx), by omega, fun t ht => ?_, fun t u ht hu hz => ?_, fun t u ht hu hz => ?_⟩
  · obtain ⟨a, F, h1, h2, h3⟩ := e5 j hj
    exact ⟨a, F, h1, up (by omega) (by omega) h2, h3⟩
  · by_cases e : t = rc
    · subst e
      rw [updN_s, updN_s, updN_s]
      exact ⟨va_up_self .., hn, wl.length, (wl ++ [(q, oSv q2 n)]).length, w, gs_ne (by omega) (gs_ne (by omega) (ga_old ga_new)), gs_ne (by simp) (gs_ne (by simp; omega) ga_new), fun u hu => (blk_in hu).symm⟩
    · rw [updN_n e, updN_n e, updN_n e, show va_up rr rc (some q) t = rr t from if_neg e]
      obtain ⟨q1, z2, i2, j2, w2, q3, q4, q5⟩ := hV.2.1 t (by omega)
      refine ⟨q1, z2, i2, j2, w2, by have := hF2.st q3 (by omega); exact up (by omega) (by omega) q3, by have := hF2.wd q4; exact up (by omega) (by omega) q4, fun u hu => ?_⟩
      rw [blk_out (by omega)]
      exact q5 u hu
  · by_cases e : t = rc <;> by_cases e' : u = rc
    · omega
    · subst e
      rw [updN_s, updN_n e'] at hz
      obtain ⟨_, _, i2, j2, w2, q3, q4, _⟩ := hV.2.1 u (by omega)
      exact absurd hz.symm (hq _ _ _ q3)
    · subst e'
      rw [updN_s, updN_n e] at hz
      obtain ⟨_, _, i2, j2, w2, q3, q4, _⟩ := hV.2.1 t (by omega)
      exact absurd hz (hq _ _ _ q3)
    · rw [updN_n e, updN_n e'] at hz
      exact hV.2.2.1 t u (by omega) (by omega) hz
  · by_cases e : t = rc <;> by_cases e' : u = rc
    · omega
    · subst e
      rw [updN_s, updN_n e'] at hz
      obtain ⟨_, _, i2, j2, w2, q3, q4, _⟩ := hV.2.1 u (by omega)
      exact absurd hz.symm (hq2 _ _ _ q4)
    · subst e'
      rw [updN_s, updN_n e] at hz
      obtain ⟨_, _, i2, j2, w2, q3, q4, _⟩ := hV.2.1 t (by omega)
      exact absurd hz (hq2 _ _ _ q4)
    · rw [updN_n e, updN_n e'] at hz
      exact hV.2.2.2 t u (by omega) (by omega) hz
end XREC
theorem sv_last {K : Nat → ClassId} {wl : va_W} {q q2 n : Nat} {w w0 : Nat → Int32} {x : va_E} : svW K ((wl ++ [(q, x)]) ++ [(q2, arI K 6 w0)]) wl.length (wl ++ [(q, x)]).length q q2 n w = (wl ++ [(q, oSv q2 n)]) ++ [(q2, arI K 6 w)] := by
  unfold svW
  rw [set_last, List.set_append_left _ _ (by simp), set_last]
theorem hw_case {rc r : Nat} {sz : Nat → Nat} {y : Int32} (hn : rcS rc (nI r) = some r) (hs : sz r ≤ 6) : ((if y < 0 then (0 : Int32) else if nI (sz r) ≤ y then 0 else 1) = 0 ∧ hwB rc sz (nI r) y = false) ∨ ((if y < 0 then (0 : Int32) else if nI (sz r) ≤ y then 0 else 1) = 1 ∧ hwB rc sz (nI r) y = true ∧ ∃ t, t < sz r ∧ y = nI t) := by
  have e : hwB rc sz (nI r) y = if y < 0 then false else if nI (sz r) ≤ y then false else true := by unfold hwB; rw [hn]
  rw [e]
  by_cases h0 : y < 0
  · exact Or.inl ⟨if_pos h0, if_pos h0⟩
  · by_cases h1 : nI (sz r) ≤ y
    · exact Or.inl ⟨by rw [if_neg h0, if_pos h1], by rw [if_neg h0, if_pos h1]⟩
    · exact Or.inr ⟨by rw [if_neg h0, if_neg h1], by rw [if_neg h0, if_neg h1], slot_of h0 (by omega) (Int32.not_le.mp h1)⟩
theorem hw_none {rc : Nat} {sz : Nat → Nat} {x y : Int32} (hn : rcS rc x = none) : hwB rc sz x y = false := by unfold hwB; rw [hn]
set_option maxRecDepth 100000 in
set_option maxHeartbeats 4000000 in
theorem c_NS_length {l : Launch} {D : va_G} {K : Nat → ClassId} {A : Nat → Prop} {wl : va_W} {h rc ix : Nat} {kd sd wt cd : Nat → Int32} {f1 f2 : Nat → Int64} {sz : Nat → Nat} (hR : XR K h kd f1 f2 rc sz sd ix wt cd wl) {x : Int32} : ctI l y_NS_length prog_1_method_10_code 3 (some .int) 1 0 0 [.ref h, .int x] D K A (wl) (fun z v => z = lnA rc sz x ∧ v = wl) := by
  refine mt_of (by decide) (Nat.le_of_ble_eq_true rfl) ?_
  intro p e s m below meth c ls B hw hl
  have hx := B.1
  have hb := B.2.1
  have hl : lv_has ls 3 [(0, .ref h), (1, .int x)] := hl
  have hR0 := hR
  obtain ⟨aS, aR, aP, aD, aW, aC, g, rr, gd, ra, wa, hF, hX, hV⟩ := hR
  have hF0 := hF
  obtain ⟨e0, e1, e2, e3, e4, e5, e9, e10⟩ := hF
  have hrc6 := hV.1
  refine lv_aload_n hx hb d_NS_length_0 rfl (lv_at hl 0 rfl) ?_
  refine lv_iload_n hx hb d_NS_length_1 rfl (lv_at hl 1 rfl) ?_
  refine k_q (k_runV B hw (c_NS_recordAt hF0 hrc6) rfl rfl cf_NS_95 e0 rfl rfl ⟨Nat.le_of_ble_eq_true rfl, Nat.le_of_ble_eq_true rfl⟩ rfl hl.1 rfl (Nat.le_of_ble_eq_true rfl) d_NS_length_2 ⟨Nat.le_of_ble_eq_true rfl, Nat.le_of_ble_eq_true rfl⟩) hw (fun r2 w1 H locs hq hw => ?_)
  obtain ⟨rfl, ew⟩ := hq
  rw [ew] at hw
  rcases rc_case hV x with ⟨hn, hz⟩ | ⟨r, hr, rfl, hn, hz, hs6, i, j, u, hi, hj, hwd⟩
  · rw [hz, va_rf_none]
    refine lv_astore_nN hx hb d_NS_length_5 rfl hl (by decide) rfl (fun ls (hl : lv_has ls 3 [(2, .null), (0, .ref _), (1, .int _)]) => ?_)
    refine lv_aload_nN hx hb d_NS_length_6 rfl (lv_at hl 0 rfl) ?_
    refine lv_ifnonnullN hx hb d_NS_length_7 ?_
    refine lv_iconst (v := (-1)) hx hb d_NS_length_10 (by decide) ?_
    refine lv_goto (tgt := 18) hx hb d_NS_length_11 rfl ?_
    exact r_i B hw d_NS_length_18 ⟨by unfold lnA; rw [hn], rfl⟩
  · rw [hz, va_rf_some]
    refine lv_astore_n hx hb d_NS_length_5 rfl hl (by decide) rfl (fun ls (hl : lv_has ls 3 [(2, .ref _), (0, .ref _), (1, .int _)]) => ?_)
    refine lv_aload_n hx hb d_NS_length_6 rfl (lv_at hl 0 rfl) ?_
    refine lv_ifnonnull (tgt := 14) hx hb d_NS_length_7 rfl ?_
    refine lv_aload_n hx hb d_NS_length_14 rfl (lv_at hl 0 rfl) ?_
    refine g_get B hw fl_NS_99 hi rfl d_NS_length_15 ?_
    exact r_i B hw d_NS_length_18 ⟨by unfold lnA; rw [hn], rfl⟩
set_option maxRecDepth 100000 in
set_option maxHeartbeats 4000000 in
theorem c_NS_word {l : Launch} {D : va_G} {K : Nat → ClassId} {A : Nat → Prop} {wl : va_W} {h rc ix : Nat} {kd sd wt cd : Nat → Int32} {f1 f2 : Nat → Int64} {sz : Nat → Nat} (hR : XR K h kd f1 f2 rc sz sd ix wt cd wl) {x y : Int32} : ctI l y_NS_word prog_1_method_11_code 4 (some .int) 1 0 0 [.ref h, .int x, .int y] D K A (wl) (fun z v => z = wdA rc sz sd x y ∧ v = wl) := by
  refine mt_of (by decide) (Nat.le_of_ble_eq_true rfl) ?_
  intro p e s m below meth c ls B hw hl
  have hx := B.1
  have hb := B.2.1
  have hl : lv_has ls 4 [(0, .ref h), (1, .int x), (2, .int y)] := hl
  have hR0 := hR
  obtain ⟨aS, aR, aP, aD, aW, aC, g, rr, gd, ra, wa, hF, hX, hV⟩ := hR
  have hF0 := hF
  obtain ⟨e0, e1, e2, e3, e4, e5, e9, e10⟩ := hF
  have hrc6 := hV.1
  refine lv_aload_n hx hb d_NS_word_0 rfl (lv_at hl 0 rfl) ?_
  refine lv_iload_n hx hb d_NS_word_1 rfl (lv_at hl 1 rfl) ?_
  refine k_q (k_runV B hw (c_NS_recordAt hF0 hrc6) rfl rfl cf_NS_95 e0 rfl rfl ⟨Nat.le_of_ble_eq_true rfl, Nat.le_of_ble_eq_true rfl⟩ rfl hl.1 rfl (Nat.le_of_ble_eq_true rfl) d_NS_word_2 ⟨Nat.le_of_ble_eq_true rfl, Nat.le_of_ble_eq_true rfl⟩) hw (fun r2 w1 H locs hq hw => ?_)
  obtain ⟨rfl, ew⟩ := hq
  rw [ew] at hw
  rcases rc_case hV x with ⟨hn, hz⟩ | ⟨r, hr, rfl, hn, hz, hs6, i, j, u, hi, hj, hwd⟩
  · rw [hz, va_rf_none]
    refine lv_astore_nN hx hb d_NS_word_5 rfl hl (by decide) rfl (fun ls (hl : lv_has ls 4 [(3, .null), (0, .ref _), (1, .int _), (2, .int _)]) => ?_)
    refine lv_aload_nN hx hb d_NS_word_6 rfl (lv_at hl 0 rfl) ?_
    refine lv_ifnullN (tgt := 18) hx hb d_NS_word_7 rfl ?_
    refine lv_iconst (v := 0) hx hb d_NS_word_18 (by decide) ?_
    refine lv_goto (tgt := 28) hx hb d_NS_word_19 rfl ?_
    exact r_i B hw d_NS_word_28 ⟨by unfold wdA; rw [hw_none hn]; rfl, rfl⟩
  · rw [hz, va_rf_some]
    refine lv_astore_n hx hb d_NS_word_5 rfl hl (by decide) rfl (fun ls (hl : lv_has ls 4 [(3, .ref _), (0, .ref _), (1, .int _), (2, .int _)]) => ?_)
    refine lv_aload_n hx hb d_NS_word_6 rfl (lv_at hl 0 rfl) ?_
    refine lv_ifnull hx hb d_NS_word_7 ?_
    refine lv_aload_n hx hb d_NS_word_10 rfl (lv_at hl 0 rfl) ?_
    refine lv_iload_n hx hb d_NS_word_11 rfl (lv_at hl 3 rfl) ?_
    refine k_i (k_runV B hw (c_SV_hasWord hi hj) rfl rfl cf_NS_102 hi rfl rfl ⟨Nat.le_of_ble_eq_true rfl, Nat.le_of_ble_eq_true rfl⟩ rfl hl.1 rfl (Nat.le_of_ble_eq_true rfl) d_NS_word_12 ⟨Nat.le_of_ble_eq_true rfl, Nat.le_of_ble_eq_true rfl⟩) hw (fun r12 w1 H locs hq hw => ?_)
    obtain ⟨rfl, ew⟩ := hq
    rw [ew] at hw
    rcases hw_case (y := y) hn hs6 with ⟨hc, hb2⟩ | ⟨hc, hb2, t, ht, rfl⟩
    · rw [hc]
      refine lv_if_ne (tgt := 22) hx hb d_NS_word_15 rfl (fun h15 => ?_) (fun h15 => ?_)
      · exact absurd rfl h15
      · refine lv_iconst (v := 0) hx hb d_NS_word_18 (by decide) ?_
        refine lv_goto (tgt := 28) hx hb d_NS_word_19 rfl ?_
        exact r_i B hw d_NS_word_28 ⟨by unfold wdA; rw [hb2]; rfl, rfl⟩
    · rw [hc]
      refine lv_if_ne (tgt := 22) hx hb d_NS_word_15 rfl (fun h15 => ?_) (fun h15 => ?_)
      · refine lv_aload_n hx hb d_NS_word_22 rfl (lv_at hl 0 rfl) ?_
        refine g_get B hw fl_NS_105 hi rfl d_NS_word_23 ?_
        refine lv_iload_n hx hb d_NS_word_26 rfl (lv_at hl 3 rfl) ?_
        refine g_iald B hw hj (vp_in_nI (by omega) (by omega)) d_NS_word_27 ?_
        rw [nI_clamp (by omega), hwd t ht]
        exact r_i B hw d_NS_word_28 ⟨by unfold wdA; rw [hb2, if_pos rfl, nI_clamp (by omega), nI_clamp (by omega)], rfl⟩
      · exact absurd h15 (by decide)
set_option maxRecDepth 100000 in
set_option maxHeartbeats 4000000 in
theorem c_NS_spoil {l : Launch} {D : va_G} {K : Nat → ClassId} {A : Nat → Prop} {wl : va_W} {h rc ix : Nat} {kd sd wt cd : Nat → Int32} {f1 f2 : Nat → Int64} {sz : Nat → Nat} (hR : XR K h kd f1 f2 rc sz sd ix wt cd wl) {x y mk : Int32} : ctI l y_NS_spoil prog_1_method_12_code 5 (some .boolean) 1 0 0 [.ref h, .int x, .int y, .int mk] D K A (wl) (fun z v => z = bI (hwB rc sz x y) ∧ XR K h kd f1 f2 rc sz (spD rc sz sd x y mk) ix wt cd v) := by
  refine mt_of (by decide) (Nat.le_of_ble_eq_true rfl) ?_
  intro p e s m below meth c ls B hw hl
  have hx := B.1
  have hb := B.2.1
  have hl : lv_has ls 5 [(0, .ref h), (1, .int x), (2, .int y), (3, .int mk)] := hl
  have hR0 := hR
  obtain ⟨aS, aR, aP, aD, aW, aC, g, rr, gd, ra, wa, hF, hX, hV⟩ := hR
  have hF0 := hF
  obtain ⟨e0, e1, e2, e3, e4, e5, e9, e10⟩ := hF
  have hrc6 := hV.1
  refine lv_aload_n hx hb d_NS_spoil_0 rfl (lv_at hl 0 rfl) ?_
  refine lv_iload_n hx hb d_NS_spoil_1 rfl (lv_at hl 1 rfl) ?_
  refine k_q (k_runV B hw (c_NS_recordAt hF0 hrc6) rfl rfl cf_NS_95 e0 rfl rfl ⟨Nat.le_of_ble_eq_true rfl, Nat.le_of_ble_eq_true rfl⟩ rfl hl.1 rfl (Nat.le_of_ble_eq_true rfl) d_NS_spoil_2 ⟨Nat.le_of_ble_eq_true rfl, Nat.le_of_ble_eq_true rfl⟩) hw (fun r2 w1 H locs hq hw => ?_)
  obtain ⟨rfl, ew⟩ := hq
  rw [ew] at hw
  rcases rc_case hV x with ⟨hn, hz⟩ | ⟨r, hr, rfl, hn, hz, hs6, i, j, u, hi, hj, hwd⟩
  · rw [hz, va_rf_none]
    refine lv_astoreN hx hb d_NS_spoil_5 hl (by decide) rfl (fun ls (hl : lv_has ls 5 [(4, .null), (0, .ref _), (1, .int _), (2, .int _), (3, .int _)]) => ?_)
    refine lv_aloadN hx hb d_NS_spoil_7 (lv_at hl 0 rfl) ?_
    refine lv_ifnullN (tgt := 21) hx hb d_NS_spoil_9 rfl ?_
    refine lv_iconst (v := 0) hx hb d_NS_spoil_21 (by decide) ?_
    exact r_z B hw (by decide) d_NS_spoil_22 ⟨by rw [hw_none hn]; rfl, by unfold spD; rw [hw_none hn]; exact hR0⟩
  · rw [hz, va_rf_some]
    refine lv_astore hx hb d_NS_spoil_5 hl (by decide) rfl (fun ls (hl : lv_has ls 5 [(4, .ref _), (0, .ref _), (1, .int _), (2, .int _), (3, .int _)]) => ?_)
    refine lv_aload hx hb d_NS_spoil_7 (lv_at hl 0 rfl) ?_
    refine lv_ifnull hx hb d_NS_spoil_9 ?_
    refine lv_aload hx hb d_NS_spoil_12 (lv_at hl 0 rfl) ?_
    refine lv_iload_n hx hb d_NS_spoil_14 rfl (lv_at hl 3 rfl) ?_
    refine k_i (k_runV B hw (c_SV_hasWord hi hj) rfl rfl cf_NS_102 hi rfl rfl ⟨Nat.le_of_ble_eq_true rfl, Nat.le_of_ble_eq_true rfl⟩ rfl hl.1 rfl (Nat.le_of_ble_eq_true rfl) d_NS_spoil_15 ⟨Nat.le_of_ble_eq_true rfl, Nat.le_of_ble_eq_true rfl⟩) hw (fun r15 w1 H locs hq hw => ?_)
    obtain ⟨rfl, ew⟩ := hq
    rw [ew] at hw
    rcases hw_case (y := y) hn hs6 with ⟨hc, hb2⟩ | ⟨hc, hb2, t, ht, rfl⟩
    · rw [hc]
      refine lv_if_ne (tgt := 23) hx hb d_NS_spoil_18 rfl (fun h18 => ?_) (fun h18 => ?_)
      · exact absurd rfl h18
      · refine lv_iconst (v := 0) hx hb d_NS_spoil_21 (by decide) ?_
        exact r_z B hw (by decide) d_NS_spoil_22 ⟨by rw [hb2]; rfl, by unfold spD; rw [hb2]; exact hR0⟩
    · rw [hc]
      refine lv_if_ne (tgt := 23) hx hb d_NS_spoil_18 rfl (fun h18 => ?_) (fun h18 => ?_)
      · refine lv_aload hx hb d_NS_spoil_23 (lv_at hl 0 rfl) ?_
        refine g_get B hw fl_NS_105 hi rfl d_NS_spoil_25 ?_
        refine lv_iload_n hx hb d_NS_spoil_28 rfl (lv_at hl 3 rfl) ?_
        refine lv_dup2_11 hx hb d_NS_spoil_29 rfl rfl ?_
        refine g_iald B hw hj (vp_in_nI (by omega) (by omega)) d_NS_spoil_30 ?_
        rw [nI_clamp (by omega), hwd t ht]
        refine lv_iload_n hx hb d_NS_spoil_31 rfl (lv_at hl 4 rfl) ?_
        refine lv_ixor hx hb d_NS_spoil_32 ?_
        refine g_iast B hw hj (vp_in_nI (by omega) (by omega)) d_NS_spoil_33 (fun H locs hw => ?_)
        rw [nI_clamp (by omega)] at hw
        refine lv_iconst (v := 1) hx hb d_NS_spoil_34 (by decide) ?_
        exact r_z B hw (by decide) d_NS_spoil_35 ⟨by rw [hb2]; rfl, by unfold spD; rw [hb2, if_pos rfl, nI_clamp (by omega), nI_clamp (by omega)]; exact XR.spoil hF0 hX hV hr hs6 hi hj hwd ht _⟩
      · exact absurd h18 (by decide)
set_option maxRecDepth 100000 in
set_option maxHeartbeats 4000000 in
theorem c_NS_cut {l : Launch} {D : va_G} {K : Nat → ClassId} {A : Nat → Prop} {wl : va_W} {h rc ix : Nat} {kd sd wt cd : Nat → Int32} {f1 f2 : Nat → Int64} {sz : Nat → Nat} (hR : XR K h kd f1 f2 rc sz sd ix wt cd wl) {x : Int32} : ctI l y_NS_cut prog_1_method_13_code 3 (some .boolean) 1 0 0 [.ref h, .int x] D K A (wl) (fun z v => z = ctA rc sz x ∧ XR K h kd f1 f2 rc (ctZ rc sz x) sd ix wt cd v) := by
  refine mt_of (by decide) (Nat.le_of_ble_eq_true rfl) ?_
  intro p e s m below meth c ls B hw hl
  have hx := B.1
  have hb := B.2.1
  have hl : lv_has ls 3 [(0, .ref h), (1, .int x)] := hl
  have hR0 := hR
  obtain ⟨aS, aR, aP, aD, aW, aC, g, rr, gd, ra, wa, hF, hX, hV⟩ := hR
  have hF0 := hF
  obtain ⟨e0, e1, e2, e3, e4, e5, e9, e10⟩ := hF
  have hrc6 := hV.1
  refine lv_aload_n hx hb d_NS_cut_0 rfl (lv_at hl 0 rfl) ?_
  refine lv_iload_n hx hb d_NS_cut_1 rfl (lv_at hl 1 rfl) ?_
  refine k_q (k_runV B hw (c_NS_recordAt hF0 hrc6) rfl rfl cf_NS_95 e0 rfl rfl ⟨Nat.le_of_ble_eq_true rfl, Nat.le_of_ble_eq_true rfl⟩ rfl hl.1 rfl (Nat.le_of_ble_eq_true rfl) d_NS_cut_2 ⟨Nat.le_of_ble_eq_true rfl, Nat.le_of_ble_eq_true rfl⟩) hw (fun r2 w1 H locs hq hw => ?_)
  obtain ⟨rfl, ew⟩ := hq
  rw [ew] at hw
  rcases rc_case hV x with ⟨hn, hz⟩ | ⟨r, hr, rfl, hn, hz, hs6, i, j, u, hi, hj, hwd⟩
  · rw [hz, va_rf_none]
    refine lv_astore_nN hx hb d_NS_cut_5 rfl hl (by decide) rfl (fun ls (hl : lv_has ls 3 [(2, .null), (0, .ref _), (1, .int _)]) => ?_)
    refine lv_aload_nN hx hb d_NS_cut_6 rfl (lv_at hl 0 rfl) ?_
    refine lv_ifnullN (tgt := 17) hx hb d_NS_cut_7 rfl ?_
    refine lv_iconst (v := 0) hx hb d_NS_cut_17 (by decide) ?_
    exact r_z B hw (by decide) d_NS_cut_18 ⟨by unfold ctA; rw [onR_n hn], by unfold ctZ; rw [onR_n hn]; exact hR0⟩
  · rw [hz, va_rf_some]
    refine lv_astore_n hx hb d_NS_cut_5 rfl hl (by decide) rfl (fun ls (hl : lv_has ls 3 [(2, .ref _), (0, .ref _), (1, .int _)]) => ?_)
    refine lv_aload_n hx hb d_NS_cut_6 rfl (lv_at hl 0 rfl) ?_
    refine lv_ifnull hx hb d_NS_cut_7 ?_
    refine lv_aload_n hx hb d_NS_cut_10 rfl (lv_at hl 0 rfl) ?_
    refine g_get B hw fl_NS_99 hi rfl d_NS_cut_11 ?_
    refine lv_if_ne (tgt := 19) hx hb d_NS_cut_14 rfl (fun h14 => ?_) (fun h14 => ?_)
    · have h14 : ¬ sz r = 0 := fun q => h14 (by rw [q]; rfl)
      refine lv_aload_n hx hb d_NS_cut_19 rfl (lv_at hl 0 rfl) ?_
      refine lv_dup hx hb d_NS_cut_20 rfl ?_
      refine g_get B hw fl_NS_99 hi rfl d_NS_cut_21 ?_
      refine lv_iconst (v := 1) hx hb d_NS_cut_24 (by decide) ?_
      refine lv_isub hx hb d_NS_cut_25 ?_
      rw [show nI (sz r) - 1 = nI (sz r - 1) from pk_sub (a := sz r) (b := 1) (by omega)]
      refine g_put B hw fl_NS_99 ck_SV hi rfl rfl rfl (Nat.le_of_ble_eq_true rfl) d_NS_cut_26 (fun H locs hw => ?_)
      refine lv_iconst (v := 1) hx hb d_NS_cut_29 (by decide) ?_
      exact r_z B hw (by decide) d_NS_cut_30 ⟨by unfold ctA; rw [onR_s hn]; exact (if_neg h14).symm, by unfold ctZ; rw [onR_s hn]; (try dsimp only); rw [if_neg h14]; exact XR.cut hF0 hX hV hr hi⟩
    · have h14 : sz r = 0 := (nI_eq (b := 0) (by omega) (by omega)).mp h14
      refine lv_iconst (v := 0) hx hb d_NS_cut_17 (by decide) ?_
      exact r_z B hw (by decide) d_NS_cut_18 ⟨by unfold ctA; rw [onR_s hn]; exact (if_pos h14).symm, by unfold ctZ; rw [onR_s hn]; (try dsimp only); rw [if_pos h14]; exact hR0⟩
set_option maxRecDepth 100000 in
set_option maxHeartbeats 4000000 in
theorem c_NS_save {l : Launch} {D : va_G} {K : Nat → ClassId} {A : Nat → Prop} {wl : va_W} {h rc ix : Nat} {kd sd wt cd : Nat → Int32} {f1 f2 : Nat → Int64} {sz : Nat → Nat} (hR : XR K h kd f1 f2 rc sz sd ix wt cd wl) {x : Int32} : ctI l y_NS_save prog_1_method_9_code 4 (some .int) 3 2 8 [.ref h, .int x] D K A (wl) (fun z v => z = saA kd rc x ∧ XR K h kd f1 f2 (saR kd rc x) (saZ kd rc sz x) (saD kd f1 f2 rc sd x) ix wt cd v) := by
  refine mt_of (by decide) (Nat.le_of_ble_eq_true rfl) ?_
  intro p e s m below meth c ls B hw hl
  have hx := B.1
  have hb := B.2.1
  have hl : lv_has ls 4 [(0, .ref h), (1, .int x)] := hl
  have hR0 := hR
  obtain ⟨aS, aR, aP, aD, aW, aC, g, rr, gd, ra, wa, hF, hX, hV⟩ := hR
  have hF0 := hF
  obtain ⟨e0, e1, e2, e3, e4, e5, e9, e10⟩ := hF
  have hrc6 := hV.1
  refine lv_aload_n hx hb d_NS_save_0 rfl (lv_at hl 0 rfl) ?_
  refine lv_iload_n hx hb d_NS_save_1 rfl (lv_at hl 1 rfl) ?_
  refine k_q (k_runV B hw (c_NS_streamAt hF0) rfl rfl cf_NS_61 e0 rfl rfl ⟨Nat.le_of_ble_eq_true rfl, Nat.le_of_ble_eq_true rfl⟩ rfl hl.1 rfl (Nat.le_of_ble_eq_true rfl) d_NS_save_2 ⟨Nat.le_of_ble_eq_true rfl, Nat.le_of_ble_eq_true rfl⟩) hw (fun r2 w1 H locs hq hw => ?_)
  obtain ⟨rfl, ew⟩ := hq
  rw [ew] at hw
  rcases st_case hX x with ⟨hn, hz⟩ | ⟨k, hk, rfl, hn, hkd, a, iq, hga, hz, hi⟩
  · rw [hz, va_rf_none]
    refine lv_astore_nN hx hb d_NS_save_5 rfl hl (by decide) rfl (fun ls (hl : lv_has ls 4 [(2, .null), (0, .ref _), (1, .int _)]) => ?_)
    refine lv_aload_nN hx hb d_NS_save_6 rfl (lv_at hl 0 rfl) ?_
    refine lv_ifnullN (tgt := 19) hx hb d_NS_save_7 rfl ?_
    refine lv_iconst (v := (-1)) hx hb d_NS_save_19 (by decide) ?_
    refine W.widen (k := 2) (n := 8) (by decide) (by decide) ?_
    exact r_i B hw d_NS_save_20 ⟨by unfold saA; rw [onS_n hn], by unfold saR saZ saD; rw [onS_n hn, onS_n hn, onS_n hn]; exact hR0⟩
  · rw [hz, va_rf_some]
    have h10 := hF0.st hi (by omega)
    refine lv_astore_n hx hb d_NS_save_5 rfl hl (by decide) rfl (fun ls (hl : lv_has ls 4 [(2, .ref _), (0, .ref _), (1, .int _)]) => ?_)
    refine lv_aload_n hx hb d_NS_save_6 rfl (lv_at hl 0 rfl) ?_
    refine lv_ifnull hx hb d_NS_save_7 ?_
    refine lv_aload_n hx hb d_NS_save_10 rfl (lv_at hl 1 rfl) ?_
    refine g_get B hw fl_NS_21 e0 rfl d_NS_save_11 ?_
    refine lv_bipush (v := 6) hx hb d_NS_save_14 (by decide) ?_
    refine lv_icmp_lt (tgt := 21) hx hb d_NS_save_16 rfl (fun h16 => ?_) (fun h16 => ?_)
    · have h16 : rc < 6 := (nI_ltI (b := 6) (by omega) (by omega)).mp h16
      refine lv_aload_n hx hb d_NS_save_21 rfl (lv_at hl 1 rfl) ?_
      refine g_get B hw fl_NS_21 e0 rfl d_NS_save_22 ?_
      refine lv_istore_n hx hb d_NS_save_25 rfl hl (by decide) rfl (fun ls (hl : lv_has ls 4 [(3, .int _), (2, .ref _), (0, .ref _), (1, .int _)]) => ?_)
      refine lv_aload_n hx hb d_NS_save_26 rfl (lv_at hl 2 rfl) ?_
      refine g_get B hw fl_NS_17 e0 rfl d_NS_save_27 ?_
      refine lv_iload_n hx hb d_NS_save_30 rfl (lv_at hl 0 rfl) ?_
      refine g_new (ci := 2) [.null, .int 0] B hw rfl li_SV tt_SV cl_NS_15 ib_SV in_SV (fun j hj => by rcases (by omega : j = 0 ∨ j = 1) with rfl | rfl <;> rfl) (Nat.le_of_ble_eq_true rfl) (Nat.le_of_ble_eq_true rfl) d_NS_save_31 (fun q H hw => ?_)
      refine lv_dup hx hb d_NS_save_34 rfl ?_
      refine lv_aload_n hx hb d_NS_save_35 rfl (lv_at hl 1 rfl) ?_
      refine k_v (k_runI B hw (c_SV_init ga_new (ga_old hi)) rfl rfl cf_NS_92 ⟨Nat.le_of_ble_eq_true rfl, Nat.le_of_ble_eq_true rfl⟩ rfl hl.1 rfl (Nat.le_of_ble_eq_true rfl) d_NS_save_36 ⟨Nat.le_of_ble_eq_true rfl, Nat.le_of_ble_eq_true rfl⟩) hw (fun w1 H locs hq hw => ?_)
      obtain ⟨q2, ew⟩ := hq
      rw [ew, sv_last] at hw
      have hDn := hw.2.1
      refine g_aast 3 (r := ("NumberStreams$Saved", T_SV, 2)) B hw (ga_old (ga_old e2)) rfl (ga_old ga_new) rfl (vp_in_nI h16 (by omega)) d_NS_save_39 (fun H locs hw => ?_)
      rw [nI_clamp (by omega)] at hw
      refine lv_aload_n hx hb d_NS_save_40 rfl (lv_at hl 2 rfl) ?_
      refine lv_dup hx hb d_NS_save_41 rfl ?_
      refine g_get B hw fl_NS_21 (gs_ne (by omega) (ga_old (ga_old e0))) rfl d_NS_save_42 ?_
      refine lv_iconst (v := 1) hx hb d_NS_save_45 (by decide) ?_
      refine lv_iadd hx hb d_NS_save_46 ?_
      rw [← nI_succ rc]
      refine g_put B hw fl_NS_21 ck_NS (gs_ne (by omega) (ga_old (ga_old e0))) rfl rfl rfl (Nat.le_of_ble_eq_true rfl) d_NS_save_47 (fun H locs hw => ?_)
      refine lv_iload_n hx hb d_NS_save_50 rfl (lv_at hl 0 rfl) ?_
      exact r_i B hw d_NS_save_51 ⟨by unfold saA; rw [onS_s hn]; exact (if_pos h16).symm, by unfold saR saZ saD; rw [onS_s hn, onS_s hn, onS_s hn]; (try dsimp only); rw [if_pos h16, if_pos h16, if_pos h16]; exact XR.rec hF0 hX hV h16 (svN_le (kd k)).2.2 hDn⟩
    · have h16 : ¬ rc < 6 := fun q => h16 ((nI_ltI (b := 6) (by omega) (by omega)).mpr q)
      refine lv_iconst (v := (-1)) hx hb d_NS_save_19 (by decide) ?_
      refine W.widen (k := 2) (n := 8) (by decide) (by decide) ?_
      exact r_i B hw d_NS_save_20 ⟨by unfold saA; rw [onS_s hn]; exact (if_neg h16).symm, by unfold saR saZ saD; rw [onS_s hn, onS_s hn, onS_s hn]; (try dsimp only); rw [if_neg h16, if_neg h16, if_neg h16]; exact hR0⟩
set_option maxRecDepth 100000 in
set_option maxHeartbeats 4000000 in
theorem c_NS_restore {l : Launch} {D : va_G} {K : Nat → ClassId} {A : Nat → Prop} {wl : va_W} {h rc ix : Nat} {kd sd wt cd : Nat → Int32} {f1 f2 : Nat → Int64} {sz : Nat → Nat} (hR : XR K h kd f1 f2 rc sz sd ix wt cd wl) {x : Int32} : ctI l y_NS_restore prog_1_method_14_code 5 (some .int) 5 1 3 [.ref h, .int x] D K A (wl) (fun z v => z = rsA kd rc sz sd x ∧ XR K h (rsK kd rc sz sd x) (rs1 kd f1 rc sz sd x) (rs2 kd f2 rc sz sd x) rc sz sd ix wt cd v) := by
  refine mt_of (by decide) (Nat.le_of_ble_eq_true rfl) ?_
  intro p e s m below meth c ls B hw hl
  have hx := B.1
  have hb := B.2.1
  have hl : lv_has ls 5 [(0, .ref h), (1, .int x)] := hl
  have hR0 := hR
  obtain ⟨aS, aR, aP, aD, aW, aC, g, rr, gd, ra, wa, hF, hX, hV⟩ := hR
  have hF0 := hF
  obtain ⟨e0, e1, e2, e3, e4, e5, e9, e10⟩ := hF
  have hrc6 := hV.1
  refine lv_aload_n hx hb d_NS_restore_0 rfl (lv_at hl 0 rfl) ?_
  refine lv_iload_n hx hb d_NS_restore_1 rfl (lv_at hl 1 rfl) ?_
  refine k_q (k_runV B hw (c_NS_recordAt hF0 hrc6) rfl rfl cf_NS_95 e0 rfl rfl ⟨Nat.le_of_ble_eq_true rfl, Nat.le_of_ble_eq_true rfl⟩ rfl hl.1 rfl (Nat.le_of_ble_eq_true rfl) d_NS_restore_2 ⟨Nat.le_of_ble_eq_true rfl, Nat.le_of_ble_eq_true rfl⟩) hw (fun r2 w1 H locs hq hw => ?_)
  obtain ⟨rfl, ew⟩ := hq
  rw [ew] at hw
  rcases rc_case hV x with ⟨hn, hz⟩ | ⟨r, hr, rfl, hn, hz, hs6, i, j, u, hi, hj, hwd⟩
  · rw [hz, va_rf_none]
    refine lv_astore_nN hx hb d_NS_restore_5 rfl hl (by decide) rfl (fun ls (hl : lv_has ls 5 [(2, .null), (0, .ref _), (1, .int _)]) => ?_)
    refine lv_aload_nN hx hb d_NS_restore_6 rfl (lv_at hl 0 rfl) ?_
    refine lv_ifnonnullN hx hb d_NS_restore_7 ?_
    refine lv_iconst (v := (-1)) hx hb d_NS_restore_10 (by decide) ?_
    refine W.widen (k := 1) (n := 3) (by decide) (by decide) ?_
    exact r_i B hw d_NS_restore_11 ⟨by unfold rsA; rw [onR_n hn], by unfold rsK rs1 rs2; rw [onR_n hn, onR_n hn, onR_n hn]; exact hR0⟩
  · rw [hz, va_rf_some]
    refine lv_astore_n hx hb d_NS_restore_5 rfl hl (by decide) rfl (fun ls (hl : lv_has ls 5 [(2, .ref _), (0, .ref _), (1, .int _)]) => ?_)
    refine lv_aload_n hx hb d_NS_restore_6 rfl (lv_at hl 0 rfl) ?_
    refine lv_ifnonnull (tgt := 12) hx hb d_NS_restore_7 rfl ?_
    refine lv_aload_n hx hb d_NS_restore_12 rfl (lv_at hl 0 rfl) ?_
    refine k_i (k_runV B hw (c_SV_fault hi hj hs6) rfl rfl cf_NS_108 hi rfl rfl ⟨Nat.le_of_ble_eq_true rfl, Nat.le_of_ble_eq_true rfl⟩ rfl hl.1 rfl (Nat.le_of_ble_eq_true rfl) d_NS_restore_13 ⟨Nat.le_of_ble_eq_true rfl, Nat.le_of_ble_eq_true rfl⟩) hw (fun r13 w1 H locs hq hw => ?_)
    have er := hq.1
    have ew := hq.2
    rw [ew] at hw
    have hfc : flt (sz r) u = flt (sz r) (wOf sd r) := flt_congr hs6 hwd
    rw [er, hfc]
    refine lv_istore_n hx hb d_NS_restore_16 rfl hl (by decide) rfl (fun ls (hl : lv_has ls 5 [(3, .int _), (2, .ref _), (0, .ref _), (1, .int _)]) => ?_)
    refine lv_iload_n hx hb d_NS_restore_17 rfl (lv_at hl 0 rfl) ?_
    refine lv_if_eq (tgt := 23) hx hb d_NS_restore_18 rfl (fun h18 => ?_) (fun h18 => ?_)
    · have ez : rsC kd (sz r) (wOf sd r) = _ := if_pos h18
      have h18u := hfc.trans h18
      obtain ⟨y1, y2, y3⟩ := flt_0 hs6 h18u
      have v1 := wk_congr hwd (by omega)
      obtain ⟨v2, v3⟩ := wF_congr hwd y1
      have v1 : wkd u = wkd (wOf sd r) := v1
      have v2 : wF1 u = wF1 (wOf sd r) := v2
      have v3 : wF2 u = wF2 (wOf sd r) := v3
      refine lv_aload_n hx hb d_NS_restore_23 rfl (lv_at hl 2 rfl) ?_
      refine k_i (k_runV B hw (c_NS_leastFreeSlot hF0 hX) rfl rfl cf_NS_39 e0 rfl rfl ⟨Nat.le_of_ble_eq_true rfl, Nat.le_of_ble_eq_true rfl⟩ rfl hl.1 rfl (Nat.le_of_ble_eq_true rfl) d_NS_restore_24 ⟨Nat.le_of_ble_eq_true rfl, Nat.le_of_ble_eq_true rfl⟩) hw (fun r24 w1 H locs hq hw => ?_)
      obtain ⟨rfl, ew⟩ := hq
      rw [ew] at hw
      refine lv_istore hx hb d_NS_restore_27 hl (by decide) rfl (fun ls (hl : lv_has ls 5 [(4, .int _), (3, .int _), (2, .ref _), (0, .ref _), (1, .int _)]) => ?_)
      refine lv_iload hx hb d_NS_restore_29 (lv_at hl 0 rfl) ?_
      refine lv_if_ge (tgt := 37) hx hb d_NS_restore_31 rfl (fun h31 => ?_) (fun h31 => ?_)
      · obtain ⟨kf, hkf, hkl, hfi, hge⟩ := fr_of h31
        rw [if_neg hge] at ez
        refine lv_aload_n hx hb d_NS_restore_37 rfl (lv_at hl 3 rfl) ?_
        refine g_get B hw fl_NS_11 e0 rfl d_NS_restore_38 ?_
        refine lv_iload hx hb d_NS_restore_41 (lv_at hl 0 rfl) ?_
        refine g_new (ci := 3) [.int 0, .long 0, .long 0] B hw rfl li_ST tt_ST cl_NS_9 ib_ST in_ST (fun j hj => by rcases (by omega : j = 0 ∨ j = 1 ∨ j = 2) with rfl | rfl | rfl <;> rfl) (Nat.le_of_ble_eq_true rfl) (Nat.le_of_ble_eq_true rfl) d_NS_restore_43 (fun q H hw => ?_)
        have hDn := hw.2.1
        have hw : wd D A (wl ++ [(q, oSt 0 0 0)]) s H locs := hw
        refine lv_dup hx hb d_NS_restore_46 rfl ?_
        refine lv_aload_n hx hb d_NS_restore_47 rfl (lv_at hl 2 rfl) ?_
        refine k_i (k_runV B hw (c_SV_kind (ga_old hi) (ga_old hj)) rfl rfl cf_NS_111 (ga_old hi) rfl rfl ⟨Nat.le_of_ble_eq_true rfl, Nat.le_of_ble_eq_true rfl⟩ rfl hl.1 rfl (Nat.le_of_ble_eq_true rfl) d_NS_restore_48 ⟨Nat.le_of_ble_eq_true rfl, Nat.le_of_ble_eq_true rfl⟩) hw (fun r48 w1 H locs hq hw => ?_)
        obtain ⟨rfl, ew⟩ := hq
        rw [ew] at hw
        refine lv_aload_n hx hb d_NS_restore_51 rfl (lv_at hl 2 rfl) ?_
        refine k_l (k_runV B hw (c_SV_first (ga_old hi) (ga_old hj)) rfl rfl cf_NS_113 (ga_old hi) rfl rfl ⟨Nat.le_of_ble_eq_true rfl, Nat.le_of_ble_eq_true rfl⟩ rfl hl.1 rfl (Nat.le_of_ble_eq_true rfl) d_NS_restore_52 ⟨Nat.le_of_ble_eq_true rfl, Nat.le_of_ble_eq_true rfl⟩) hw (fun r52 w1 H locs hq hw => ?_)
        obtain ⟨rfl, ew⟩ := hq
        rw [ew] at hw
        refine lv_aload_n hx hb d_NS_restore_55 rfl (lv_at hl 2 rfl) ?_
        refine k_l (k_runV B hw (c_SV_second (ga_old hi) (ga_old hj)) rfl rfl cf_NS_116 (ga_old hi) rfl rfl ⟨Nat.le_of_ble_eq_true rfl, Nat.le_of_ble_eq_true rfl⟩ rfl hl.1 rfl (Nat.le_of_ble_eq_true rfl) d_NS_restore_56 ⟨Nat.le_of_ble_eq_true rfl, Nat.le_of_ble_eq_true rfl⟩) hw (fun r56 w1 H locs hq hw => ?_)
        obtain ⟨rfl, ew⟩ := hq
        rw [ew] at hw
        refine k_v (k_runI B hw (c_ST_init ga_new) rfl rfl cf_NS_58 ⟨Nat.le_of_ble_eq_true rfl, Nat.le_of_ble_eq_true rfl⟩ rfl hl.1 rfl (Nat.le_of_ble_eq_true rfl) d_NS_restore_59 ⟨Nat.le_of_ble_eq_true rfl, Nat.le_of_ble_eq_true rfl⟩) hw (fun w1 H locs hq hw => ?_)
        rw [hq, set_last] at hw
        refine g_aast 2 (r := ("NumberStreams$Stream", T_ST, 3)) B hw (ga_old e1) rfl ga_new rfl (by rw [hfi]; exact vp_in_nI hkf (by omega)) d_NS_restore_62 (fun H locs hw => ?_)
        rw [hfi, nI_clamp (by omega)] at hw
        refine lv_iload hx hb d_NS_restore_63 (lv_at hl 0 rfl) ?_
        exact r_i B hw d_NS_restore_65 ⟨by unfold rsA; rw [onR_s hn]; (try dsimp only); rw [ez, if_neg (by decide), if_neg (by decide)], by unfold rsK rs1 rs2; rw [onR_s hn, onR_s hn, onR_s hn]; (try dsimp only); rw [ez, if_pos rfl, if_pos rfl, if_pos rfl, hfi, nI_clamp (by omega), ← v1, ← v2, ← v3]; exact XR.born hF0 hX hV hkf (isK_3 y2).1 _ _ hDn⟩
      · rw [if_pos (fr_no h31)] at ez
        refine lv_bipush (v := (-6)) hx hb d_NS_restore_34 (by decide) ?_
        refine W.widen (k := 1) (n := 3) (by decide) (by decide) ?_
        exact r_i B hw d_NS_restore_36 ⟨by unfold rsA; rw [onR_s hn]; (try dsimp only); rw [ez, if_neg (by decide), if_pos rfl], by unfold rsK rs1 rs2; rw [onR_s hn, onR_s hn, onR_s hn]; (try dsimp only); rw [ez, if_neg (by decide), if_neg (by decide), if_neg (by decide)]; exact hR0⟩
    · have ez : rsC kd (sz r) (wOf sd r) = 0 := if_neg h18
      refine lv_iload_n hx hb d_NS_restore_21 rfl (lv_at hl 0 rfl) ?_
      refine W.widen (k := 1) (n := 3) (by decide) (by decide) ?_
      exact r_i B hw d_NS_restore_22 ⟨by unfold rsA; rw [onR_s hn]; (try dsimp only); rw [ez, if_pos rfl], by unfold rsK rs1 rs2; rw [onR_s hn, onR_s hn, onR_s hn]; (try dsimp only); rw [ez, if_neg (by decide), if_neg (by decide), if_neg (by decide)]; exact hR0⟩
