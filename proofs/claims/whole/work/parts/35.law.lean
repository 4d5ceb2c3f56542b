/-! The law: its loop, its beginning. -/
theorem lw_cmp {i L : Nat} (hi : i ≤ L) (hL : L ≤ 2048) (h : ¬ nI L - 4 < nI i) : i + 4 ≤ L := by
  by_cases h4 : 4 ≤ L
  · rw [show nI L - 4 = nI (L - 4) from pk_sub (a := L) (b := 4) h4, nI_ltI (by omega) (by omega)] at h
    omega
  · exfalso
    apply h
    rcases (by omega : L = 0 ∨ L = 1 ∨ L = 2 ∨ L = 3) with rfl | rfl | rfl | rfl
    · obtain rfl : i = 0 := by omega
      decide
    · rcases (by omega : i = 0 ∨ i = 1) with rfl | rfl <;> decide
    · rcases (by omega : i = 0 ∨ i = 1 ∨ i = 2) with rfl | rfl | rfl <;> decide
    · rcases (by omega : i = 0 ∨ i = 1 ∨ i = 2 ∨ i = 3) with rfl | rfl | rfl | rfl <;> decide
theorem sw20 (x : Int32) : (∃ k : Nat, k < 20 ∧ x = nI k) ∨ (x.toInt < 0 ∨ 19 < x.toInt) := by
  by_cases h0 : x < 0
  · refine Or.inr (Or.inl ?_)
    have e0 : (0 : Int32).toInt = 0 := by decide
    rw [Int32.lt_iff_toInt_lt, e0] at h0
    exact h0
  · obtain ⟨k, hk, rfl⟩ := nI_of h0
    by_cases h1 : k < 20
    · exact Or.inl ⟨k, h1, rfl⟩
    · refine Or.inr (Or.inr ?_)
      rw [nI_toInt hk]
      omega
set_option maxRecDepth 100000 in
set_option maxHeartbeats 4000000 in
theorem lw_turn {p : Program} {l : Launch} {e : Env} {s : State} {m : MethodId} {args : Array Value} {below : List Frame} {meth : Method} {c : Code} {Q : State → Prop} {b L : Nat} {xs : Nat → Int32} {D : va_G} {K : Nat → ClassId} {A : Nat → Prop} {H : Heap} {locs : List Loc} {cells slots : Nat} {h : Nat} {q : Nat → Nat} {x : LSt} {wx wm : va_W} {ls : Array Slot} {i : Nat} (C : cL p s m args meth c b L xs D K A) (hw : wT D A wx wm s H locs) (hJ : JI K h q x wx wm) (hl : lv_has ls 4 [(3, .int (nI i)), (2, .ref (q 0)), (1, .ref h), (0, .ref b)]) (hi : i + 4 ≤ L) (hL : L ≤ 2048) (hc : cells + 2 ≤ room_1.cells ∧ slots + 8 ≤ room_1.slots)
    (kk : ∀ (x' : LSt) (wx' wm' : va_W) (H' : Heap) (locs' : List Loc), JI K h q x' wx' wm' → wT D A wx' wm' s H' locs' → W p l e room_1 s m args below meth c H' locs' (cells + 2) (slots + 8) Q (F0 m 670 ls [])) : W p l e room_1 s m args below meth c H locs cells slots Q (F0 m 26 ls []) := by
  have hx := C.1.1
  have hb := C.1.2.1
  refine lv_aload_n hx hb d_LW_law_26 rfl (lv_at hl 3 rfl) ?_
  refine lv_iload_n hx hb d_LW_law_27 rfl (lv_at hl 0 rfl) ?_
  refine va_sld hx hb C.2.1 C.2.2.1 C.2.2.2 hw.2.2.2.2.2 (in_0 hi hL) d_LW_law_28 ?_
  refine lv_bipush (v := 31) hx hb d_LW_law_29 (by decide) ?_
  refine lv_iand hx hb d_LW_law_31 ?_
  generalize xs (nI i).toNatClampNeg &&& 31 = v
  rcases sw20 v with ⟨k, hk, rfl⟩ | hd
  · rcases (by omega : k = 0 ∨ k = 1 ∨ k = 2 ∨ k = 3 ∨ k = 4 ∨ k = 5 ∨ k = 6 ∨ k = 7 ∨ k = 8 ∨ k = 9 ∨ k = 10 ∨ k = 11 ∨ k = 12 ∨ k = 13 ∨ k = 14 ∨ k = 15 ∨ k = 16 ∨ k = 17 ∨ k = 18 ∨ k = 19) with rfl | rfl | rfl | rfl | rfl | rfl | rfl | rfl | rfl | rfl | rfl | rfl | rfl | rfl | rfl | rfl | rfl | rfl | rfl | rfl
    · exact lv_tableIn (tgt := 128) hx hb d_LW_law_32 (by decide) (by decide) rfl rfl (lt_make C hw hJ hl hi hL hc kk)
    · exact lv_tableIn (tgt := 171) hx hb d_LW_law_32 (by decide) (by decide) rfl rfl (lt_twin C hw hJ hl hi hL hc kk)
    · exact lv_tableIn (tgt := 194) hx hb d_LW_law_32 (by decide) (by decide) rfl rfl (lt_release C hw hJ hl hi hL hc kk)
    · exact lv_tableIn (tgt := 217) hx hb d_LW_law_32 (by decide) (by decide) rfl rfl (lt_next C hw hJ hl hi hL hc kk)
    · exact lv_tableIn (tgt := 241) hx hb d_LW_law_32 (by decide) (by decide) rfl rfl (lt_jump C hw hJ hl hi hL hc kk)
    · exact lv_tableIn (tgt := 274) hx hb d_LW_law_32 (by decide) (by decide) rfl rfl (lt_draw C hw hJ hl hi hL hc kk)
    · exact lv_tableIn (tgt := 307) hx hb d_LW_law_32 (by decide) (by decide) rfl rfl (lt_same C hw hJ hl hi hL hc kk)
    · exact lv_tableIn (tgt := 340) hx hb d_LW_law_32 (by decide) (by decide) rfl rfl (lt_save C hw hJ hl hi hL hc kk)
    · exact lv_tableIn (tgt := 363) hx hb d_LW_law_32 (by decide) (by decide) rfl rfl (lt_length C hw hJ hl hi hL hc kk)
    · exact lv_tableIn (tgt := 386) hx hb d_LW_law_32 (by decide) (by decide) rfl rfl (lt_word C hw hJ hl hi hL hc kk)
    · exact lv_tableIn (tgt := 419) hx hb d_LW_law_32 (by decide) (by decide) rfl rfl (lt_spoil C hw hJ hl hi hL hc kk)
    · exact lv_tableIn (tgt := 462) hx hb d_LW_law_32 (by decide) (by decide) rfl rfl (lt_cut C hw hJ hl hi hL hc kk)
    · exact lv_tableIn (tgt := 485) hx hb d_LW_law_32 (by decide) (by decide) rfl rfl (lt_restore C hw hJ hl hi hL hc kk)
    · exact lv_tableIn (tgt := 508) hx hb d_LW_law_32 (by decide) (by decide) rfl rfl (lt_seek C hw hJ hl hi hL hc kk)
    · exact lv_tableIn (tgt := 531) hx hb d_LW_law_32 (by decide) (by decide) rfl rfl (lt_advance C hw hJ hl hi hL hc kk)
    · exact lv_tableIn (tgt := 544) hx hb d_LW_law_32 (by decide) (by decide) rfl rfl (lt_coordinate C hw hJ hl hi hL hc kk)
    · exact lv_tableIn (tgt := 568) hx hb d_LW_law_32 (by decide) (by decide) rfl rfl (lt_weigh C hw hJ hl hi hL hc kk)
    · exact lv_tableIn (tgt := 601) hx hb d_LW_law_32 (by decide) (by decide) rfl rfl (lt_pick C hw hJ hl hi hL hc kk)
    · exact lv_tableIn (tgt := 624) hx hb d_LW_law_32 (by decide) (by decide) rfl rfl (lt_shuffle C hw hJ hl hi hL hc kk)
    · exact lv_tableIn (tgt := 647) hx hb d_LW_law_32 (by decide) (by decide) rfl rfl (lt_card C hw hJ hl hi hL hc kk)
  · exact lv_tableOut (tgt := 670) hx hb d_LW_law_32 hd rfl (W.widen (by omega) (by omega) (kk x wx wm _ _ hJ hw))
set_option maxRecDepth 100000 in
set_option maxHeartbeats 4000000 in
theorem lw_loop {p : Program} {l : Launch} {e : Env} {s : State} {m : MethodId} {args : Array Value} {below : List Frame} {meth : Method} {c : Code} {Q : State → Prop} {b L : Nat} {xs : Nat → Int32} {D : va_G} {K : Nat → ClassId} {A : Nat → Prop} {h : Nat} {q : Nat → Nat} (C : cL p s m args meth c b L xs D K A) (hL : L ≤ 2048) (kend : ∀ (H : Heap) (locs : List Loc) (ls : Array Slot), va_S A s.heap H locs → W p l e room_1 s m args below meth c H locs 783602 6751442 Q (F0 m 676 ls []))
    (x : LSt) (wx wm : va_W) (H : Heap) (locs : List Loc) (ls : Array Slot) (hJ : JI K h q x wx wm) (hw : wT D A wx wm s H locs) (hl : lv_has ls 4 [(3, .int (nI 0)), (2, .ref (q 0)), (1, .ref h), (0, .ref b)]) : W p l e room_1 s m args below meth c H locs 20 276 Q (F0 m 18 ls []) := by
  have hx := C.1.1
  have hb := C.1.2.1
  refine lp_c (σ := Nat × LSt × va_W × va_W) (fun z => L - 4 * z.1) (fun z => 20 + 2 * z.1) (fun z => 276 + 8 * z.1) (fun z H locs ls => 4 * z.1 ≤ L ∧ JI K h q z.2.1 z.2.2.1 z.2.2.2 ∧ wT D A z.2.2.1 z.2.2.2 s H locs ∧ lv_has ls 4 [(3, .int (nI (4 * z.1))), (2, .ref (q 0)), (1, .ref h), (0, .ref b)]) ?_ (0, x, wx, wm) H locs ls ⟨Nat.zero_le _, hJ, hw, hl⟩
  rintro ⟨t, x, wx, wm⟩ H locs ls ⟨ht, hJ, hw, hl⟩ ih
  dsimp only at ht hJ hw hl ⊢
  refine lv_iload_n hx hb d_LW_law_18 rfl (lv_at hl 0 rfl) ?_
  refine lv_aload_n hx hb d_LW_law_19 rfl (lv_at hl 3 rfl) ?_
  refine va_slen hx hb C.2.1 C.2.2.1 C.2.2.2 hw.2.2.2.2.2 d_LW_law_20 ?_
  refine lv_iconst (v := 4) hx hb d_LW_law_21 (by decide) ?_
  refine lv_isub hx hb d_LW_law_22 ?_
  refine lv_icmp_gt (tgt := 676) hx hb d_LW_law_23 rfl (fun _ => ?_) (fun hn => ?_)
  · exact W.widen (by omega) (by omega) (kend _ _ _ hw.2.2.2.2.2)
  · have hi : 4 * t + 4 ≤ L := lw_cmp ht hL hn
    refine lw_turn C hw hJ hl hi hL ⟨by show 20 + 2 * t + 2 ≤ 783602; omega, by show 276 + 8 * t + 8 ≤ 6751442; omega⟩ (fun x1 wx1 wm1 H1 locs1 hJ1 hw1 => ?_)
    refine lv_iinc (k := 0) hx hb d_LW_law_670 hl rfl (show nI (4 * t) + Int32.ofInt 4 = nI (4 * (t + 1)) from nI_add (4 * t) 4) (by decide) rfl (fun ls1 (hl1 : lv_has ls1 4 [(3, .int (nI (4 * (t + 1)))), (2, .ref (q 0)), (1, .ref h), (0, .ref b)]) => ?_)
    refine lv_goto (tgt := 18) hx hb d_LW_law_673 rfl ?_
    exact ih (t + 1, x1, wx1, wm1) H1 locs1 ls1 (by show L - 4 * (t + 1) < L - 4 * t; omega) ⟨by show 4 * (t + 1) ≤ L; omega, hJ1, hw1, hl1⟩
set_option maxRecDepth 100000 in
set_option maxHeartbeats 4000000 in
theorem lw_begin {p : Program} {l : Launch} {e : Env} {s : State} {m : MethodId} {args : Array Value} {below : List Frame} {meth : Method} {c : Code} {Q : State → Prop} {b L : Nat} {xs : Nat → Int32} {D : va_G} {K : Nat → ClassId} {A : Nat → Prop} {ls : Array Slot} (C : cL p s m args meth c b L xs D K A) (hL : L ≤ 2048) (kend : ∀ (H : Heap) (locs : List Loc) (ls : Array Slot), va_S A s.heap H locs → W p l e room_1 s m args below meth c H locs 783602 6751442 Q (F0 m 676 ls [])) (hl : lv_has ls 4 [(0, .ref b)]) : W p l e room_1 s m args below meth c s.heap [] 0 0 Q (F0 m 0 ls []) := by
  have hx := C.1.1
  have hb := C.1.2.1
  have B := C.1
  have hw : wd D A [] s s.heap [] := ⟨fun k q hk => (by cases hk), ⟨fun i j p q hp => (by cases hp), fun k q hk => (by cases hk)⟩, va_S.rf⟩
  refine g_new (ci := 0) [.null, .null, .int 0, .null, .null, .null] B hw rfl li_NS tt_NS cl_LW_7 ib_NS in_NS (fun j hj => by rcases (by omega : j = 0 ∨ j = 1 ∨ j = 2 ∨ j = 3 ∨ j = 4 ∨ j = 5) with rfl | rfl | rfl | rfl | rfl | rfl <;> rfl) (Nat.le_of_ble_eq_true rfl) (Nat.le_of_ble_eq_true rfl) d_LW_law_0 (fun h H hw => ?_)
  have hw : wd D A [(h, .inr (0, [.null, .null, .int 0, .null, .null, .null]))] s H _ := hw
  refine lv_dup hx hb d_LW_law_3 rfl ?_
  refine k_v (k_runI B hw c_NS_init rfl rfl cf_LW_9 ⟨(Nat.le_of_ble_eq_true rfl), (Nat.le_of_ble_eq_true rfl)⟩ rfl hl.1 rfl (Nat.le_of_ble_eq_true rfl) d_LW_law_4 ⟨(Nat.le_of_ble_eq_true rfl), (Nat.le_of_ble_eq_true rfl)⟩) hw (fun w1 H locs hX hw => ?_)
  refine lv_astore_n hx hb d_LW_law_7 rfl hl (by decide) rfl (fun ls (hl : lv_has ls 4 [(1, .ref h), (0, .ref b)]) => ?_)
  refine g_new (ci := 4) [.null, .null, .null, .int 0, .int 0, .long 0, .long 0, .long 0, .long 0, .int 0, .null, .null, .int 0, .null, .null, .null] B hw rfl li_MD tt_MD cl_LW_10 ib_MD in_MD (fun j hj => by rcases (by omega : j = 0 ∨ j = 1 ∨ j = 2 ∨ j = 3 ∨ j = 4 ∨ j = 5 ∨ j = 6 ∨ j = 7 ∨ j = 8 ∨ j = 9 ∨ j = 10 ∨ j = 11 ∨ j = 12 ∨ j = 13 ∨ j = 14 ∨ j = 15) with rfl | rfl | rfl | rfl | rfl | rfl | rfl | rfl | rfl | rfl | rfl | rfl | rfl | rfl | rfl | rfl <;> rfl) (Nat.le_of_ble_eq_true rfl) (Nat.le_of_ble_eq_true rfl) d_LW_law_8 (fun h2 H hw => ?_)
  have hw := (wT.of hw).swap
  refine lv_dup hx hb d_LW_law_11 rfl ?_
  refine k2_v B (k2_runI B hw c_MD_init rfl rfl cf_LW_12 ⟨(Nat.le_of_ble_eq_true rfl), (Nat.le_of_ble_eq_true rfl)⟩ rfl hl.1 rfl (Nat.le_of_ble_eq_true rfl) d_LW_law_12 ⟨(Nat.le_of_ble_eq_true rfl), (Nat.le_of_ble_eq_true rfl)⟩) hw (fun w2 H locs hM hw => ?_)
  obtain ⟨q, eq0, hM⟩ := hM
  rw [← eq0]
  refine lv_astore_n hx hb d_LW_law_15 rfl hl (by decide) rfl (fun ls (hl : lv_has ls 4 [(2, .ref (q 0)), (1, .ref h), (0, .ref b)]) => ?_)
  refine lv_iconst (v := 0) hx hb d_LW_law_16 (by decide) ?_
  refine lv_istore_n hx hb d_LW_law_17 rfl hl (by decide) rfl (fun ls (hl : lv_has ls 4 [(3, .int (nI 0)), (2, .ref (q 0)), (1, .ref h), (0, .ref b)]) => ?_)
  exact lw_loop C hL kend (kdC 8, (fun _ => 0), (fun _ => 0), 0, (fun _ => 0), (fun _ => 0), 0, (fun _ => 0), idC 16) w1 w2 H locs ls ⟨hX, hM, iv_0⟩ hw.swap hl
/-- what the tables say of the classes and the arrays -/
theorem lw_DK {s : State} {args : Array Value} (hts : ∀ w ∈ lw_tbl, w.before args s = true) : ∃ (D : va_G) (K : Nat → ClassId), va_K D vwCl (tyA K) s ∧ nwOk s := by
  have ht : ∀ w ∈ tsW, w.before args s = true := fun w h => hts w (List.mem_filter.mp h).1
  obtain ⟨c0, i0, k0⟩ := u_known ht li_NS (ht _ ib_NS)
  obtain ⟨c1, i1, k1⟩ := u_known ht li_PT (ht _ ib_PT)
  obtain ⟨c2, i2, k2⟩ := u_known ht li_SV (ht _ ib_SV)
  obtain ⟨c3, i3, k3⟩ := u_known ht li_ST (ht _ ib_ST)
  obtain ⟨c4, i4, k4⟩ := u_known ht li_MD (ht _ ib_MD)
  obtain ⟨a0, g0, z0, n0, h0, t0⟩ := Cond.arrayClass_spec (ht _ ac_int)
  obtain ⟨a1, g1, z1, n1, h1, t1⟩ := Cond.arrayClass_spec (ht _ ac_long)
  obtain ⟨z2, a2, g2, m2, -, h2, t2, n2⟩ := Cond.arrayOver_spec (hts _ ao_ST)
  obtain ⟨z3, a3, g3, m3, -, h3, t3, n3⟩ := Cond.arrayOver_spec (hts _ ao_SV)
  obtain ⟨z4, a4, g4, m4, -, h4, t4, n4⟩ := arrayOverA_spec (hts _ ao_g)
  have e4 : z4 = a0 := Option.some.inj (m4.symm.trans n0)
  subst e4
  refine ⟨(fun c => match c with | 0 => c0 | 1 => c1 | 2 => c2 | 3 => c3 | _ => c4, fun c => match c with | 0 => i0 | 1 => i1 | 2 => i2 | 3 => i3 | _ => i4), fun k => match k with | 0 => z4 | 1 => a1 | 2 => a2 | 3 => a3 | _ => a4, ⟨fun c q hq => ?_, fun k q hk => ?_⟩, fun w hw hb => ?_, va_AO.of (hts _ ao_ST), va_AO.of (hts _ ao_SV), a4, z4, g4, g0, z0, n4, h4, t4, n0, h0, t0⟩
  · have hl : c < 5 := (List.getElem?_eq_some_iff.mp hq).1
    rcases (by omega : c = 0 ∨ c = 1 ∨ c = 2 ∨ c = 3 ∨ c = 4) with rfl | rfl | rfl | rfl | rfl <;> cases hq
    · exact k0
    · exact k1
    · exact k2
    · exact k3
    · exact k4
  · have hl : k < 5 := (List.getElem?_eq_some_iff.mp hk).1
    rcases (by omega : k = 0 ∨ k = 1 ∨ k = 2 ∨ k = 3 ∨ k = 4) with rfl | rfl | rfl | rfl | rfl <;> cases hk
    · exact ⟨fun n z => ⟨fun k h => (by cases h), g0, h0, z0, t0⟩, n0⟩
    · exact ⟨fun n z => ⟨fun k h => (by cases h), g1, h1, z1, t1⟩, n1⟩
    · exact ⟨fun n z => ⟨fun k h => (by cases h), g2, h2, z2, t2⟩, g2, z2, h2, t2, m2, n2⟩
    · exact ⟨fun n z => ⟨fun k h => (by cases h), g3, h3, z3, t3⟩, g3, z3, h3, t3, m3, n3⟩
    · exact ⟨fun n z => ⟨fun k h => (by cases h), g4, h4, z4, t4⟩, n4⟩
  · have hz := hts w hw
    cases w <;> first | (simp [nwB] at hb; done) | exact va_Nw.of rfl hz
