/-! Turns, the rest. -/
set_option maxRecDepth 100000 in
set_option maxHeartbeats 4000000 in
theorem lt_spoil {p : Program} {l : Launch} {e : Env} {s : State} {m : MethodId} {args : Array Value} {below : List Frame} {meth : Method} {c : Code} {H : Heap} {locs : List Loc} {cells slots : Nat} {Q : State → Prop} {b L : Nat} {xs : Nat → Int32} {D : va_G} {K : Nat → ClassId} {A : Nat → Prop} {h : Nat} {q : Nat → Nat} {x : LSt} {wx wm : va_W} {ls : Array Slot} {i : Nat} (C : cL p s m args meth c b L xs D K A) (hw : wT D A wx wm s H locs) (hJ : JI K h q x wx wm) (hl : lv_has ls 4 [(3, .int (nI i)), (2, .ref (q 0)), (1, .ref h), (0, .ref b)]) (hi : i + 4 ≤ L) (hL : L ≤ 2048) (hc : cells + 2 ≤ room_1.cells ∧ slots + 8 ≤ room_1.slots)
    (kk : ∀ (x' : LSt) (wx' wm' : va_W) (H' : Heap) (locs' : List Loc), JI K h q x' wx' wm' → wT D A wx' wm' s H' locs' → W p l e room_1 s m args below meth c H' locs' (cells + 2) (slots + 8) Q (F0 m 670 ls [])) : W p l e room_1 s m args below meth c H locs cells slots Q (F0 m 419 ls []) := by
  have hx := C.1.1
  have hb := C.1.2.1
  obtain ⟨fs, hz⟩ := hJ.1.zero
  refine lv_aload_n hx hb d_LW_law_419 rfl (lv_at hl 2 rfl) ?_
  refine lv_aload_n hx hb d_LW_law_420 rfl (lv_at hl 3 rfl) ?_
  refine lv_iload_n hx hb d_LW_law_421 rfl (lv_at hl 0 rfl) ?_
  refine lv_iconst (v := 1) hx hb d_LW_law_422 (by decide) ?_
  refine lv_iadd hx hb d_LW_law_423 ?_
  refine va_sld hx hb C.2.1 C.2.2.1 C.2.2.2 hw.2.2.2.2.2 (in_1 hi hL) d_LW_law_424 ?_
  refine lv_aload_n hx hb d_LW_law_425 rfl (lv_at hl 3 rfl) ?_
  refine lv_iload_n hx hb d_LW_law_426 rfl (lv_at hl 0 rfl) ?_
  refine lv_iconst (v := 2) hx hb d_LW_law_427 (by decide) ?_
  refine lv_iadd hx hb d_LW_law_428 ?_
  refine va_sld hx hb C.2.1 C.2.2.1 C.2.2.2 hw.2.2.2.2.2 (in_2 hi hL) d_LW_law_429 ?_
  refine lv_aload_n hx hb d_LW_law_430 rfl (lv_at hl 3 rfl) ?_
  refine lv_iload_n hx hb d_LW_law_431 rfl (lv_at hl 0 rfl) ?_
  refine lv_iconst (v := 3) hx hb d_LW_law_432 (by decide) ?_
  refine lv_iadd hx hb d_LW_law_433 ?_
  refine va_sld hx hb C.2.1 C.2.2.1 C.2.2.2 hw.2.2.2.2.2 (in_3 hi hL) d_LW_law_434 ?_
  refine k2_i C.1 (k2_runV C.1 hw (c_NS_spoil hJ.1) rfl rfl cf_LW_59 hz rfl rfl ⟨Nat.le_of_ble_eq_true rfl, Nat.le_of_ble_eq_true rfl⟩ rfl hl.1 rfl (Nat.le_of_ble_eq_true rfl) d_LW_law_435 ⟨Nat.le_trans (Nat.add_le_add_left (Nat.le_of_ble_eq_true rfl) _) hc.1, Nat.le_trans (Nat.add_le_add_left (Nat.le_of_ble_eq_true rfl) _) hc.2⟩) hw (fun r1 w1 H locs hq1 hw => ?_)
  obtain ⟨ou, nk, nf, ns, hi0, lo0, mm, em⟩ := hJ.2.1
  rw [em] at hw
  have hw := hw.swap
  refine lv_aload_n hx hb d_LW_law_438 rfl (lv_at hl 1 rfl) ?_
  refine lv_aload_n hx hb d_LW_law_439 rfl (lv_at hl 3 rfl) ?_
  refine lv_iload_n hx hb d_LW_law_440 rfl (lv_at hl 0 rfl) ?_
  refine lv_iconst (v := 1) hx hb d_LW_law_441 (by decide) ?_
  refine lv_iadd hx hb d_LW_law_442 ?_
  refine va_sld hx hb C.2.1 C.2.2.1 C.2.2.2 hw.2.2.2.2.2 (in_1 hi hL) d_LW_law_443 ?_
  refine lv_aload_n hx hb d_LW_law_444 rfl (lv_at hl 3 rfl) ?_
  refine lv_iload_n hx hb d_LW_law_445 rfl (lv_at hl 0 rfl) ?_
  refine lv_iconst (v := 2) hx hb d_LW_law_446 (by decide) ?_
  refine lv_iadd hx hb d_LW_law_447 ?_
  refine va_sld hx hb C.2.1 C.2.2.1 C.2.2.2 hw.2.2.2.2.2 (in_2 hi hL) d_LW_law_448 ?_
  refine lv_aload_n hx hb d_LW_law_449 rfl (lv_at hl 3 rfl) ?_
  refine lv_iload_n hx hb d_LW_law_450 rfl (lv_at hl 0 rfl) ?_
  refine lv_iconst (v := 3) hx hb d_LW_law_451 (by decide) ?_
  refine lv_iadd hx hb d_LW_law_452 ?_
  refine va_sld hx hb C.2.1 C.2.2.1 C.2.2.2 hw.2.2.2.2.2 (in_3 hi hL) d_LW_law_453 ?_
  refine k2_i C.1 (k2_runV C.1 hw (c_MD_spoil hJ.1.six.1 hJ.1.six.2) rfl rfl cf_LW_63 mw_0 rfl rfl ⟨Nat.le_of_ble_eq_true rfl, Nat.le_of_ble_eq_true rfl⟩ rfl hl.1 rfl (Nat.le_of_ble_eq_true rfl) d_LW_law_454 ⟨Nat.le_trans (by show cells + 0 + 0 ≤ cells + 2; omega) hc.1, Nat.le_trans (by show slots + 0 + 0 ≤ slots + 8; omega) hc.2⟩) hw (fun r2 w2 H locs hq2 hw => ?_)
  have hw := hw.swap
  refine lv_icmp_eq (tgt := 670) hx hb d_LW_law_457 rfl (fun _ => ?_) (fun hn => absurd (hq1.1.trans hq2.1.symm) hn)
  refine W.widen (by show cells + 0 + 0 ≤ cells + 2; omega) (by show slots + 0 + 0 ≤ slots + 8; omega) (kk ⟨x.kd, x.f1, x.f2, x.rc, x.sz, (spD x.rc x.sz x.sd (xs (nI i + 1).toNatClampNeg) (xs (nI i + 2).toNatClampNeg) (xs (nI i + 3).toNatClampNeg)), x.ix, x.wt, x.cd⟩ w1 w2 _ _ ⟨?_, ?_, hJ.2.2.1, hJ.2.2.2.1, hJ.2.2.2.2⟩ hw)
  · exact hq1.2
  · exact hq2.2
set_option maxRecDepth 100000 in
set_option maxHeartbeats 4000000 in
theorem lt_cut {p : Program} {l : Launch} {e : Env} {s : State} {m : MethodId} {args : Array Value} {below : List Frame} {meth : Method} {c : Code} {H : Heap} {locs : List Loc} {cells slots : Nat} {Q : State → Prop} {b L : Nat} {xs : Nat → Int32} {D : va_G} {K : Nat → ClassId} {A : Nat → Prop} {h : Nat} {q : Nat → Nat} {x : LSt} {wx wm : va_W} {ls : Array Slot} {i : Nat} (C : cL p s m args meth c b L xs D K A) (hw : wT D A wx wm s H locs) (hJ : JI K h q x wx wm) (hl : lv_has ls 4 [(3, .int (nI i)), (2, .ref (q 0)), (1, .ref h), (0, .ref b)]) (hi : i + 4 ≤ L) (hL : L ≤ 2048) (hc : cells + 2 ≤ room_1.cells ∧ slots + 8 ≤ room_1.slots)
    (kk : ∀ (x' : LSt) (wx' wm' : va_W) (H' : Heap) (locs' : List Loc), JI K h q x' wx' wm' → wT D A wx' wm' s H' locs' → W p l e room_1 s m args below meth c H' locs' (cells + 2) (slots + 8) Q (F0 m 670 ls [])) : W p l e room_1 s m args below meth c H locs cells slots Q (F0 m 462 ls []) := by
  have hx := C.1.1
  have hb := C.1.2.1
  obtain ⟨fs, hz⟩ := hJ.1.zero
  refine lv_aload_n hx hb d_LW_law_462 rfl (lv_at hl 2 rfl) ?_
  refine lv_aload_n hx hb d_LW_law_463 rfl (lv_at hl 3 rfl) ?_
  refine lv_iload_n hx hb d_LW_law_464 rfl (lv_at hl 0 rfl) ?_
  refine lv_iconst (v := 1) hx hb d_LW_law_465 (by decide) ?_
  refine lv_iadd hx hb d_LW_law_466 ?_
  refine va_sld hx hb C.2.1 C.2.2.1 C.2.2.2 hw.2.2.2.2.2 (in_1 hi hL) d_LW_law_467 ?_
  refine k2_i C.1 (k2_runV C.1 hw (c_NS_cut hJ.1) rfl rfl cf_LW_64 hz rfl rfl ⟨Nat.le_of_ble_eq_true rfl, Nat.le_of_ble_eq_true rfl⟩ rfl hl.1 rfl (Nat.le_of_ble_eq_true rfl) d_LW_law_468 ⟨Nat.le_trans (Nat.add_le_add_left (Nat.le_of_ble_eq_true rfl) _) hc.1, Nat.le_trans (Nat.add_le_add_left (Nat.le_of_ble_eq_true rfl) _) hc.2⟩) hw (fun r1 w1 H locs hq1 hw => ?_)
  obtain ⟨ou, nk, nf, ns, hi0, lo0, mm, em⟩ := hJ.2.1
  rw [em] at hw
  have hw := hw.swap
  refine lv_aload_n hx hb d_LW_law_471 rfl (lv_at hl 1 rfl) ?_
  refine lv_aload_n hx hb d_LW_law_472 rfl (lv_at hl 3 rfl) ?_
  refine lv_iload_n hx hb d_LW_law_473 rfl (lv_at hl 0 rfl) ?_
  refine lv_iconst (v := 1) hx hb d_LW_law_474 (by decide) ?_
  refine lv_iadd hx hb d_LW_law_475 ?_
  refine va_sld hx hb C.2.1 C.2.2.1 C.2.2.2 hw.2.2.2.2.2 (in_1 hi hL) d_LW_law_476 ?_
  refine k2_i C.1 (k2_runV C.1 hw (c_MD_cut hJ.1.six.1 hJ.1.six.2) rfl rfl cf_LW_67 mw_0 rfl rfl ⟨Nat.le_of_ble_eq_true rfl, Nat.le_of_ble_eq_true rfl⟩ rfl hl.1 rfl (Nat.le_of_ble_eq_true rfl) d_LW_law_477 ⟨Nat.le_trans (by show cells + 0 + 0 ≤ cells + 2; omega) hc.1, Nat.le_trans (by show slots + 0 + 0 ≤ slots + 8; omega) hc.2⟩) hw (fun r2 w2 H locs hq2 hw => ?_)
  have hw := hw.swap
  refine lv_icmp_eq (tgt := 670) hx hb d_LW_law_480 rfl (fun _ => ?_) (fun hn => absurd (hq1.1.trans hq2.1.symm) hn)
  refine W.widen (by show cells + 0 + 0 ≤ cells + 2; omega) (by show slots + 0 + 0 ≤ slots + 8; omega) (kk ⟨x.kd, x.f1, x.f2, x.rc, (ctZ x.rc x.sz (xs (nI i + 1).toNatClampNeg)), x.sd, x.ix, x.wt, x.cd⟩ w1 w2 _ _ ⟨?_, ?_, hJ.2.2.1, hJ.2.2.2.1, hJ.2.2.2.2⟩ hw)
  · exact hq1.2
  · exact hq2.2
set_option maxRecDepth 100000 in
set_option maxHeartbeats 4000000 in
theorem lt_restore {p : Program} {l : Launch} {e : Env} {s : State} {m : MethodId} {args : Array Value} {below : List Frame} {meth : Method} {c : Code} {H : Heap} {locs : List Loc} {cells slots : Nat} {Q : State → Prop} {b L : Nat} {xs : Nat → Int32} {D : va_G} {K : Nat → ClassId} {A : Nat → Prop} {h : Nat} {q : Nat → Nat} {x : LSt} {wx wm : va_W} {ls : Array Slot} {i : Nat} (C : cL p s m args meth c b L xs D K A) (hw : wT D A wx wm s H locs) (hJ : JI K h q x wx wm) (hl : lv_has ls 4 [(3, .int (nI i)), (2, .ref (q 0)), (1, .ref h), (0, .ref b)]) (hi : i + 4 ≤ L) (hL : L ≤ 2048) (hc : cells + 2 ≤ room_1.cells ∧ slots + 8 ≤ room_1.slots)
    (kk : ∀ (x' : LSt) (wx' wm' : va_W) (H' : Heap) (locs' : List Loc), JI K h q x' wx' wm' → wT D A wx' wm' s H' locs' → W p l e room_1 s m args below meth c H' locs' (cells + 2) (slots + 8) Q (F0 m 670 ls [])) : W p l e room_1 s m args below meth c H locs cells slots Q (F0 m 485 ls []) := by
  have hx := C.1.1
  have hb := C.1.2.1
  obtain ⟨fs, hz⟩ := hJ.1.zero
  refine lv_aload_n hx hb d_LW_law_485 rfl (lv_at hl 2 rfl) ?_
  refine lv_aload_n hx hb d_LW_law_486 rfl (lv_at hl 3 rfl) ?_
  refine lv_iload_n hx hb d_LW_law_487 rfl (lv_at hl 0 rfl) ?_
  refine lv_iconst (v := 1) hx hb d_LW_law_488 (by decide) ?_
  refine lv_iadd hx hb d_LW_law_489 ?_
  refine va_sld hx hb C.2.1 C.2.2.1 C.2.2.2 hw.2.2.2.2.2 (in_1 hi hL) d_LW_law_490 ?_
  refine k2_i C.1 (k2_runV C.1 hw (c_NS_restore hJ.1) rfl rfl cf_LW_68 hz rfl rfl ⟨Nat.le_of_ble_eq_true rfl, Nat.le_of_ble_eq_true rfl⟩ rfl hl.1 rfl (Nat.le_of_ble_eq_true rfl) d_LW_law_491 ⟨Nat.le_trans (Nat.add_le_add_left (Nat.le_of_ble_eq_true rfl) _) hc.1, Nat.le_trans (Nat.add_le_add_left (Nat.le_of_ble_eq_true rfl) _) hc.2⟩) hw (fun r1 w1 H locs hq1 hw => ?_)
  obtain ⟨ou, nk, nf, ns, hi0, lo0, mm, em⟩ := hJ.2.1
  rw [em] at hw
  have hw := hw.swap
  refine lv_aload_n hx hb d_LW_law_494 rfl (lv_at hl 1 rfl) ?_
  refine lv_aload_n hx hb d_LW_law_495 rfl (lv_at hl 3 rfl) ?_
  refine lv_iload_n hx hb d_LW_law_496 rfl (lv_at hl 0 rfl) ?_
  refine lv_iconst (v := 1) hx hb d_LW_law_497 (by decide) ?_
  refine lv_iadd hx hb d_LW_law_498 ?_
  refine va_sld hx hb C.2.1 C.2.2.1 C.2.2.2 hw.2.2.2.2.2 (in_1 hi hL) d_LW_law_499 ?_
  refine k2_i C.1 (k2_runV C.1 hw (c_MD_restore hJ.1.six.1 hJ.1.six.2) rfl rfl cf_LW_71 mw_0 rfl rfl ⟨Nat.le_of_ble_eq_true rfl, Nat.le_of_ble_eq_true rfl⟩ rfl hl.1 rfl (Nat.le_of_ble_eq_true rfl) d_LW_law_500 ⟨Nat.le_trans (by show cells + 1 + 0 ≤ cells + 2; omega) hc.1, Nat.le_trans (by show slots + 3 + 0 ≤ slots + 8; omega) hc.2⟩) hw (fun r2 w2 H locs hq2 hw => ?_)
  have hw := hw.swap
  refine lv_icmp_eq (tgt := 670) hx hb d_LW_law_503 rfl (fun _ => ?_) (fun hn => absurd (hq1.1.trans hq2.1.symm) hn)
  refine W.widen (by show cells + 1 + 0 ≤ cells + 2; omega) (by show slots + 3 + 0 ≤ slots + 8; omega) (kk ⟨(rsK x.kd x.rc x.sz x.sd (xs (nI i + 1).toNatClampNeg)), (rs1 x.kd x.f1 x.rc x.sz x.sd (xs (nI i + 1).toNatClampNeg)), (rs2 x.kd x.f2 x.rc x.sz x.sd (xs (nI i + 1).toNatClampNeg)), x.rc, x.sz, x.sd, x.ix, x.wt, x.cd⟩ w1 w2 _ _ ⟨?_, ?_, (i1_restore hJ.2.2.1 hJ.1.six.1 hJ.1.six.2 _), hJ.2.2.2.1, hJ.2.2.2.2⟩ hw)
  · exact hq1.2
  · exact hq2.2
set_option maxRecDepth 100000 in
set_option maxHeartbeats 4000000 in
theorem lt_seek {p : Program} {l : Launch} {e : Env} {s : State} {m : MethodId} {args : Array Value} {below : List Frame} {meth : Method} {c : Code} {H : Heap} {locs : List Loc} {cells slots : Nat} {Q : State → Prop} {b L : Nat} {xs : Nat → Int32} {D : va_G} {K : Nat → ClassId} {A : Nat → Prop} {h : Nat} {q : Nat → Nat} {x : LSt} {wx wm : va_W} {ls : Array Slot} {i : Nat} (C : cL p s m args meth c b L xs D K A) (hw : wT D A wx wm s H locs) (hJ : JI K h q x wx wm) (hl : lv_has ls 4 [(3, .int (nI i)), (2, .ref (q 0)), (1, .ref h), (0, .ref b)]) (hi : i + 4 ≤ L) (hL : L ≤ 2048) (hc : cells + 2 ≤ room_1.cells ∧ slots + 8 ≤ room_1.slots)
    (kk : ∀ (x' : LSt) (wx' wm' : va_W) (H' : Heap) (locs' : List Loc), JI K h q x' wx' wm' → wT D A wx' wm' s H' locs' → W p l e room_1 s m args below meth c H' locs' (cells + 2) (slots + 8) Q (F0 m 670 ls [])) : W p l e room_1 s m args below meth c H locs cells slots Q (F0 m 508 ls []) := by
  have hx := C.1.1
  have hb := C.1.2.1
  obtain ⟨fs, hz⟩ := hJ.1.zero
  refine lv_aload_n hx hb d_LW_law_508 rfl (lv_at hl 2 rfl) ?_
  refine lv_aload_n hx hb d_LW_law_509 rfl (lv_at hl 3 rfl) ?_
  refine lv_iload_n hx hb d_LW_law_510 rfl (lv_at hl 0 rfl) ?_
  refine lv_iconst (v := 1) hx hb d_LW_law_511 (by decide) ?_
  refine lv_iadd hx hb d_LW_law_512 ?_
  refine va_sld hx hb C.2.1 C.2.2.1 C.2.2.2 hw.2.2.2.2.2 (in_1 hi hL) d_LW_law_513 ?_
  refine k2_i C.1 (k2_runV C.1 hw (c_NS_seek hJ.1) rfl rfl cf_LW_72 hz rfl rfl ⟨Nat.le_of_ble_eq_true rfl, Nat.le_of_ble_eq_true rfl⟩ rfl hl.1 rfl (Nat.le_of_ble_eq_true rfl) d_LW_law_514 ⟨Nat.le_trans (Nat.add_le_add_left (Nat.le_of_ble_eq_true rfl) _) hc.1, Nat.le_trans (Nat.add_le_add_left (Nat.le_of_ble_eq_true rfl) _) hc.2⟩) hw (fun r1 w1 H locs hq1 hw => ?_)
  obtain ⟨ou, nk, nf, ns, hi0, lo0, mm, em⟩ := hJ.2.1
  rw [em] at hw
  have hw := hw.swap
  refine lv_aload_n hx hb d_LW_law_517 rfl (lv_at hl 1 rfl) ?_
  refine lv_aload_n hx hb d_LW_law_518 rfl (lv_at hl 3 rfl) ?_
  refine lv_iload_n hx hb d_LW_law_519 rfl (lv_at hl 0 rfl) ?_
  refine lv_iconst (v := 1) hx hb d_LW_law_520 (by decide) ?_
  refine lv_iadd hx hb d_LW_law_521 ?_
  refine va_sld hx hb C.2.1 C.2.2.1 C.2.2.2 hw.2.2.2.2.2 (in_1 hi hL) d_LW_law_522 ?_
  refine k2_i C.1 (k2_runV C.1 hw (c_MD_seek) rfl rfl cf_LW_75 mw_0 rfl rfl ⟨Nat.le_of_ble_eq_true rfl, Nat.le_of_ble_eq_true rfl⟩ rfl hl.1 rfl (Nat.le_of_ble_eq_true rfl) d_LW_law_523 ⟨Nat.le_trans (by show cells + 0 + 0 ≤ cells + 2; omega) hc.1, Nat.le_trans (by show slots + 0 + 0 ≤ slots + 8; omega) hc.2⟩) hw (fun r2 w2 H locs hq2 hw => ?_)
  have hw := hw.swap
  refine lv_icmp_eq (tgt := 670) hx hb d_LW_law_526 rfl (fun _ => ?_) (fun hn => absurd (hq1.1.trans hq2.1.symm) hn)
  refine W.widen (by show cells + 0 + 0 ≤ cells + 2; omega) (by show slots + 0 + 0 ≤ slots + 8; omega) (kk ⟨x.kd, x.f1, x.f2, x.rc, x.sz, x.sd, (skX x.ix (xs (nI i + 1).toNatClampNeg)), x.wt, x.cd⟩ w1 w2 _ _ ⟨?_, ?_, hJ.2.2.1, (ix_seek hJ.2.2.2.1 _), hJ.2.2.2.2⟩ hw)
  · exact hq1.2
  · exact hq2.2
set_option maxRecDepth 100000 in
set_option maxHeartbeats 4000000 in
theorem lt_advance {p : Program} {l : Launch} {e : Env} {s : State} {m : MethodId} {args : Array Value} {below : List Frame} {meth : Method} {c : Code} {H : Heap} {locs : List Loc} {cells slots : Nat} {Q : State → Prop} {b L : Nat} {xs : Nat → Int32} {D : va_G} {K : Nat → ClassId} {A : Nat → Prop} {h : Nat} {q : Nat → Nat} {x : LSt} {wx wm : va_W} {ls : Array Slot} {i : Nat} (C : cL p s m args meth c b L xs D K A) (hw : wT D A wx wm s H locs) (hJ : JI K h q x wx wm) (hl : lv_has ls 4 [(3, .int (nI i)), (2, .ref (q 0)), (1, .ref h), (0, .ref b)]) (hi : i + 4 ≤ L) (hL : L ≤ 2048) (hc : cells + 2 ≤ room_1.cells ∧ slots + 8 ≤ room_1.slots)
    (kk : ∀ (x' : LSt) (wx' wm' : va_W) (H' : Heap) (locs' : List Loc), JI K h q x' wx' wm' → wT D A wx' wm' s H' locs' → W p l e room_1 s m args below meth c H' locs' (cells + 2) (slots + 8) Q (F0 m 670 ls [])) : W p l e room_1 s m args below meth c H locs cells slots Q (F0 m 531 ls []) := by
  have hx := C.1.1
  have hb := C.1.2.1
  obtain ⟨fs, hz⟩ := hJ.1.zero
  refine lv_aload_n hx hb d_LW_law_531 rfl (lv_at hl 2 rfl) ?_
  refine k2_i C.1 (k2_runV C.1 hw (c_NS_advance hJ.1 hJ.2.2.2.1) rfl rfl cf_LW_76 hz rfl rfl ⟨Nat.le_of_ble_eq_true rfl, Nat.le_of_ble_eq_true rfl⟩ rfl hl.1 rfl (Nat.le_of_ble_eq_true rfl) d_LW_law_532 ⟨Nat.le_trans (Nat.add_le_add_left (Nat.le_of_ble_eq_true rfl) _) hc.1, Nat.le_trans (Nat.add_le_add_left (Nat.le_of_ble_eq_true rfl) _) hc.2⟩) hw (fun r1 w1 H locs hq1 hw => ?_)
  obtain ⟨ou, nk, nf, ns, hi0, lo0, mm, em⟩ := hJ.2.1
  rw [em] at hw
  have hw := hw.swap
  refine lv_aload_n hx hb d_LW_law_535 rfl (lv_at hl 1 rfl) ?_
  refine k2_i C.1 (k2_runV C.1 hw (c_MD_advance hJ.2.2.2.1) rfl rfl cf_LW_80 mw_0 rfl rfl ⟨Nat.le_of_ble_eq_true rfl, Nat.le_of_ble_eq_true rfl⟩ rfl hl.1 rfl (Nat.le_of_ble_eq_true rfl) d_LW_law_536 ⟨Nat.le_trans (by show cells + 0 + 0 ≤ cells + 2; omega) hc.1, Nat.le_trans (by show slots + 0 + 0 ≤ slots + 8; omega) hc.2⟩) hw (fun r2 w2 H locs hq2 hw => ?_)
  have hw := hw.swap
  refine lv_icmp_eq (tgt := 670) hx hb d_LW_law_539 rfl (fun _ => ?_) (fun hn => absurd (hq1.1.trans hq2.1.symm) hn)
  refine W.widen (by show cells + 0 + 0 ≤ cells + 2; omega) (by show slots + 0 + 0 ≤ slots + 8; omega) (kk ⟨x.kd, x.f1, x.f2, x.rc, x.sz, x.sd, (adX x.ix), x.wt, x.cd⟩ w1 w2 _ _ ⟨?_, ?_, hJ.2.2.1, (ix_adv hJ.2.2.2.1), hJ.2.2.2.2⟩ hw)
  · exact hq1.2
  · exact hq2.2
set_option maxRecDepth 100000 in
set_option maxHeartbeats 4000000 in
theorem lt_coordinate {p : Program} {l : Launch} {e : Env} {s : State} {m : MethodId} {args : Array Value} {below : List Frame} {meth : Method} {c : Code} {H : Heap} {locs : List Loc} {cells slots : Nat} {Q : State → Prop} {b L : Nat} {xs : Nat → Int32} {D : va_G} {K : Nat → ClassId} {A : Nat → Prop} {h : Nat} {q : Nat → Nat} {x : LSt} {wx wm : va_W} {ls : Array Slot} {i : Nat} (C : cL p s m args meth c b L xs D K A) (hw : wT D A wx wm s H locs) (hJ : JI K h q x wx wm) (hl : lv_has ls 4 [(3, .int (nI i)), (2, .ref (q 0)), (1, .ref h), (0, .ref b)]) (hi : i + 4 ≤ L) (hL : L ≤ 2048) (hc : cells + 2 ≤ room_1.cells ∧ slots + 8 ≤ room_1.slots)
    (kk : ∀ (x' : LSt) (wx' wm' : va_W) (H' : Heap) (locs' : List Loc), JI K h q x' wx' wm' → wT D A wx' wm' s H' locs' → W p l e room_1 s m args below meth c H' locs' (cells + 2) (slots + 8) Q (F0 m 670 ls [])) : W p l e room_1 s m args below meth c H locs cells slots Q (F0 m 544 ls []) := by
  have hx := C.1.1
  have hb := C.1.2.1
  obtain ⟨fs, hz⟩ := hJ.1.zero
  refine lv_aload_n hx hb d_LW_law_544 rfl (lv_at hl 2 rfl) ?_
  refine lv_aload_n hx hb d_LW_law_545 rfl (lv_at hl 3 rfl) ?_
  refine lv_iload_n hx hb d_LW_law_546 rfl (lv_at hl 0 rfl) ?_
  refine lv_iconst (v := 1) hx hb d_LW_law_547 (by decide) ?_
  refine lv_iadd hx hb d_LW_law_548 ?_
  refine va_sld hx hb C.2.1 C.2.2.1 C.2.2.2 hw.2.2.2.2.2 (in_1 hi hL) d_LW_law_549 ?_
  refine k2_l C.1 (k2_runV C.1 hw (c_NS_coordinate hJ.1 hJ.2.2.2.1) rfl rfl cf_LW_81 hz rfl rfl ⟨Nat.le_of_ble_eq_true rfl, Nat.le_of_ble_eq_true rfl⟩ rfl hl.1 rfl (Nat.le_of_ble_eq_true rfl) d_LW_law_550 ⟨Nat.le_trans (Nat.add_le_add_left (Nat.le_of_ble_eq_true rfl) _) hc.1, Nat.le_trans (Nat.add_le_add_left (Nat.le_of_ble_eq_true rfl) _) hc.2⟩) hw (fun r1 w1 H locs hq1 hw => ?_)
  obtain ⟨ou, nk, nf, ns, hi0, lo0, mm, em⟩ := hJ.2.1
  rw [em] at hw
  have hw := hw.swap
  refine lv_aload_n hx hb d_LW_law_553 rfl (lv_at hl 1 rfl) ?_
  refine lv_aload_n hx hb d_LW_law_554 rfl (lv_at hl 3 rfl) ?_
  refine lv_iload_n hx hb d_LW_law_555 rfl (lv_at hl 0 rfl) ?_
  refine lv_iconst (v := 1) hx hb d_LW_law_556 (by decide) ?_
  refine lv_iadd hx hb d_LW_law_557 ?_
  refine va_sld hx hb C.2.1 C.2.2.1 C.2.2.2 hw.2.2.2.2.2 (in_1 hi hL) d_LW_law_558 ?_
  refine k2_l C.1 (k2_runV C.1 hw (c_MD_coordinate hJ.2.2.2.1) rfl rfl cf_LW_84 mw_0 rfl rfl ⟨Nat.le_of_ble_eq_true rfl, Nat.le_of_ble_eq_true rfl⟩ rfl hl.1 rfl (Nat.le_of_ble_eq_true rfl) d_LW_law_559 ⟨Nat.le_trans (by show cells + 0 + 0 ≤ cells + 2; omega) hc.1, Nat.le_trans (by show slots + 0 + 0 ≤ slots + 8; omega) hc.2⟩) hw (fun r2 w2 H locs hq2 hw => ?_)
  have hw := hw.swap
  refine W.lcmp hx hb d_LW_law_562 ?_
  refine lv_if_eq (tgt := 670) hx hb d_LW_law_563 rfl (fun _ => ?_) (fun hn => absurd ((lg_cmp_eq _ _).mpr (hq1.1.trans hq2.1.symm)) hn)
  refine W.widen (by show cells + 0 + 0 ≤ cells + 2; omega) (by show slots + 0 + 0 ≤ slots + 8; omega) (kk ⟨x.kd, x.f1, x.f2, x.rc, x.sz, x.sd, x.ix, x.wt, x.cd⟩ w1 w2 _ _ ⟨?_, ?_, hJ.2.2.1, hJ.2.2.2.1, hJ.2.2.2.2⟩ hw)
  · rw [hq1.2]; exact hJ.1
  · exact hq2.2
set_option maxRecDepth 100000 in
set_option maxHeartbeats 4000000 in
theorem lt_weigh {p : Program} {l : Launch} {e : Env} {s : State} {m : MethodId} {args : Array Value} {below : List Frame} {meth : Method} {c : Code} {H : Heap} {locs : List Loc} {cells slots : Nat} {Q : State → Prop} {b L : Nat} {xs : Nat → Int32} {D : va_G} {K : Nat → ClassId} {A : Nat → Prop} {h : Nat} {q : Nat → Nat} {x : LSt} {wx wm : va_W} {ls : Array Slot} {i : Nat} (C : cL p s m args meth c b L xs D K A) (hw : wT D A wx wm s H locs) (hJ : JI K h q x wx wm) (hl : lv_has ls 4 [(3, .int (nI i)), (2, .ref (q 0)), (1, .ref h), (0, .ref b)]) (hi : i + 4 ≤ L) (hL : L ≤ 2048) (hc : cells + 2 ≤ room_1.cells ∧ slots + 8 ≤ room_1.slots)
    (kk : ∀ (x' : LSt) (wx' wm' : va_W) (H' : Heap) (locs' : List Loc), JI K h q x' wx' wm' → wT D A wx' wm' s H' locs' → W p l e room_1 s m args below meth c H' locs' (cells + 2) (slots + 8) Q (F0 m 670 ls [])) : W p l e room_1 s m args below meth c H locs cells slots Q (F0 m 568 ls []) := by
  have hx := C.1.1
  have hb := C.1.2.1
  obtain ⟨fs, hz⟩ := hJ.1.zero
  refine lv_aload_n hx hb d_LW_law_568 rfl (lv_at hl 2 rfl) ?_
  refine lv_aload_n hx hb d_LW_law_569 rfl (lv_at hl 3 rfl) ?_
  refine lv_iload_n hx hb d_LW_law_570 rfl (lv_at hl 0 rfl) ?_
  refine lv_iconst (v := 1) hx hb d_LW_law_571 (by decide) ?_
  refine lv_iadd hx hb d_LW_law_572 ?_
  refine va_sld hx hb C.2.1 C.2.2.1 C.2.2.2 hw.2.2.2.2.2 (in_1 hi hL) d_LW_law_573 ?_
  refine lv_aload_n hx hb d_LW_law_574 rfl (lv_at hl 3 rfl) ?_
  refine lv_iload_n hx hb d_LW_law_575 rfl (lv_at hl 0 rfl) ?_
  refine lv_iconst (v := 2) hx hb d_LW_law_576 (by decide) ?_
  refine lv_iadd hx hb d_LW_law_577 ?_
  refine va_sld hx hb C.2.1 C.2.2.1 C.2.2.2 hw.2.2.2.2.2 (in_2 hi hL) d_LW_law_578 ?_
  refine k2_i C.1 (k2_runV C.1 hw (c_NS_weigh hJ.1) rfl rfl cf_LW_85 hz rfl rfl ⟨Nat.le_of_ble_eq_true rfl, Nat.le_of_ble_eq_true rfl⟩ rfl hl.1 rfl (Nat.le_of_ble_eq_true rfl) d_LW_law_579 ⟨Nat.le_trans (Nat.add_le_add_left (Nat.le_of_ble_eq_true rfl) _) hc.1, Nat.le_trans (Nat.add_le_add_left (Nat.le_of_ble_eq_true rfl) _) hc.2⟩) hw (fun r1 w1 H locs hq1 hw => ?_)
  obtain ⟨ou, nk, nf, ns, hi0, lo0, mm, em⟩ := hJ.2.1
  rw [em] at hw
  have hw := hw.swap
  refine lv_aload_n hx hb d_LW_law_582 rfl (lv_at hl 1 rfl) ?_
  refine lv_aload_n hx hb d_LW_law_583 rfl (lv_at hl 3 rfl) ?_
  refine lv_iload_n hx hb d_LW_law_584 rfl (lv_at hl 0 rfl) ?_
  refine lv_iconst (v := 1) hx hb d_LW_law_585 (by decide) ?_
  refine lv_iadd hx hb d_LW_law_586 ?_
  refine va_sld hx hb C.2.1 C.2.2.1 C.2.2.2 hw.2.2.2.2.2 (in_1 hi hL) d_LW_law_587 ?_
  refine lv_aload_n hx hb d_LW_law_588 rfl (lv_at hl 3 rfl) ?_
  refine lv_iload_n hx hb d_LW_law_589 rfl (lv_at hl 0 rfl) ?_
  refine lv_iconst (v := 2) hx hb d_LW_law_590 (by decide) ?_
  refine lv_iadd hx hb d_LW_law_591 ?_
  refine va_sld hx hb C.2.1 C.2.2.1 C.2.2.2 hw.2.2.2.2.2 (in_2 hi hL) d_LW_law_592 ?_
  refine k2_i C.1 (k2_runV C.1 hw (c_MD_weigh) rfl rfl cf_LW_88 mw_0 rfl rfl ⟨Nat.le_of_ble_eq_true rfl, Nat.le_of_ble_eq_true rfl⟩ rfl hl.1 rfl (Nat.le_of_ble_eq_true rfl) d_LW_law_593 ⟨Nat.le_trans (by show cells + 0 + 0 ≤ cells + 2; omega) hc.1, Nat.le_trans (by show slots + 0 + 0 ≤ slots + 8; omega) hc.2⟩) hw (fun r2 w2 H locs hq2 hw => ?_)
  have hw := hw.swap
  refine lv_icmp_eq (tgt := 670) hx hb d_LW_law_596 rfl (fun _ => ?_) (fun hn => absurd (hq1.1.trans hq2.1.symm) hn)
  refine W.widen (by show cells + 0 + 0 ≤ cells + 2; omega) (by show slots + 0 + 0 ≤ slots + 8; omega) (kk ⟨x.kd, x.f1, x.f2, x.rc, x.sz, x.sd, x.ix, (wgW x.wt (xs (nI i + 1).toNatClampNeg) (xs (nI i + 2).toNatClampNeg)), x.cd⟩ w1 w2 _ _ ⟨?_, ?_, hJ.2.2.1, hJ.2.2.2.1, (wt_weigh hJ.2.2.2.2 _ _)⟩ hw)
  · exact hq1.2
  · exact hq2.2
set_option maxRecDepth 100000 in
set_option maxHeartbeats 4000000 in
theorem lt_pick {p : Program} {l : Launch} {e : Env} {s : State} {m : MethodId} {args : Array Value} {below : List Frame} {meth : Method} {c : Code} {H : Heap} {locs : List Loc} {cells slots : Nat} {Q : State → Prop} {b L : Nat} {xs : Nat → Int32} {D : va_G} {K : Nat → ClassId} {A : Nat → Prop} {h : Nat} {q : Nat → Nat} {x : LSt} {wx wm : va_W} {ls : Array Slot} {i : Nat} (C : cL p s m args meth c b L xs D K A) (hw : wT D A wx wm s H locs) (hJ : JI K h q x wx wm) (hl : lv_has ls 4 [(3, .int (nI i)), (2, .ref (q 0)), (1, .ref h), (0, .ref b)]) (hi : i + 4 ≤ L) (hL : L ≤ 2048) (hc : cells + 2 ≤ room_1.cells ∧ slots + 8 ≤ room_1.slots)
    (kk : ∀ (x' : LSt) (wx' wm' : va_W) (H' : Heap) (locs' : List Loc), JI K h q x' wx' wm' → wT D A wx' wm' s H' locs' → W p l e room_1 s m args below meth c H' locs' (cells + 2) (slots + 8) Q (F0 m 670 ls [])) : W p l e room_1 s m args below meth c H locs cells slots Q (F0 m 601 ls []) := by
  have hx := C.1.1
  have hb := C.1.2.1
  obtain ⟨fs, hz⟩ := hJ.1.zero
  refine lv_aload_n hx hb d_LW_law_601 rfl (lv_at hl 2 rfl) ?_
  refine lv_aload_n hx hb d_LW_law_602 rfl (lv_at hl 3 rfl) ?_
  refine lv_iload_n hx hb d_LW_law_603 rfl (lv_at hl 0 rfl) ?_
  refine lv_iconst (v := 1) hx hb d_LW_law_604 (by decide) ?_
  refine lv_iadd hx hb d_LW_law_605 ?_
  refine va_sld hx hb C.2.1 C.2.2.1 C.2.2.2 hw.2.2.2.2.2 (in_1 hi hL) d_LW_law_606 ?_
  refine k2_i C.1 (k2_runV C.1 hw (c_NS_pick hJ.1 hJ.2.2.2.2) rfl rfl cf_LW_89 hz rfl rfl ⟨Nat.le_of_ble_eq_true rfl, Nat.le_of_ble_eq_true rfl⟩ rfl hl.1 rfl (Nat.le_of_ble_eq_true rfl) d_LW_law_607 ⟨Nat.le_trans (Nat.add_le_add_left (Nat.le_of_ble_eq_true rfl) _) hc.1, Nat.le_trans (Nat.add_le_add_left (Nat.le_of_ble_eq_true rfl) _) hc.2⟩) hw (fun r1 w1 H locs hq1 hw => ?_)
  obtain ⟨ou, nk, nf, ns, hi0, lo0, mm, em⟩ := hJ.2.1
  rw [em] at hw
  have hw := hw.swap
  refine lv_aload_n hx hb d_LW_law_610 rfl (lv_at hl 1 rfl) ?_
  refine lv_aload_n hx hb d_LW_law_611 rfl (lv_at hl 3 rfl) ?_
  refine lv_iload_n hx hb d_LW_law_612 rfl (lv_at hl 0 rfl) ?_
  refine lv_iconst (v := 1) hx hb d_LW_law_613 (by decide) ?_
  refine lv_iadd hx hb d_LW_law_614 ?_
  refine va_sld hx hb C.2.1 C.2.2.1 C.2.2.2 hw.2.2.2.2.2 (in_1 hi hL) d_LW_law_615 ?_
  refine k2_i C.1 (k2_runV C.1 hw (c_MD_pick hJ.2.2.1 hJ.2.2.2.2) rfl rfl cf_LW_92 mw_0 rfl rfl ⟨Nat.le_of_ble_eq_true rfl, Nat.le_of_ble_eq_true rfl⟩ rfl hl.1 rfl (Nat.le_of_ble_eq_true rfl) d_LW_law_616 ⟨Nat.le_trans (by show cells + 0 + 0 ≤ cells + 2; omega) hc.1, Nat.le_trans (by show slots + 0 + 0 ≤ slots + 8; omega) hc.2⟩) hw (fun r2 w2 H locs hq2 hw => ?_)
  have hw := hw.swap
  refine lv_icmp_eq (tgt := 670) hx hb d_LW_law_619 rfl (fun _ => ?_) (fun hn => absurd (hq1.1.trans hq2.1.symm) hn)
  refine W.widen (by show cells + 0 + 0 ≤ cells + 2; omega) (by show slots + 0 + 0 ≤ slots + 8; omega) (kk ⟨x.kd, (dr1 x.kd x.f1 x.f2 (xs (nI i + 1).toNatClampNeg) (toW x.wt 16)), (dr2 x.kd x.f1 x.f2 (xs (nI i + 1).toNatClampNeg) (toW x.wt 16)), x.rc, x.sz, x.sd, x.ix, x.wt, x.cd⟩ w1 w2 _ _ ⟨?_, ?_, (i1_draw hJ.2.2.1 _ _), hJ.2.2.2.1, hJ.2.2.2.2⟩ hw)
  · exact hq1.2
  · exact hq2.2
set_option maxRecDepth 100000 in
set_option maxHeartbeats 4000000 in
theorem lt_shuffle {p : Program} {l : Launch} {e : Env} {s : State} {m : MethodId} {args : Array Value} {below : List Frame} {meth : Method} {c : Code} {H : Heap} {locs : List Loc} {cells slots : Nat} {Q : State → Prop} {b L : Nat} {xs : Nat → Int32} {D : va_G} {K : Nat → ClassId} {A : Nat → Prop} {h : Nat} {q : Nat → Nat} {x : LSt} {wx wm : va_W} {ls : Array Slot} {i : Nat} (C : cL p s m args meth c b L xs D K A) (hw : wT D A wx wm s H locs) (hJ : JI K h q x wx wm) (hl : lv_has ls 4 [(3, .int (nI i)), (2, .ref (q 0)), (1, .ref h), (0, .ref b)]) (hi : i + 4 ≤ L) (hL : L ≤ 2048) (hc : cells + 2 ≤ room_1.cells ∧ slots + 8 ≤ room_1.slots)
    (kk : ∀ (x' : LSt) (wx' wm' : va_W) (H' : Heap) (locs' : List Loc), JI K h q x' wx' wm' → wT D A wx' wm' s H' locs' → W p l e room_1 s m args below meth c H' locs' (cells + 2) (slots + 8) Q (F0 m 670 ls [])) : W p l e room_1 s m args below meth c H locs cells slots Q (F0 m 624 ls []) := by
  have hx := C.1.1
  have hb := C.1.2.1
  obtain ⟨fs, hz⟩ := hJ.1.zero
  refine lv_aload_n hx hb d_LW_law_624 rfl (lv_at hl 2 rfl) ?_
  refine lv_aload_n hx hb d_LW_law_625 rfl (lv_at hl 3 rfl) ?_
  refine lv_iload_n hx hb d_LW_law_626 rfl (lv_at hl 0 rfl) ?_
  refine lv_iconst (v := 1) hx hb d_LW_law_627 (by decide) ?_
  refine lv_iadd hx hb d_LW_law_628 ?_
  refine va_sld hx hb C.2.1 C.2.2.1 C.2.2.2 hw.2.2.2.2.2 (in_1 hi hL) d_LW_law_629 ?_
  refine k2_i C.1 (k2_runV C.1 hw (c_NS_shuffle hJ.1) rfl rfl cf_LW_93 hz rfl rfl ⟨Nat.le_of_ble_eq_true rfl, Nat.le_of_ble_eq_true rfl⟩ rfl hl.1 rfl (Nat.le_of_ble_eq_true rfl) d_LW_law_630 ⟨Nat.le_trans (Nat.add_le_add_left (Nat.le_of_ble_eq_true rfl) _) hc.1, Nat.le_trans (Nat.add_le_add_left (Nat.le_of_ble_eq_true rfl) _) hc.2⟩) hw (fun r1 w1 H locs hq1 hw => ?_)
  obtain ⟨ou, nk, nf, ns, hi0, lo0, mm, em⟩ := hJ.2.1
  rw [em] at hw
  have hw := hw.swap
  refine lv_aload_n hx hb d_LW_law_633 rfl (lv_at hl 1 rfl) ?_
  refine lv_aload_n hx hb d_LW_law_634 rfl (lv_at hl 3 rfl) ?_
  refine lv_iload_n hx hb d_LW_law_635 rfl (lv_at hl 0 rfl) ?_
  refine lv_iconst (v := 1) hx hb d_LW_law_636 (by decide) ?_
  refine lv_iadd hx hb d_LW_law_637 ?_
  refine va_sld hx hb C.2.1 C.2.2.1 C.2.2.2 hw.2.2.2.2.2 (in_1 hi hL) d_LW_law_638 ?_
  refine k2_i C.1 (k2_runV C.1 hw (c_MD_shuffle hJ.2.2.1) rfl rfl cf_LW_96 mw_0 rfl rfl ⟨Nat.le_of_ble_eq_true rfl, Nat.le_of_ble_eq_true rfl⟩ rfl hl.1 rfl (Nat.le_of_ble_eq_true rfl) d_LW_law_639 ⟨Nat.le_trans (by show cells + 0 + 0 ≤ cells + 2; omega) hc.1, Nat.le_trans (by show slots + 0 + 0 ≤ slots + 8; omega) hc.2⟩) hw (fun r2 w2 H locs hq2 hw => ?_)
  have hw := hw.swap
  refine lv_icmp_eq (tgt := 670) hx hb d_LW_law_642 rfl (fun _ => ?_) (fun hn => absurd (hq1.1.trans hq2.1.symm) hn)
  refine W.widen (by show cells + 0 + 0 ≤ cells + 2; omega) (by show slots + 0 + 0 ≤ slots + 8; omega) (kk ⟨x.kd, (sh1 x.kd x.f1 x.f2 x.cd (xs (nI i + 1).toNatClampNeg)), (sh2 x.kd x.f1 x.f2 x.cd (xs (nI i + 1).toNatClampNeg)), x.rc, x.sz, x.sd, x.ix, x.wt, (shC x.kd x.f1 x.f2 x.cd (xs (nI i + 1).toNatClampNeg))⟩ w1 w2 _ _ ⟨?_, ?_, (i1_shuffle hJ.2.2.1 _ _), hJ.2.2.2.1, hJ.2.2.2.2⟩ hw)
  · exact hq1.2
  · exact hq2.2
set_option maxRecDepth 100000 in
set_option maxHeartbeats 4000000 in
theorem lt_card {p : Program} {l : Launch} {e : Env} {s : State} {m : MethodId} {args : Array Value} {below : List Frame} {meth : Method} {c : Code} {H : Heap} {locs : List Loc} {cells slots : Nat} {Q : State → Prop} {b L : Nat} {xs : Nat → Int32} {D : va_G} {K : Nat → ClassId} {A : Nat → Prop} {h : Nat} {q : Nat → Nat} {x : LSt} {wx wm : va_W} {ls : Array Slot} {i : Nat} (C : cL p s m args meth c b L xs D K A) (hw : wT D A wx wm s H locs) (hJ : JI K h q x wx wm) (hl : lv_has ls 4 [(3, .int (nI i)), (2, .ref (q 0)), (1, .ref h), (0, .ref b)]) (hi : i + 4 ≤ L) (hL : L ≤ 2048) (hc : cells + 2 ≤ room_1.cells ∧ slots + 8 ≤ room_1.slots)
    (kk : ∀ (x' : LSt) (wx' wm' : va_W) (H' : Heap) (locs' : List Loc), JI K h q x' wx' wm' → wT D A wx' wm' s H' locs' → W p l e room_1 s m args below meth c H' locs' (cells + 2) (slots + 8) Q (F0 m 670 ls [])) : W p l e room_1 s m args below meth c H locs cells slots Q (F0 m 647 ls []) := by
  have hx := C.1.1
  have hb := C.1.2.1
  obtain ⟨fs, hz⟩ := hJ.1.zero
  refine lv_aload_n hx hb d_LW_law_647 rfl (lv_at hl 2 rfl) ?_
  refine lv_aload_n hx hb d_LW_law_648 rfl (lv_at hl 3 rfl) ?_
  refine lv_iload_n hx hb d_LW_law_649 rfl (lv_at hl 0 rfl) ?_
  refine lv_iconst (v := 1) hx hb d_LW_law_650 (by decide) ?_
  refine lv_iadd hx hb d_LW_law_651 ?_
  refine va_sld hx hb C.2.1 C.2.2.1 C.2.2.2 hw.2.2.2.2.2 (in_1 hi hL) d_LW_law_652 ?_
  obtain ⟨aS, aR, aP, aD, aW, aC, g0, rr, gd, ra, wa, hF, -, -⟩ := hJ.1
  refine k2_i C.1 (k2_runV C.1 hw (c_NS_card hF) rfl rfl cf_LW_97 hz rfl rfl ⟨Nat.le_of_ble_eq_true rfl, Nat.le_of_ble_eq_true rfl⟩ rfl hl.1 rfl (Nat.le_of_ble_eq_true rfl) d_LW_law_653 ⟨Nat.le_trans (Nat.add_le_add_left (Nat.le_of_ble_eq_true rfl) _) hc.1, Nat.le_trans (Nat.add_le_add_left (Nat.le_of_ble_eq_true rfl) _) hc.2⟩) hw (fun r1 w1 H locs hq1 hw => ?_)
  obtain ⟨ou, nk, nf, ns, hi0, lo0, mm, em⟩ := hJ.2.1
  rw [em] at hw
  have hw := hw.swap
  refine lv_aload_n hx hb d_LW_law_656 rfl (lv_at hl 1 rfl) ?_
  refine lv_aload_n hx hb d_LW_law_657 rfl (lv_at hl 3 rfl) ?_
  refine lv_iload_n hx hb d_LW_law_658 rfl (lv_at hl 0 rfl) ?_
  refine lv_iconst (v := 1) hx hb d_LW_law_659 (by decide) ?_
  refine lv_iadd hx hb d_LW_law_660 ?_
  refine va_sld hx hb C.2.1 C.2.2.1 C.2.2.2 hw.2.2.2.2.2 (in_1 hi hL) d_LW_law_661 ?_
  refine k2_i C.1 (k2_runV C.1 hw (c_MD_card) rfl rfl cf_LW_100 mw_0 rfl rfl ⟨Nat.le_of_ble_eq_true rfl, Nat.le_of_ble_eq_true rfl⟩ rfl hl.1 rfl (Nat.le_of_ble_eq_true rfl) d_LW_law_662 ⟨Nat.le_trans (by show cells + 0 + 0 ≤ cells + 2; omega) hc.1, Nat.le_trans (by show slots + 0 + 0 ≤ slots + 8; omega) hc.2⟩) hw (fun r2 w2 H locs hq2 hw => ?_)
  have hw := hw.swap
  refine lv_icmp_eq (tgt := 670) hx hb d_LW_law_665 rfl (fun _ => ?_) (fun hn => absurd (hq1.1.trans hq2.1.symm) hn)
  refine W.widen (by show cells + 0 + 0 ≤ cells + 2; omega) (by show slots + 0 + 0 ≤ slots + 8; omega) (kk ⟨x.kd, x.f1, x.f2, x.rc, x.sz, x.sd, x.ix, x.wt, x.cd⟩ w1 w2 _ _ ⟨?_, ?_, hJ.2.2.1, hJ.2.2.2.1, hJ.2.2.2.2⟩ hw)
  · rw [hq1.2]; exact hJ.1
  · rw [hq2.2, ← em]; exact hJ.2.1
