/-! A turn of the law: both sides answer alike, and stay alike. -/
abbrev LSt : Type := (Nat → Int32) × (Nat → Int64) × (Nat → Int64) × Nat × (Nat → Nat) × (Nat → Int32) × Nat × (Nat → Int32) × (Nat → Int32)
abbrev LSt.kd (x : LSt) : Nat → Int32 := x.1
abbrev LSt.f1 (x : LSt) : Nat → Int64 := x.2.1
abbrev LSt.f2 (x : LSt) : Nat → Int64 := x.2.2.1
abbrev LSt.rc (x : LSt) : Nat := x.2.2.2.1
abbrev LSt.sz (x : LSt) : Nat → Nat := x.2.2.2.2.1
abbrev LSt.sd (x : LSt) : Nat → Int32 := x.2.2.2.2.2.1
abbrev LSt.ix (x : LSt) : Nat := x.2.2.2.2.2.2.1
abbrev LSt.wt (x : LSt) : Nat → Int32 := x.2.2.2.2.2.2.2.1
abbrev LSt.cd (x : LSt) : Nat → Int32 := x.2.2.2.2.2.2.2.2
def JI (K : Nat → ClassId) (h : Nat) (q : Nat → Nat) (x : LSt) (wx wm : va_W) : Prop := XR K h x.kd x.f1 x.f2 x.rc x.sz x.sd x.ix x.wt x.cd wx ∧ MR K q x.kd x.f1 x.f2 (nI x.rc) (zN x.sz) x.sd (nI x.ix) x.wt x.cd wm ∧ IV x.kd x.f1 x.f2 x.ix x.wt
def cL (p : Program) (s : State) (m : MethodId) (args : Array Value) (meth : Method) (c : Code) (b L : Nat) (xs : Nat → Int32) (D : va_G) (K : Nat → ClassId) (A : Nat → Prop) : Prop :=
  cX p s m args meth c code 4 "NumberStreamsLaw" meth.name meth.sig.returnType D K A ∧ va_X b L xs s s.heap ∧ b < s.heap.size ∧ ¬ A b
theorem in_0 {i L : Nat} (h : i + 4 ≤ L) (hL : L ≤ 2048) : vp_in (nI i) L := vp_in_nI (by omega) (by omega)
theorem in_1 {i L : Nat} (h : i + 4 ≤ L) (hL : L ≤ 2048) : vp_in (nI i + 1) L := by
  rw [show nI i + 1 = nI (i + 1) from nI_add i 1]; exact vp_in_nI (by omega) (by omega)
theorem in_2 {i L : Nat} (h : i + 4 ≤ L) (hL : L ≤ 2048) : vp_in (nI i + 2) L := by
  rw [show nI i + 2 = nI (i + 2) from nI_add i 2]; exact vp_in_nI (by omega) (by omega)
theorem in_3 {i L : Nat} (h : i + 4 ≤ L) (hL : L ≤ 2048) : vp_in (nI i + 3) L := by
  rw [show nI i + 3 = nI (i + 3) from nI_add i 3]; exact vp_in_nI (by omega) (by omega)
set_option maxRecDepth 100000 in
set_option maxHeartbeats 4000000 in
theorem lt_make {p : Program} {l : Launch} {e : Env} {s : State} {m : MethodId} {args : Array Value} {below : List Frame} {meth : Method} {c : Code} {H : Heap} {locs : List Loc} {cells slots : Nat} {Q : State → Prop} {b L : Nat} {xs : Nat → Int32} {D : va_G} {K : Nat → ClassId} {A : Nat → Prop} {h : Nat} {q : Nat → Nat} {x : LSt} {wx wm : va_W} {ls : Array Slot} {i : Nat} (C : cL p s m args meth c b L xs D K A) (hw : wT D A wx wm s H locs) (hJ : JI K h q x wx wm) (hl : lv_has ls 4 [(3, .int (nI i)), (2, .ref (q 0)), (1, .ref h), (0, .ref b)]) (hi : i + 4 ≤ L) (hL : L ≤ 2048) (hc : cells + 2 ≤ room_1.cells ∧ slots + 8 ≤ room_1.slots)
    (kk : ∀ (x' : LSt) (wx' wm' : va_W) (H' : Heap) (locs' : List Loc), JI K h q x' wx' wm' → wT D A wx' wm' s H' locs' → W p l e room_1 s m args below meth c H' locs' (cells + 2) (slots + 8) Q (F0 m 670 ls [])) : W p l e room_1 s m args below meth c H locs cells slots Q (F0 m 128 ls []) := by
  have hx := C.1.1
  have hb := C.1.2.1
  obtain ⟨fs, hz⟩ := hJ.1.zero
  refine lv_aload_n hx hb d_LW_law_128 rfl (lv_at hl 2 rfl) ?_
  refine lv_aload_n hx hb d_LW_law_129 rfl (lv_at hl 3 rfl) ?_
  refine lv_iload_n hx hb d_LW_law_130 rfl (lv_at hl 0 rfl) ?_
  refine lv_iconst (v := 1) hx hb d_LW_law_131 (by decide) ?_
  refine lv_iadd hx hb d_LW_law_132 ?_
  refine va_sld hx hb C.2.1 C.2.2.1 C.2.2.2 hw.2.2.2.2.2 (in_1 hi hL) d_LW_law_133 ?_
  refine lv_aload_n hx hb d_LW_law_134 rfl (lv_at hl 3 rfl) ?_
  refine lv_iload_n hx hb d_LW_law_135 rfl (lv_at hl 0 rfl) ?_
  refine lv_iconst (v := 2) hx hb d_LW_law_136 (by decide) ?_
  refine lv_iadd hx hb d_LW_law_137 ?_
  refine va_sld hx hb C.2.1 C.2.2.1 C.2.2.2 hw.2.2.2.2.2 (in_2 hi hL) d_LW_law_138 ?_
  refine lv_aload_n hx hb d_LW_law_139 rfl (lv_at hl 3 rfl) ?_
  refine lv_iload_n hx hb d_LW_law_140 rfl (lv_at hl 0 rfl) ?_
  refine lv_iconst (v := 3) hx hb d_LW_law_141 (by decide) ?_
  refine lv_iadd hx hb d_LW_law_142 ?_
  refine va_sld hx hb C.2.1 C.2.2.1 C.2.2.2 hw.2.2.2.2.2 (in_3 hi hL) d_LW_law_143 ?_
  refine k2_i C.1 (k2_runV C.1 hw (c_NS_make hJ.1) rfl rfl cf_LW_13 hz rfl rfl ⟨Nat.le_of_ble_eq_true rfl, Nat.le_of_ble_eq_true rfl⟩ rfl hl.1 rfl (Nat.le_of_ble_eq_true rfl) d_LW_law_144 ⟨Nat.le_trans (Nat.add_le_add_left (Nat.le_of_ble_eq_true rfl) _) hc.1, Nat.le_trans (Nat.add_le_add_left (Nat.le_of_ble_eq_true rfl) _) hc.2⟩) hw (fun r1 w1 H locs hq1 hw => ?_)
  obtain ⟨ou, nk, nf, ns, hi0, lo0, mm, em⟩ := hJ.2.1
  rw [em] at hw
  have hw := hw.swap
  refine lv_aload_n hx hb d_LW_law_147 rfl (lv_at hl 1 rfl) ?_
  refine lv_aload_n hx hb d_LW_law_148 rfl (lv_at hl 3 rfl) ?_
  refine lv_iload_n hx hb d_LW_law_149 rfl (lv_at hl 0 rfl) ?_
  refine lv_iconst (v := 1) hx hb d_LW_law_150 (by decide) ?_
  refine lv_iadd hx hb d_LW_law_151 ?_
  refine va_sld hx hb C.2.1 C.2.2.1 C.2.2.2 hw.2.2.2.2.2 (in_1 hi hL) d_LW_law_152 ?_
  refine lv_aload_n hx hb d_LW_law_153 rfl (lv_at hl 3 rfl) ?_
  refine lv_iload_n hx hb d_LW_law_154 rfl (lv_at hl 0 rfl) ?_
  refine lv_iconst (v := 2) hx hb d_LW_law_155 (by decide) ?_
  refine lv_iadd hx hb d_LW_law_156 ?_
  refine va_sld hx hb C.2.1 C.2.2.1 C.2.2.2 hw.2.2.2.2.2 (in_2 hi hL) d_LW_law_157 ?_
  refine lv_aload_n hx hb d_LW_law_158 rfl (lv_at hl 3 rfl) ?_
  refine lv_iload_n hx hb d_LW_law_159 rfl (lv_at hl 0 rfl) ?_
  refine lv_iconst (v := 3) hx hb d_LW_law_160 (by decide) ?_
  refine lv_iadd hx hb d_LW_law_161 ?_
  refine va_sld hx hb C.2.1 C.2.2.1 C.2.2.2 hw.2.2.2.2.2 (in_3 hi hL) d_LW_law_162 ?_
  refine k2_i C.1 (k2_runV C.1 hw (c_MD_make) rfl rfl cf_LW_17 mw_0 rfl rfl ⟨Nat.le_of_ble_eq_true rfl, Nat.le_of_ble_eq_true rfl⟩ rfl hl.1 rfl (Nat.le_of_ble_eq_true rfl) d_LW_law_163 ⟨Nat.le_trans (by show cells + 1 + 0 ≤ cells + 2; omega) hc.1, Nat.le_trans (by show slots + 3 + 0 ≤ slots + 8; omega) hc.2⟩) hw (fun r2 w2 H locs hq2 hw => ?_)
  have hw := hw.swap
  refine lv_icmp_eq (tgt := 670) hx hb d_LW_law_166 rfl (fun _ => ?_) (fun hn => absurd (hq1.1.trans hq2.1.symm) hn)
  refine W.widen (by show cells + 1 + 0 ≤ cells + 2; omega) (by show slots + 3 + 0 ≤ slots + 8; omega) (kk ⟨(mkK x.kd (xs (nI i + 1).toNatClampNeg) (xs (nI i + 2).toNatClampNeg) (xs (nI i + 3).toNatClampNeg)), (mk1 x.kd x.f1 (xs (nI i + 1).toNatClampNeg) (xs (nI i + 2).toNatClampNeg) (xs (nI i + 3).toNatClampNeg)), (mk2 x.kd x.f2 (xs (nI i + 1).toNatClampNeg) (xs (nI i + 2).toNatClampNeg) (xs (nI i + 3).toNatClampNeg)), x.rc, x.sz, x.sd, x.ix, x.wt, x.cd⟩ w1 w2 _ _ ⟨?_, ?_, (i1_make hJ.2.2.1 _ _ _), hJ.2.2.2.1, hJ.2.2.2.2⟩ hw)
  · exact hq1.2
  · exact hq2.2
set_option maxRecDepth 100000 in
set_option maxHeartbeats 4000000 in
theorem lt_twin {p : Program} {l : Launch} {e : Env} {s : State} {m : MethodId} {args : Array Value} {below : List Frame} {meth : Method} {c : Code} {H : Heap} {locs : List Loc} {cells slots : Nat} {Q : State → Prop} {b L : Nat} {xs : Nat → Int32} {D : va_G} {K : Nat → ClassId} {A : Nat → Prop} {h : Nat} {q : Nat → Nat} {x : LSt} {wx wm : va_W} {ls : Array Slot} {i : Nat} (C : cL p s m args meth c b L xs D K A) (hw : wT D A wx wm s H locs) (hJ : JI K h q x wx wm) (hl : lv_has ls 4 [(3, .int (nI i)), (2, .ref (q 0)), (1, .ref h), (0, .ref b)]) (hi : i + 4 ≤ L) (hL : L ≤ 2048) (hc : cells + 2 ≤ room_1.cells ∧ slots + 8 ≤ room_1.slots)
    (kk : ∀ (x' : LSt) (wx' wm' : va_W) (H' : Heap) (locs' : List Loc), JI K h q x' wx' wm' → wT D A wx' wm' s H' locs' → W p l e room_1 s m args below meth c H' locs' (cells + 2) (slots + 8) Q (F0 m 670 ls [])) : W p l e room_1 s m args below meth c H locs cells slots Q (F0 m 171 ls []) := by
  have hx := C.1.1
  have hb := C.1.2.1
  obtain ⟨fs, hz⟩ := hJ.1.zero
  refine lv_aload_n hx hb d_LW_law_171 rfl (lv_at hl 2 rfl) ?_
  refine lv_aload_n hx hb d_LW_law_172 rfl (lv_at hl 3 rfl) ?_
  refine lv_iload_n hx hb d_LW_law_173 rfl (lv_at hl 0 rfl) ?_
  refine lv_iconst (v := 1) hx hb d_LW_law_174 (by decide) ?_
  refine lv_iadd hx hb d_LW_law_175 ?_
  refine va_sld hx hb C.2.1 C.2.2.1 C.2.2.2 hw.2.2.2.2.2 (in_1 hi hL) d_LW_law_176 ?_
  refine k2_i C.1 (k2_runV C.1 hw (c_NS_twin hJ.1) rfl rfl cf_LW_18 hz rfl rfl ⟨Nat.le_of_ble_eq_true rfl, Nat.le_of_ble_eq_true rfl⟩ rfl hl.1 rfl (Nat.le_of_ble_eq_true rfl) d_LW_law_177 ⟨Nat.le_trans (Nat.add_le_add_left (Nat.le_of_ble_eq_true rfl) _) hc.1, Nat.le_trans (Nat.add_le_add_left (Nat.le_of_ble_eq_true rfl) _) hc.2⟩) hw (fun r1 w1 H locs hq1 hw => ?_)
  obtain ⟨ou, nk, nf, ns, hi0, lo0, mm, em⟩ := hJ.2.1
  rw [em] at hw
  have hw := hw.swap
  refine lv_aload_n hx hb d_LW_law_180 rfl (lv_at hl 1 rfl) ?_
  refine lv_aload_n hx hb d_LW_law_181 rfl (lv_at hl 3 rfl) ?_
  refine lv_iload_n hx hb d_LW_law_182 rfl (lv_at hl 0 rfl) ?_
  refine lv_iconst (v := 1) hx hb d_LW_law_183 (by decide) ?_
  refine lv_iadd hx hb d_LW_law_184 ?_
  refine va_sld hx hb C.2.1 C.2.2.1 C.2.2.2 hw.2.2.2.2.2 (in_1 hi hL) d_LW_law_185 ?_
  refine k2_i C.1 (k2_runV C.1 hw (c_MD_twin) rfl rfl cf_LW_22 mw_0 rfl rfl ⟨Nat.le_of_ble_eq_true rfl, Nat.le_of_ble_eq_true rfl⟩ rfl hl.1 rfl (Nat.le_of_ble_eq_true rfl) d_LW_law_186 ⟨Nat.le_trans (by show cells + 1 + 0 ≤ cells + 2; omega) hc.1, Nat.le_trans (by show slots + 3 + 0 ≤ slots + 8; omega) hc.2⟩) hw (fun r2 w2 H locs hq2 hw => ?_)
  have hw := hw.swap
  refine lv_icmp_eq (tgt := 670) hx hb d_LW_law_189 rfl (fun _ => ?_) (fun hn => absurd (hq1.1.trans hq2.1.symm) hn)
  refine W.widen (by show cells + 1 + 0 ≤ cells + 2; omega) (by show slots + 3 + 0 ≤ slots + 8; omega) (kk ⟨(twK x.kd (xs (nI i + 1).toNatClampNeg)), (twL x.kd x.f1 (xs (nI i + 1).toNatClampNeg)), (twL x.kd x.f2 (xs (nI i + 1).toNatClampNeg)), x.rc, x.sz, x.sd, x.ix, x.wt, x.cd⟩ w1 w2 _ _ ⟨?_, ?_, (i1_twin hJ.2.2.1 _), hJ.2.2.2.1, hJ.2.2.2.2⟩ hw)
  · exact hq1.2
  · exact hq2.2
set_option maxRecDepth 100000 in
set_option maxHeartbeats 4000000 in
theorem lt_release {p : Program} {l : Launch} {e : Env} {s : State} {m : MethodId} {args : Array Value} {below : List Frame} {meth : Method} {c : Code} {H : Heap} {locs : List Loc} {cells slots : Nat} {Q : State → Prop} {b L : Nat} {xs : Nat → Int32} {D : va_G} {K : Nat → ClassId} {A : Nat → Prop} {h : Nat} {q : Nat → Nat} {x : LSt} {wx wm : va_W} {ls : Array Slot} {i : Nat} (C : cL p s m args meth c b L xs D K A) (hw : wT D A wx wm s H locs) (hJ : JI K h q x wx wm) (hl : lv_has ls 4 [(3, .int (nI i)), (2, .ref (q 0)), (1, .ref h), (0, .ref b)]) (hi : i + 4 ≤ L) (hL : L ≤ 2048) (hc : cells + 2 ≤ room_1.cells ∧ slots + 8 ≤ room_1.slots)
    (kk : ∀ (x' : LSt) (wx' wm' : va_W) (H' : Heap) (locs' : List Loc), JI K h q x' wx' wm' → wT D A wx' wm' s H' locs' → W p l e room_1 s m args below meth c H' locs' (cells + 2) (slots + 8) Q (F0 m 670 ls [])) : W p l e room_1 s m args below meth c H locs cells slots Q (F0 m 194 ls []) := by
  have hx := C.1.1
  have hb := C.1.2.1
  obtain ⟨fs, hz⟩ := hJ.1.zero
  refine lv_aload_n hx hb d_LW_law_194 rfl (lv_at hl 2 rfl) ?_
  refine lv_aload_n hx hb d_LW_law_195 rfl (lv_at hl 3 rfl) ?_
  refine lv_iload_n hx hb d_LW_law_196 rfl (lv_at hl 0 rfl) ?_
  refine lv_iconst (v := 1) hx hb d_LW_law_197 (by decide) ?_
  refine lv_iadd hx hb d_LW_law_198 ?_
  refine va_sld hx hb C.2.1 C.2.2.1 C.2.2.2 hw.2.2.2.2.2 (in_1 hi hL) d_LW_law_199 ?_
  refine k2_i C.1 (k2_runV C.1 hw (c_NS_release hJ.1) rfl rfl cf_LW_23 hz rfl rfl ⟨Nat.le_of_ble_eq_true rfl, Nat.le_of_ble_eq_true rfl⟩ rfl hl.1 rfl (Nat.le_of_ble_eq_true rfl) d_LW_law_200 ⟨Nat.le_trans (Nat.add_le_add_left (Nat.le_of_ble_eq_true rfl) _) hc.1, Nat.le_trans (Nat.add_le_add_left (Nat.le_of_ble_eq_true rfl) _) hc.2⟩) hw (fun r1 w1 H locs hq1 hw => ?_)
  obtain ⟨ou, nk, nf, ns, hi0, lo0, mm, em⟩ := hJ.2.1
  rw [em] at hw
  have hw := hw.swap
  refine lv_aload_n hx hb d_LW_law_203 rfl (lv_at hl 1 rfl) ?_
  refine lv_aload_n hx hb d_LW_law_204 rfl (lv_at hl 3 rfl) ?_
  refine lv_iload_n hx hb d_LW_law_205 rfl (lv_at hl 0 rfl) ?_
  refine lv_iconst (v := 1) hx hb d_LW_law_206 (by decide) ?_
  refine lv_iadd hx hb d_LW_law_207 ?_
  refine va_sld hx hb C.2.1 C.2.2.1 C.2.2.2 hw.2.2.2.2.2 (in_1 hi hL) d_LW_law_208 ?_
  refine k2_i C.1 (k2_runV C.1 hw (c_MD_release) rfl rfl cf_LW_27 mw_0 rfl rfl ⟨Nat.le_of_ble_eq_true rfl, Nat.le_of_ble_eq_true rfl⟩ rfl hl.1 rfl (Nat.le_of_ble_eq_true rfl) d_LW_law_209 ⟨Nat.le_trans (by show cells + 0 + 0 ≤ cells + 2; omega) hc.1, Nat.le_trans (by show slots + 0 + 0 ≤ slots + 8; omega) hc.2⟩) hw (fun r2 w2 H locs hq2 hw => ?_)
  have hw := hw.swap
  refine lv_icmp_eq (tgt := 670) hx hb d_LW_law_212 rfl (fun _ => ?_) (fun hn => absurd (hq1.1.trans hq2.1.symm) hn)
  refine W.widen (by show cells + 0 + 0 ≤ cells + 2; omega) (by show slots + 0 + 0 ≤ slots + 8; omega) (kk ⟨(rlK x.kd (xs (nI i + 1).toNatClampNeg)), x.f1, x.f2, x.rc, x.sz, x.sd, x.ix, x.wt, x.cd⟩ w1 w2 _ _ ⟨?_, ?_, (i1_release hJ.2.2.1 _), hJ.2.2.2.1, hJ.2.2.2.2⟩ hw)
  · exact hq1.2
  · exact hq2.2
set_option maxRecDepth 100000 in
set_option maxHeartbeats 4000000 in
theorem lt_next {p : Program} {l : Launch} {e : Env} {s : State} {m : MethodId} {args : Array Value} {below : List Frame} {meth : Method} {c : Code} {H : Heap} {locs : List Loc} {cells slots : Nat} {Q : State → Prop} {b L : Nat} {xs : Nat → Int32} {D : va_G} {K : Nat → ClassId} {A : Nat → Prop} {h : Nat} {q : Nat → Nat} {x : LSt} {wx wm : va_W} {ls : Array Slot} {i : Nat} (C : cL p s m args meth c b L xs D K A) (hw : wT D A wx wm s H locs) (hJ : JI K h q x wx wm) (hl : lv_has ls 4 [(3, .int (nI i)), (2, .ref (q 0)), (1, .ref h), (0, .ref b)]) (hi : i + 4 ≤ L) (hL : L ≤ 2048) (hc : cells + 2 ≤ room_1.cells ∧ slots + 8 ≤ room_1.slots)
    (kk : ∀ (x' : LSt) (wx' wm' : va_W) (H' : Heap) (locs' : List Loc), JI K h q x' wx' wm' → wT D A wx' wm' s H' locs' → W p l e room_1 s m args below meth c H' locs' (cells + 2) (slots + 8) Q (F0 m 670 ls [])) : W p l e room_1 s m args below meth c H locs cells slots Q (F0 m 217 ls []) := by
  have hx := C.1.1
  have hb := C.1.2.1
  obtain ⟨fs, hz⟩ := hJ.1.zero
  refine lv_aload_n hx hb d_LW_law_217 rfl (lv_at hl 2 rfl) ?_
  refine lv_aload_n hx hb d_LW_law_218 rfl (lv_at hl 3 rfl) ?_
  refine lv_iload_n hx hb d_LW_law_219 rfl (lv_at hl 0 rfl) ?_
  refine lv_iconst (v := 1) hx hb d_LW_law_220 (by decide) ?_
  refine lv_iadd hx hb d_LW_law_221 ?_
  refine va_sld hx hb C.2.1 C.2.2.1 C.2.2.2 hw.2.2.2.2.2 (in_1 hi hL) d_LW_law_222 ?_
  refine k2_l C.1 (k2_runV C.1 hw (c_NS_next hJ.1) rfl rfl cf_LW_28 hz rfl rfl ⟨Nat.le_of_ble_eq_true rfl, Nat.le_of_ble_eq_true rfl⟩ rfl hl.1 rfl (Nat.le_of_ble_eq_true rfl) d_LW_law_223 ⟨Nat.le_trans (Nat.add_le_add_left (Nat.le_of_ble_eq_true rfl) _) hc.1, Nat.le_trans (Nat.add_le_add_left (Nat.le_of_ble_eq_true rfl) _) hc.2⟩) hw (fun r1 w1 H locs hq1 hw => ?_)
  obtain ⟨ou, nk, nf, ns, hi0, lo0, mm, em⟩ := hJ.2.1
  rw [em] at hw
  have hw := hw.swap
  refine lv_aload_n hx hb d_LW_law_226 rfl (lv_at hl 1 rfl) ?_
  refine lv_aload_n hx hb d_LW_law_227 rfl (lv_at hl 3 rfl) ?_
  refine lv_iload_n hx hb d_LW_law_228 rfl (lv_at hl 0 rfl) ?_
  refine lv_iconst (v := 1) hx hb d_LW_law_229 (by decide) ?_
  refine lv_iadd hx hb d_LW_law_230 ?_
  refine va_sld hx hb C.2.1 C.2.2.1 C.2.2.2 hw.2.2.2.2.2 (in_1 hi hL) d_LW_law_231 ?_
  refine k2_l C.1 (k2_runV C.1 hw (c_MD_next hJ.2.2.1) rfl rfl cf_LW_32 mw_0 rfl rfl ⟨Nat.le_of_ble_eq_true rfl, Nat.le_of_ble_eq_true rfl⟩ rfl hl.1 rfl (Nat.le_of_ble_eq_true rfl) d_LW_law_232 ⟨Nat.le_trans (by show cells + 0 + 0 ≤ cells + 2; omega) hc.1, Nat.le_trans (by show slots + 0 + 0 ≤ slots + 8; omega) hc.2⟩) hw (fun r2 w2 H locs hq2 hw => ?_)
  have hw := hw.swap
  refine W.lcmp hx hb d_LW_law_235 ?_
  refine lv_if_eq (tgt := 670) hx hb d_LW_law_236 rfl (fun _ => ?_) (fun hn => absurd ((lg_cmp_eq _ _).mpr (hq1.1.trans hq2.1.symm)) hn)
  refine W.widen (by show cells + 0 + 0 ≤ cells + 2; omega) (by show slots + 0 + 0 ≤ slots + 8; omega) (kk ⟨x.kd, (nx1 x.kd x.f1 x.f2 (xs (nI i + 1).toNatClampNeg)), (nx2 x.kd x.f1 x.f2 (xs (nI i + 1).toNatClampNeg)), x.rc, x.sz, x.sd, x.ix, x.wt, x.cd⟩ w1 w2 _ _ ⟨?_, ?_, (i1_next hJ.2.2.1 _), hJ.2.2.2.1, hJ.2.2.2.2⟩ hw)
  · exact hq1.2
  · exact hq2.2
set_option maxRecDepth 100000 in
set_option maxHeartbeats 4000000 in
theorem lt_jump {p : Program} {l : Launch} {e : Env} {s : State} {m : MethodId} {args : Array Value} {below : List Frame} {meth : Method} {c : Code} {H : Heap} {locs : List Loc} {cells slots : Nat} {Q : State → Prop} {b L : Nat} {xs : Nat → Int32} {D : va_G} {K : Nat → ClassId} {A : Nat → Prop} {h : Nat} {q : Nat → Nat} {x : LSt} {wx wm : va_W} {ls : Array Slot} {i : Nat} (C : cL p s m args meth c b L xs D K A) (hw : wT D A wx wm s H locs) (hJ : JI K h q x wx wm) (hl : lv_has ls 4 [(3, .int (nI i)), (2, .ref (q 0)), (1, .ref h), (0, .ref b)]) (hi : i + 4 ≤ L) (hL : L ≤ 2048) (hc : cells + 2 ≤ room_1.cells ∧ slots + 8 ≤ room_1.slots)
    (kk : ∀ (x' : LSt) (wx' wm' : va_W) (H' : Heap) (locs' : List Loc), JI K h q x' wx' wm' → wT D A wx' wm' s H' locs' → W p l e room_1 s m args below meth c H' locs' (cells + 2) (slots + 8) Q (F0 m 670 ls [])) : W p l e room_1 s m args below meth c H locs cells slots Q (F0 m 241 ls []) := by
  have hx := C.1.1
  have hb := C.1.2.1
  obtain ⟨fs, hz⟩ := hJ.1.zero
  refine lv_aload_n hx hb d_LW_law_241 rfl (lv_at hl 2 rfl) ?_
  refine lv_aload_n hx hb d_LW_law_242 rfl (lv_at hl 3 rfl) ?_
  refine lv_iload_n hx hb d_LW_law_243 rfl (lv_at hl 0 rfl) ?_
  refine lv_iconst (v := 1) hx hb d_LW_law_244 (by decide) ?_
  refine lv_iadd hx hb d_LW_law_245 ?_
  refine va_sld hx hb C.2.1 C.2.2.1 C.2.2.2 hw.2.2.2.2.2 (in_1 hi hL) d_LW_law_246 ?_
  refine lv_aload_n hx hb d_LW_law_247 rfl (lv_at hl 3 rfl) ?_
  refine lv_iload_n hx hb d_LW_law_248 rfl (lv_at hl 0 rfl) ?_
  refine lv_iconst (v := 2) hx hb d_LW_law_249 (by decide) ?_
  refine lv_iadd hx hb d_LW_law_250 ?_
  refine va_sld hx hb C.2.1 C.2.2.1 C.2.2.2 hw.2.2.2.2.2 (in_2 hi hL) d_LW_law_251 ?_
  refine k2_i C.1 (k2_runV C.1 hw (c_NS_jump hJ.1) rfl rfl cf_LW_33 hz rfl rfl ⟨Nat.le_of_ble_eq_true rfl, Nat.le_of_ble_eq_true rfl⟩ rfl hl.1 rfl (Nat.le_of_ble_eq_true rfl) d_LW_law_252 ⟨Nat.le_trans (Nat.add_le_add_left (Nat.le_of_ble_eq_true rfl) _) hc.1, Nat.le_trans (Nat.add_le_add_left (Nat.le_of_ble_eq_true rfl) _) hc.2⟩) hw (fun r1 w1 H locs hq1 hw => ?_)
  obtain ⟨ou, nk, nf, ns, hi0, lo0, mm, em⟩ := hJ.2.1
  rw [em] at hw
  have hw := hw.swap
  refine lv_aload_n hx hb d_LW_law_255 rfl (lv_at hl 1 rfl) ?_
  refine lv_aload_n hx hb d_LW_law_256 rfl (lv_at hl 3 rfl) ?_
  refine lv_iload_n hx hb d_LW_law_257 rfl (lv_at hl 0 rfl) ?_
  refine lv_iconst (v := 1) hx hb d_LW_law_258 (by decide) ?_
  refine lv_iadd hx hb d_LW_law_259 ?_
  refine va_sld hx hb C.2.1 C.2.2.1 C.2.2.2 hw.2.2.2.2.2 (in_1 hi hL) d_LW_law_260 ?_
  refine lv_aload_n hx hb d_LW_law_261 rfl (lv_at hl 3 rfl) ?_
  refine lv_iload_n hx hb d_LW_law_262 rfl (lv_at hl 0 rfl) ?_
  refine lv_iconst (v := 2) hx hb d_LW_law_263 (by decide) ?_
  refine lv_iadd hx hb d_LW_law_264 ?_
  refine va_sld hx hb C.2.1 C.2.2.1 C.2.2.2 hw.2.2.2.2.2 (in_2 hi hL) d_LW_law_265 ?_
  refine k2_i C.1 (k2_runV C.1 hw (c_MD_jump hJ.2.2.1) rfl rfl cf_LW_37 mw_0 rfl rfl ⟨Nat.le_of_ble_eq_true rfl, Nat.le_of_ble_eq_true rfl⟩ rfl hl.1 rfl (Nat.le_of_ble_eq_true rfl) d_LW_law_266 ⟨Nat.le_trans (by show cells + 0 + 0 ≤ cells + 2; omega) hc.1, Nat.le_trans (by show slots + 0 + 0 ≤ slots + 8; omega) hc.2⟩) hw (fun r2 w2 H locs hq2 hw => ?_)
  have hw := hw.swap
  refine lv_icmp_eq (tgt := 670) hx hb d_LW_law_269 rfl (fun _ => ?_) (fun hn => absurd (hq1.1.trans hq2.1.symm) hn)
  refine W.widen (by show cells + 0 + 0 ≤ cells + 2; omega) (by show slots + 0 + 0 ≤ slots + 8; omega) (kk ⟨x.kd, (jp1 x.kd x.f1 x.f2 (xs (nI i + 1).toNatClampNeg) (xs (nI i + 2).toNatClampNeg)), (jp2 x.kd x.f1 x.f2 (xs (nI i + 1).toNatClampNeg) (xs (nI i + 2).toNatClampNeg)), x.rc, x.sz, x.sd, x.ix, x.wt, x.cd⟩ w1 w2 _ _ ⟨?_, ?_, (i1_jump hJ.2.2.1 _ _), hJ.2.2.2.1, hJ.2.2.2.2⟩ hw)
  · exact hq1.2
  · exact hq2.2
set_option maxRecDepth 100000 in
set_option maxHeartbeats 4000000 in
theorem lt_draw {p : Program} {l : Launch} {e : Env} {s : State} {m : MethodId} {args : Array Value} {below : List Frame} {meth : Method} {c : Code} {H : Heap} {locs : List Loc} {cells slots : Nat} {Q : State → Prop} {b L : Nat} {xs : Nat → Int32} {D : va_G} {K : Nat → ClassId} {A : Nat → Prop} {h : Nat} {q : Nat → Nat} {x : LSt} {wx wm : va_W} {ls : Array Slot} {i : Nat} (C : cL p s m args meth c b L xs D K A) (hw : wT D A wx wm s H locs) (hJ : JI K h q x wx wm) (hl : lv_has ls 4 [(3, .int (nI i)), (2, .ref (q 0)), (1, .ref h), (0, .ref b)]) (hi : i + 4 ≤ L) (hL : L ≤ 2048) (hc : cells + 2 ≤ room_1.cells ∧ slots + 8 ≤ room_1.slots)
    (kk : ∀ (x' : LSt) (wx' wm' : va_W) (H' : Heap) (locs' : List Loc), JI K h q x' wx' wm' → wT D A wx' wm' s H' locs' → W p l e room_1 s m args below meth c H' locs' (cells + 2) (slots + 8) Q (F0 m 670 ls [])) : W p l e room_1 s m args below meth c H locs cells slots Q (F0 m 274 ls []) := by
  have hx := C.1.1
  have hb := C.1.2.1
  obtain ⟨fs, hz⟩ := hJ.1.zero
  refine lv_aload_n hx hb d_LW_law_274 rfl (lv_at hl 2 rfl) ?_
  refine lv_aload_n hx hb d_LW_law_275 rfl (lv_at hl 3 rfl) ?_
  refine lv_iload_n hx hb d_LW_law_276 rfl (lv_at hl 0 rfl) ?_
  refine lv_iconst (v := 1) hx hb d_LW_law_277 (by decide) ?_
  refine lv_iadd hx hb d_LW_law_278 ?_
  refine va_sld hx hb C.2.1 C.2.2.1 C.2.2.2 hw.2.2.2.2.2 (in_1 hi hL) d_LW_law_279 ?_
  refine lv_aload_n hx hb d_LW_law_280 rfl (lv_at hl 3 rfl) ?_
  refine lv_iload_n hx hb d_LW_law_281 rfl (lv_at hl 0 rfl) ?_
  refine lv_iconst (v := 2) hx hb d_LW_law_282 (by decide) ?_
  refine lv_iadd hx hb d_LW_law_283 ?_
  refine va_sld hx hb C.2.1 C.2.2.1 C.2.2.2 hw.2.2.2.2.2 (in_2 hi hL) d_LW_law_284 ?_
  refine k2_i C.1 (k2_runV C.1 hw (c_NS_draw hJ.1) rfl rfl cf_LW_38 hz rfl rfl ⟨Nat.le_of_ble_eq_true rfl, Nat.le_of_ble_eq_true rfl⟩ rfl hl.1 rfl (Nat.le_of_ble_eq_true rfl) d_LW_law_285 ⟨Nat.le_trans (Nat.add_le_add_left (Nat.le_of_ble_eq_true rfl) _) hc.1, Nat.le_trans (Nat.add_le_add_left (Nat.le_of_ble_eq_true rfl) _) hc.2⟩) hw (fun r1 w1 H locs hq1 hw => ?_)
  obtain ⟨ou, nk, nf, ns, hi0, lo0, mm, em⟩ := hJ.2.1
  rw [em] at hw
  have hw := hw.swap
  refine lv_aload_n hx hb d_LW_law_288 rfl (lv_at hl 1 rfl) ?_
  refine lv_aload_n hx hb d_LW_law_289 rfl (lv_at hl 3 rfl) ?_
  refine lv_iload_n hx hb d_LW_law_290 rfl (lv_at hl 0 rfl) ?_
  refine lv_iconst (v := 1) hx hb d_LW_law_291 (by decide) ?_
  refine lv_iadd hx hb d_LW_law_292 ?_
  refine va_sld hx hb C.2.1 C.2.2.1 C.2.2.2 hw.2.2.2.2.2 (in_1 hi hL) d_LW_law_293 ?_
  refine lv_aload_n hx hb d_LW_law_294 rfl (lv_at hl 3 rfl) ?_
  refine lv_iload_n hx hb d_LW_law_295 rfl (lv_at hl 0 rfl) ?_
  refine lv_iconst (v := 2) hx hb d_LW_law_296 (by decide) ?_
  refine lv_iadd hx hb d_LW_law_297 ?_
  refine va_sld hx hb C.2.1 C.2.2.1 C.2.2.2 hw.2.2.2.2.2 (in_2 hi hL) d_LW_law_298 ?_
  refine k2_i C.1 (k2_runV C.1 hw (c_MD_draw hJ.2.2.1) rfl rfl cf_LW_42 mw_0 rfl rfl ⟨Nat.le_of_ble_eq_true rfl, Nat.le_of_ble_eq_true rfl⟩ rfl hl.1 rfl (Nat.le_of_ble_eq_true rfl) d_LW_law_299 ⟨Nat.le_trans (by show cells + 0 + 0 ≤ cells + 2; omega) hc.1, Nat.le_trans (by show slots + 0 + 0 ≤ slots + 8; omega) hc.2⟩) hw (fun r2 w2 H locs hq2 hw => ?_)
  have hw := hw.swap
  refine lv_icmp_eq (tgt := 670) hx hb d_LW_law_302 rfl (fun _ => ?_) (fun hn => absurd (hq1.1.trans hq2.1.symm) hn)
  refine W.widen (by show cells + 0 + 0 ≤ cells + 2; omega) (by show slots + 0 + 0 ≤ slots + 8; omega) (kk ⟨x.kd, (dr1 x.kd x.f1 x.f2 (xs (nI i + 1).toNatClampNeg) (xs (nI i + 2).toNatClampNeg)), (dr2 x.kd x.f1 x.f2 (xs (nI i + 1).toNatClampNeg) (xs (nI i + 2).toNatClampNeg)), x.rc, x.sz, x.sd, x.ix, x.wt, x.cd⟩ w1 w2 _ _ ⟨?_, ?_, (i1_draw hJ.2.2.1 _ _), hJ.2.2.2.1, hJ.2.2.2.2⟩ hw)
  · exact hq1.2
  · exact hq2.2
set_option maxRecDepth 100000 in
set_option maxHeartbeats 4000000 in
theorem lt_same {p : Program} {l : Launch} {e : Env} {s : State} {m : MethodId} {args : Array Value} {below : List Frame} {meth : Method} {c : Code} {H : Heap} {locs : List Loc} {cells slots : Nat} {Q : State → Prop} {b L : Nat} {xs : Nat → Int32} {D : va_G} {K : Nat → ClassId} {A : Nat → Prop} {h : Nat} {q : Nat → Nat} {x : LSt} {wx wm : va_W} {ls : Array Slot} {i : Nat} (C : cL p s m args meth c b L xs D K A) (hw : wT D A wx wm s H locs) (hJ : JI K h q x wx wm) (hl : lv_has ls 4 [(3, .int (nI i)), (2, .ref (q 0)), (1, .ref h), (0, .ref b)]) (hi : i + 4 ≤ L) (hL : L ≤ 2048) (hc : cells + 2 ≤ room_1.cells ∧ slots + 8 ≤ room_1.slots)
    (kk : ∀ (x' : LSt) (wx' wm' : va_W) (H' : Heap) (locs' : List Loc), JI K h q x' wx' wm' → wT D A wx' wm' s H' locs' → W p l e room_1 s m args below meth c H' locs' (cells + 2) (slots + 8) Q (F0 m 670 ls [])) : W p l e room_1 s m args below meth c H locs cells slots Q (F0 m 307 ls []) := by
  have hx := C.1.1
  have hb := C.1.2.1
  obtain ⟨fs, hz⟩ := hJ.1.zero
  refine lv_aload_n hx hb d_LW_law_307 rfl (lv_at hl 2 rfl) ?_
  refine lv_aload_n hx hb d_LW_law_308 rfl (lv_at hl 3 rfl) ?_
  refine lv_iload_n hx hb d_LW_law_309 rfl (lv_at hl 0 rfl) ?_
  refine lv_iconst (v := 1) hx hb d_LW_law_310 (by decide) ?_
  refine lv_iadd hx hb d_LW_law_311 ?_
  refine va_sld hx hb C.2.1 C.2.2.1 C.2.2.2 hw.2.2.2.2.2 (in_1 hi hL) d_LW_law_312 ?_
  refine lv_aload_n hx hb d_LW_law_313 rfl (lv_at hl 3 rfl) ?_
  refine lv_iload_n hx hb d_LW_law_314 rfl (lv_at hl 0 rfl) ?_
  refine lv_iconst (v := 2) hx hb d_LW_law_315 (by decide) ?_
  refine lv_iadd hx hb d_LW_law_316 ?_
  refine va_sld hx hb C.2.1 C.2.2.1 C.2.2.2 hw.2.2.2.2.2 (in_2 hi hL) d_LW_law_317 ?_
  refine k2_i C.1 (k2_runV C.1 hw (c_NS_same hJ.1) rfl rfl cf_LW_43 hz rfl rfl ⟨Nat.le_of_ble_eq_true rfl, Nat.le_of_ble_eq_true rfl⟩ rfl hl.1 rfl (Nat.le_of_ble_eq_true rfl) d_LW_law_318 ⟨Nat.le_trans (Nat.add_le_add_left (Nat.le_of_ble_eq_true rfl) _) hc.1, Nat.le_trans (Nat.add_le_add_left (Nat.le_of_ble_eq_true rfl) _) hc.2⟩) hw (fun r1 w1 H locs hq1 hw => ?_)
  obtain ⟨ou, nk, nf, ns, hi0, lo0, mm, em⟩ := hJ.2.1
  rw [em] at hw
  have hw := hw.swap
  refine lv_aload_n hx hb d_LW_law_321 rfl (lv_at hl 1 rfl) ?_
  refine lv_aload_n hx hb d_LW_law_322 rfl (lv_at hl 3 rfl) ?_
  refine lv_iload_n hx hb d_LW_law_323 rfl (lv_at hl 0 rfl) ?_
  refine lv_iconst (v := 1) hx hb d_LW_law_324 (by decide) ?_
  refine lv_iadd hx hb d_LW_law_325 ?_
  refine va_sld hx hb C.2.1 C.2.2.1 C.2.2.2 hw.2.2.2.2.2 (in_1 hi hL) d_LW_law_326 ?_
  refine lv_aload_n hx hb d_LW_law_327 rfl (lv_at hl 3 rfl) ?_
  refine lv_iload_n hx hb d_LW_law_328 rfl (lv_at hl 0 rfl) ?_
  refine lv_iconst (v := 2) hx hb d_LW_law_329 (by decide) ?_
  refine lv_iadd hx hb d_LW_law_330 ?_
  refine va_sld hx hb C.2.1 C.2.2.1 C.2.2.2 hw.2.2.2.2.2 (in_2 hi hL) d_LW_law_331 ?_
  refine k2_i C.1 (k2_runV C.1 hw (c_MD_same) rfl rfl cf_LW_46 mw_0 rfl rfl ⟨Nat.le_of_ble_eq_true rfl, Nat.le_of_ble_eq_true rfl⟩ rfl hl.1 rfl (Nat.le_of_ble_eq_true rfl) d_LW_law_332 ⟨Nat.le_trans (by show cells + 0 + 0 ≤ cells + 2; omega) hc.1, Nat.le_trans (by show slots + 0 + 0 ≤ slots + 8; omega) hc.2⟩) hw (fun r2 w2 H locs hq2 hw => ?_)
  have hw := hw.swap
  refine lv_icmp_eq (tgt := 670) hx hb d_LW_law_335 rfl (fun _ => ?_) (fun hn => absurd (hq1.1.trans hq2.1.symm) hn)
  refine W.widen (by show cells + 0 + 0 ≤ cells + 2; omega) (by show slots + 0 + 0 ≤ slots + 8; omega) (kk ⟨x.kd, x.f1, x.f2, x.rc, x.sz, x.sd, x.ix, x.wt, x.cd⟩ w1 w2 _ _ ⟨?_, ?_, hJ.2.2.1, hJ.2.2.2.1, hJ.2.2.2.2⟩ hw)
  · rw [hq1.2]; exact hJ.1
  · rw [hq2.2, ← em]; exact hJ.2.1
set_option maxRecDepth 100000 in
set_option maxHeartbeats 4000000 in
theorem lt_save {p : Program} {l : Launch} {e : Env} {s : State} {m : MethodId} {args : Array Value} {below : List Frame} {meth : Method} {c : Code} {H : Heap} {locs : List Loc} {cells slots : Nat} {Q : State → Prop} {b L : Nat} {xs : Nat → Int32} {D : va_G} {K : Nat → ClassId} {A : Nat → Prop} {h : Nat} {q : Nat → Nat} {x : LSt} {wx wm : va_W} {ls : Array Slot} {i : Nat} (C : cL p s m args meth c b L xs D K A) (hw : wT D A wx wm s H locs) (hJ : JI K h q x wx wm) (hl : lv_has ls 4 [(3, .int (nI i)), (2, .ref (q 0)), (1, .ref h), (0, .ref b)]) (hi : i + 4 ≤ L) (hL : L ≤ 2048) (hc : cells + 2 ≤ room_1.cells ∧ slots + 8 ≤ room_1.slots)
    (kk : ∀ (x' : LSt) (wx' wm' : va_W) (H' : Heap) (locs' : List Loc), JI K h q x' wx' wm' → wT D A wx' wm' s H' locs' → W p l e room_1 s m args below meth c H' locs' (cells + 2) (slots + 8) Q (F0 m 670 ls [])) : W p l e room_1 s m args below meth c H locs cells slots Q (F0 m 340 ls []) := by
  have hx := C.1.1
  have hb := C.1.2.1
  obtain ⟨fs, hz⟩ := hJ.1.zero
  refine lv_aload_n hx hb d_LW_law_340 rfl (lv_at hl 2 rfl) ?_
  refine lv_aload_n hx hb d_LW_law_341 rfl (lv_at hl 3 rfl) ?_
  refine lv_iload_n hx hb d_LW_law_342 rfl (lv_at hl 0 rfl) ?_
  refine lv_iconst (v := 1) hx hb d_LW_law_343 (by decide) ?_
  refine lv_iadd hx hb d_LW_law_344 ?_
  refine va_sld hx hb C.2.1 C.2.2.1 C.2.2.2 hw.2.2.2.2.2 (in_1 hi hL) d_LW_law_345 ?_
  refine k2_i C.1 (k2_runV C.1 hw (c_NS_save hJ.1) rfl rfl cf_LW_47 hz rfl rfl ⟨Nat.le_of_ble_eq_true rfl, Nat.le_of_ble_eq_true rfl⟩ rfl hl.1 rfl (Nat.le_of_ble_eq_true rfl) d_LW_law_346 ⟨Nat.le_trans (Nat.add_le_add_left (Nat.le_of_ble_eq_true rfl) _) hc.1, Nat.le_trans (Nat.add_le_add_left (Nat.le_of_ble_eq_true rfl) _) hc.2⟩) hw (fun r1 w1 H locs hq1 hw => ?_)
  obtain ⟨ou, nk, nf, ns, hi0, lo0, mm, em⟩ := hJ.2.1
  rw [em] at hw
  have hw := hw.swap
  refine lv_aload_n hx hb d_LW_law_349 rfl (lv_at hl 1 rfl) ?_
  refine lv_aload_n hx hb d_LW_law_350 rfl (lv_at hl 3 rfl) ?_
  refine lv_iload_n hx hb d_LW_law_351 rfl (lv_at hl 0 rfl) ?_
  refine lv_iconst (v := 1) hx hb d_LW_law_352 (by decide) ?_
  refine lv_iadd hx hb d_LW_law_353 ?_
  refine va_sld hx hb C.2.1 C.2.2.1 C.2.2.2 hw.2.2.2.2.2 (in_1 hi hL) d_LW_law_354 ?_
  refine k2_i C.1 (k2_runV C.1 hw (c_MD_save hJ.1.six.1) rfl rfl cf_LW_50 mw_0 rfl rfl ⟨Nat.le_of_ble_eq_true rfl, Nat.le_of_ble_eq_true rfl⟩ rfl hl.1 rfl (Nat.le_of_ble_eq_true rfl) d_LW_law_355 ⟨Nat.le_trans (by show cells + 2 + 0 ≤ cells + 2; omega) hc.1, Nat.le_trans (by show slots + 8 + 0 ≤ slots + 8; omega) hc.2⟩) hw (fun r2 w2 H locs hq2 hw => ?_)
  have hw := hw.swap
  refine lv_icmp_eq (tgt := 670) hx hb d_LW_law_358 rfl (fun _ => ?_) (fun hn => absurd (hq1.1.trans hq2.1.symm) hn)
  refine W.widen (by show cells + 2 + 0 ≤ cells + 2; omega) (by show slots + 8 + 0 ≤ slots + 8; omega) (kk ⟨x.kd, x.f1, x.f2, (saR x.kd x.rc (xs (nI i + 1).toNatClampNeg)), (saZ x.kd x.rc x.sz (xs (nI i + 1).toNatClampNeg)), (saD x.kd x.f1 x.f2 x.rc x.sd (xs (nI i + 1).toNatClampNeg)), x.ix, x.wt, x.cd⟩ w1 w2 _ _ ⟨?_, ?_, hJ.2.2.1, hJ.2.2.2.1, hJ.2.2.2.2⟩ hw)
  · exact hq1.2
  · exact hq2.2
set_option maxRecDepth 100000 in
set_option maxHeartbeats 4000000 in
theorem lt_length {p : Program} {l : Launch} {e : Env} {s : State} {m : MethodId} {args : Array Value} {below : List Frame} {meth : Method} {c : Code} {H : Heap} {locs : List Loc} {cells slots : Nat} {Q : State → Prop} {b L : Nat} {xs : Nat → Int32} {D : va_G} {K : Nat → ClassId} {A : Nat → Prop} {h : Nat} {q : Nat → Nat} {x : LSt} {wx wm : va_W} {ls : Array Slot} {i : Nat} (C : cL p s m args meth c b L xs D K A) (hw : wT D A wx wm s H locs) (hJ : JI K h q x wx wm) (hl : lv_has ls 4 [(3, .int (nI i)), (2, .ref (q 0)), (1, .ref h), (0, .ref b)]) (hi : i + 4 ≤ L) (hL : L ≤ 2048) (hc : cells + 2 ≤ room_1.cells ∧ slots + 8 ≤ room_1.slots)
    (kk : ∀ (x' : LSt) (wx' wm' : va_W) (H' : Heap) (locs' : List Loc), JI K h q x' wx' wm' → wT D A wx' wm' s H' locs' → W p l e room_1 s m args below meth c H' locs' (cells + 2) (slots + 8) Q (F0 m 670 ls [])) : W p l e room_1 s m args below meth c H locs cells slots Q (F0 m 363 ls []) := by
  have hx := C.1.1
  have hb := C.1.2.1
  obtain ⟨fs, hz⟩ := hJ.1.zero
  refine lv_aload_n hx hb d_LW_law_363 rfl (lv_at hl 2 rfl) ?_
  refine lv_aload_n hx hb d_LW_law_364 rfl (lv_at hl 3 rfl) ?_
  refine lv_iload_n hx hb d_LW_law_365 rfl (lv_at hl 0 rfl) ?_
  refine lv_iconst (v := 1) hx hb d_LW_law_366 (by decide) ?_
  refine lv_iadd hx hb d_LW_law_367 ?_
  refine va_sld hx hb C.2.1 C.2.2.1 C.2.2.2 hw.2.2.2.2.2 (in_1 hi hL) d_LW_law_368 ?_
  refine k2_i C.1 (k2_runV C.1 hw (c_NS_length hJ.1) rfl rfl cf_LW_51 hz rfl rfl ⟨Nat.le_of_ble_eq_true rfl, Nat.le_of_ble_eq_true rfl⟩ rfl hl.1 rfl (Nat.le_of_ble_eq_true rfl) d_LW_law_369 ⟨Nat.le_trans (Nat.add_le_add_left (Nat.le_of_ble_eq_true rfl) _) hc.1, Nat.le_trans (Nat.add_le_add_left (Nat.le_of_ble_eq_true rfl) _) hc.2⟩) hw (fun r1 w1 H locs hq1 hw => ?_)
  obtain ⟨ou, nk, nf, ns, hi0, lo0, mm, em⟩ := hJ.2.1
  rw [em] at hw
  have hw := hw.swap
  refine lv_aload_n hx hb d_LW_law_372 rfl (lv_at hl 1 rfl) ?_
  refine lv_aload_n hx hb d_LW_law_373 rfl (lv_at hl 3 rfl) ?_
  refine lv_iload_n hx hb d_LW_law_374 rfl (lv_at hl 0 rfl) ?_
  refine lv_iconst (v := 1) hx hb d_LW_law_375 (by decide) ?_
  refine lv_iadd hx hb d_LW_law_376 ?_
  refine va_sld hx hb C.2.1 C.2.2.1 C.2.2.2 hw.2.2.2.2.2 (in_1 hi hL) d_LW_law_377 ?_
  refine k2_i C.1 (k2_runV C.1 hw (c_MD_length hJ.1.six.1) rfl rfl cf_LW_54 mw_0 rfl rfl ⟨Nat.le_of_ble_eq_true rfl, Nat.le_of_ble_eq_true rfl⟩ rfl hl.1 rfl (Nat.le_of_ble_eq_true rfl) d_LW_law_378 ⟨Nat.le_trans (by show cells + 0 + 0 ≤ cells + 2; omega) hc.1, Nat.le_trans (by show slots + 0 + 0 ≤ slots + 8; omega) hc.2⟩) hw (fun r2 w2 H locs hq2 hw => ?_)
  have hw := hw.swap
  refine lv_icmp_eq (tgt := 670) hx hb d_LW_law_381 rfl (fun _ => ?_) (fun hn => absurd (hq1.1.trans hq2.1.symm) hn)
  refine W.widen (by show cells + 0 + 0 ≤ cells + 2; omega) (by show slots + 0 + 0 ≤ slots + 8; omega) (kk ⟨x.kd, x.f1, x.f2, x.rc, x.sz, x.sd, x.ix, x.wt, x.cd⟩ w1 w2 _ _ ⟨?_, ?_, hJ.2.2.1, hJ.2.2.2.1, hJ.2.2.2.2⟩ hw)
  · rw [hq1.2]; exact hJ.1
  · rw [hq2.2, ← em]; exact hJ.2.1
set_option maxRecDepth 100000 in
set_option maxHeartbeats 4000000 in
theorem lt_word {p : Program} {l : Launch} {e : Env} {s : State} {m : MethodId} {args : Array Value} {below : List Frame} {meth : Method} {c : Code} {H : Heap} {locs : List Loc} {cells slots : Nat} {Q : State → Prop} {b L : Nat} {xs : Nat → Int32} {D : va_G} {K : Nat → ClassId} {A : Nat → Prop} {h : Nat} {q : Nat → Nat} {x : LSt} {wx wm : va_W} {ls : Array Slot} {i : Nat} (C : cL p s m args meth c b L xs D K A) (hw : wT D A wx wm s H locs) (hJ : JI K h q x wx wm) (hl : lv_has ls 4 [(3, .int (nI i)), (2, .ref (q 0)), (1, .ref h), (0, .ref b)]) (hi : i + 4 ≤ L) (hL : L ≤ 2048) (hc : cells + 2 ≤ room_1.cells ∧ slots + 8 ≤ room_1.slots)
    (kk : ∀ (x' : LSt) (wx' wm' : va_W) (H' : Heap) (locs' : List Loc), JI K h q x' wx' wm' → wT D A wx' wm' s H' locs' → W p l e room_1 s m args below meth c H' locs' (cells + 2) (slots + 8) Q (F0 m 670 ls [])) : W p l e room_1 s m args below meth c H locs cells slots Q (F0 m 386 ls []) := by
  have hx := C.1.1
  have hb := C.1.2.1
  obtain ⟨fs, hz⟩ := hJ.1.zero
  refine lv_aload_n hx hb d_LW_law_386 rfl (lv_at hl 2 rfl) ?_
  refine lv_aload_n hx hb d_LW_law_387 rfl (lv_at hl 3 rfl) ?_
  refine lv_iload_n hx hb d_LW_law_388 rfl (lv_at hl 0 rfl) ?_
  refine lv_iconst (v := 1) hx hb d_LW_law_389 (by decide) ?_
  refine lv_iadd hx hb d_LW_law_390 ?_
  refine va_sld hx hb C.2.1 C.2.2.1 C.2.2.2 hw.2.2.2.2.2 (in_1 hi hL) d_LW_law_391 ?_
  refine lv_aload_n hx hb d_LW_law_392 rfl (lv_at hl 3 rfl) ?_
  refine lv_iload_n hx hb d_LW_law_393 rfl (lv_at hl 0 rfl) ?_
  refine lv_iconst (v := 2) hx hb d_LW_law_394 (by decide) ?_
  refine lv_iadd hx hb d_LW_law_395 ?_
  refine va_sld hx hb C.2.1 C.2.2.1 C.2.2.2 hw.2.2.2.2.2 (in_2 hi hL) d_LW_law_396 ?_
  refine k2_i C.1 (k2_runV C.1 hw (c_NS_word hJ.1) rfl rfl cf_LW_55 hz rfl rfl ⟨Nat.le_of_ble_eq_true rfl, Nat.le_of_ble_eq_true rfl⟩ rfl hl.1 rfl (Nat.le_of_ble_eq_true rfl) d_LW_law_397 ⟨Nat.le_trans (Nat.add_le_add_left (Nat.le_of_ble_eq_true rfl) _) hc.1, Nat.le_trans (Nat.add_le_add_left (Nat.le_of_ble_eq_true rfl) _) hc.2⟩) hw (fun r1 w1 H locs hq1 hw => ?_)
  obtain ⟨ou, nk, nf, ns, hi0, lo0, mm, em⟩ := hJ.2.1
  rw [em] at hw
  have hw := hw.swap
  refine lv_aload_n hx hb d_LW_law_400 rfl (lv_at hl 1 rfl) ?_
  refine lv_aload_n hx hb d_LW_law_401 rfl (lv_at hl 3 rfl) ?_
  refine lv_iload_n hx hb d_LW_law_402 rfl (lv_at hl 0 rfl) ?_
  refine lv_iconst (v := 1) hx hb d_LW_law_403 (by decide) ?_
  refine lv_iadd hx hb d_LW_law_404 ?_
  refine va_sld hx hb C.2.1 C.2.2.1 C.2.2.2 hw.2.2.2.2.2 (in_1 hi hL) d_LW_law_405 ?_
  refine lv_aload_n hx hb d_LW_law_406 rfl (lv_at hl 3 rfl) ?_
  refine lv_iload_n hx hb d_LW_law_407 rfl (lv_at hl 0 rfl) ?_
  refine lv_iconst (v := 2) hx hb d_LW_law_408 (by decide) ?_
  refine lv_iadd hx hb d_LW_law_409 ?_
  refine va_sld hx hb C.2.1 C.2.2.1 C.2.2.2 hw.2.2.2.2.2 (in_2 hi hL) d_LW_law_410 ?_
  refine k2_i C.1 (k2_runV C.1 hw (c_MD_word hJ.1.six.1 hJ.1.six.2) rfl rfl cf_LW_58 mw_0 rfl rfl ⟨Nat.le_of_ble_eq_true rfl, Nat.le_of_ble_eq_true rfl⟩ rfl hl.1 rfl (Nat.le_of_ble_eq_true rfl) d_LW_law_411 ⟨Nat.le_trans (by show cells + 0 + 0 ≤ cells + 2; omega) hc.1, Nat.le_trans (by show slots + 0 + 0 ≤ slots + 8; omega) hc.2⟩) hw (fun r2 w2 H locs hq2 hw => ?_)
  have hw := hw.swap
  refine lv_icmp_eq (tgt := 670) hx hb d_LW_law_414 rfl (fun _ => ?_) (fun hn => absurd (hq1.1.trans hq2.1.symm) hn)
  refine W.widen (by show cells + 0 + 0 ≤ cells + 2; omega) (by show slots + 0 + 0 ≤ slots + 8; omega) (kk ⟨x.kd, x.f1, x.f2, x.rc, x.sz, x.sd, x.ix, x.wt, x.cd⟩ w1 w2 _ _ ⟨?_, ?_, hJ.2.2.1, hJ.2.2.2.1, hJ.2.2.2.2⟩ hw)
  · rw [hq1.2]; exact hJ.1
  · rw [hq2.2, ← em]; exact hJ.2.1
