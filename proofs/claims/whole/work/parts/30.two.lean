/-! Two worlds side by side: the class's cells and the reference's. A call gets one of them, the other stays. -/
def wT (D : va_G) (A : Nat → Prop) (wx wm : va_W) (s : State) (H : Heap) (locs : List Loc) : Prop :=
  va_P D vwCl wx H ∧ va_P D vwCl wm H ∧ va_D A wx ∧ va_D A wm ∧ (∀ (i j : Nat) (p q : Nat × va_E), wx[i]? = some p → wm[j]? = some q → p.1 ≠ q.1) ∧ va_S A s.heap H locs
theorem wT.swap {D : va_G} {A : Nat → Prop} {wx wm : va_W} {s : State} {H : Heap} {locs : List Loc} (h : wT D A wx wm s H locs) : wT D A wm wx s H locs := ⟨h.2.1, h.1, h.2.2.2.1, h.2.2.1, fun i j p q hp hq e => h.2.2.2.2.1 j i q p hq hp e.symm, h.2.2.2.2.2⟩
theorem wT.of {D : va_G} {A : Nat → Prop} {wx wm : va_W} {s : State} {H : Heap} {locs : List Loc} (h : wd D A (wx ++ wm) s H locs) : wT D A wx wm s H locs := by
  have hr : ∀ (j : Nat) (q : Nat × va_E), wm[j]? = some q → (wx ++ wm)[wx.length + j]? = some q := fun j q hq => by
    rw [List.getElem?_append_right (by omega), Nat.add_sub_cancel_left]; exact hq
  refine ⟨fun k q hk => h.1 k q (ga_old hk), fun k q hk => h.1 _ q (hr k q hk), ⟨fun i j p q hp hq e => h.2.1.1 i j p q (ga_old hp) (ga_old hq) e, fun k q hk => h.2.1.2 k q (ga_old hk)⟩, ⟨fun i j p q hp hq e => ?_, fun k q hk => h.2.1.2 _ q (hr k q hk)⟩, fun i j p q hp hq e => ?_, h.2.2⟩
  · have := h.2.1.1 _ _ p q (hr i p hp) (hr j q hq) e
    omega
  · have hl : i < wx.length := (List.getElem?_eq_some_iff.mp hp).1
    have := h.2.1.1 _ _ p q (ga_old hp) (hr j q hq) e
    omega
section TWO
variable {p : Program} {l : Launch} {e : Env} {R : Room} {s : State} {m : MethodId} {args : Array Value} {below : List Frame} {meth : Method} {c : Code} {H : Heap} {locs : List Loc} {cells slots : Nat} {Q : State → Prop}
variable {cc : ByteArray} {nL pc index : Nat} {own nm : String} {ret0 : Option FieldType} {D : va_G} {K : Nat → ClassId} {A : Nat → Prop} {wx wm : va_W} {ls : Array Slot} {rest st : List Value}
variable {y : MethodName} {bytes : ByteArray} {maxL n mc ms : Nat} {ret : Option FieldType} {rm : Room} {As : List Value} {Qc : Array Value → State → Outcome → State → Prop}
theorem wT.free (B : cX p s m args meth c cc nL own nm ret0 D K A) (hw : wT D A wx wm s H locs) : ∀ q, va_A wx H.size q → A q := by
  rintro q (⟨k, e0, h⟩ | h)
  · exact hw.2.2.1.2 k _ h
  · exact B.2.2.2.2.2.2.2.2.2.2 q (Nat.le_trans hw.2.2.2.2.2.1 h)
theorem wT.join (B : cX p s m args meth c cc nL own nm ret0 D K A) (hw : wT D A wx wm s H locs) {w1 : va_W} {H1 : Heap} {locs1 : List Loc} (hP : va_P D vwCl w1 H1) (hD : va_D (va_A wx H.size) w1) (hk : ∀ q : Nat, q < H.size → ¬ va_A wx H.size q → H1[q]? = H[q]?) (hS : va_S A s.heap H1 locs1) : wT D A w1 wm s H1 locs1 := by
  have hn : ∀ (j : Nat) (q : Nat × va_E), wm[j]? = some q → q.1 < H.size ∧ ¬ va_A wx H.size q.1 := by
    intro j q hq
    have hlt := (hw.2.1 j q hq).lt
    refine ⟨hlt, ?_⟩
    rintro (⟨k, e0, h⟩ | h)
    · exact hw.2.2.2.2.1 k j _ q h hq rfl
    · omega
  refine ⟨hP, hw.2.1.kept (fun j q hq => hk q.1 (hn j q hq).1 (hn j q hq).2), ⟨hD.1, fun k q hq => hw.free B q.1 (hD.2 k q hq)⟩, hw.2.2.2.1, fun i j p q hp hq e => ?_, hS⟩
  have h1 := hD.2 i p hp
  rw [e] at h1
  exact (hn j q hq).2 h1
theorem k2_pre (B : cX p s m args meth c cc nL own nm ret0 D K A) (hw : wT D A wx wm s H locs) : PreS s H (va_Pc As (pW D K (va_A wx H.size) wx)) As := ⟨pW_blind, fun U hU hW => ⟨rfl, by rw [hU]; exact hw.1, va_K.moved hW.alike B.2.2.2.2.2.2.2.2.1, B.2.2.2.2.2.2.2.2.2.1.warm hW, hw.2.2.1.self, fun q h => Or.inr (by rw [← hU]; exact h)⟩⟩
theorem k2_runV {a q0 ci : Nat} {fs : List Value} {r : vw_C} (B : cX p s m args meth c cc nL own nm ret0 D K A) (hw : wT D A wx wm s H locs) (hM : Met l y (wC y bytes maxL ret) rm (va_Pc (.ref a :: As) (pW D K (va_A wx H.size) wx)) Qc mc ms (va_A wx H.size)) (hrc : rm.cells = mc) (hrs : rm.slots = ms) (cf : cfV own index y bytes maxL ret n) (he : wx[q0]? = some (a, .inr (ci, fs))) (hc : vwCl[ci]? = some r) (hrn : r.1 = y.cls) (hR : rm.frames + 1 ≤ R.frames ∧ 8 + (maxL + 11) + rm.locals ≤ R.locals) (hn : As.length = n) (hl : ls.size = nL) (hst : st = As.reverse ++ .ref a :: rest) (hW : (rest.map fun v => v.category).sum ≤ 8) (hdg : decode cc pc = .ok (.invokevirtual index, 3)) (hf : cells + mc ≤ R.cells ∧ slots + ms ≤ R.slots) :
    va_Run p l e R s m args below meth c H locs cells slots mc ms (F0 m pc ls st) rest (Qc (.ref a :: As).toArray) (va_A wx H.size) := by
  have hp := k2_pre (As := .ref a :: As) B hw
  exact va_runV (Ts := tsW) (C := y.cls) ⟨B.1, B.2.1, B.2.2.1, B.2.2.2.1, B.2.2.2.2.1⟩ hM ⟨callB_of n B.2.2.2.2.1 (gi_tsW cf.1.1) rfl hrc hrs (B.2.2.2.2.1 _ cf.1.2.1) (B.2.2.2.2.1 _ cf.2.1) cf.1.2.2 hR, B.2.2.2.2.1 _ cf.2.2.1, B.2.2.2.2.1 _ cf.2.2.2⟩ ⟨hp.1, hrn ▸ va_recv B.2.2.2.2.2.2.2.2.1 hw.1 hc he, hp.2⟩ rfl hn hl hst (lv_room hW) hdg hf
theorem k2_runI {a : Nat} (B : cX p s m args meth c cc nL own nm ret0 D K A) (hw : wT D A wx wm s H locs) (hM : Met l y (wC y bytes maxL none) rm (va_Pc (.ref a :: As) (pW D K (va_A wx H.size) wx)) Qc mc ms (va_A wx H.size)) (hrc : rm.cells = mc) (hrs : rm.slots = ms) (cf : cfI own index y bytes maxL n) (hR : rm.frames + 1 ≤ R.frames ∧ 8 + (maxL + 11) + rm.locals ≤ R.locals) (hn : As.length = n) (hl : ls.size = nL) (hst : st = As.reverse ++ .ref a :: rest) (hW : (rest.map fun v => v.category).sum ≤ 8) (hdg : decode cc pc = .ok (.invokespecial index, 3)) (hf : cells + mc ≤ R.cells ∧ slots + ms ≤ R.slots) :
    va_Run p l e R s m args below meth c H locs cells slots mc ms (F0 m pc ls st) rest (Qc (.ref a :: As).toArray) (va_A wx H.size) :=
  va_runI (Ts := tsW) ⟨B.1, B.2.1, B.2.2.1, B.2.2.2.1, B.2.2.2.2.1⟩ hM ⟨callB_of n B.2.2.2.2.1 (gi_tsW cf.1.1) rfl hrc hrs (B.2.2.2.2.1 _ cf.1.2.1) (B.2.2.2.2.1 _ cf.2.1) cf.1.2.2 hR, cf.2.2.2, B.2.2.2.2.1 _ cf.2.2.1⟩ (k2_pre B hw) rfl hn hl hst (lv_room hW) hdg hf
theorem k2_i {post : Int32 → va_W → Prop} {a : Array Value} (B : cX p s m args meth c cc nL own nm ret0 D K A) (hr : va_Run p l e R s m args below meth c H locs cells slots mc ms (F0 m pc ls st) rest (va_Qi post (pE D (va_A wx H.size)) (va_A wx H.size) a) (va_A wx H.size)) (hw : wT D A wx wm s H locs)
    (kk : ∀ (r : Int32) (w1 : va_W) (H1 : Heap) (locs1 : List Loc), post r w1 → wT D A w1 wm s H1 locs1 → W p l e R s m args below meth c H1 locs1 (cells + mc) (slots + ms) Q (F0 m (pc + 3) ls (.int r :: rest))) : W p l e R s m args below meth c H locs cells slots Q (F0 m pc ls st) :=
  va_calli hr hw.2.2.2.2.2 (fun q _ h => hw.free B q h) (fun q h => hw.free B q h) (fun r u t H1 locs1 ht _ hp hb _ hk hS => kk r u H1 locs1 hp (hw.join B (by rw [← ht]; exact hb.1) hb.2 hk hS))
theorem k2_l {post : Int64 → va_W → Prop} {a : Array Value} (B : cX p s m args meth c cc nL own nm ret0 D K A) (hr : va_Run p l e R s m args below meth c H locs cells slots mc ms (F0 m pc ls st) rest (va_Ql post (pE D (va_A wx H.size)) (va_A wx H.size) a) (va_A wx H.size)) (hw : wT D A wx wm s H locs)
    (kk : ∀ (r : Int64) (w1 : va_W) (H1 : Heap) (locs1 : List Loc), post r w1 → wT D A w1 wm s H1 locs1 → W p l e R s m args below meth c H1 locs1 (cells + mc) (slots + ms) Q (F0 m (pc + 3) ls (.long r :: rest))) : W p l e R s m args below meth c H locs cells slots Q (F0 m pc ls st) :=
  va_calll hr hw.2.2.2.2.2 (fun q _ h => hw.free B q h) (fun q h => hw.free B q h) (fun r u t H1 locs1 ht _ hp hb _ hk hS => kk r u H1 locs1 hp (hw.join B (by rw [← ht]; exact hb.1) hb.2 hk hS))
theorem k2_v {post : va_W → Prop} {a : Array Value} (B : cX p s m args meth c cc nL own nm ret0 D K A) (hr : va_Run p l e R s m args below meth c H locs cells slots mc ms (F0 m pc ls st) rest (va_Qv post (pE D (va_A wx H.size)) (va_A wx H.size) a) (va_A wx H.size)) (hw : wT D A wx wm s H locs)
    (kk : ∀ (w1 : va_W) (H1 : Heap) (locs1 : List Loc), post w1 → wT D A w1 wm s H1 locs1 → W p l e R s m args below meth c H1 locs1 (cells + mc) (slots + ms) Q (F0 m (pc + 3) ls rest)) : W p l e R s m args below meth c H locs cells slots Q (F0 m pc ls st) :=
  va_callv hr hw.2.2.2.2.2 (fun q _ h => hw.free B q h) (fun q h => hw.free B q h) (fun u t H1 locs1 ht _ hp hb _ hk hS => kk u H1 locs1 hp (hw.join B (by rw [← ht]; exact hb.1) hb.2 hk hS))
/-- a loop whose room grows -/
theorem lp_c {σ : Type} (μ : σ → Nat) (cf sf : σ → Nat) (I : σ → Heap → List Loc → Array Slot → Prop) (step : ∀ (x : σ) (H : Heap) (locs : List Loc) (ls : Array Slot), I x H locs ls → (∀ (x' : σ) (H' : Heap) (locs' : List Loc) (ls' : Array Slot), μ x' < μ x → I x' H' locs' ls' → W p l e R s m args below meth c H' locs' (cf x') (sf x') Q (F0 m pc ls' st)) → W p l e R s m args below meth c H locs (cf x) (sf x) Q (F0 m pc ls st)) :
    ∀ (x : σ) (H : Heap) (locs : List Loc) (ls : Array Slot), I x H locs ls → W p l e R s m args below meth c H locs (cf x) (sf x) Q (F0 m pc ls st) := by
  intro x
  induction hn : μ x using Nat.strongRecOn generalizing x with
  | ind n ih =>
    intro H locs ls h
    exact step x H locs ls h (fun x' H' locs' ls' hlt h' => ih (μ x') (by omega) x' rfl H' locs' ls' h')
end TWO
