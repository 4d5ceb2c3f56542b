/-! My own rows over the kit: one list of words for every method, one picture of the world that is handed whole to every callee and comes back whole, calls and ends in one row each. -/
abbrev wC (y : MethodName) (bytes : ByteArray) (maxL : Nat) (ret : Option FieldType) : List Cond := Cond.code y bytes maxL ret :: tsW
theorem gi_tsW {y : MethodName} {bytes : ByteArray} {maxL : Nat} {ret : Option FieldType} (h : Cond.code y bytes maxL ret ∈ tsW) : GoodIn tsW (wC y bytes maxL ret) := by
  intro w hw
  rcases List.mem_cons.mp hw with rfl | hw
  · exact ⟨h, good_of_word (ts_good h)⟩
  · exact ⟨hw, good_of_word (ts_good hw)⟩
/-- nest mates' words, and arrays over the two classes: kept by hand -/
def nwB : Cond → Bool
  | .fieldLinkNest .. => true
  | .methodLinkNest .. => true
  | _ => false
/-- int[][]'s class, and its component's -/
def ggO (U : State) : Prop := ∃ (cA cI : ClassId) (kA kI : Class) (z : ClassId), U.vm.findClass ("[" ++ (FieldType.array .int).toString) = some cA ∧ U.vm.classes[cA]? = some kA ∧ kA.kind = .array cI (.array .int) ∧ U.vm.findClass ("[" ++ FieldType.int.toString) = some cI ∧ U.vm.classes[cI]? = some kI ∧ kI.kind = .array z .int
theorem ggO.moved {u U : State} (hvm : u.vm.Alike U.vm) (h : ggO u) : ggO U := by
  obtain ⟨cA, cI, kA, kI, z, h1, h2, h3, h4, h5, h6⟩ := h
  obtain ⟨k', hk', he⟩ := hvm.2.2 _ _ h2
  obtain ⟨j', hj', hf⟩ := hvm.2.2 _ _ h5
  exact ⟨cA, cI, k', j', z, by rw [hvm.findClass]; exact h1, hk', by rw [he]; exact h3, by rw [hvm.findClass]; exact h4, hj', by rw [hf]; exact h6⟩
def nwOk (U : State) : Prop := (∀ w ∈ lw_tbl, nwB w = true → va_Nw w U) ∧ va_AO "NumberStreams$Stream" U ∧ va_AO "NumberStreams$Saved" U ∧ ggO U
theorem nwOk.warm {s U : State} (h : nwOk s) (hW : s.WarmedH U.vm) : nwOk U := by
  refine ⟨fun w hw hb => ?_, h.2.1.moved hW.alike, h.2.2.1.moved hW.alike, h.2.2.2.moved hW.alike⟩
  have hz := h.1 w hw hb
  cases w <;> first | (simp [nwB] at hb; done) | exact va_Nw.warmF hW hz | exact va_Nw.warmM hW hz
theorem nwOk.calling {U : State} (h : nwOk U) (g : JFrame) (mk : MethodId) (a : Array Value) : nwOk (U.calling g mk a) := by
  refine ⟨fun w hw hb => ?_, h.2.1.moved (u := U) (U := U.calling g mk a) (Vm.Alike.refl U.vm), h.2.2.1.moved (u := U) (U := U.calling g mk a) (Vm.Alike.refl U.vm), h.2.2.2.moved (u := U) (U := U.calling g mk a) (Vm.Alike.refl U.vm)⟩
  have hz := h.1 w hw hb
  cases w <;> first | (simp [nwB] at hb; done) | exact va_Nw.same rfl rfl hz
/-- the array classes: int, long, Stream, Saved, int[] -/
abbrev tyA (K : Nat → ClassId) : List (ClassId × FieldType) := [(K 0, .int), (K 1, .long), (K 2, .object "NumberStreams$Stream"), (K 3, .object "NumberStreams$Saved"), (K 4, .array .int)]
/-- the start of every contract, its end, a method's fixed surroundings, the world as it stands -/
def pW (D : va_G) (K : Nat → ClassId) (A : Nat → Prop) (wl : va_W) (U : State) : Prop := va_P D vwCl wl U.heap ∧ va_K D vwCl (tyA K) U ∧ nwOk U ∧ va_D A wl ∧ ∀ q : Nat, U.heap.size ≤ q → A q
def pE (D : va_G) (A : Nat → Prop) (wl : va_W) (t : State) : Prop := va_P D vwCl wl t.heap ∧ va_D A wl
def cX (p : Program) (s : State) (m : MethodId) (args : Array Value) (meth : Method) (c : Code) (cc : ByteArray) (nL : Nat) (own nm : String) (ret : Option FieldType) (D : va_G) (K : Nat → ClassId) (A : Nat → Prop) : Prop :=
  p.tables.exec = Jvm.exec ∧ c.code = cc ∧ c.maxLocals = nL ∧ s.vm.findClass own = some m.cls ∧ (∀ w ∈ tsW, w.before args s = true) ∧ meth.sig.returnType = ret ∧ meth.locks = false ∧ meth.name = nm ∧ va_K D vwCl (tyA K) s ∧ nwOk s ∧ ∀ q : Nat, s.heap.size ≤ q → A q
def wd (D : va_G) (A : Nat → Prop) (wl : va_W) (s : State) (H : Heap) (locs : List Loc) : Prop := va_P D vwCl wl H ∧ va_D A wl ∧ va_S A s.heap H locs
theorem pW_blind {vs : List Value} {D : va_G} {K : Nat → ClassId} {A : Nat → Prop} {wl : va_W} : FrameBlind (va_Pc vs (pW D K A wl)) := fun a U g mk q => by
  obtain ⟨q0, qP, qK, qN, qD, qA⟩ := q
  exact ⟨q0, qP, va_K.moved (u := U) (U := U.calling g mk a) (Vm.Alike.refl U.vm) qK, qN.calling g mk a, qD, qA⟩
/-- a room: d frames below, mc cells of ms slots -/
abbrev rmk (d mc ms : Nat) : Room := { frames := d, cells := mc, slots := ms, locals := 40 * d }
/-- the contracts' forms: int (and boolean), long, void, a reference or null -/
abbrev ctI (l : Launch) (y : MethodName) (bytes : ByteArray) (maxL : Nat) (ret : Option FieldType) (d mc ms : Nat) (vs : List Value) (D : va_G) (K : Nat → ClassId) (A : Nat → Prop) (wl : va_W) (post : Int32 → va_W → Prop) : Prop :=
  Met l y (wC y bytes maxL ret) (rmk d mc ms) (va_Pc vs (pW D K A wl)) (va_Qi post (pE D A) A) mc ms A
abbrev ctL (l : Launch) (y : MethodName) (bytes : ByteArray) (maxL : Nat) (d mc ms : Nat) (vs : List Value) (D : va_G) (K : Nat → ClassId) (A : Nat → Prop) (wl : va_W) (post : Int64 → va_W → Prop) : Prop :=
  Met l y (wC y bytes maxL (some .long)) (rmk d mc ms) (va_Pc vs (pW D K A wl)) (va_Ql post (pE D A) A) mc ms A
abbrev ctV (l : Launch) (y : MethodName) (bytes : ByteArray) (maxL : Nat) (d mc ms : Nat) (vs : List Value) (D : va_G) (K : Nat → ClassId) (A : Nat → Prop) (wl : va_W) (post : va_W → Prop) : Prop :=
  Met l y (wC y bytes maxL none) (rmk d mc ms) (va_Pc vs (pW D K A wl)) (va_Qv post (pE D A) A) mc ms A
abbrev ctQ (l : Launch) (y : MethodName) (bytes : ByteArray) (maxL : Nat) (ret : Option FieldType) (d mc ms : Nat) (vs : List Value) (D : va_G) (K : Nat → ClassId) (A : Nat → Prop) (wl : va_W) (post : Option Nat → va_W → Prop) : Prop :=
  Met l y (wC y bytes maxL ret) (rmk d mc ms) (va_Pc vs (pW D K A wl)) (va_Qq post (pE D A) A) mc ms A
/-- a contract out of a walk -/
theorem mt_of {l : Launch} {y : MethodName} {cc : ByteArray} {maxL : Nat} {ret : Option FieldType} {rm : Room} {vs : List Value} {D : va_G} {K : Nat → ClassId} {A : Nat → Prop} {wl : va_W} {Qc : Array Value → State → Outcome → State → Prop} {mc ms : Nat} (hy : plainName y.cls = true) (hlen : (lg_sl vs).length ≤ maxL)
    (body : ∀ (p : Program) (e : Env) (s : State) (m : MethodId) (below : List Frame) (meth : Method) (c : Code) (ls : Array Slot), cX p s m vs.toArray meth c cc maxL y.cls y.name ret D K A → wd D A wl s s.heap [] → lv_has ls maxL (lv_args 0 vs) →
      W p l e rm s m vs.toArray below meth c s.heap [] 0 0 (MQ below Qc vs.toArray s mc ms A) (F0 m 0 ls [])) :
    Met l y (wC y cc maxL ret) rm (va_Pc vs (pW D K A wl)) Qc mc ms A := by
  refine Met.ofW (cc := cc) (maxL := maxL) (ret := ret) hy rfl ?_
  intro p e s m args below meth c s₁ B hml hv
  obtain ⟨rfl, hP, hK, hN, hD, hA⟩ := hv
  have hts := atoms_spec (ws := wC y cc maxL ret) B.pre
  rw [lg_entry_eq]
  exact body p e s m below meth c _ ⟨B.exec, B.bytes, hml, findClass_of_methodNamed B.named, fun w h => hts w (List.mem_cons_of_mem _ h), B.returns, B.notSynchronized, (name_of_methodNamed B.named B.method).1, hK, hN, hA⟩ ⟨hP, hD, va_S.rf⟩ (lv_entry vs hlen)
/-- a call's words -/
abbrev cfB (y : MethodName) (bytes : ByteArray) (maxL : Nat) (ret : Option FieldType) (n : Nat) : Prop := Cond.code y bytes maxL ret ∈ tsW ∧ Cond.initialized y.cls ∈ tsW ∧ y.cls ≠ "java/lang/invoke/MethodHandle" ∧ y.cls ≠ "java/lang/invoke/VarHandle" ∧ (parseMethodDescriptor y.desc).map (fun d => d.parameters.length) = some n
abbrev cfS (own : String) (index : Nat) (y : MethodName) (bytes : ByteArray) (maxL : Nat) (ret : Option FieldType) (n : Nat) : Prop := cfB y bytes maxL ret n ∧ Cond.methodLink own index y ∈ tsW ∧ Cond.static y ∈ tsW
abbrev cfN (own : String) (index : Nat) (y : MethodName) (host : String) (bytes : ByteArray) (maxL : Nat) (ret : Option FieldType) (n : Nat) : Prop := cfB y bytes maxL ret n ∧ Cond.methodLinkNest own index y host ∈ lw_tbl ∧ Cond.static y ∈ tsW
abbrev cfV (own : String) (index : Nat) (y : MethodName) (bytes : ByteArray) (maxL : Nat) (ret : Option FieldType) (n : Nat) : Prop := cfB y bytes maxL ret n ∧ Cond.methodLink own index y ∈ tsW ∧ Cond.instanceMethod y ∈ tsW ∧ Cond.selects y.cls y y ∈ tsW
abbrev cfI (own : String) (index : Nat) (y : MethodName) (bytes : ByteArray) (maxL : Nat) (n : Nat) : Prop := cfB y bytes maxL none n ∧ Cond.methodLink own index y ∈ tsW ∧ Cond.instanceMethod y ∈ tsW ∧ y.name = "<init>"
section WALK
variable {p : Program} {l : Launch} {e : Env} {R : Room} {s : State} {m : MethodId} {args : Array Value} {below : List Frame} {meth : Method} {c : Code} {H : Heap} {locs : List Loc} {cells slots : Nat} {Q : State → Prop}
variable {cc : ByteArray} {nL pc index : Nat} {own nm : String} {ret0 : Option FieldType} {D : va_G} {K : Nat → ClassId} {A : Nat → Prop} {wl : va_W} {ls : Array Slot} {rest st : List Value}
variable {y : MethodName} {bytes : ByteArray} {maxL n mc ms : Nat} {ret : Option FieldType} {rm : Room} {As : List Value} {Qc : Array Value → State → Outcome → State → Prop}
theorem k_pre (B : cX p s m args meth c cc nL own nm ret0 D K A) (hw : wd D A wl s H locs) : PreS s H (va_Pc As (pW D K A wl)) As := ⟨pW_blind, fun U hU hW => ⟨rfl, by rw [hU]; exact hw.1, va_K.moved hW.alike B.2.2.2.2.2.2.2.2.1, B.2.2.2.2.2.2.2.2.2.1.warm hW, hw.2.1, fun q h => B.2.2.2.2.2.2.2.2.2.2 q (Nat.le_trans hw.2.2.1 (by rw [← hU]; exact h))⟩⟩
theorem k_runS (B : cX p s m args meth c cc nL own nm ret0 D K A) (hw : wd D A wl s H locs) (hM : Met l y (wC y bytes maxL ret) rm (va_Pc As (pW D K A wl)) Qc mc ms A) (hrc : rm.cells = mc) (hrs : rm.slots = ms) (cf : cfS own index y bytes maxL ret n) (hR : rm.frames + 1 ≤ R.frames ∧ 8 + (maxL + 11) + rm.locals ≤ R.locals) (hn : As.length = n) (hl : ls.size = nL) (hst : st = As.reverse ++ rest) (hW : (rest.map fun v => v.category).sum ≤ 8) (hdg : decode cc pc = .ok (.invokestatic index, 3)) (hf : cells + mc ≤ R.cells ∧ slots + ms ≤ R.slots) :
    va_Run p l e R s m args below meth c H locs cells slots mc ms (F0 m pc ls st) rest (Qc As.toArray) A :=
  va_runS (Ts := tsW) ⟨B.1, B.2.1, B.2.2.1, B.2.2.2.1, B.2.2.2.2.1⟩ hM ⟨callB_of n B.2.2.2.2.1 (gi_tsW cf.1.1) rfl hrc hrs (B.2.2.2.2.1 _ cf.1.2.1) (B.2.2.2.2.1 _ cf.2.1) cf.1.2.2 hR, B.2.2.2.2.1 _ cf.2.2⟩ (k_pre B hw) rfl hn hl hst (lv_room hW) hdg hf
theorem k_runN {host : String} (B : cX p s m args meth c cc nL own nm ret0 D K A) (hw : wd D A wl s H locs) (hM : Met l y (wC y bytes maxL ret) rm (va_Pc As (pW D K A wl)) Qc mc ms A) (hrc : rm.cells = mc) (hrs : rm.slots = ms) (cf : cfN own index y host bytes maxL ret n) (hR : rm.frames + 1 ≤ R.frames ∧ 8 + (maxL + 11) + rm.locals ≤ R.locals) (hn : As.length = n) (hl : ls.size = nL) (hst : st = As.reverse ++ rest) (hW : (rest.map fun v => v.category).sum ≤ 8) (hdg : decode cc pc = .ok (.invokestatic index, 3)) (hf : cells + mc ≤ R.cells ∧ slots + ms ≤ R.slots) :
    va_Run p l e R s m args below meth c H locs cells slots mc ms (F0 m pc ls st) rest (Qc As.toArray) A :=
  va_runSN (Ts := tsW) ⟨B.1, B.2.1, B.2.2.1, B.2.2.2.1, B.2.2.2.2.1⟩ hM ⟨va_cnB n B.2.2.2.2.1 (gi_tsW cf.1.1) rfl hrc hrs (B.2.2.2.2.2.2.2.2.2.1.1 _ cf.2.1 rfl) (B.2.2.2.2.1 _ cf.1.2.1) cf.1.2.2 hR, B.2.2.2.2.1 _ cf.2.2, trivial⟩ (k_pre B hw) rfl hn hl hst (lv_room hW) hdg hf
theorem k_runV {a q0 ci : Nat} {fs : List Value} {r : vw_C} (B : cX p s m args meth c cc nL own nm ret0 D K A) (hw : wd D A wl s H locs) (hM : Met l y (wC y bytes maxL ret) rm (va_Pc (.ref a :: As) (pW D K A wl)) Qc mc ms A) (hrc : rm.cells = mc) (hrs : rm.slots = ms) (cf : cfV own index y bytes maxL ret n) (he : wl[q0]? = some (a, .inr (ci, fs))) (hc : vwCl[ci]? = some r) (hrn : r.1 = y.cls) (hR : rm.frames + 1 ≤ R.frames ∧ 8 + (maxL + 11) + rm.locals ≤ R.locals) (hn : As.length = n) (hl : ls.size = nL) (hst : st = As.reverse ++ .ref a :: rest) (hW : (rest.map fun v => v.category).sum ≤ 8) (hdg : decode cc pc = .ok (.invokevirtual index, 3)) (hf : cells + mc ≤ R.cells ∧ slots + ms ≤ R.slots) :
    va_Run p l e R s m args below meth c H locs cells slots mc ms (F0 m pc ls st) rest (Qc (.ref a :: As).toArray) A := by
  have hp := k_pre (As := .ref a :: As) B hw
  exact va_runV (Ts := tsW) (C := y.cls) ⟨B.1, B.2.1, B.2.2.1, B.2.2.2.1, B.2.2.2.2.1⟩ hM ⟨callB_of n B.2.2.2.2.1 (gi_tsW cf.1.1) rfl hrc hrs (B.2.2.2.2.1 _ cf.1.2.1) (B.2.2.2.2.1 _ cf.2.1) cf.1.2.2 hR, B.2.2.2.2.1 _ cf.2.2.1, B.2.2.2.2.1 _ cf.2.2.2⟩ ⟨hp.1, hrn ▸ va_recv B.2.2.2.2.2.2.2.2.1 hw.1 hc he, hp.2⟩ rfl hn hl hst (lv_room hW) hdg hf
theorem k_runI {a : Nat} (B : cX p s m args meth c cc nL own nm ret0 D K A) (hw : wd D A wl s H locs) (hM : Met l y (wC y bytes maxL none) rm (va_Pc (.ref a :: As) (pW D K A wl)) Qc mc ms A) (hrc : rm.cells = mc) (hrs : rm.slots = ms) (cf : cfI own index y bytes maxL n) (hR : rm.frames + 1 ≤ R.frames ∧ 8 + (maxL + 11) + rm.locals ≤ R.locals) (hn : As.length = n) (hl : ls.size = nL) (hst : st = As.reverse ++ .ref a :: rest) (hW : (rest.map fun v => v.category).sum ≤ 8) (hdg : decode cc pc = .ok (.invokespecial index, 3)) (hf : cells + mc ≤ R.cells ∧ slots + ms ≤ R.slots) :
    va_Run p l e R s m args below meth c H locs cells slots mc ms (F0 m pc ls st) rest (Qc (.ref a :: As).toArray) A :=
  va_runI (Ts := tsW) ⟨B.1, B.2.1, B.2.2.1, B.2.2.2.1, B.2.2.2.2.1⟩ hM ⟨callB_of n B.2.2.2.2.1 (gi_tsW cf.1.1) rfl hrc hrs (B.2.2.2.2.1 _ cf.1.2.1) (B.2.2.2.2.1 _ cf.2.1) cf.1.2.2 hR, cf.2.2.2, B.2.2.2.2.1 _ cf.2.2.1⟩ (k_pre B hw) rfl hn hl hst (lv_room hW) hdg hf
/-- behind a call: the answer, and the world that came back -/
theorem k_i {post : Int32 → va_W → Prop} {a : Array Value} (hr : va_Run p l e R s m args below meth c H locs cells slots mc ms (F0 m pc ls st) rest (va_Qi post (pE D A) A a) A) (hw : wd D A wl s H locs)
    (kk : ∀ (r : Int32) (w1 : va_W) (H1 : Heap) (locs1 : List Loc), post r w1 → wd D A w1 s H1 locs1 → W p l e R s m args below meth c H1 locs1 (cells + mc) (slots + ms) Q (F0 m (pc + 3) ls (.int r :: rest))) : W p l e R s m args below meth c H locs cells slots Q (F0 m pc ls st) :=
  va_calli hr hw.2.2 (fun _ _ h => h) (fun _ h => h) (fun r u t H1 locs1 ht _ hp hb _ _ hS => kk r u H1 locs1 hp ⟨by rw [← ht]; exact hb.1, hb.2, hS⟩)
theorem k_l {post : Int64 → va_W → Prop} {a : Array Value} (hr : va_Run p l e R s m args below meth c H locs cells slots mc ms (F0 m pc ls st) rest (va_Ql post (pE D A) A a) A) (hw : wd D A wl s H locs)
    (kk : ∀ (r : Int64) (w1 : va_W) (H1 : Heap) (locs1 : List Loc), post r w1 → wd D A w1 s H1 locs1 → W p l e R s m args below meth c H1 locs1 (cells + mc) (slots + ms) Q (F0 m (pc + 3) ls (.long r :: rest))) : W p l e R s m args below meth c H locs cells slots Q (F0 m pc ls st) :=
  va_calll hr hw.2.2 (fun _ _ h => h) (fun _ h => h) (fun r u t H1 locs1 ht _ hp hb _ _ hS => kk r u H1 locs1 hp ⟨by rw [← ht]; exact hb.1, hb.2, hS⟩)
theorem k_v {post : va_W → Prop} {a : Array Value} (hr : va_Run p l e R s m args below meth c H locs cells slots mc ms (F0 m pc ls st) rest (va_Qv post (pE D A) A a) A) (hw : wd D A wl s H locs)
    (kk : ∀ (w1 : va_W) (H1 : Heap) (locs1 : List Loc), post w1 → wd D A w1 s H1 locs1 → W p l e R s m args below meth c H1 locs1 (cells + mc) (slots + ms) Q (F0 m (pc + 3) ls rest)) : W p l e R s m args below meth c H locs cells slots Q (F0 m pc ls st) :=
  va_callv hr hw.2.2 (fun _ _ h => h) (fun _ h => h) (fun u t H1 locs1 ht _ hp hb _ _ hS => kk u H1 locs1 hp ⟨by rw [← ht]; exact hb.1, hb.2, hS⟩)
theorem k_q {post : Option Nat → va_W → Prop} {a : Array Value} (hr : va_Run p l e R s m args below meth c H locs cells slots mc ms (F0 m pc ls st) rest (va_Qq post (pE D A) A a) A) (hw : wd D A wl s H locs)
    (kk : ∀ (r : Option Nat) (w1 : va_W) (H1 : Heap) (locs1 : List Loc), post r w1 → wd D A w1 s H1 locs1 → W p l e R s m args below meth c H1 locs1 (cells + mc) (slots + ms) Q (F0 m (pc + 3) ls (va_rf r :: rest))) : W p l e R s m args below meth c H locs cells slots Q (F0 m pc ls st) :=
  va_callq hr hw.2.2 (fun _ _ h => h) (fun _ h => h) (fun r u t H1 locs1 ht _ hp hb _ _ hS => kk r u H1 locs1 hp ⟨by rw [← ht]; exact hb.1, hb.2, hS⟩)
/-- the ends -/
theorem r_i {post : Int32 → va_W → Prop} {v : Int32} (B : cX p s m args meth c cc nL own nm (some .int) D K A) (hw : wd D A wl s H locs) (hdg : decode cc pc = .ok (.ireturn, 1)) (hq : post v wl) : W p l e R s m args below meth c H locs cells slots (MQ below (va_Qi post (pE D A) A) args s cells slots A) (F0 m pc ls [.int v]) :=
  W.iret B.1 B.2.1 B.2.2.2.2.2.1 (fun t ht _ => ⟨⟨v, wl, rfl, hq, by rw [ht]; exact hw.1, hw.2.1⟩, hw.2.2.F ht⟩) hw.2.2.2.2 hdg B.2.2.2.2.2.2.1
theorem r_z {post : Int32 → va_W → Prop} {v : Int32} (B : cX p s m args meth c cc nL own nm (some .boolean) D K A) (hw : wd D A wl s H locs) (hv : v = 0 ∨ v = 1) (hdg : decode cc pc = .ok (.ireturn, 1)) (hq : post v wl) : W p l e R s m args below meth c H locs cells slots (MQ below (va_Qi post (pE D A) A) args s cells slots A) (F0 m pc ls [.int v]) :=
  W.zret B.1 B.2.1 B.2.2.2.2.2.1 (by rcases hv with rfl | rfl <;> rfl) (fun t ht _ => ⟨⟨v, wl, rfl, hq, by rw [ht]; exact hw.1, hw.2.1⟩, hw.2.2.F ht⟩) hw.2.2.2.2 hdg B.2.2.2.2.2.2.1
theorem r_l {post : Int64 → va_W → Prop} {v : Int64} (B : cX p s m args meth c cc nL own nm (some .long) D K A) (hw : wd D A wl s H locs) (hdg : decode cc pc = .ok (.lreturn, 1)) (hq : post v wl) : W p l e R s m args below meth c H locs cells slots (MQ below (va_Ql post (pE D A) A) args s cells slots A) (F0 m pc ls [.long v]) :=
  W.lret B.1 B.2.1 B.2.2.2.2.2.1 (fun t ht _ => ⟨⟨v, wl, rfl, hq, by rw [ht]; exact hw.1, hw.2.1⟩, hw.2.2.F ht⟩) hw.2.2.2.2 hdg B.2.2.2.2.2.2.1
theorem r_v {post : va_W → Prop} (B : cX p s m args meth c cc nL own nm none D K A) (hw : wd D A wl s H locs) (hdg : decode cc pc = .ok (.return_, 1)) (hq : post wl) : W p l e R s m args below meth c H locs cells slots (MQ below (va_Qv post (pE D A) A) args s cells slots A) (F0 m pc ls []) :=
  W.vret B.1 B.2.1 B.2.2.2.2.2.1 (fun t ht _ => ⟨⟨wl, rfl, hq, by rw [ht]; exact hw.1, hw.2.1⟩, hw.2.2.F ht⟩) hw.2.2.2.2 hdg B.2.2.2.2.2.2.1
theorem r_q {post : Option Nat → va_W → Prop} {v : Option Nat} {C : String} (B : cX p s m args meth c cc nL own nm (some (.object C)) D K A) (hw : wd D A wl s H locs) (hdg : decode cc pc = .ok (.areturn, 1)) (hq : post v wl) : W p l e R s m args below meth c H locs cells slots (MQ below (va_Qq post (pE D A) A) args s cells slots A) (F0 m pc ls [va_rf v]) :=
  W.aret B.1 B.2.1 B.2.2.2.2.2.1 (Or.inl ⟨C, rfl⟩) (va_rf_or v) (fun t ht _ => ⟨⟨v, wl, rfl, hq, by rw [ht]; exact hw.1, hw.2.1⟩, hw.2.2.F ht⟩) hw.2.2.2.2 hdg B.2.2.2.2.2.2.1
/-- a field's words -/
abbrev fOk (own : String) (index ci : Nat) (C : String) (T : u_T) (N k : Nat) : Prop := vwCl[ci]? = some (C, T, N) ∧ (∀ w ∈ u_ws C T N, w ∈ tsW) ∧ k < N ∧ Cond.fieldLink own index C (T k).2.1 (T k).2.2.1 ∈ tsW ∧ (T k).1 = C
abbrev cOk (T : u_T) (N : Nat) (ty0 : Nat → FieldType) : Prop := (∀ k, k < N → parseFieldDescriptor (T k).2.2.1 = some (ty0 k)) ∧ ∀ a, a < N → ∀ b, b < N → a ≠ b → (T a).2.1 ≠ (T b).2.1
variable {a q0 ci k N : Nat} {C : String} {T : u_T} {fs : List Value} {v : Value} {ty0 : Nat → FieldType}
theorem g_get (B : cX p s m args meth c cc nL own nm ret0 D K A) (hw : wd D A wl s H locs) (hf : fOk own index ci C T N k) (he : wl[q0]? = some (a, .inr (ci, fs))) (hv : fs[k]? = some v) (hdg : decode cc pc = .ok (.getfield index, 3)) (kk : W p l e R s m args below meth c H locs cells slots Q (F0 m (pc + 3) ls (v :: rest))) : W p l e R s m args below meth c H locs cells slots Q (F0 m pc ls (.ref a :: rest)) :=
  va_get B.1 B.2.1 B.2.2.2.2.1 hf.2.1 B.2.2.2.1 B.2.2.2.2.2.2.2.2.1 hw.1 q0 he hf.1 k hf.2.2.1 (B.2.2.2.2.1 _ hf.2.2.2.1) (fun x h => by rw [hf.2.2.2.2] at h; exact h) hv hdg kk
theorem g_put (B : cX p s m args meth c cc nL own nm ret0 D K A) (hw : wd D A wl s H locs) (hf : fOk own index ci C T N k) (hc : cOk T N ty0) (he : wl[q0]? = some (a, .inr (ci, fs))) (hfin : (T k).2.2.2 = false) (hn : narrow (ty0 k) v = v) (hfit : fits (ty0 k) v = true) (hl : k < fs.length) (hdg : decode cc pc = .ok (.putfield index, 3))
    (kk : ∀ (H1 : Heap) (locs1 : List Loc), wd D A (wl.set q0 (a, .inr (ci, fs.set k v))) s H1 locs1 → W p l e R s m args below meth c H1 locs1 cells slots Q (F0 m (pc + 3) ls rest)) : W p l e R s m args below meth c H locs cells slots Q (F0 m pc ls (v :: .ref a :: rest)) :=
  va_put B.1 B.2.1 B.2.2.2.2.1 hf.2.1 ty0 hc.1 hc.2 B.2.2.2.1 B.2.2.2.2.2.2.2.2.1 hw.1 hw.2.1 hw.2.2 q0 he hf.1 k hf.2.2.1 (B.2.2.2.2.1 _ hf.2.2.2.1) (fun x h => by rw [hf.2.2.2.2] at h; exact h) hfin (hc.1 k hf.2.2.1) hn hfit hl hdg (fun H1 locs1 h1 h2 h3 => kk H1 locs1 ⟨h1, h2, h3⟩)
theorem g_putF (B : cX p s m args meth c cc nL own "<init>" ret0 D K A) (hw : wd D A wl s H locs) (hf : fOk own index ci C T N k) (hc : cOk T N ty0) (he : wl[q0]? = some (a, .inr (ci, fs))) (hfin : (T k).2.2.2 = true) (ho : C = own) (hn : narrow (ty0 k) v = v) (hfit : fits (ty0 k) v = true) (hl : k < fs.length) (hdg : decode cc pc = .ok (.putfield index, 3))
    (kk : ∀ (H1 : Heap) (locs1 : List Loc), wd D A (wl.set q0 (a, .inr (ci, fs.set k v))) s H1 locs1 → W p l e R s m args below meth c H1 locs1 cells slots Q (F0 m (pc + 3) ls rest)) : W p l e R s m args below meth c H locs cells slots Q (F0 m pc ls (v :: .ref a :: rest)) :=
  va_putF B.1 B.2.1 B.2.2.2.2.1 hf.2.1 ty0 hc.1 hc.2 B.2.2.2.1 B.2.2.2.2.2.2.2.2.1 hw.1 hw.2.1 hw.2.2 q0 he hf.1 k hf.2.2.1 (B.2.2.2.2.1 _ hf.2.2.2.1) (fun x h => by rw [hf.2.2.2.2] at h; exact h) hfin B.2.2.2.2.2.2.2.1 (hf.2.2.2.2.trans ho) (hc.1 k hf.2.2.1) hn hfit hl hdg (fun H1 locs1 h1 h2 h3 => kk H1 locs1 ⟨h1, h2, h3⟩)
variable {f : Nat → Int32} {fl : Nat → Int64} {fq : Nat → Option Nat} {i x : Int32} {xl : Int64} {n0 : Nat}
theorem g_iald (B : cX p s m args meth c cc nL own nm ret0 D K A) (hw : wd D A wl s H locs) (he : wl[q0]? = some (a, .inl (K 0, n0, .inl f))) (hin : vp_in i n0) (hdg : decode cc pc = .ok (.iaload, 1))
    (kk : W p l e R s m args below meth c H locs cells slots Q (F0 m (pc + 1) ls (.int (f i.toNatClampNeg) :: rest))) : W p l e R s m args below meth c H locs cells slots Q (F0 m pc ls (.int i :: .ref a :: rest)) :=
  va_iald B.1 B.2.1 B.2.2.2.2.2.2.2.2.1 hw.1 q0 0 he rfl hin hdg kk
theorem g_iast (B : cX p s m args meth c cc nL own nm ret0 D K A) (hw : wd D A wl s H locs) (he : wl[q0]? = some (a, .inl (K 0, n0, .inl f))) (hin : vp_in i n0) (hdg : decode cc pc = .ok (.iastore, 1))
    (kk : ∀ (H1 : Heap) (locs1 : List Loc), wd D A (wl.set q0 (a, .inl (K 0, n0, .inl (upd f i.toNatClampNeg x)))) s H1 locs1 → W p l e R s m args below meth c H1 locs1 cells slots Q (F0 m (pc + 1) ls rest)) : W p l e R s m args below meth c H locs cells slots Q (F0 m pc ls (.int x :: .int i :: .ref a :: rest)) :=
  va_iast B.1 B.2.1 B.2.2.2.2.2.2.2.2.1 hw.1 hw.2.1 hw.2.2 q0 0 he rfl hin hdg (fun H1 locs1 h1 h2 h3 => kk H1 locs1 ⟨h1, h2, h3⟩)
theorem g_lald (B : cX p s m args meth c cc nL own nm ret0 D K A) (hw : wd D A wl s H locs) (he : wl[q0]? = some (a, .inl (K 1, n0, .inr (.inl fl)))) (hin : vp_in i n0) (hdg : decode cc pc = .ok (.laload, 1))
    (kk : W p l e R s m args below meth c H locs cells slots Q (F0 m (pc + 1) ls (.long (fl i.toNatClampNeg) :: rest))) : W p l e R s m args below meth c H locs cells slots Q (F0 m pc ls (.int i :: .ref a :: rest)) :=
  va_lald B.1 B.2.1 B.2.2.2.2.2.2.2.2.1 hw.1 q0 1 he rfl hin hdg kk
theorem g_last (B : cX p s m args meth c cc nL own nm ret0 D K A) (hw : wd D A wl s H locs) (he : wl[q0]? = some (a, .inl (K 1, n0, .inr (.inl fl)))) (hin : vp_in i n0) (hdg : decode cc pc = .ok (.lastore, 1))
    (kk : ∀ (H1 : Heap) (locs1 : List Loc), wd D A (wl.set q0 (a, .inl (K 1, n0, .inr (.inl (vp_updL fl i.toNatClampNeg xl))))) s H1 locs1 → W p l e R s m args below meth c H1 locs1 cells slots Q (F0 m (pc + 1) ls rest)) : W p l e R s m args below meth c H locs cells slots Q (F0 m pc ls (.long xl :: .int i :: .ref a :: rest)) :=
  va_last B.1 B.2.1 B.2.2.2.2.2.2.2.2.1 hw.1 hw.2.1 hw.2.2 q0 1 he rfl hin hdg (fun H1 locs1 h1 h2 h3 => kk H1 locs1 ⟨h1, h2, h3⟩)
theorem g_aald (t0 : Nat) {C : String} (B : cX p s m args meth c cc nL own nm ret0 D K A) (hw : wd D A wl s H locs) (he : wl[q0]? = some (a, .inl (K t0, n0, .inr (.inr (.inr (.inr fq)))))) (ht : (tyA K)[t0]? = some (K t0, .object C)) (hin : vp_in i n0) (hdg : decode cc pc = .ok (.aaload, 1))
    (kk : W p l e R s m args below meth c H locs cells slots Q (F0 m (pc + 1) ls (va_rf (fq i.toNatClampNeg) :: rest))) : W p l e R s m args below meth c H locs cells slots Q (F0 m pc ls (.int i :: .ref a :: rest)) :=
  va_aldq B.1 B.2.1 B.2.2.2.2.2.2.2.2.1 hw.1 q0 t0 he ht hin hdg kk
theorem g_gald (B : cX p s m args meth c cc nL own nm ret0 D K A) (hw : wd D A wl s H locs) (he : wl[q0]? = some (a, .inl (K 4, n0, .inr (.inr (.inr (.inr fq)))))) (hin : vp_in i n0) (hdg : decode cc pc = .ok (.aaload, 1))
    (kk : W p l e R s m args below meth c H locs cells slots Q (F0 m (pc + 1) ls (va_rf (fq i.toNatClampNeg) :: rest))) : W p l e R s m args below meth c H locs cells slots Q (F0 m pc ls (.int i :: .ref a :: rest)) := by
  have hlt : i.toNatClampNeg < n0 := Nat.not_le.mp fun q => hin (Or.inr q)
  exact W.aald (v := va_rf (fq i.toNatClampNeg)) (ty := .array .int) B.1 B.2.1 (hw.1 q0 _ he) ((B.2.2.2.2.2.2.2.2.1.2 4 (K 4, .array .int) rfl).1 n0 (fun j => va_rf (fq j))) rfl (fun q => by cases q) (by show ¬ (i < 0 ∨ (arrV _ _ _).slots.size ≤ _); rw [arrV_size]; exact hin) (by show (arrV _ _ _).slots[_]? = _; rw [arrV_read _ _ hlt]) rfl rfl hdg kk
theorem g_aast (t0 : Nat) {r : vw_C} {q1 v1 c1 : Nat} {vs : List Value} (B : cX p s m args meth c cc nL own nm ret0 D K A) (hw : wd D A wl s H locs) (he : wl[q0]? = some (a, .inl (K t0, n0, .inr (.inr (.inr (.inr fq)))))) (ht : (tyA K)[t0]? = some (K t0, .object r.1)) (hv : wl[q1]? = some (v1, .inr (c1, vs))) (hc : vwCl[c1]? = some r) (hin : vp_in i n0) (hdg : decode cc pc = .ok (.aastore, 1))
    (kk : ∀ (H1 : Heap) (locs1 : List Loc), wd D A (wl.set q0 (a, .inl (K t0, n0, .inr (.inr (.inr (.inr (va_up fq i.toNatClampNeg (some v1)))))))) s H1 locs1 → W p l e R s m args below meth c H1 locs1 cells slots Q (F0 m (pc + 1) ls rest)) : W p l e R s m args below meth c H locs cells slots Q (F0 m pc ls (.ref v1 :: .int i :: .ref a :: rest)) :=
  va_astq B.1 B.2.1 B.2.2.2.2.2.2.2.2.1 hw.1 hw.2.1 hw.2.2 q0 t0 q1 c1 he ht hv hc hin hdg (fun H1 locs1 h1 h2 h3 => kk H1 locs1 ⟨h1, h2, h3⟩)
theorem g_aastN (t0 : Nat) {C : String} (B : cX p s m args meth c cc nL own nm ret0 D K A) (hw : wd D A wl s H locs) (he : wl[q0]? = some (a, .inl (K t0, n0, .inr (.inr (.inr (.inr fq)))))) (ht : (tyA K)[t0]? = some (K t0, .object C)) (hin : vp_in i n0) (hdg : decode cc pc = .ok (.aastore, 1))
    (kk : ∀ (H1 : Heap) (locs1 : List Loc), wd D A (wl.set q0 (a, .inl (K t0, n0, .inr (.inr (.inr (.inr (va_up fq i.toNatClampNeg none))))))) s H1 locs1 → W p l e R s m args below meth c H1 locs1 cells slots Q (F0 m (pc + 1) ls rest)) : W p l e R s m args below meth c H locs cells slots Q (F0 m pc ls (.null :: .int i :: .ref a :: rest)) :=
  va_astqN B.1 B.2.1 B.2.2.2.2.2.2.2.2.1 hw.1 hw.2.1 hw.2.2 q0 t0 he ht hin hdg (fun H1 locs1 h1 h2 h3 => kk H1 locs1 ⟨h1, h2, h3⟩)
/-- constants of the pool -/
theorem g_ldc {z : Int32} (B : cX p s m args meth c cc nL own nm ret0 D K A) (hc : Cond.constant own index z ∈ tsW) (hdg : decode cc pc = .ok (.ldc index, 2)) (kk : W p l e R s m args below meth c H locs cells slots Q (F0 m (pc + 2) ls (.int z :: rest))) : W p l e R s m args below meth c H locs cells slots Q (F0 m pc ls rest) :=
  lv_ldc B.1 B.2.1 B.2.2.2.1 (B.2.2.2.2.1 _ hc) hdg kk
theorem g_ldc2 {z : Int64} (B : cX p s m args meth c cc nL own nm ret0 D K A) (hc : Cond.constantLong own index z ∈ tsW) (hdg : decode cc pc = .ok (.ldc2_w index, 3)) (kk : W p l e R s m args below meth c H locs cells slots Q (F0 m (pc + 3) ls (.long z :: rest))) : W p l e R s m args below meth c H locs cells slots Q (F0 m pc ls rest) :=
  lv_ldc2 B.1 B.2.1 B.2.2.2.1 (B.2.2.2.2.1 _ hc) hdg kk
/-- a loop: what holds at its head, and what falls -/
theorem lp_w {σ : Type} (μ : σ → Nat) (I : σ → Heap → List Loc → Array Slot → Prop) (step : ∀ (x : σ) (H : Heap) (locs : List Loc) (ls : Array Slot), I x H locs ls → (∀ (x' : σ) (H' : Heap) (locs' : List Loc) (ls' : Array Slot), μ x' < μ x → I x' H' locs' ls' → W p l e R s m args below meth c H' locs' cells slots Q (F0 m pc ls' st)) → W p l e R s m args below meth c H locs cells slots Q (F0 m pc ls st)) :
    ∀ (x : σ) (H : Heap) (locs : List Loc) (ls : Array Slot), I x H locs ls → W p l e R s m args below meth c H locs cells slots Q (F0 m pc ls st) := by
  intro x
  induction hn : μ x using Nat.strongRecOn generalizing x with
  | ind n ih =>
    intro H locs ls h
    exact step x H locs ls h (fun x' H' locs' ls' hlt h' => ih (μ x') (by omega) x' rfl H' locs' ls' h')
end WALK
/-- places of a list of cells -/
theorem gs_eq {w : va_W} {j : Nat} {x y : Nat × va_E} (h : w[j]? = some x) : (w.set j y)[j]? = some y := by
  have hl : j < w.length := (List.getElem?_eq_some_iff.mp h).1
  rw [List.getElem?_set_self hl]
theorem gs_ne {w : va_W} {i j : Nat} {x y : Nat × va_E} (hn : j ≠ i) (h : w[i]? = some x) : (w.set j y)[i]? = some x := by
  rw [List.getElem?_set_ne hn]; exact h
theorem ga_old {w v : va_W} {i : Nat} {x : Nat × va_E} (h : w[i]? = some x) : (w ++ v)[i]? = some x := by
  have hl : i < w.length := (List.getElem?_eq_some_iff.mp h).1
  rw [List.getElem?_append_left hl]; exact h
theorem ga_new {w : va_W} {x : Nat × va_E} : (w ++ [x])[w.length]? = some x := by
  rw [List.getElem?_append_right (Nat.le_refl _), Nat.sub_self]; rfl
