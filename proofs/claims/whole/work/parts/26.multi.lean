/-! multianewarray for int[4][20]: my own row; four turns, one after another. -/
section MULTI
variable {E : CtlPost} {e : Env} {d : Bool} {acts : List Action}
/-- a row of twenty -/
abbrev rwC (cI : ClassId) : Cell := arrV cI 20 (fun _ => .int 0)
theorem mk_row {s : State} {cI z : ClassId} {kI : Class} (hk : s.vm.classes[cI]? = some kI) (hz : kI.kind = .array z .int) (hl : ¬ 20 > e.platform.arrayLengthLimit) (hh : ¬ 20 * componentBytes .int > e.platform.maxHeapBytes) (hc : s.heap.size < e.platform.maxCells) (hs : s.slotsUsed + 20 ≤ e.platform.maxSlots) {Q : Addr → Pre} (hq : ∀ acts', Q s.heap.size d acts' (s.pushCell (rwC cI))) :
    wp (multianewarray.make cI [20]) Q E e d acts s := by
  have h20 : (20 : Int32).toNatClampNeg = 20 := by decide
  have hn : ¬ (20 : Int32) < 0 := by decide
  rw [multianewarray.make]
  simp only [wp_bind', W.ite, hn, if_false, wp_pure', W.theClass, hk, hz, Option.some.injEq, exists_eq_left', h20]
  refine W.newArray_of hk hz hl hh hc hs rfl (fun a' => ?_)
  have h := hq a'
  rw [show rwC cI = ({ cls := cI, slots := Array.replicate 20 (.int 0), vm := .none } : Cell) from (arrV_new cI 20 (.int 0)).symm] at h
  exact h
/-- a turn: a row is made, and laid into its place -/
def tuS (cA cI : ClassId) (h i : Nat) (f : Nat → Value) (S : State) : State := (S.pushCell (rwC cI)).setCell h (arrV cA 4 (updV f i (.ref S.heap.size)))
theorem tuS_heap {cA cI : ClassId} {h i : Nat} {f : Nat → Value} {S : State} (hh : h < S.heap.size) : (tuS cA cI h i f S).heap.size = S.heap.size + 1 ∧ (tuS cA cI h i f S).heap[h]? = some (arrV cA 4 (updV f i (.ref S.heap.size))) ∧ (tuS cA cI h i f S).heap[S.heap.size]? = some (rwC cI) ∧ (∀ q, q < S.heap.size → q ≠ h → (tuS cA cI h i f S).heap[q]? = S.heap[q]?) ∧ (tuS cA cI h i f S).slotsUsed = S.slotsUsed + 20 ∧ (tuS cA cI h i f S).vm = S.vm := by
  have e0 : (S.pushCell (rwC cI)).heap.size = S.heap.size + 1 := State.heap_size_pushCell ..
  refine ⟨by unfold tuS; rw [size_setCell, e0], heapAt_setCell_self _ (Nat.lt_of_lt_of_eq (Nat.lt_succ_of_lt hh) e0.symm), ?_, fun q hq hn => ?_, ?_, rfl⟩
  · unfold tuS
    rw [heapAt_setCell_ne _ (Nat.ne_of_lt hh)]
    exact State.heap_pushCell_size ..
  · unfold tuS
    rw [heapAt_setCell_ne _ (Ne.symm hn)]
    exact State.heap_pushCell_of_lt (h := hq) ..
  · show S.slotsUsed + (rwC cI).slots.size = _
    rw [arrV_size]
theorem mk_turn {S : State} {fr : JFrame} {cA cI z : ClassId} {kA kI : Class} {h i : Nat} {f : Nat → Value} (hkA : S.vm.classes[cA]? = some kA) (hzA : kA.kind = .array cI (.array .int)) (hk : S.vm.classes[cI]? = some kI) (hz : kI.kind = .array z .int) (hl : ¬ 20 > e.platform.arrayLengthLimit) (hh : ¬ 20 * componentBytes .int > e.platform.maxHeapBytes) (hc : S.heap.size < e.platform.maxCells) (hs : S.slotsUsed + 20 ≤ e.platform.maxSlots)
    (hlt : h < S.heap.size) (hcell : S.heap[h]? = some (arrV cA 4 f)) (hi : i < 4) {Q : ForInStep PUnit → Pre} (hq : ∀ d' acts', Q (.yield PUnit.unit) d' acts' ((tuS cA cI h i f S).setTop fr)) :
    wp (do let a ← multianewarray.make cI [20]; Jvm.writeLoc h i (.ref a); Pure.pure (ForInStep.yield PUnit.unit)) Q E e d acts (S.setTop fr) := by
  simp only [wp_bind']
  refine mk_row (s := S.setTop fr) hk hz hl hh hc hs (fun a' => ?_)
  simp only [wp_bind', W.writeLoc, wp_pure']
  refine ⟨arrV cA 4 f, ?_, by simp [arrV], by rw [arrV_size]; exact hi, ?_, ?_⟩
  · show (S.pushCell (rwC cI)).heap[h]? = _
    rw [State.heap_pushCell_of_lt (h := hlt)]; exact hcell
  · simp [State.fitsSlot, State.slotType?, arrV, hkA, hzA, fits]
  · have h1 := hq true (.write ⟨h, i⟩ .plain (.ref S.heap.size) :: a')
    unfold tuS at h1
    rw [← arrV_store] at h1
    exact h1
/-- the four places -/
abbrev f4 (h : Nat) : Nat → Nat → Value
  | 0 => fun _ => .null
  | i + 1 => updV (f4 h i) i (.ref (h + 1 + i))
def S4 (cA cI : ClassId) (S : State) : Nat → State
  | 0 => S.pushCell (arrV cA 4 (f4 S.heap.size 0))
  | i + 1 => tuS cA cI S.heap.size i (f4 S.heap.size i) (S4 cA cI S i)
theorem S4_is {cA cI : ClassId} {S : State} : ∀ i, (S4 cA cI S i).heap.size = S.heap.size + 1 + i ∧ (S4 cA cI S i).heap[S.heap.size]? = some (arrV cA 4 (f4 S.heap.size i)) ∧ (∀ j, j < i → (S4 cA cI S i).heap[S.heap.size + 1 + j]? = some (rwC cI)) ∧ (∀ q, q < S.heap.size → (S4 cA cI S i).heap[q]? = S.heap[q]?) ∧ (S4 cA cI S i).slotsUsed = S.slotsUsed + 4 + 20 * i ∧ (S4 cA cI S i).vm = S.vm
  | 0 => ⟨State.heap_size_pushCell .., State.heap_pushCell_size .., fun j hj => absurd hj (Nat.not_lt_zero _), fun q hq => State.heap_pushCell_of_lt (h := hq) .., by show S.slotsUsed + (arrV _ _ _).slots.size = _; rw [arrV_size], rfl⟩
  | i + 1 => by
    obtain ⟨h1, h2, h3, h4, h5, h6⟩ := S4_is (cA := cA) (cI := cI) (S := S) i
    obtain ⟨t1, t2, t3, t4, t5, t6⟩ := tuS_heap (cA := cA) (cI := cI) (h := S.heap.size) (i := i) (f := f4 S.heap.size i) (S := S4 cA cI S i) (by omega)
    refine ⟨by show (tuS _ _ _ _ _ _).heap.size = _; rw [t1, h1]; rfl, ?_, fun j hj => ?_, fun q hq => ?_, by show (tuS _ _ _ _ _ _).slotsUsed = _; rw [t5, h5]; omega, t6.trans h6⟩
    · show (tuS _ _ _ _ _ _).heap[_]? = _
      rw [t2, h1]
    · show (tuS _ _ _ _ _ _).heap[_]? = _
      by_cases e : j = i
      · subst e
        rw [← h1]; exact t3
      · rw [t4 _ (by omega) (by omega)]
        exact h3 j (by omega)
    · show (tuS _ _ _ _ _ _).heap[_]? = _
      rw [t4 _ (by omega) (by omega)]
      exact h4 q hq
theorem S4_stand {p : Program} {l : Launch} {R : Room} {s : State} {m : MethodId} {args : Array Value} {below : List Frame} {meth : Method} {c : Code} {T : State} {locs : List Loc} {cells slots : Nat} (X : Stand p l e R s m args below meth c T locs cells slots) (cA cI : ClassId) : ∀ i, ∃ L : List Loc, (∀ x ∈ L, x.base = T.heap.size) ∧ Stand p l e R s m args below meth c (S4 cA cI T i) (locs ++ L) (cells + (1 + i)) (slots + (4 + 20 * i))
  | 0 => ⟨[], fun _ h => absurd h (List.not_mem_nil), by
      have h := X.pushed (arrV cA 4 (f4 T.heap.size 0))
      rw [arrV_size] at h
      rw [List.append_nil]
      exact h⟩
  | i + 1 => by
    obtain ⟨L, hL, Xi⟩ := S4_stand X cA cI i
    obtain ⟨h1, h2, -⟩ := S4_is (cA := cA) (cI := cI) (S := T) i
    have hlt : T.heap.size < (S4 cA cI T i).heap.size := by omega
    have h := (Xi.pushed (rwC cI)).stored (a := T.heap.size) (cell := arrV cA 4 (f4 T.heap.size i)) ((State.heap_pushCell_of_lt (h := hlt) ..).trans h2) i (.ref (S4 cA cI T i).heap.size)
    rw [arrV_size, arrV_store] at h
    refine ⟨L ++ [⟨T.heap.size, i⟩], fun x hx => ?_, ?_⟩
    · rcases List.mem_append.mp hx with hx | hx
      · exact hL x hx
      · rw [List.mem_singleton.mp hx]
    · rw [← List.append_assoc]
      exact h
theorem f4_get (h : Nat) : ∀ j, j < 4 → f4 h 4 j = va_rf (some (h + 1 + j)) := by
  intro j hj
  rcases (by omega : j = 0 ∨ j = 1 ∨ j = 2 ∨ j = 3) with rfl | rfl | rfl | rfl <;> rfl
theorem arrV_congr {cA : ClassId} {n : Nat} {f g : Nat → Value} (h : ∀ j, j < n → f j = g j) : arrV cA n f = arrV cA n g := by
  show ({ cls := cA, slots := Array.ofFn (n := n) fun j => f j.val, vm := .none } : Cell) = { cls := cA, slots := Array.ofFn (n := n) fun j => g j.val, vm := .none }
  rw [show (fun j : Fin n => f j.val) = (fun j : Fin n => g j.val) from funext fun j => h j.val j.isLt]
/-- the model's own making of four rows of twenty -/
theorem mk_all {S : State} {fr : JFrame} {cA cI z : ClassId} {kA kI : Class} (hkA : S.vm.classes[cA]? = some kA) (hzA : kA.kind = .array cI (.array .int)) (hk : S.vm.classes[cI]? = some kI) (hz : kI.kind = .array z .int) (hl : ¬ 20 > e.platform.arrayLengthLimit) (hh : ¬ 20 * 4 > e.platform.maxHeapBytes) (hc : S.heap.size + 5 ≤ e.platform.maxCells) (hs : S.slotsUsed + 84 ≤ e.platform.maxSlots)
    {Q : Addr → Pre} (hq : ∀ d' acts', Q S.heap.size d' acts' ((S4 cA cI S 4).setTop fr)) : wp (multianewarray.make cA [4, 20]) Q E e d acts (S.setTop fr) := by
  have n4 : (4 : Int32).toNatClampNeg = 4 := by decide
  have h4 : ¬ (4 : Int32) < 0 := by decide
  have z4 : ((4 : Int32) == 0) = false := by decide
  rw [multianewarray.make]
  simp only [wp_bind', W.ite, h4, if_false, wp_pure', W.theClass, State.vm_setTop, hkA, hzA, Option.some.injEq, exists_eq_left', n4, z4]
  refine W.newArray_of (s := S.setTop fr) hkA hzA (by omega) (by show ¬ 4 * 4 > _; omega) (by show S.heap.size < _; omega) (by show S.slotsUsed + 4 ≤ _; omega) rfl (fun a0 => ?_)
  have e0 : ((S.setTop fr).pushCell ({ cls := cA, slots := Array.replicate 4 .null } : Cell)) = (S4 cA cI S 0).setTop fr := by
    show (S.pushCell ({ cls := cA, slots := Array.replicate 4 .null, vm := .none } : Cell)).setTop fr = _
    rw [arrV_new]
    rfl
  rw [e0]
  have st : ∀ (i : Nat), i < 4 → ∀ (d1 : Bool) (a1 : List Action) (Q1 : ForInStep PUnit → Pre), (∀ d' acts', Q1 (.yield PUnit.unit) d' acts' ((S4 cA cI S (i + 1)).setTop fr)) → wp (do let a ← multianewarray.make cI [20]; Jvm.writeLoc S.heap.size i (.ref a); Pure.pure (ForInStep.yield PUnit.unit)) Q1 E e d1 a1 ((S4 cA cI S i).setTop fr) := by
    intro i hi d1 a1 Q1 h1
    obtain ⟨g1, g2, -, -, g5, g6⟩ := S4_is (cA := cA) (cI := cI) (S := S) i
    exact mk_turn (by rw [g6]; exact hkA) hzA (by rw [g6]; exact hk) hz hl hh (by omega) (by omega) (by omega) g2 hi h1
  simp only [Bool.false_eq_true, if_false, wp_pure', wp_bind']
  rw [Std.Legacy.Range.forIn_eq_forIn_range']
  show wp (forIn [0, 1, 2, 3] PUnit.unit _) _ E e d a0 _
  rw [List.forIn_cons, wp_bind']
  refine st 0 (by omega) _ _ _ (fun d1 a1 => ?_)
  dsimp only
  rw [List.forIn_cons, wp_bind']
  refine st 1 (by omega) _ _ _ (fun d2 a2 => ?_)
  dsimp only
  rw [List.forIn_cons, wp_bind']
  refine st 2 (by omega) _ _ _ (fun d3 a3 => ?_)
  dsimp only
  rw [List.forIn_cons, wp_bind']
  refine st 3 (by omega) _ _ _ (fun d4 a4 => ?_)
  dsimp only
  simp only [List.forIn_nil, wp_pure']
  exact hq _ _
/-- the whole instruction, its class reference resolved on the way -/
theorem mk_sem {T : State} {g : JFrame} {cA cI z : ClassId} {kA kI : Class} {vm1 : Vm} {index : Nat} {rest : List Value} (hs : T.topJava?.isSome) (hg : (Jvm.resolveClass g.method.cls index).Gives e.toSetting (T.setTop g).vm (.ok cA) vm1) (hsz : vm1.classes.size ≤ T.vm.classes.size) (hkA : vm1.classes[cA]? = some kA) (hzA : kA.kind = .array cI (.array .int)) (hk : vm1.classes[cI]? = some kI) (hz : kI.kind = .array z .int) (hl : ¬ 20 > e.platform.arrayLengthLimit) (hh : ¬ 20 * 4 > e.platform.maxHeapBytes) (hc : T.heap.size + 5 ≤ e.platform.maxCells) (hr : T.slotsUsed + 84 ≤ e.platform.maxSlots) (hstack : g.stack = .int 20 :: .int 4 :: rest)
    (h4 : (S4 cA cI (T.setVm vm1) 4).topJava?.isSome) {Q : Unit → Pre} (hq : ∀ d' a', Q () d' a' ((S4 cA cI (T.setVm vm1) 4).setTop { g with stack := .ref T.heap.size :: rest })) : wp (multianewarray.sem index 2) Q E e d acts (T.setTop g) := by
  unfold multianewarray.sem
  rw [wp_bind', W.resolveClassAt_links (State.method?_setTop g hs) hg hsz]
  show wp (Jvm.popN ([.int 4, .int 20] : List Value).length >>= _) _ E e d acts ((T.setVm vm1).setTop g)
  rw [wp_bind', popN_top (s := T.setVm vm1) hs (args := [.int 4, .int 20]) hstack]
  show wp (multianewarray.make cA [4, 20] >>= _) Q E e true acts _
  rw [wp_bind']
  refine mk_all (S := T.setVm vm1) hkA hzA hk hz hl hh hc hr (fun d' a' => ?_)
  rw [wp_bind', W.mark, W.pushRef]
  refine ⟨_, State.topJava?_setTop' _ h4, ?_⟩
  rw [State.setTop_setTop]
  exact hq _ _
end MULTI
section MULTIROW
variable {p : Program} {l : Launch} {e : Env} {R : Room} {s : State} {m : MethodId} {args : Array Value} {below : List Frame} {meth : Method} {c : Code} {H : Heap} {locs : List Loc} {cells slots : Nat} {Q : State → Prop}
variable {cc : ByteArray} {nL pc index : Nat} {own nm : String} {ret0 : Option FieldType} {D : va_G} {K : Nat → ClassId} {A : Nat → Prop} {wl : va_W} {ls : Array Slot} {rest : List Value}
theorem w_mna (hexec : p.tables.exec = Jvm.exec) (hb : c.code = cc) {own : String} {index : Nat} (hown : s.vm.findClass own = some m.cls) (hclink : (Cond.classLink own index ("[" ++ (FieldType.array .int).toString)).before args s = true) {cA cI z : ClassId} {kA kI : Class} (hnA : s.vm.findClass ("[" ++ (FieldType.array .int).toString) = some cA) (hkA : s.vm.classes[cA]? = some kA) (hzA : kA.kind = .array cI (.array .int)) (hk : s.vm.classes[cI]? = some kI) (hz : kI.kind = .array z .int)
    {g : JFrame} (hg : g.method = m) (hdg : decode cc g.pc = .ok (.multianewarray index 2, 4)) {rest : List Value} (hstack : g.stack = .int 20 :: .int 4 :: rest) (hcells : cells + 5 ≤ R.cells) (hslots : slots + 84 ≤ R.slots)
    (kk : ∀ (H1 : Heap) (L : List Loc), (∀ x ∈ L, x.base = H.size) → H1.size = H.size + 5 → H1[H.size]? = some (arrV cA 4 (fun j => va_rf (some (H.size + 1 + j)))) → (∀ j, j < 4 → H1[H.size + 1 + j]? = some (rwC cI)) → (∀ q, q < H.size → H1[q]? = H[q]?) →
      W p l e R s m args below meth c H1 (locs ++ L) (cells + 5) (slots + 84) Q { g with pc := g.pc + 4, stack := .ref H.size :: rest }) : W p l e R s m args below meth c H locs cells slots Q g := by
  intro T hT X
  subst hT; subst hb; subst hg
  have hpl : e.platform.magicAccessors = ({} : Platform).magicAccessors := by rw [X.admits.platform]
  obtain ⟨c0, hfc0, hcl⟩ := Cond.classLink_spec hown hclink e.platform hpl
  cases hnA.symm.trans hfc0
  obtain ⟨hg₁, hwarm₁, hready₁⟩ := State.classEntry (e := e) X.warmed hcl
  generalize T.vm.noted g.method.cls index (.cls cA) = vm₁ at hg₁ hwarm₁ hready₁
  have hal : s.vm.Alike vm₁ := hwarm₁.alike
  obtain ⟨kA₁, hkA₁, heA⟩ := hal.2.2 _ _ hkA
  obtain ⟨kI₁, hkI₁, heI⟩ := hal.2.2 _ _ hk
  have hzA₁ : kA₁.kind = .array cI (.array .int) := by rw [heA]; exact hzA
  have hzI₁ : kI₁.kind = .array z .int := by rw [heI]; exact hz
  have hlimit : ¬ 20 > e.platform.arrayLengthLimit := by rw [Launch.admits_arrayLengthLimit X.admits]; omega
  have hheap : ¬ 20 * 4 > e.platform.maxHeapBytes := by rw [Launch.admits_maxHeapBytes X.admits]; omega
  obtain ⟨hr1, hr2⟩ := X.roomAbove hcells hslots
  obtain ⟨L, hL, X4⟩ := S4_stand (X.noted hwarm₁) cA cI 4
  obtain ⟨g1, g2, g3, g4, -, -⟩ := S4_is (cA := cA) (cI := cI) (S := T.setVm vm₁) 4
  obtain ⟨t', a1, b1⟩ := kk (S4 cA cI (T.setVm vm₁) 4).heap L hL g1 (g2.trans (congrArg some (arrV_congr (f4_get _)))) g3 g4 _ rfl X4
  refine ⟨t', ?_, b1⟩
  jvm_step X.here [hexec, hdg]
  refine mk_sem X.here.top hg₁ (by no_record) hkA₁ hzA₁ hkI₁ hzI₁ hlimit hheap hr1 hr2 hstack X4.here.top (fun d' a' => ?_)
  intro acts
  simp [jvm, X4.here.top]
  exact a1
end MULTIROW
