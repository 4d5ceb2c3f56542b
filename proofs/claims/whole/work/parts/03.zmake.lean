/-! Rows that make cells: arrays and objects, at the end of the list of cells. -/
section MAKE
variable {p : Program} {l : Launch} {e : Env} {R : Room} {s : State} {m : MethodId} {args : Array Value} {below : List Frame} {meth : Method} {c : Code} {H : Heap} {locs : List Loc} {cells slots : Nat} {Q : State → Prop}
variable {cc : ByteArray} {nL pc index : Nat} {own nm : String} {ret0 : Option FieldType} {D : va_G} {K : Nat → ClassId} {A : Nat → Prop} {wl : va_W} {ls : Array Slot} {rest : List Value}
theorem g_newI {n : Int32} {N' : Nat} (B : cX p s m args meth c cc nL own nm ret0 D K A) (hw : wd D A wl s H locs) (hn : ¬ n < 0) (hN : n.toNatClampNeg = N') (hbytes : N' * componentBytes .int ≤ 536870912) (hcells : cells + 1 ≤ R.cells) (hslots : slots + N' ≤ R.slots) (hdg : decode cc pc = .ok (.newarray .int, 2))
    (kk : ∀ (q : Nat) (H1 : Heap), wd D A (wl ++ [(q, .inl (K 0, N', .inl (fun _ => 0)))]) s H1 locs → W p l e R s m args below meth c H1 locs (cells + 1) (slots + N') Q (F0 m (pc + 2) ls (.ref q :: rest))) : W p l e R s m args below meth c H locs cells slots Q (F0 m pc ls (.int n :: rest)) := by
  refine va_newa (atype := .int) (a0 := (N', .inl (fun _ => 0))) B.1 B.2.1 (B.2.2.2.2.1 _ ac_int) rfl B.2.2.2.2.2.2.2.2.1 hw.1 hw.2.1 hw.2.2 B.2.2.2.2.2.2.2.2.2.2 (fun _ => rfl) hn hN hbytes hcells hslots hdg (fun q cA H1 hK hP hD hS => ?_)
  have e1 : s.vm.findClass ("[" ++ FieldType.int.toString) = some cA := (hK.2 5 (cA, .int) rfl).2
  have e2 : s.vm.findClass ("[" ++ FieldType.int.toString) = some (K 0) := (B.2.2.2.2.2.2.2.2.1.2 0 (K 0, .int) rfl).2
  obtain rfl : cA = K 0 := Option.some.inj (e1.symm.trans e2)
  exact kk q H1 ⟨hP, hD, hS⟩
theorem g_newJ {n : Int32} {N' : Nat} (B : cX p s m args meth c cc nL own nm ret0 D K A) (hw : wd D A wl s H locs) (hn : ¬ n < 0) (hN : n.toNatClampNeg = N') (hbytes : N' * componentBytes .long ≤ 536870912) (hcells : cells + 1 ≤ R.cells) (hslots : slots + N' ≤ R.slots) (hdg : decode cc pc = .ok (.newarray .long, 2))
    (kk : ∀ (q : Nat) (H1 : Heap), wd D A (wl ++ [(q, .inl (K 1, N', .inr (.inl (fun _ => 0))))]) s H1 locs → W p l e R s m args below meth c H1 locs (cells + 1) (slots + N') Q (F0 m (pc + 2) ls (.ref q :: rest))) : W p l e R s m args below meth c H locs cells slots Q (F0 m pc ls (.int n :: rest)) := by
  refine va_newa (atype := .long) (a0 := (N', .inr (.inl (fun _ => 0)))) B.1 B.2.1 (B.2.2.2.2.1 _ ac_long) rfl B.2.2.2.2.2.2.2.2.1 hw.1 hw.2.1 hw.2.2 B.2.2.2.2.2.2.2.2.2.2 (fun _ => rfl) hn hN hbytes hcells hslots hdg (fun q cA H1 hK hP hD hS => ?_)
  have e1 : s.vm.findClass ("[" ++ FieldType.long.toString) = some cA := (hK.2 5 (cA, .long) rfl).2
  have e2 : s.vm.findClass ("[" ++ FieldType.long.toString) = some (K 1) := (B.2.2.2.2.2.2.2.2.1.2 1 (K 1, .long) rfl).2
  obtain rfl : cA = K 1 := Option.some.inj (e1.symm.trans e2)
  exact kk q H1 ⟨hP, hD, hS⟩
theorem g_newQ (t0 : Nat) {C : String} {n : Int32} {N' : Nat} (B : cX p s m args meth c cc nL own nm ret0 D K A) (hw : wd D A wl s H locs) (ht : (tyA K)[t0]? = some (K t0, .object C)) (hlink : Cond.classLink own index C ∈ tsW) (hover : nwOk s → va_AO C s) (hn : ¬ n < 0) (hN : n.toNatClampNeg = N') (hbytes : N' * 4 ≤ 536870912) (hcells : cells + 1 ≤ R.cells) (hslots : slots + N' ≤ R.slots) (hdg : decode cc pc = .ok (.anewarray index, 3))
    (kk : ∀ (q : Nat) (H1 : Heap), wd D A (wl ++ [(q, .inl (K t0, N', .inr (.inr (.inr (.inr (fun _ => none))))))]) s H1 locs → W p l e R s m args below meth c H1 locs (cells + 1) (slots + N') Q (F0 m (pc + 3) ls (.ref q :: rest))) : W p l e R s m args below meth c H locs cells slots Q (F0 m pc ls (.int n :: rest)) := by
  refine va_newq B.1 B.2.1 B.2.2.2.1 (B.2.2.2.2.1 _ hlink) (hover B.2.2.2.2.2.2.2.2.2.1) B.2.2.2.2.2.2.2.2.1 hw.1 hw.2.1 hw.2.2 B.2.2.2.2.2.2.2.2.2.2 hn hN hbytes hcells hslots hdg (fun q cA H1 hK hP hD hS => ?_)
  obtain ⟨k1, c1, -, -, -, e1⟩ := (hK.2 5 (cA, .object C) rfl).2
  obtain ⟨k2, c2, -, -, -, e2⟩ := (B.2.2.2.2.2.2.2.2.1.2 t0 (K t0, .object C) ht).2
  obtain rfl : cA = K t0 := Option.some.inj (e1.symm.trans e2)
  exact kk q H1 ⟨hP, hD, hS⟩
theorem g_new {ci N : Nat} {C : String} {T : u_T} {ty0 : Nat → FieldType} (fs : List Value) (B : cX p s m args meth c cc nL own nm ret0 D K A) (hw : wd D A wl s H locs) (hc : vwCl[ci]? = some (C, T, N)) (hin : ∀ w ∈ u_ws C T N, w ∈ tsW) (hty : ∀ k, k < N → parseFieldDescriptor (T k).2.2.1 = some (ty0 k)) (hlink : Cond.classLink own index C ∈ tsW) (hib : Cond.instantiable C N ∈ tsW) (hini : Cond.initialized C ∈ tsW) (hfs : ∀ j, j < N → defaultValue (ty0 j) = vp_V fs j) (hcells : cells + 1 ≤ R.cells) (hslots : slots + N ≤ R.slots) (hdg : decode cc pc = .ok (.new index, 3))
    (kk : ∀ (q : Nat) (H1 : Heap), wd D A (wl ++ [(q, .inr (ci, fs))]) s H1 locs → W p l e R s m args below meth c H1 locs (cells + 1) (slots + N) Q (F0 m (pc + 3) ls (.ref q :: rest))) : W p l e R s m args below meth c H locs cells slots Q (F0 m pc ls rest) :=
  va_new B.1 B.2.1 B.2.2.2.2.1 hin ty0 hty B.2.2.2.1 (B.2.2.2.2.1 _ hlink) (B.2.2.2.2.1 _ hib) (B.2.2.2.2.1 _ hini) B.2.2.2.2.2.2.2.2.1 hw.1 hw.2.1 hw.2.2 B.2.2.2.2.2.2.2.2.2.2 hc hfs hcells hslots hdg (fun q H1 hP hD hS => kk q H1 ⟨hP, hD, hS⟩)
end MAKE
/-- an object's place isn't an array's -/
theorem ne_oa {w : va_W} {i j a b : Nat} {x : ClassId × vp_A} {y : Nat × List Value} (h1 : w[i]? = some (a, .inr y)) (h2 : w[j]? = some (b, .inl x)) : i ≠ j := by
  rintro rfl
  rw [h1] at h2
  cases h2
theorem ne_oo {w : va_W} {i j a b c1 c2 : Nat} {x y : List Value} (h1 : w[i]? = some (a, .inr (c1, x))) (h2 : w[j]? = some (b, .inr (c2, y))) (hc : c1 ≠ c2) : i ≠ j := by
  rintro rfl
  rw [h1] at h2
  cases h2
  exact hc rfl
theorem ne_aa {w : va_W} {i j a b : Nat} {x y : va_E} (h1 : w[i]? = some (a, x)) (h2 : w[j]? = some (b, y)) (hn : a ≠ b) : i ≠ j := by
  rintro rfl
  rw [h1] at h2
  cases h2
  exact hn rfl
