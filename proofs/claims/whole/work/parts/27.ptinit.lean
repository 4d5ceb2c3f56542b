/-! Points' constructor. -/
theorem nm_gg : "[" ++ (FieldType.array .int).toString = "[[I" := by decide
/-- one more cell at the heap's end -/
theorem wl_push {D : va_G} {A : Nat → Prop} {ws : va_W} {H : Heap} {e0 : va_E} {x : Cell} (hP : va_P D vwCl ws H) (hD : va_D A ws) (hA : A H.size) (hx : va_at D vwCl (H.size, e0) (H.push x)) : va_P D vwCl (ws ++ [(H.size, e0)]) (H.push x) ∧ va_D A (ws ++ [(H.size, e0)]) := by
  refine ⟨(hP.kept (fun k q hq => ?_)).app (fun k q hk => ?_), hD.push hP rfl hA⟩
  · rw [Array.getElem?_push, if_neg (Nat.ne_of_lt (hP k q hq).lt)]
  · have hz : k = 0 := by
      have := (List.getElem?_eq_some_iff.mp hk).1
      simp at this
      omega
    subst hz
    cases hk
    exact hx
section MROW
variable {p : Program} {l : Launch} {e : Env} {R : Room} {s : State} {m : MethodId} {args : Array Value} {below : List Frame} {meth : Method} {c : Code} {H : Heap} {locs : List Loc} {cells slots : Nat} {Q : State → Prop}
variable {cc : ByteArray} {nL pc index : Nat} {own nm : String} {ret0 : Option FieldType} {D : va_G} {K : Nat → ClassId} {A : Nat → Prop} {wl : va_W} {ls : Array Slot} {rest : List Value}
abbrev gQ (q : Nat) : Nat → Option Nat := fun j => some (q + 1 + j)
theorem g_mna (B : cX p s m args meth c cc nL own nm ret0 D K A) (hw : wd D A wl s H locs) (hlink : Cond.classLink own index "[[I" ∈ tsW) (hcells : cells + 5 ≤ R.cells) (hslots : slots + 84 ≤ R.slots) (hdg : decode cc pc = .ok (.multianewarray index 2, 4))
    (kk : ∀ (q : Nat) (H1 : Heap) (locs1 : List Loc), wd D A (wl ++ [(q, arQ K 4 4 (gQ q)), (q + 1, arI K 20 (fun _ => 0)), (q + 2, arI K 20 (fun _ => 0)), (q + 3, arI K 20 (fun _ => 0)), (q + 4, arI K 20 (fun _ => 0))]) s H1 locs1 → W p l e R s m args below meth c H1 locs1 (cells + 5) (slots + 84) Q (F0 m (pc + 4) ls (.ref q :: rest))) : W p l e R s m args below meth c H locs cells slots Q (F0 m pc ls (.int 20 :: .int 4 :: rest)) := by
  have hG := B.2.2.2.2.2.2.2.2.2.1.2.2.2
  obtain ⟨cA, cI, kA, kI, z, h1, h2, h3, h4, h5, h6⟩ := hG
  have e4 : s.vm.findClass ("[" ++ (FieldType.array .int).toString) = some (K 4) := (B.2.2.2.2.2.2.2.2.1.2 4 (K 4, .array .int) rfl).2
  have e0 : s.vm.findClass ("[" ++ FieldType.int.toString) = some (K 0) := (B.2.2.2.2.2.2.2.2.1.2 0 (K 0, .int) rfl).2
  obtain rfl : cA = K 4 := Option.some.inj (h1.symm.trans e4)
  obtain rfl : cI = K 0 := Option.some.inj (h4.symm.trans e0)
  refine w_mna B.1 B.2.1 B.2.2.2.1 (B.2.2.2.2.1 _ (nm_gg ▸ hlink)) h1 h2 h3 h5 h6 rfl hdg rfl hcells hslots (fun H1 L hL z1 zo zr zq => ?_)
  have hA : ∀ q, H.size ≤ q → A q := fun q hq => B.2.2.2.2.2.2.2.2.2.2 q (Nat.le_trans hw.2.2.1 hq)
  obtain ⟨p1, d1⟩ := wl_push (e0 := arQ K 4 4 (gQ H.size)) (x := arrV (K 4) 4 (fun j => va_rf (some (H.size + 1 + j)))) hw.1 hw.2.1 (hA _ (Nat.le_refl _)) (by show (H.push _)[H.size]? = _; rw [Array.getElem?_push_size]; rfl)
  have s1 : (H.push (arrV (K 4) 4 (fun j => va_rf (some (H.size + 1 + j))))).size = H.size + 1 := Array.size_push ..
  generalize hH2 : H.push (arrV (K 4) 4 (fun j => va_rf (some (H.size + 1 + j)))) = H2 at p1 d1 s1
  obtain ⟨p2, d2⟩ := wl_push (e0 := arI K 20 (fun _ => 0)) (x := rwC (K 0)) p1 d1 (hA _ (by omega)) (by show (H2.push _)[H2.size]? = _; rw [Array.getElem?_push_size]; rfl)
  have s2 : (H2.push (rwC (K 0))).size = H2.size + 1 := Array.size_push ..
  generalize hH3 : H2.push (rwC (K 0)) = H3 at p2 d2 s2
  obtain ⟨p3, d3⟩ := wl_push (e0 := arI K 20 (fun _ => 0)) (x := rwC (K 0)) p2 d2 (hA _ (by omega)) (by show (H3.push _)[H3.size]? = _; rw [Array.getElem?_push_size]; rfl)
  have s3 : (H3.push (rwC (K 0))).size = H3.size + 1 := Array.size_push ..
  generalize hH4 : H3.push (rwC (K 0)) = H4 at p3 d3 s3
  obtain ⟨p4, d4⟩ := wl_push (e0 := arI K 20 (fun _ => 0)) (x := rwC (K 0)) p3 d3 (hA _ (by omega)) (by show (H4.push _)[H4.size]? = _; rw [Array.getElem?_push_size]; rfl)
  have s4 : (H4.push (rwC (K 0))).size = H4.size + 1 := Array.size_push ..
  generalize hH5 : H4.push (rwC (K 0)) = H5 at p4 d4 s4
  obtain ⟨p5, d5⟩ := wl_push (e0 := arI K 20 (fun _ => 0)) (x := rwC (K 0)) p4 d4 (hA _ (by omega)) (by show (H5.push _)[H5.size]? = _; rw [Array.getElem?_push_size]; rfl)
  have hall : ∀ x : Nat, H1[x]? = (H5.push (rwC (K 0)))[x]? := by
    intro x
    have r0 := zr 0 (by omega)
    have r1 := zr 1 (by omega)
    have r2 := zr 2 (by omega)
    have r3 := zr 3 (by omega)
    rw [Array.getElem?_push]
    by_cases x5 : x = H5.size
    · rw [if_pos x5, x5, s4, s3, s2, s1]; exact r3
    rw [if_neg x5, ← hH5, Array.getElem?_push]
    by_cases x4 : x = H4.size
    · rw [if_pos x4, x4, s3, s2, s1]; exact r2
    rw [if_neg x4, ← hH4, Array.getElem?_push]
    by_cases x3 : x = H3.size
    · rw [if_pos x3, x3, s2, s1]; exact r1
    rw [if_neg x3, ← hH3, Array.getElem?_push]
    by_cases x2 : x = H2.size
    · rw [if_pos x2, x2, s1]; exact r0
    rw [if_neg x2, ← hH2, Array.getElem?_push]
    by_cases x1 : x = H.size
    · rw [if_pos x1, x1]; exact zo
    rw [if_neg x1]
    by_cases x0 : x < H.size
    · exact zq x x0
    · rw [Array.getElem?_eq_none (by omega), Array.getElem?_eq_none (by omega)]
  have e5 : H5.size = H.size + 4 := by omega
  have e4' : H4.size = H.size + 3 := by omega
  have e3' : H3.size = H.size + 2 := by omega
  have hw5 : wd D A (wl ++ [(H.size, arQ K 4 4 (gQ H.size)), (H.size + 1, arI K 20 (fun _ => 0)), (H.size + 2, arI K 20 (fun _ => 0)), (H.size + 3, arI K 20 (fun _ => 0)), (H.size + 4, arI K 20 (fun _ => 0))]) s H1 (locs ++ L) := by
    rw [e5, e4', e3', s1] at p5 d5
    simp only [List.append_assoc, List.cons_append, List.nil_append] at p5 d5
    refine ⟨p5.kept (fun k q _ => hall q.1), d5, Nat.le_trans hw.2.2.1 (by omega), fun q hq hn => ?_, fun x hx => ?_⟩
    · rw [zq q (Nat.lt_of_lt_of_le hq hw.2.2.1)]
      exact hw.2.2.2.1 q hq hn
    · rcases List.mem_append.mp hx with hx | hx
      · exact hw.2.2.2.2 x hx
      · rw [hL x hx]; exact hA _ (Nat.le_refl _)
  exact kk H.size H1 (locs ++ L) hw5
end MROW
