/-! The state of a NumberStreams as its cells hold it, in the words of the reference's arrays. -/
abbrev oNS (aS aR rc aP aW aC : Nat) : va_E := .inr (0, [.ref aS, .ref aR, .int (nI rc), .ref aP, .ref aW, .ref aC])
/-- the cells that stay: the object, its arrays, the points -/
def XF (K : Nat → ClassId) (h aS aR aP aD aW aC rc : Nat) (g rr gd : Nat → Option Nat) (ix : Nat) (wt cd : Nat → Int32) (wl : va_W) : Prop :=
  wl[0]? = some (h, oNS aS aR rc aP aW aC) ∧ wl[1]? = some (aS, arQ K 2 8 g) ∧ wl[2]? = some (aR, arQ K 3 6 rr) ∧ wl[3]? = some (aP, oPt aD (nI ix)) ∧ wl[4]? = some (aD, arQ K 4 4 gd) ∧
  (∀ k, k < 4 → ∃ a F, gd k = some a ∧ wl[5 + k]? = some (a, arI K 20 F) ∧ ∀ i, i < 20 → F i = dirT k i) ∧ wl[9]? = some (aW, arI K 16 wt) ∧ wl[10]? = some (aC, arI K 16 cd)
/-- the streams -/
def XS (kd : Nat → Int32) (f1 f2 : Nat → Int64) (g : Nat → Option Nat) (wl : va_W) : Prop :=
  (∀ k, k < 8 → (kd k < 0 ∧ g k = none) ∨ (¬ kd k < 0 ∧ ∃ a i : Nat, g k = some a ∧ wl[i]? = some (a, oSt (kd k) (f1 k) (f2 k)))) ∧ ∀ j k a : Nat, j < 8 → k < 8 → g j = some a → g k = some a → j = k
/-- the records -/
def XV (K : Nat → ClassId) (rc : Nat) (sz : Nat → Nat) (sd : Nat → Int32) (rr : Nat → Option Nat) (ra wa : Nat → Nat) (wl : va_W) : Prop :=
  rc ≤ 6 ∧ (∀ r, r < rc → rr r = some (ra r) ∧ sz r ≤ 6 ∧ ∃ (i j : Nat) (w : Nat → Int32), wl[i]? = some (ra r, oSv (wa r) (sz r)) ∧ wl[j]? = some (wa r, arI K 6 w) ∧ ∀ t, t < sz r → w t = sd (6 * r + t)) ∧
  (∀ r t, r < rc → t < rc → ra r = ra t → r = t) ∧ ∀ r t, r < rc → t < rc → wa r = wa t → r = t
/-- what the numbers keep -/
def IV (kd : Nat → Int32) (f1 f2 : Nat → Int64) (ix : Nat) (wt : Nat → Int32) : Prop :=
  (∀ k, k < 8 → ¬ kd k < 0 → kd k ≤ 3 ∧ okS (kd k) (f1 k) (f2 k)) ∧ ix ≤ 1048575 ∧ ∀ k, k < 16 → ∃ v : Nat, v ≤ 1000000 ∧ wt k = nI v
def XR (K : Nat → ClassId) (h : Nat) (kd : Nat → Int32) (f1 f2 : Nat → Int64) (rc : Nat) (sz : Nat → Nat) (sd : Nat → Int32) (ix : Nat) (wt cd : Nat → Int32) (wl : va_W) : Prop :=
  ∃ aS aR aP aD aW aC g rr gd ra wa, XF K h aS aR aP aD aW aC rc g rr gd ix wt cd wl ∧ XS kd f1 f2 g wl ∧ XV K rc sz sd rr ra wa wl
section XKEEP
variable {K : Nat → ClassId} {h aS aR aP aD aW aC rc ix : Nat} {g rr gd : Nat → Option Nat} {wt cd kd sd : Nat → Int32} {f1 f2 : Nat → Int64} {sz ra wa : Nat → Nat} {wl w2 : va_W}
theorem XF.keep (hX : XF K h aS aR aP aD aW aC rc g rr gd ix wt cd wl) (hk : ∀ (i : Nat) (x : Nat × va_E), i ≤ 10 → wl[i]? = some x → w2[i]? = some x) : XF K h aS aR aP aD aW aC rc g rr gd ix wt cd w2 := by
  obtain ⟨e0, e1, e2, e3, e4, e5, e9, e10⟩ := hX
  refine ⟨hk _ _ (by omega) e0, hk _ _ (by omega) e1, hk _ _ (by omega) e2, hk _ _ (by omega) e3, hk _ _ (by omega) e4, fun k h4 => ?_, hk _ _ (by omega) e9, hk _ _ (by omega) e10⟩
  obtain ⟨a, F, h1, h2, h3⟩ := e5 k h4
  exact ⟨a, F, h1, hk _ _ (by omega) h2, h3⟩
theorem XS.keep (hX : XS kd f1 f2 g wl) (hk : ∀ (i a : Nat) (k : Int32) (f1 f2 : Int64), wl[i]? = some (a, oSt k f1 f2) → w2[i]? = some (a, oSt k f1 f2)) : XS kd f1 f2 g w2 := by
  refine ⟨fun k hk8 => ?_, hX.2⟩
  rcases hX.1 k hk8 with h | ⟨h1, a, i, h2, h3⟩
  · exact Or.inl h
  · exact Or.inr ⟨h1, a, i, h2, hk _ _ _ _ _ h3⟩
theorem XV.keep (hX : XV K rc sz sd rr ra wa wl) (hk : ∀ i a b n : Nat, wl[i]? = some (a, oSv b n) → w2[i]? = some (a, oSv b n)) (hj : ∀ (i a : Nat) (w : Nat → Int32), wl[i]? = some (a, arI K 6 w) → w2[i]? = some (a, arI K 6 w)) : XV K rc sz sd rr ra wa w2 := by
  refine ⟨hX.1, fun r hr => ?_, hX.2.2⟩
  obtain ⟨h1, h2, i, j, w, h3, h4, h5⟩ := hX.2.1 r hr
  exact ⟨h1, h2, i, j, w, hk _ _ _ _ h3, hj _ _ _ h4, h5⟩
end XKEEP
/-- arrays of ints of two lengths lie apart -/
theorem ne_ii {K : Nat → ClassId} {w : va_W} {i j a b n m : Nat} {f f2 : Nat → Int32} (h1 : w[i]? = some (a, arI K n f)) (h2 : w[j]? = some (b, arI K m f2)) (hn : n ≠ m) : i ≠ j := by
  rintro rfl
  rw [h1] at h2
  have h4 := (Prod.mk.inj (Option.some.inj h2)).2
  exact hn (Prod.mk.inj (Prod.mk.inj (Sum.inl.inj h4)).2).1
/-- where the fixed cells lie -/
theorem XF.st {K : Nat → ClassId} {h aS aR aP aD aW aC rc ix : Nat} {g rr gd : Nat → Option Nat} {wt cd : Nat → Int32} {wl : va_W} (hX : XF K h aS aR aP aD aW aC rc g rr gd ix wt cd wl) {i a ci : Nat} {fs : List Value} (hi : wl[i]? = some (a, .inr (ci, fs))) (hc : 2 ≤ ci) : 10 < i := by
  obtain ⟨e0, e1, e2, e3, e4, e5, e9, e10⟩ := hX
  apply Nat.lt_of_not_le
  intro q
  obtain ⟨a5, F5, -, h5, -⟩ := e5 0 (by omega)
  obtain ⟨a6, F6, -, h6, -⟩ := e5 1 (by omega)
  obtain ⟨a7, F7, -, h7, -⟩ := e5 2 (by omega)
  obtain ⟨a8, F8, -, h8, -⟩ := e5 3 (by omega)
  have n0 := ne_oo hi e0 (by omega)
  have n1 := ne_oa hi e1
  have n2 := ne_oa hi e2
  have n3 := ne_oo hi e3 (by omega)
  have n4 := ne_oa hi e4
  have n5 := ne_oa hi h5
  have n6 := ne_oa hi h6
  have n7 := ne_oa hi h7
  have n8 := ne_oa hi h8
  have n9 := ne_oa hi e9
  have n10 := ne_oa hi e10
  omega
theorem XF.wd {K : Nat → ClassId} {h aS aR aP aD aW aC rc ix : Nat} {g rr gd : Nat → Option Nat} {wt cd : Nat → Int32} {wl : va_W} (hX : XF K h aS aR aP aD aW aC rc g rr gd ix wt cd wl) {i a : Nat} {w : Nat → Int32} (hi : wl[i]? = some (a, arI K 6 w)) : 10 < i := by
  obtain ⟨e0, e1, e2, e3, e4, e5, e9, e10⟩ := hX
  apply Nat.lt_of_not_le
  intro q
  obtain ⟨a5, F5, -, h5, -⟩ := e5 0 (by omega)
  obtain ⟨a6, F6, -, h6, -⟩ := e5 1 (by omega)
  obtain ⟨a7, F7, -, h7, -⟩ := e5 2 (by omega)
  obtain ⟨a8, F8, -, h8, -⟩ := e5 3 (by omega)
  have n0 := (ne_oa e0 hi).symm
  have n1 := ne_iq hi e1
  have n2 := ne_iq hi e2
  have n3 := (ne_oa e3 hi).symm
  have n4 := ne_iq hi e4
  have n5 := ne_ii hi h5 (by omega)
  have n6 := ne_ii hi h6 (by omega)
  have n7 := ne_ii hi h7 (by omega)
  have n8 := ne_ii hi h8 (by omega)
  have n9 := ne_ii hi e9 (by omega)
  have n10 := ne_ii hi e10 (by omega)
  omega
/-- a slot as the reference asks it, and as the class does -/
def hdS (kd : Nat → Int32) (slot : Int32) : Option Nat := if slot < 0 then none else if slot < 8 then (if kd slot.toNatClampNeg < 0 then none else some slot.toNatClampNeg) else none
def stAt (g : Nat → Option Nat) (slot : Int32) : Option Nat := if slot < 0 then none else if slot < 8 then g slot.toNatClampNeg else none
theorem slot_of {x : Int32} (h0 : ¬ x < 0) {n : Nat} (hn : n < 2 ^ 31) (h : x < nI n) : ∃ k, k < n ∧ x = nI k := by
  obtain ⟨k, hk, rfl⟩ := nI_of h0
  exact ⟨k, (nI_ltI hk hn).mp h, rfl⟩
theorem hdS_nI {kd : Nat → Int32} {k : Nat} (hk : k < 8) (h : ¬ kd k < 0) : hdS kd (nI k) = some k := by
  unfold hdS
  rw [if_neg (nI_pos (by omega)), if_pos (show nI k < 8 from nI_lt (b := 8) hk (by omega)), nI_clamp (by omega), if_neg h]
theorem st_case {kd : Nat → Int32} {f1 f2 : Nat → Int64} {g : Nat → Option Nat} {wl : va_W} (hX : XS kd f1 f2 g wl) (slot : Int32) :
    (hdS kd slot = none ∧ stAt g slot = none) ∨ ∃ k, k < 8 ∧ slot = nI k ∧ hdS kd (nI k) = some k ∧ ¬ kd k < 0 ∧ ∃ a i : Nat, g k = some a ∧ stAt g (nI k) = some a ∧ wl[i]? = some (a, oSt (kd k) (f1 k) (f2 k)) := by
  by_cases h0 : slot < 0
  · exact Or.inl ⟨if_pos h0, if_pos h0⟩
  by_cases h8 : slot < 8
  · obtain ⟨k, hk, rfl⟩ := slot_of h0 (n := 8) (by omega) h8
    have e : stAt g (nI k) = g k := by
      unfold stAt
      rw [if_neg h0, if_pos h8, nI_clamp (by omega)]
    rcases hX.1 k hk with ⟨h1, h2⟩ | ⟨h1, a, i, h2, h3⟩
    · refine Or.inl ⟨?_, e.trans h2⟩
      unfold hdS
      rw [if_neg h0, if_pos h8, nI_clamp (by omega), if_pos h1]
    · exact Or.inr ⟨k, hk, rfl, hdS_nI hk h1, h1, a, i, h2, e.trans h2, h3⟩
  · refine Or.inl ⟨?_, ?_⟩
    · unfold hdS
      rw [if_neg h0, if_neg h8]
    · unfold stAt
      rw [if_neg h0, if_neg h8]
/-- the least free slot -/
def frN (kd : Nat → Int32) : Nat → Nat → Int32
  | _, 0 => -1
  | i, n + 1 => if kd i < 0 then nI i else frN kd (i + 1) n
def frI (kd : Nat → Int32) : Int32 := frN kd 0 8
theorem frN_case (kd : Nat → Int32) : ∀ (n i : Nat), i + n < 2 ^ 31 → (frN kd i n = -1 ∧ ∀ j, i ≤ j → j < i + n → ¬ kd j < 0) ∨ ∃ k, i ≤ k ∧ k < i + n ∧ kd k < 0 ∧ frN kd i n = nI k
  | 0, i, _ => Or.inl ⟨rfl, fun j h1 h2 => by omega⟩
  | n + 1, i, hn => by
    by_cases h : kd i < 0
    · exact Or.inr ⟨i, Nat.le_refl _, by omega, h, if_pos h⟩
    · have e : frN kd i (n + 1) = frN kd (i + 1) n := if_neg h
      rcases frN_case kd n (i + 1) (by omega) with ⟨h1, h2⟩ | ⟨k, h1, h2, h3, h4⟩
      · refine Or.inl ⟨e.trans h1, fun j j1 j2 => ?_⟩
        by_cases q : j = i
        · subst q; exact h
        · exact h2 j (by omega) (by omega)
      · exact Or.inr ⟨k, by omega, by omega, h3, e.trans h4⟩
theorem frI_case (kd : Nat → Int32) : frI kd = -1 ∨ ∃ k, k < 8 ∧ kd k < 0 ∧ frI kd = nI k := by
  rcases frN_case kd 8 0 (by omega) with ⟨h, -⟩ | ⟨k, -, h1, h2, h3⟩
  · exact Or.inl h
  · exact Or.inr ⟨k, by omega, h2, h3⟩
section XUPD
variable {K : Nat → ClassId} {h aS aR aP aD aW aC rc ix : Nat} {g rr gd : Nat → Option Nat} {wt cd kd sd : Nat → Int32} {f1 f2 : Nat → Int64} {sz ra wa : Nat → Nat} {wl : va_W}
theorem updL_s {f : Nat → Int64} {k : Nat} {x : Int64} : vp_updL f k x k = x := pk_uLs
theorem updL_n {f : Nat → Int64} {k j : Nat} {x : Int64} (h : j ≠ k) : vp_updL f k x j = f j := pk_uLn h
theorem updL_self {f : Nat → Int64} {k : Nat} : vp_updL f k (f k) = f := by
  funext j
  by_cases e : j = k
  · subst e; exact pk_uLs
  · exact pk_uLn e
theorem updL_updL {f : Nat → Int64} {k : Nat} {x y : Int64} : vp_updL (vp_updL f k x) k y = vp_updL f k y := by
  funext j
  by_cases e : j = k
  · subst e; rw [pk_uLs, pk_uLs]
  · rw [pk_uLn e, pk_uLn e, pk_uLn e]
theorem upd_self {f : Nat → Int32} {k : Nat} : upd f k (f k) = f := by
  funext j
  by_cases e : j = k
  · subst e; exact pk_us
  · exact pk_un e
/-- a stream moves on -/
theorem XS.step (hX : XS kd f1 f2 g wl) {k a i : Nat} (hk : k < 8) (hkd : ¬ kd k < 0) (hg : g k = some a) (hi : wl[i]? = some (a, oSt (kd k) (f1 k) (f2 k))) (F G : Int64) : XS kd (vp_updL f1 k F) (vp_updL f2 k G) g (wl.set i (a, oSt (kd k) F G)) := by
  refine ⟨fun j hj => ?_, hX.2⟩
  by_cases e : j = k
  · subst e
    rw [updL_s, updL_s]
    exact Or.inr ⟨hkd, a, i, hg, gs_eq hi⟩
  · rw [updL_n e, updL_n e]
    rcases hX.1 j hj with q | ⟨h1, b, i2, h2, h3⟩
    · exact Or.inl q
    · refine Or.inr ⟨h1, b, i2, h2, gs_ne (ne_aa hi h3 (fun q => ?_)) h3⟩
      subst q
      exact e (hX.2 j k a hj hk h2 hg)
theorem XR.step (hF : XF K h aS aR aP aD aW aC rc g rr gd ix wt cd wl) (hX : XS kd f1 f2 g wl) (hV : XV K rc sz sd rr ra wa wl) {k a i : Nat} (hk : k < 8) (hkd : ¬ kd k < 0) (hg : g k = some a) (hi : wl[i]? = some (a, oSt (kd k) (f1 k) (f2 k))) (F G : Int64) : XR K h kd (vp_updL f1 k F) (vp_updL f2 k G) rc sz sd ix wt cd (wl.set i (a, oSt (kd k) F G)) := by
  have h10 := hF.st hi (by omega)
  exact ⟨aS, aR, aP, aD, aW, aC, g, rr, gd, ra, wa, hF.keep (fun j x hj hx => gs_ne (by omega) hx), hX.step hk hkd hg hi F G, hV.keep (fun j b c n hx => gs_ne (ne_oo hi hx (by omega)) hx) (fun j b w hx => gs_ne (ne_oa hi hx) hx)⟩
/-- a slot is let go -/
theorem XR.free (hF : XF K h aS aR aP aD aW aC rc g rr gd ix wt cd wl) (hX : XS kd f1 f2 g wl) (hV : XV K rc sz sd rr ra wa wl) {k : Nat} (hk : k < 8) : XR K h (upd kd k (-1)) f1 f2 rc sz sd ix wt cd (wl.set 1 (aS, arQ K 2 8 (va_up g k none))) := by
  have hF2 := hF
  obtain ⟨e0, e1, e2, e3, e4, e5, e9, e10⟩ := hF
  refine ⟨aS, aR, aP, aD, aW, aC, va_up g k none, rr, gd, ra, wa, ⟨gs_ne (by omega) e0, gs_eq e1, gs_ne (by omega) e2, gs_ne (by omega) e3, gs_ne (by omega) e4, fun j hj => ?_, gs_ne (by omega) e9, gs_ne (by omega) e10⟩, ⟨fun j hj => ?_, fun i j a hi hj h1 h2 => ?_⟩, hV.keep (fun j b c n hx => gs_ne (by have := hF2.st hx (by omega); omega) hx) (fun j b w hx => gs_ne (by have := hF2.wd hx; omega) hx)⟩
  · obtain ⟨a, F, h1, h2, h3⟩ := e5 j hj
    exact ⟨a, F, h1, gs_ne (by omega) h2, h3⟩
  · by_cases e : j = k
    · subst e
      exact Or.inl ⟨by rw [pk_us]; decide, va_up_self ..⟩
    · rw [pk_un e, show va_up g k none j = g j from if_neg e]
      rcases hX.1 j hj with q | ⟨h1, b, i2, h2, h3⟩
      · exact Or.inl q
      · exact Or.inr ⟨h1, b, i2, h2, gs_ne (by have := hF2.st h3 (by omega); omega) h3⟩
  · have d1 : i ≠ k := fun q => by rw [q, va_up_self] at h1; cases h1
    have d2 : j ≠ k := fun q => by rw [q, va_up_self] at h2; cases h2
    rw [show va_up g k none i = g i from if_neg d1] at h1
    rw [show va_up g k none j = g j from if_neg d2] at h2
    exact hX.2 i j a hi hj h1 h2
/-- a new stream comes into a free slot -/
theorem XR.born (hF : XF K h aS aR aP aD aW aC rc g rr gd ix wt cd wl) (hX : XS kd f1 f2 g wl) (hV : XV K rc sz sd rr ra wa wl) {A : Nat → Prop} {k q : Nat} (hk : k < 8) {c : Int32} (hc : ¬ c < 0) (F G : Int64) {e0 : va_E} (hD : va_D A (wl ++ [(q, e0)])) :
    XR K h (upd kd k c) (vp_updL f1 k F) (vp_updL f2 k G) rc sz sd ix wt cd ((wl ++ [(q, oSt c F G)]).set 1 (aS, arQ K 2 8 (va_up g k (some q)))) := by
  have hq : ∀ (i a : Nat) (x : va_E), wl[i]? = some (a, x) → a ≠ q := fun i a x hx z => by
    have hl : i < wl.length := (List.getElem?_eq_some_iff.mp hx).1
    have := hD.1 i wl.length (a, x) (q, e0) (ga_old hx) ga_new z
    omega
  have hF2 := hF
  obtain ⟨e0, e1, e2, e3, e4, e5, e9, e10⟩ := hF
  have hl1 : 10 < wl.length := (List.getElem?_eq_some_iff.mp e10).1
  refine ⟨aS, aR, aP, aD, aW, aC, va_up g k (some q), rr, gd, ra, wa, ⟨gs_ne (by omega) (ga_old e0), gs_eq (ga_old e1), gs_ne (by omega) (ga_old e2), gs_ne (by omega) (ga_old e3), gs_ne (by omega) (ga_old e4), fun j hj => ?_, gs_ne (by omega) (ga_old e9), gs_ne (by omega) (ga_old e10)⟩, ⟨fun j hj => ?_, fun i j a hi hj h1 h2 => ?_⟩, hV.keep (fun j b c n hx => gs_ne (by have := hF2.st hx (by omega); omega) (ga_old hx)) (fun j b w hx => gs_ne (by have := hF2.wd hx; omega) (ga_old hx))⟩
  · obtain ⟨a, F, h1, h2, h3⟩ := e5 j hj
    exact ⟨a, F, h1, gs_ne (by omega) (ga_old h2), h3⟩
  · by_cases e : j = k
    · subst e
      rw [pk_us, updL_s, updL_s]
      exact Or.inr ⟨hc, q, wl.length, va_up_self .., gs_ne (by omega) ga_new⟩
    · rw [pk_un e, updL_n e, updL_n e, show va_up g k (some q) j = g j from if_neg e]
      rcases hX.1 j hj with z | ⟨h1, b, i2, h2, h3⟩
      · exact Or.inl z
      · exact Or.inr ⟨h1, b, i2, h2, gs_ne (by have := hF2.st h3 (by omega); omega) (ga_old h3)⟩
  · have live : ∀ i, i < 8 → i ≠ k → g i = some a → a ≠ q := fun i hi hik hgi => by
      rcases hX.1 i hi with ⟨_, z⟩ | ⟨_, b, i2, h2, h3⟩
      · rw [z] at hgi; cases hgi
      · rw [h2] at hgi; cases hgi; exact hq _ _ _ h3
    by_cases d1 : i = k <;> by_cases d2 : j = k
    · omega
    · subst d1
      rw [va_up_self] at h1
      rw [show va_up g i (some q) j = g j from if_neg d2] at h2
      cases h1
      exact absurd rfl (live j hj d2 h2)
    · subst d2
      rw [va_up_self] at h2
      rw [show va_up g j (some q) i = g i from if_neg d1] at h1
      cases h2
      exact absurd rfl (live i hi d1 h1)
    · rw [show va_up g k (some q) i = g i from if_neg d1] at h1
      rw [show va_up g k (some q) j = g j from if_neg d2] at h2
      exact hX.2 i j a hi hj h1 h2
/-- weights, cards, the index -/
theorem XR.fix (hF : XF K h aS aR aP aD aW aC rc g rr gd ix wt cd wl) (hX : XS kd f1 f2 g wl) (hV : XV K rc sz sd rr ra wa wl) {w2 : va_W} {ix2 : Nat} {wt2 cd2 : Nat → Int32} (hF2 : XF K h aS aR aP aD aW aC rc g rr gd ix2 wt2 cd2 w2) {p : Nat} {y : Nat × va_E} (hw : w2 = wl.set p y) (hp : p ≤ 10) : XR K h kd f1 f2 rc sz sd ix2 wt2 cd2 w2 := by
  subst hw
  exact ⟨aS, aR, aP, aD, aW, aC, g, rr, gd, ra, wa, hF2, hX.keep (fun j a k f1 f2 hx => gs_ne (by have := hF.st hx (by omega); omega) hx), hV.keep (fun j b c n hx => gs_ne (by have := hF.st hx (by omega); omega) hx) (fun j b w hx => gs_ne (by have := hF.wd hx; omega) hx)⟩
end XUPD
