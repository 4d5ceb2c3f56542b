/-! What every call keeps of the numbers. -/
abbrev I1 (kd : Nat → Int32) (f1 f2 : Nat → Int64) : Prop := ∀ k, k < 8 → ¬ kd k < 0 → kd k ≤ 3 ∧ okS (kd k) (f1 k) (f2 k)
abbrev I3 (wt : Nat → Int32) : Prop := ∀ k, k < 16 → ∃ v : Nat, v ≤ 1000000 ∧ wt k = nI v
section KEEP
variable {kd : Nat → Int32} {f1 f2 : Nat → Int64}
theorem I1.move (h : I1 kd f1 f2) {k : Nat} (hk : k < 8) (hd : ¬ kd k < 0) {F G : Int64} (ho : okS (kd k) F G) : I1 kd (vp_updL f1 k F) (vp_updL f2 k G) := by
  intro j hj hn
  by_cases e : j = k
  · subst e; rw [updL_s, updL_s]; exact ⟨(h j hj hn).1, ho⟩
  · rw [updL_n e, updL_n e]; exact h j hj hn
theorem I1.born (h : I1 kd f1 f2) {k : Nat} {c : Int32} (hc : c ≤ 3) {F G : Int64} (ho : okS c F G) : I1 (upd kd k c) (vp_updL f1 k F) (vp_updL f2 k G) := by
  intro j hj hn
  by_cases e : j = k
  · subst e; rw [pk_us, updL_s, updL_s]; exact ⟨hc, ho⟩
  · rw [pk_un e] at hn ⊢
    rw [updL_n e, updL_n e]; exact h j hj hn
theorem I1.free (h : I1 kd f1 f2) {k : Nat} : I1 (upd kd k (-1)) f1 f2 := by
  intro j hj hn
  by_cases e : j = k
  · subst e; rw [pk_us] at hn; exact absurd (by decide) hn
  · rw [pk_un e] at hn ⊢; exact h j hj hn
theorem isR_0 {x : Int64} (h : ¬ isR x = 0) : 0 ≤ x ∧ x < 2147483647 := by
  unfold isR at h
  by_cases h0 : x < 0
  · rw [if_pos h0] at h; exact absurd rfl h
  · rw [if_neg h0] at h
    by_cases h1 : 2147483647 ≤ x
    · rw [if_pos h1] at h; exact absurd rfl h
    · exact ⟨Int64.not_lt.mp h0, Int64.not_le.mp h1⟩
theorem isSt_ok {k : Int32} {f s : Int64} (h : ¬ isSt k f s = 0) : okS k f s := by
  refine ⟨fun e => ?_, fun e => ?_⟩
  · subst e
    unfold isSt at h
    rw [if_neg (by decide), if_neg (by decide), if_pos rfl] at h
    by_cases h0 : s < 0
    · rw [if_pos h0] at h; exact absurd rfl h
    · exact Int64.not_lt.mp h0
  · subst e
    unfold isSt at h
    rw [if_neg (by decide), if_neg (by decide), if_neg (by decide), if_pos rfl] at h
    by_cases h0 : isR f = 0
    · rw [if_pos h0] at h; exact absurd rfl h
    · rw [if_neg h0] at h
      by_cases h1 : isR s = 0
      · rw [if_pos h1] at h; exact absurd rfl h
      · exact ⟨isR_0 h0, isR_0 h1⟩
theorem i1_make (h : I1 kd f1 f2) (c a b : Int32) : I1 (mkK kd c a b) (mk1 kd f1 c a b) (mk2 kd f2 c a b) := by
  unfold mkK mk1 mk2
  by_cases e : mkC kd c a b = 2
  · rw [if_pos e, if_pos e, if_pos e]
    unfold mkC at e
    by_cases h1 : isK c = 0
    · rw [if_pos h1] at e; exact absurd e (by decide)
    rw [if_neg h1] at e
    by_cases h2 : frI kd < 0
    · rw [if_pos h2] at e; exact absurd e (by decide)
    rw [if_neg h2] at e
    by_cases h3 : isSt c (fsd c a b) (ssd c a b) = 0
    · rw [if_pos h3] at e; exact absurd e (by decide)
    exact h.born (isK_3 h1).2 (isSt_ok h3)
  · rw [if_neg e, if_neg e, if_neg e]; exact h
theorem i1_twin (h : I1 kd f1 f2) (x : Int32) : I1 (twK kd x) (twL kd f1 x) (twL kd f2 x) := by
  unfold twK twL
  rcases hd_case kd x with ⟨e, -⟩ | ⟨k, hk, rfl, e, hd, -⟩
  · rw [onS_n e, onS_n e, onS_n e]; exact h
  · rw [onS_s e, onS_s e, onS_s e]
    by_cases h2 : frI kd < 0
    · rw [if_pos h2, if_pos h2, if_pos h2]; exact h
    · rw [if_neg h2, if_neg h2, if_neg h2]
      exact h.born (h k hk hd).1 (h k hk hd).2
theorem i1_release (h : I1 kd f1 f2) (x : Int32) : I1 (rlK kd x) f1 f2 := by
  unfold rlK
  rcases hd_case kd x with ⟨e, -⟩ | ⟨k, hk, rfl, e, hd, -⟩
  · rw [onS_n e]; exact h
  · rw [onS_s e]; exact h.free
theorem i1_next (h : I1 kd f1 f2) (x : Int32) : I1 kd (nx1 kd f1 f2 x) (nx2 kd f1 f2 x) := by
  unfold nx1 nx2
  rcases hd_case kd x with ⟨e, -⟩ | ⟨k, hk, rfl, e, hd, -⟩
  · rw [onS_n e, onS_n e]; exact h
  · rw [onS_s e, onS_s e]; exact h.move hk hd (okS_mv (h k hk hd).2)
theorem i1_jump (h : I1 kd f1 f2) (x y : Int32) : I1 kd (jp1 kd f1 f2 x y) (jp2 kd f1 f2 x y) := by
  unfold jp1 jp2
  rcases hd_case kd x with ⟨e, -⟩ | ⟨k, hk, rfl, e, hd, -⟩
  · rw [onS_n e, onS_n e]; exact h
  · rw [onS_s e, onS_s e]
    by_cases hb : jpB y = true
    · rw [if_pos hb, if_pos hb]; exact h.move hk hd (mvN_ok _ (f1 k, f2 k) (h k hk hd).2)
    · rw [if_neg hb, if_neg hb]; exact h
theorem i1_draw (h : I1 kd f1 f2) (x n : Int32) : I1 kd (dr1 kd f1 f2 x n) (dr2 kd f1 f2 x n) := by
  unfold dr1 dr2
  rcases hd_case kd x with ⟨e, -⟩ | ⟨k, hk, rfl, e, hd, -⟩
  · rw [onS_n e, onS_n e]; exact h
  · rw [onS_s e, onS_s e]
    by_cases hb : 1 ≤ n
    · rw [if_pos hb, if_pos hb]; exact h.move hk hd (bel_ok 8 (f1 k, f2 k) (h k hk hd).2)
    · rw [if_neg hb, if_neg hb]; exact h
theorem shN_st {k : Int32} {i : Nat} {t : (Nat → Int32) × Int64 × Int64} {z : Int32 × Int64 × Int64} (hz : bel (nI (i + 2)) k 8 t.2 = z) : shN k (i + 1) t = shN k i (swp t.1 (i + 1) z.1.toNatClampNeg, z.2) := by
  rw [← hz, shN]
theorem shN_ok {k : Int32} (i : Nat) : ∀ (t : (Nat → Int32) × Int64 × Int64), okS k t.2.1 t.2.2 → okS k (shN k i t).2.1 (shN k i t).2.2 := by
  induction i with
  | zero => intro t h; exact h
  | succ i ih =>
    intro t h
    obtain ⟨z, hz⟩ : ∃ z, bel (nI (i + 2)) k 8 t.2 = z := ⟨_, rfl⟩
    have h2 := bel_ok (n := nI (i + 2)) (k := k) 8 t.2 h
    rw [hz] at h2
    rw [shN_st hz]
    exact ih (swp t.1 (i + 1) z.1.toNatClampNeg, z.2) h2
theorem i1_shuffle (h : I1 kd f1 f2) (cd : Nat → Int32) (x : Int32) : I1 kd (sh1 kd f1 f2 cd x) (sh2 kd f1 f2 cd x) := by
  unfold sh1 sh2
  rcases hd_case kd x with ⟨e, -⟩ | ⟨k, hk, rfl, e, hd, -⟩
  · rw [onS_n e, onS_n e]; exact h
  · rw [onS_s e, onS_s e]; exact h.move hk hd (shN_ok 15 (cd, f1 k, f2 k) (h k hk hd).2)
theorem i1_restore (h : I1 kd f1 f2) {rc : Nat} {sz : Nat → Nat} {sd : Nat → Int32} (h6 : rc ≤ 6) (hs : ∀ r, r < rc → sz r ≤ 6) (x : Int32) : I1 (rsK kd rc sz sd x) (rs1 kd f1 rc sz sd x) (rs2 kd f2 rc sz sd x) := by
  unfold rsK rs1 rs2
  cases e : rcS rc x with
  | none => rw [onR_n e, onR_n e, onR_n e]; exact h
  | some r =>
    rw [onR_s e, onR_s e, onR_s e]
    have hr : r < rc := by
      unfold rcS at e
      by_cases h0 : x < 0
      · rw [if_pos h0] at e; cases e
      rw [if_neg h0] at e
      by_cases h1 : x < nI rc
      · rw [if_pos h1] at e
        obtain ⟨k, hk, rfl⟩ := slot_of h0 (n := rc) (by omega) h1
        rw [nI_clamp (by omega)] at e
        cases e
        exact hk
      · rw [if_neg h1] at e; cases e
    by_cases hc : rsC kd (sz r) (wOf sd r) = 2
    · rw [if_pos hc, if_pos hc, if_pos hc]
      unfold rsC at hc
      by_cases hf : flt (sz r) (wOf sd r) = 0
      · obtain ⟨-, g1, g2⟩ := flt_0 (hs r hr) hf
        exact h.born (isK_3 g1).2 (isSt_ok g2)
      · rw [if_neg hf] at hc; exact absurd hc (by decide)
    · rw [if_neg hc, if_neg hc, if_neg hc]; exact h
end KEEP
theorem ix_seek {ix : Nat} (h : ix ≤ 1048575) (x : Int32) : skX ix x ≤ 1048575 := by
  unfold skX
  by_cases hb : skB x = true
  · rw [if_pos hb]
    unfold skB at hb
    by_cases h0 : x < 0
    · rw [if_pos h0] at hb; exact absurd hb (by decide)
    rw [if_neg h0] at hb
    by_cases h1 : x ≤ 1048575
    · obtain ⟨k, hk, rfl⟩ := nI_of h0
      rw [nI_clamp hk]
      exact (nI_leI (b := 1048575) hk (by omega)).mp h1
    · rw [if_neg h1] at hb; exact absurd hb (by decide)
  · rw [if_neg hb]; exact h
theorem ix_adv {ix : Nat} (h : ix ≤ 1048575) : adX ix ≤ 1048575 := by
  unfold adX
  split <;> omega
theorem wt_weigh {wt : Nat → Int32} (h : I3 wt) (x y : Int32) : I3 (wgW wt x y) := by
  unfold wgW
  by_cases hb : wgB x y = true
  · rw [if_pos hb]
    unfold wgB at hb
    by_cases h0 : x < 0
    · rw [if_pos h0] at hb; exact absurd hb (by decide)
    rw [if_neg h0] at hb
    by_cases h1 : 16 ≤ x
    · rw [if_pos h1] at hb; exact absurd hb (by decide)
    rw [if_neg h1] at hb
    by_cases h2 : y < 0
    · rw [if_pos h2] at hb; exact absurd hb (by decide)
    rw [if_neg h2] at hb
    by_cases h3 : y ≤ 1000000
    · obtain ⟨v, hv, rfl⟩ := nI_of h2
      intro k hk
      by_cases e : k = x.toNatClampNeg
      · subst e
        rw [pk_us]
        exact ⟨v, (nI_leI (b := 1000000) hv (by omega)).mp h3, rfl⟩
      · rw [pk_un e]; exact h k hk
    · rw [if_neg h3] at hb; exact absurd hb (by decide)
  · rw [if_neg hb]; exact h
theorem iv_0 : IV (kdC 8) (fun _ => 0) (fun _ => 0) 0 (fun _ => 0) := ⟨fun k hk hn => absurd (by rw [kdC_neg 8 k hk]; decide) hn, by omega, fun k _ => ⟨0, by omega, nI_0.symm⟩⟩
theorem XR.six {K : Nat → ClassId} {h : Nat} {kd : Nat → Int32} {f1 f2 : Nat → Int64} {rc : Nat} {sz : Nat → Nat} {sd : Nat → Int32} {ix : Nat} {wt cd : Nat → Int32} {wl : va_W} (hX : XR K h kd f1 f2 rc sz sd ix wt cd wl) : rc ≤ 6 ∧ ∀ r, r < rc → sz r ≤ 6 := by
  obtain ⟨aS, aR, aP, aD, aW, aC, g, rr, gd, ra, wa, -, -, hV⟩ := hX
  exact ⟨hV.1, fun r hr => (hV.2.1 r hr).2.1⟩
theorem XR.zero {K : Nat → ClassId} {h : Nat} {kd : Nat → Int32} {f1 f2 : Nat → Int64} {rc : Nat} {sz : Nat → Nat} {sd : Nat → Int32} {ix : Nat} {wt cd : Nat → Int32} {wl : va_W} (hX : XR K h kd f1 f2 rc sz sd ix wt cd wl) : ∃ fs, wl[0]? = some (h, .inr (0, fs)) := by
  obtain ⟨aS, aR, aP, aD, aW, aC, g, rr, gd, ra, wa, hF, -, -⟩ := hX
  exact ⟨_, hF.1⟩
