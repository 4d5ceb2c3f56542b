/-! What each call answers, and what it leaves: one function for both sides. -/
def onS {α : Type} (kd : Nat → Int32) (x : Int32) (d : α) (f : Nat → α) : α := match hdS kd x with | none => d | some k => f k
theorem onS_n {α : Type} {kd : Nat → Int32} {x : Int32} {d : α} {f : Nat → α} (h : hdS kd x = none) : onS kd x d f = d := by unfold onS; rw [h]
theorem onS_s {α : Type} {kd : Nat → Int32} {x : Int32} {d : α} {f : Nat → α} {k : Nat} (h : hdS kd x = some k) : onS kd x d f = f k := by unfold onS; rw [h]
def onR {α : Type} (rc : Nat) (x : Int32) (d : α) (f : Nat → α) : α := match rcS rc x with | none => d | some k => f k
theorem onR_n {α : Type} {rc : Nat} {x : Int32} {d : α} {f : Nat → α} (h : rcS rc x = none) : onR rc x d f = d := by unfold onR; rw [h]
theorem onR_s {α : Type} {rc : Nat} {x : Int32} {d : α} {f : Nat → α} {k : Nat} (h : rcS rc x = some k) : onR rc x d f = f k := by unfold onR; rw [h]
def updN (f : Nat → Nat) (k : Nat) (x : Nat) : Nat → Nat := fun j => if j = k then x else f j
theorem updN_s {f : Nat → Nat} {k x : Nat} : updN f k x k = x := if_pos rfl
theorem updN_n {f : Nat → Nat} {k j x : Nat} (h : j ≠ k) : updN f k x j = f j := if_neg h
-- make
def mkC (kd : Nat → Int32) (c a b : Int32) : Nat := if isK c = 0 then 0 else if frI kd < 0 then 0 else if isSt c (fsd c a b) (ssd c a b) = 0 then 1 else 2
def mkA (kd : Nat → Int32) (c a b : Int32) : Int32 := if mkC kd c a b = 0 then -1 else if mkC kd c a b = 1 then -2 else frI kd
def mkK (kd : Nat → Int32) (c a b : Int32) : Nat → Int32 := if mkC kd c a b = 2 then upd kd (frI kd).toNatClampNeg c else kd
def mk1 (kd : Nat → Int32) (f1 : Nat → Int64) (c a b : Int32) : Nat → Int64 := if mkC kd c a b = 2 then vp_updL f1 (frI kd).toNatClampNeg (fsd c a b) else f1
def mk2 (kd : Nat → Int32) (f2 : Nat → Int64) (c a b : Int32) : Nat → Int64 := if mkC kd c a b = 2 then vp_updL f2 (frI kd).toNatClampNeg (ssd c a b) else f2
-- twin
def twA (kd : Nat → Int32) (x : Int32) : Int32 := onS kd x (-1) (fun _ => if frI kd < 0 then -1 else frI kd)
def twK (kd : Nat → Int32) (x : Int32) : Nat → Int32 := onS kd x kd (fun k => if frI kd < 0 then kd else upd kd (frI kd).toNatClampNeg (kd k))
def twL (kd : Nat → Int32) (f : Nat → Int64) (x : Int32) : Nat → Int64 := onS kd x f (fun k => if frI kd < 0 then f else vp_updL f (frI kd).toNatClampNeg (f k))
-- release
def rlA (kd : Nat → Int32) (x : Int32) : Int32 := onS kd x 0 (fun _ => 1)
def rlK (kd : Nat → Int32) (x : Int32) : Nat → Int32 := onS kd x kd (fun k => upd kd k (-1))
-- next
def nxA (kd : Nat → Int32) (f1 f2 : Nat → Int64) (x : Int32) : Int64 := onS kd x (-1) (fun k => nU (otp (kd k) (f1 k) (f2 k)))
def nx1 (kd : Nat → Int32) (f1 f2 : Nat → Int64) (x : Int32) : Nat → Int64 := onS kd x f1 (fun k => vp_updL f1 k (mvF (kd k) (f1 k) (f2 k)))
def nx2 (kd : Nat → Int32) (f1 f2 : Nat → Int64) (x : Int32) : Nat → Int64 := onS kd x f2 (fun k => vp_updL f2 k (mvS (kd k) (f1 k) (f2 k)))
-- jump
def jpB (y : Int32) : Bool := if y < 0 then false else if y ≤ 65535 then true else false
def jpA (kd : Nat → Int32) (x y : Int32) : Int32 := onS kd x 0 (fun _ => bI (jpB y))
def jp1 (kd : Nat → Int32) (f1 f2 : Nat → Int64) (x y : Int32) : Nat → Int64 := onS kd x f1 (fun k => if jpB y then vp_updL f1 k (mvN (kd k) y.toNatClampNeg (f1 k, f2 k)).1 else f1)
def jp2 (kd : Nat → Int32) (f1 f2 : Nat → Int64) (x y : Int32) : Nat → Int64 := onS kd x f2 (fun k => if jpB y then vp_updL f2 k (mvN (kd k) y.toNatClampNeg (f1 k, f2 k)).2 else f2)
-- draw
def drA (kd : Nat → Int32) (f1 f2 : Nat → Int64) (x n : Int32) : Int32 := onS kd x (-1) (fun k => if 1 ≤ n then (bel n (kd k) 8 (f1 k, f2 k)).1 else -1)
def dr1 (kd : Nat → Int32) (f1 f2 : Nat → Int64) (x n : Int32) : Nat → Int64 := onS kd x f1 (fun k => if 1 ≤ n then vp_updL f1 k (bel n (kd k) 8 (f1 k, f2 k)).2.1 else f1)
def dr2 (kd : Nat → Int32) (f1 f2 : Nat → Int64) (x n : Int32) : Nat → Int64 := onS kd x f2 (fun k => if 1 ≤ n then vp_updL f2 k (bel n (kd k) 8 (f1 k, f2 k)).2.2 else f2)
-- same
def smA (kd : Nat → Int32) (f1 f2 : Nat → Int64) (x y : Int32) : Int32 := onS kd x 0 (fun j => onS kd y 0 (fun k => if kd j = kd k then (if f1 j = f1 k then (if f2 j = f2 k then 1 else 0) else 0) else 0))
-- save
def blk (sd : Nat → Int32) (b n : Nat) (w : Nat → Int32) : Nat → Int32 := fun t => if b ≤ t ∧ t < b + n then w (t - b) else sd t
def saA (kd : Nat → Int32) (rc : Nat) (x : Int32) : Int32 := onS kd x (-1) (fun _ => if rc < 6 then nI rc else -1)
def saR (kd : Nat → Int32) (rc : Nat) (x : Int32) : Nat := onS kd x rc (fun _ => if rc < 6 then rc + 1 else rc)
def saZ (kd : Nat → Int32) (rc : Nat) (sz : Nat → Nat) (x : Int32) : Nat → Nat := onS kd x sz (fun k => if rc < 6 then updN sz rc (svN (kd k)) else sz)
def saD (kd : Nat → Int32) (f1 f2 : Nat → Int64) (rc : Nat) (sd : Nat → Int32) (x : Int32) : Nat → Int32 := onS kd x sd (fun k => if rc < 6 then blk sd (6 * rc) (svN (kd k)) (svF (kd k) (f1 k) (f2 k)) else sd)
-- spoil, cut
def spD (rc : Nat) (sz : Nat → Nat) (sd : Nat → Int32) (x i mask : Int32) : Nat → Int32 := if hwB rc sz x i then upd sd (6 * x.toNatClampNeg + i.toNatClampNeg) (sd (6 * x.toNatClampNeg + i.toNatClampNeg) ^^^ mask) else sd
def ctA (rc : Nat) (sz : Nat → Nat) (x : Int32) : Int32 := onR rc x 0 (fun r => if sz r = 0 then 0 else 1)
def ctZ (rc : Nat) (sz : Nat → Nat) (x : Int32) : Nat → Nat := onR rc x sz (fun r => if sz r = 0 then sz else updN sz r (sz r - 1))
-- restore
def wOf (sd : Nat → Int32) (r : Nat) : Nat → Int32 := fun t => sd (6 * r + t)
def rsC (kd : Nat → Int32) (n : Nat) (w : Nat → Int32) : Nat := if flt n w = 0 then (if frI kd < 0 then 1 else 2) else 0
def rsA (kd : Nat → Int32) (rc : Nat) (sz : Nat → Nat) (sd : Nat → Int32) (x : Int32) : Int32 := onR rc x (-1) (fun r => if rsC kd (sz r) (wOf sd r) = 0 then flt (sz r) (wOf sd r) else if rsC kd (sz r) (wOf sd r) = 1 then -6 else frI kd)
def rsK (kd : Nat → Int32) (rc : Nat) (sz : Nat → Nat) (sd : Nat → Int32) (x : Int32) : Nat → Int32 := onR rc x kd (fun r => if rsC kd (sz r) (wOf sd r) = 2 then upd kd (frI kd).toNatClampNeg (wkd (wOf sd r)) else kd)
def rs1 (kd : Nat → Int32) (f1 : Nat → Int64) (rc : Nat) (sz : Nat → Nat) (sd : Nat → Int32) (x : Int32) : Nat → Int64 := onR rc x f1 (fun r => if rsC kd (sz r) (wOf sd r) = 2 then vp_updL f1 (frI kd).toNatClampNeg (wF1 (wOf sd r)) else f1)
def rs2 (kd : Nat → Int32) (f2 : Nat → Int64) (rc : Nat) (sz : Nat → Nat) (sd : Nat → Int32) (x : Int32) : Nat → Int64 := onR rc x f2 (fun r => if rsC kd (sz r) (wOf sd r) = 2 then vp_updL f2 (frI kd).toNatClampNeg (wF2 (wOf sd r)) else f2)
-- coordinate
def coA (ix : Nat) (d : Int32) : Int64 := if d = 0 then nU (joN 0 (grC (nI ix)) 20) else if d = 1 then nU (joN 1 (grC (nI ix)) 20) else if d = 2 then nU (joN 2 (grC (nI ix)) 20) else if d = 3 then nU (joN 3 (grC (nI ix)) 20) else if d = 4 then lN (tuN 3 13 (0, ix)).1 else if d = 5 then lN (tuN 5 9 (0, ix)).1 else -1
-- pick
def piA (kd : Nat → Int32) (f1 f2 : Nat → Int64) (wt : Nat → Int32) (x : Int32) : Int32 := onS kd x (-1) (fun k => if 1 ≤ toW wt 16 then ocN wt (bel (toW wt 16) (kd k) 8 (f1 k, f2 k)).1 0 16 else -1)
-- shuffle
def swp (cd : Nat → Int32) (i j : Nat) : Nat → Int32 := upd (upd cd i (cd j)) j (cd i)
def shN (k : Int32) : Nat → (Nat → Int32) × Int64 × Int64 → (Nat → Int32) × Int64 × Int64
  | 0, t => t
  | i + 1, t => shN k i (swp t.1 (i + 1) (bel (nI (i + 2)) k 8 t.2).1.toNatClampNeg, (bel (nI (i + 2)) k 8 t.2).2)
def shC (kd : Nat → Int32) (f1 f2 : Nat → Int64) (cd : Nat → Int32) (x : Int32) : Nat → Int32 := onS kd x cd (fun k => (shN (kd k) 15 (cd, f1 k, f2 k)).1)
def sh1 (kd : Nat → Int32) (f1 f2 : Nat → Int64) (cd : Nat → Int32) (x : Int32) : Nat → Int64 := onS kd x f1 (fun k => vp_updL f1 k (shN (kd k) 15 (cd, f1 k, f2 k)).2.1)
def sh2 (kd : Nat → Int32) (f1 f2 : Nat → Int64) (cd : Nat → Int32) (x : Int32) : Nat → Int64 := onS kd x f2 (fun k => vp_updL f2 k (shN (kd k) 15 (cd, f1 k, f2 k)).2.2)
/-- the sum of the weights -/
theorem toW_nI {wt : Nat → Int32} (hw : ∀ k, k < 16 → ∃ v : Nat, v ≤ 1000000 ∧ wt k = nI v) : ∀ n, n ≤ 16 → ∃ T : Nat, T ≤ 1000000 * n ∧ toW wt n = nI T
  | 0, _ => ⟨0, by omega, nI_0.symm⟩
  | n + 1, hn => by
    obtain ⟨T, h1, h2⟩ := toW_nI hw n (by omega)
    obtain ⟨v, h3, h4⟩ := hw n (by omega)
    refine ⟨T + v, by omega, ?_⟩
    show toW wt n + wt n = _
    rw [h2, h4, nI_add]
/-- what restore reads of the words: no more than there are -/
theorem ckN_congr {w v : Nat → Int32} : ∀ n, (∀ t, t < n → w t = v t) → ckN w n = ckN v n
  | 0, _ => rfl
  | n + 1, h => by
    show 31 * ckN w n + w n = 31 * ckN v n + v n
    rw [ckN_congr n (fun t ht => h t (by omega)), h n (by omega)]
theorem ptA_congr {w v : Nat → Int32} {a n : Nat} {b : Int32} (h : ∀ t, t < n → w t = v t) (ha : a + apN b ≤ n) : ptA w a b = ptA v a b := by
  unfold ptA
  by_cases hb : b = 0
  · have := apN_1 hb
    rw [if_pos hb, if_pos hb, h a (by omega)]
  · have := apN_2 hb
    rw [if_neg hb, if_neg hb, h a (by omega), h (a + 1) (by omega)]
theorem wk_congr {w v : Nat → Int32} {n : Nat} (h : ∀ t, t < n → w t = v t) (hn : 0 < n) : wkd w = wkd v := by unfold wkd; rw [h 0 hn]
theorem wF_congr {w v : Nat → Int32} {n : Nat} (h : ∀ t, t < n → w t = v t) (hn : n = 2 + apN (isFL (wkd w)) + apN (isSL (wkd w))) : wF1 w = wF1 v ∧ wF2 w = wF2 v := by
  have a1 := apN_12 (isFL (wkd w))
  have a2 := apN_12 (isSL (wkd w))
  have e := wk_congr h (by omega)
  unfold wF1 wF2
  rw [← e]
  exact ⟨ptA_congr h (by omega), ptA_congr h (by omega)⟩
theorem flt_congr {w v : Nat → Int32} {n : Nat} (h6 : n ≤ 6) (h : ∀ t, t < n → w t = v t) : flt n w = flt n v := by
  unfold flt
  by_cases h0 : n = 0
  · rw [if_pos h0, if_pos h0]
  · have e := wk_congr h (by omega)
    rw [if_neg h0, if_neg h0, ← e]
    by_cases hk : isK (wkd w) = 0
    · rw [if_pos hk, if_pos hk]
    · rw [if_neg hk, if_neg hk]
      by_cases hn : nI n = wOK (wkd w)
      · have a1 := apN_12 (isFL (wkd w))
        have a2 := apN_12 (isSL (wkd w))
        have hn2 := hn
        rw [wOK_nI, nI_eq (by omega) (by omega)] at hn2
        obtain ⟨w1, w2⟩ := wF_congr h hn2
        have c1 : ckF w (n - 1) = ckF v (n - 1) := by unfold ckF; rw [ckN_congr (n - 1) (fun t ht => h t (by omega))]
        rw [if_pos hn, if_pos hn, h (n - 1) (by omega), c1, w1, w2]
      · rw [if_neg hn, if_neg hn]
theorem flt_0 {w : Nat → Int32} {n : Nat} (h6 : n ≤ 6) (h : flt n w = 0) : n = 2 + apN (isFL (wkd w)) + apN (isSL (wkd w)) ∧ ¬ isK (wkd w) = 0 ∧ ¬ isSt (wkd w) (wF1 w) (wF2 w) = 0 := by
  unfold flt at h
  by_cases h0 : n = 0
  · rw [if_pos h0] at h; exact absurd h (by decide)
  · rw [if_neg h0] at h
    by_cases hk : isK (wkd w) = 0
    · rw [if_pos hk] at h; exact absurd h (by decide)
    · rw [if_neg hk] at h
      by_cases hn : nI n = wOK (wkd w)
      · have a1 := apN_12 (isFL (wkd w))
        have a2 := apN_12 (isSL (wkd w))
        have hn2 := hn
        rw [wOK_nI, nI_eq (by omega) (by omega)] at hn2
        rw [if_pos hn] at h
        by_cases hc : w (n - 1) = ckF w (n - 1)
        · rw [if_pos hc] at h
          by_cases hs : isSt (wkd w) (wF1 w) (wF2 w) = 0
          · rw [if_pos hs] at h; exact absurd h (by decide)
          · exact ⟨hn2, hk, hs⟩
        · rw [if_neg hc] at h; exact absurd h (by decide)
      · rw [if_neg hn] at h; exact absurd h (by decide)
theorem isK_3 {k : Int32} (h : ¬ isK k = 0) : ¬ k < 0 ∧ k ≤ 3 := by
  unfold isK at h
  by_cases h0 : k < 0
  · rw [if_pos h0] at h; exact absurd rfl h
  · rw [if_neg h0] at h
    by_cases h3 : 3 < k
    · rw [if_pos h3] at h; exact absurd rfl h
    · exact ⟨h0, Int32.not_lt.mp h3⟩
