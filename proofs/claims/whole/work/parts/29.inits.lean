/-! The two constructors. -/
/-- cards in their order; slots all free -/
def idC : Nat → Nat → Int32
  | 0 => fun _ => 0
  | n + 1 => upd (idC n) n (nI n)
def kdC : Nat → Nat → Int32
  | 0 => fun _ => 0
  | n + 1 => upd (kdC n) n (-1)
theorem kdC_neg : ∀ (n k : Nat), k < n → kdC n k = -1
  | n + 1, k, h => by
    show upd (kdC n) n (-1) k = -1
    by_cases e : k = n
    · subst e; exact pk_us
    · rw [pk_un e]; exact kdC_neg n k (by omega)
abbrev nsW (K : Nat → ClassId) (h q1 q2 q3 q q9 q10 : Nat) (G : Nat → Nat → Int32) (cd : Nat → Int32) : va_W :=
  [(h, oNS q1 q2 0 q3 q9 q10), (q1, arQ K 2 8 (fun _ => none)), (q2, arQ K 3 6 (fun _ => none)), (q3, oPt q 0), (q, arQ K 4 4 (gQ q)), (q + 1, arI K 20 (G 0)), (q + 2, arI K 20 (G 1)), (q + 3, arI K 20 (G 2)), (q + 4, arI K 20 (G 3)), (q9, arI K 16 (fun _ => 0)), (q10, arI K 16 cd)]
theorem nsW_XR {K : Nat → ClassId} {h q1 q2 q3 q q9 q10 : Nat} {G : Nat → Nat → Int32} {cd : Nat → Int32} (hG : ∀ k, k < 4 → ∀ i, i < 20 → G k i = dirT k i) : XR K h (kdC 8) (fun _ => 0) (fun _ => 0) 0 (fun _ => 0) (fun _ => 0) 0 (fun _ => 0) cd (nsW K h q1 q2 q3 q q9 q10 G cd) := by
  refine ⟨q1, q2, q3, q, q9, q10, fun _ => none, fun _ => none, gQ q, fun _ => 0, fun _ => 0, ⟨rfl, rfl, rfl, rfl, rfl, fun k hk => ?_, rfl, rfl⟩, ⟨fun k hk => Or.inl ⟨by rw [kdC_neg 8 k hk]; decide, rfl⟩, fun j k a _ _ h1 _ => by cases h1⟩, ⟨by omega, fun r hr => absurd hr (Nat.not_lt_zero _), fun r t hr => absurd hr (Nat.not_lt_zero _), fun r t hr => absurd hr (Nat.not_lt_zero _)⟩⟩
  refine ⟨q + 1 + k, G k, rfl, ?_, hG k hk⟩
  rcases (by omega : k = 0 ∨ k = 1 ∨ k = 2 ∨ k = 3) with rfl | rfl | rfl | rfl <;> rfl
set_option maxRecDepth 100000 in
set_option maxHeartbeats 4000000 in
theorem c_NS_init {l : Launch} {D : va_G} {K : Nat → ClassId} {A : Nat → Prop} {h : Nat} : ctV l y_NS_init prog_1_method_1_code 2 2 10 132 [.ref h] D K A ([(h, .inr (0, [.null, .null, .int 0, .null, .null, .null]))]) (fun v => XR K h (kdC 8) (fun _ => 0) (fun _ => 0) 0 (fun _ => 0) (fun _ => 0) 0 (fun _ => 0) (idC 16) v) := by
  refine mt_of (by decide) (Nat.le_of_ble_eq_true rfl) ?_
  intro p e s m below meth c ls B hw hl
  have hx := B.1
  have hb := B.2.1
  have hl : lv_has ls 2 [(0, .ref h)] := hl
  have e0 : ([(h, .inr (0, [.null, .null, .int 0, .null, .null, .null]))] : va_W)[0]? = some (h, .inr (0, [.null, .null, .int 0, .null, .null, .null])) := rfl
  refine lv_aload_n hx hb d_NS_init_0 rfl (lv_at hl 0 rfl) ?_
  refine W.objInit hx hb B.2.2.2.1 (B.2.2.2.2.1 _ ml_NS_1) (B.2.2.2.2.1 _ im_OB_init) (B.2.2.2.2.1 _ co_OB_init) rfl (by rw [B.2.2.1]; exact hl.1) rfl d_NS_init_1 (Nat.le_of_ble_eq_true rfl) (Nat.le_of_ble_eq_true rfl) ?_
  refine W.eq (g2 := F0 m 4 ls []) rfl ?_
  refine lv_aload_n hx hb d_NS_init_4 rfl (lv_at hl 0 rfl) ?_
  refine lv_bipush (v := 8) hx hb d_NS_init_5 (by decide) ?_
  refine g_newQ 2 (N' := 8) B hw rfl cl_NS_9 (fun h => h.2.1) (by decide) (by decide) (by decide) (Nat.le_of_ble_eq_true rfl) (Nat.le_of_ble_eq_true rfl) d_NS_init_7 (fun q1 H hw => ?_)
  have hw : wd D A [(h, .inr (0, [.null, .null, .int 0, .null, .null, .null])), (q1, arQ K 2 8 (fun _ => none))] s H _ := hw
  have e0 : ([(h, .inr (0, [.null, .null, .int 0, .null, .null, .null])), (q1, arQ K 2 8 (fun _ => none))] : va_W)[0]? = some (h, .inr (0, [.null, .null, .int 0, .null, .null, .null])) := rfl
  refine g_putF B hw fl_NS_11 ck_NS e0 rfl rfl rfl rfl (Nat.le_of_ble_eq_true rfl) d_NS_init_10 (fun H locs hw => ?_)
  have hw : wd D A [(h, .inr (0, [.ref q1, .null, .int 0, .null, .null, .null])), (q1, arQ K 2 8 (fun _ => none))] s H _ := hw
  refine lv_aload_n hx hb d_NS_init_13 rfl (lv_at hl 0 rfl) ?_
  refine lv_bipush (v := 6) hx hb d_NS_init_14 (by decide) ?_
  refine g_newQ 3 (N' := 6) B hw rfl cl_NS_15 (fun h => h.2.2.1) (by decide) (by decide) (by decide) (Nat.le_of_ble_eq_true rfl) (Nat.le_of_ble_eq_true rfl) d_NS_init_16 (fun q2 H hw => ?_)
  have hw : wd D A [(h, .inr (0, [.ref q1, .null, .int 0, .null, .null, .null])), (q1, arQ K 2 8 (fun _ => none)), (q2, arQ K 3 6 (fun _ => none))] s H _ := hw
  have e0 : ([(h, .inr (0, [.ref q1, .null, .int 0, .null, .null, .null])), (q1, arQ K 2 8 (fun _ => none)), (q2, arQ K 3 6 (fun _ => none))] : va_W)[0]? = some (h, .inr (0, [.ref q1, .null, .int 0, .null, .null, .null])) := rfl
  refine g_putF B hw fl_NS_17 ck_NS e0 rfl rfl rfl rfl (Nat.le_of_ble_eq_true rfl) d_NS_init_19 (fun H locs hw => ?_)
  have hw : wd D A [(h, .inr (0, [.ref q1, .ref q2, .int 0, .null, .null, .null])), (q1, arQ K 2 8 (fun _ => none)), (q2, arQ K 3 6 (fun _ => none))] s H _ := hw
  have e0 : ([(h, .inr (0, [.ref q1, .ref q2, .int 0, .null, .null, .null])), (q1, arQ K 2 8 (fun _ => none)), (q2, arQ K 3 6 (fun _ => none))] : va_W)[0]? = some (h, .inr (0, [.ref q1, .ref q2, .int 0, .null, .null, .null])) := rfl
  refine lv_aload_n hx hb d_NS_init_22 rfl (lv_at hl 0 rfl) ?_
  refine lv_iconst (v := 0) hx hb d_NS_init_23 (by decide) ?_
  refine g_put B hw fl_NS_21 ck_NS e0 rfl rfl rfl (Nat.le_of_ble_eq_true rfl) d_NS_init_24 (fun H locs hw => ?_)
  have hw : wd D A [(h, .inr (0, [.ref q1, .ref q2, .int 0, .null, .null, .null])), (q1, arQ K 2 8 (fun _ => none)), (q2, arQ K 3 6 (fun _ => none))] s H _ := hw
  refine lv_aload_n hx hb d_NS_init_27 rfl (lv_at hl 0 rfl) ?_
  refine g_new (ci := 1) [.null, .int 0] B hw rfl li_PT tt_PT cl_NS_25 ib_PT in_PT (fun j hj => by rcases (by omega : j = 0 ∨ j = 1) with rfl | rfl <;> rfl) (Nat.le_of_ble_eq_true rfl) (Nat.le_of_ble_eq_true rfl) d_NS_init_28 (fun q3 H hw => ?_)
  have hw : wd D A [(h, .inr (0, [.ref q1, .ref q2, .int 0, .null, .null, .null])), (q1, arQ K 2 8 (fun _ => none)), (q2, arQ K 3 6 (fun _ => none)), (q3, .inr (1, [.null, .int 0]))] s H _ := hw
  have e3 : ([(h, .inr (0, [.ref q1, .ref q2, .int 0, .null, .null, .null])), (q1, arQ K 2 8 (fun _ => none)), (q2, arQ K 3 6 (fun _ => none)), (q3, .inr (1, [.null, .int 0]))] : va_W)[3]? = some (q3, .inr (1, [.null, .int 0])) := rfl
  refine lv_dup hx hb d_NS_init_31 rfl ?_
  refine k_v (k_runI B hw (c_PT_init e3) rfl rfl cf_NS_27 ⟨Nat.le_of_ble_eq_true rfl, Nat.le_of_ble_eq_true rfl⟩ rfl hl.1 rfl (Nat.le_of_ble_eq_true rfl) d_NS_init_32 ⟨Nat.le_of_ble_eq_true rfl, Nat.le_of_ble_eq_true rfl⟩) hw (fun w1 H locs hq hw => ?_)
  obtain ⟨q, G, ew, hG⟩ := hq
  rw [ew] at hw
  have hw : wd D A [(h, .inr (0, [.ref q1, .ref q2, .int 0, .null, .null, .null])), (q1, arQ K 2 8 (fun _ => none)), (q2, arQ K 3 6 (fun _ => none)), (q3, oPt q 0), (q, arQ K 4 4 (gQ q)), (q + 1, arI K 20 (G 0)), (q + 2, arI K 20 (G 1)), (q + 3, arI K 20 (G 2)), (q + 4, arI K 20 (G 3))] s H _ := hw
  have e0 : ([(h, .inr (0, [.ref q1, .ref q2, .int 0, .null, .null, .null])), (q1, arQ K 2 8 (fun _ => none)), (q2, arQ K 3 6 (fun _ => none)), (q3, oPt q 0), (q, arQ K 4 4 (gQ q)), (q + 1, arI K 20 (G 0)), (q + 2, arI K 20 (G 1)), (q + 3, arI K 20 (G 2)), (q + 4, arI K 20 (G 3))] : va_W)[0]? = some (h, .inr (0, [.ref q1, .ref q2, .int 0, .null, .null, .null])) := rfl
  refine g_putF B hw fl_NS_28 ck_NS e0 rfl rfl rfl rfl (Nat.le_of_ble_eq_true rfl) d_NS_init_35 (fun H locs hw => ?_)
  have hw : wd D A [(h, .inr (0, [.ref q1, .ref q2, .int 0, .ref q3, .null, .null])), (q1, arQ K 2 8 (fun _ => none)), (q2, arQ K 3 6 (fun _ => none)), (q3, oPt q 0), (q, arQ K 4 4 (gQ q)), (q + 1, arI K 20 (G 0)), (q + 2, arI K 20 (G 1)), (q + 3, arI K 20 (G 2)), (q + 4, arI K 20 (G 3))] s H _ := hw
  refine lv_aload_n hx hb d_NS_init_38 rfl (lv_at hl 0 rfl) ?_
  refine lv_bipush (v := 16) hx hb d_NS_init_39 (by decide) ?_
  refine g_newI (N' := 16) B hw (by decide) (by decide) (by decide) (Nat.le_of_ble_eq_true rfl) (Nat.le_of_ble_eq_true rfl) d_NS_init_41 (fun q9 H hw => ?_)
  have hw : wd D A [(h, .inr (0, [.ref q1, .ref q2, .int 0, .ref q3, .null, .null])), (q1, arQ K 2 8 (fun _ => none)), (q2, arQ K 3 6 (fun _ => none)), (q3, oPt q 0), (q, arQ K 4 4 (gQ q)), (q + 1, arI K 20 (G 0)), (q + 2, arI K 20 (G 1)), (q + 3, arI K 20 (G 2)), (q + 4, arI K 20 (G 3)), (q9, arI K 16 (fun _ => 0))] s H _ := hw
  have e0 : ([(h, .inr (0, [.ref q1, .ref q2, .int 0, .ref q3, .null, .null])), (q1, arQ K 2 8 (fun _ => none)), (q2, arQ K 3 6 (fun _ => none)), (q3, oPt q 0), (q, arQ K 4 4 (gQ q)), (q + 1, arI K 20 (G 0)), (q + 2, arI K 20 (G 1)), (q + 3, arI K 20 (G 2)), (q + 4, arI K 20 (G 3)), (q9, arI K 16 (fun _ => 0))] : va_W)[0]? = some (h, .inr (0, [.ref q1, .ref q2, .int 0, .ref q3, .null, .null])) := rfl
  refine g_putF B hw fl_NS_32 ck_NS e0 rfl rfl rfl rfl (Nat.le_of_ble_eq_true rfl) d_NS_init_43 (fun H locs hw => ?_)
  have hw : wd D A [(h, .inr (0, [.ref q1, .ref q2, .int 0, .ref q3, .ref q9, .null])), (q1, arQ K 2 8 (fun _ => none)), (q2, arQ K 3 6 (fun _ => none)), (q3, oPt q 0), (q, arQ K 4 4 (gQ q)), (q + 1, arI K 20 (G 0)), (q + 2, arI K 20 (G 1)), (q + 3, arI K 20 (G 2)), (q + 4, arI K 20 (G 3)), (q9, arI K 16 (fun _ => 0))] s H _ := hw
  refine lv_aload_n hx hb d_NS_init_46 rfl (lv_at hl 0 rfl) ?_
  refine lv_bipush (v := 16) hx hb d_NS_init_47 (by decide) ?_
  refine g_newI (N' := 16) B hw (by decide) (by decide) (by decide) (Nat.le_of_ble_eq_true rfl) (Nat.le_of_ble_eq_true rfl) d_NS_init_49 (fun q10 H hw => ?_)
  have hw : wd D A [(h, .inr (0, [.ref q1, .ref q2, .int 0, .ref q3, .ref q9, .null])), (q1, arQ K 2 8 (fun _ => none)), (q2, arQ K 3 6 (fun _ => none)), (q3, oPt q 0), (q, arQ K 4 4 (gQ q)), (q + 1, arI K 20 (G 0)), (q + 2, arI K 20 (G 1)), (q + 3, arI K 20 (G 2)), (q + 4, arI K 20 (G 3)), (q9, arI K 16 (fun _ => 0)), (q10, arI K 16 (fun _ => 0))] s H _ := hw
  have e0 : ([(h, .inr (0, [.ref q1, .ref q2, .int 0, .ref q3, .ref q9, .null])), (q1, arQ K 2 8 (fun _ => none)), (q2, arQ K 3 6 (fun _ => none)), (q3, oPt q 0), (q, arQ K 4 4 (gQ q)), (q + 1, arI K 20 (G 0)), (q + 2, arI K 20 (G 1)), (q + 3, arI K 20 (G 2)), (q + 4, arI K 20 (G 3)), (q9, arI K 16 (fun _ => 0)), (q10, arI K 16 (fun _ => 0))] : va_W)[0]? = some (h, .inr (0, [.ref q1, .ref q2, .int 0, .ref q3, .ref q9, .null])) := rfl
  refine g_putF B hw fl_NS_36 ck_NS e0 rfl rfl rfl rfl (Nat.le_of_ble_eq_true rfl) d_NS_init_51 (fun H locs hw => ?_)
  have hw : wd D A (nsW K h q1 q2 q3 q q9 q10 G (idC 0)) s H locs := hw
  refine lv_iconst (v := 0) hx hb d_NS_init_54 (by decide) ?_
  refine lv_istore_n hx hb d_NS_init_55 rfl hl (by decide) rfl (fun ls (hl : lv_has ls 2 [(1, .int _), (0, .ref _)]) => ?_)
  refine lp_w (σ := Nat) (fun j => 16 - j) (fun j H locs ls => j ≤ 16 ∧ lv_has ls 2 [(1, .int (nI j)), (0, .ref h)] ∧ wd D A (nsW K h q1 q2 q3 q q9 q10 G (idC j)) s H locs) ?_ 0 _ _ _ ⟨by omega, lv_sub hl [0, 1] rfl, hw⟩
  rintro j H locs ls ⟨hj, hl, hw⟩ ih
  have e0 : (nsW K h q1 q2 q3 q q9 q10 G (idC j))[0]? = some (h, oNS q1 q2 0 q3 q9 q10) := rfl
  have e10 : (nsW K h q1 q2 q3 q q9 q10 G (idC j))[10]? = some (q10, arI K 16 (idC j)) := rfl
  refine lv_iload_n hx hb d_NS_init_56 rfl (lv_at hl 0 rfl) ?_
  refine lv_bipush (v := 16) hx hb d_NS_init_57 (by decide) ?_
  refine lv_icmp_ge (tgt := 75) hx hb d_NS_init_59 rfl (fun h59 => ?_) (fun h59 => ?_)
  · have h59 : 16 ≤ j := (nI_leI (a := 16) (by omega) (by omega)).mp h59
    obtain rfl : j = 16 := by omega
    exact r_v B hw d_NS_init_75 (nsW_XR hG)
  · have h59 : j < 16 := Nat.lt_of_not_le (fun q => h59 ((nI_leI (a := 16) (by omega) (by omega)).mpr q))
    refine lv_aload_n hx hb d_NS_init_62 rfl (lv_at hl 1 rfl) ?_
    refine g_get B hw fl_NS_36 e0 rfl d_NS_init_63 ?_
    refine lv_iload_n hx hb d_NS_init_66 rfl (lv_at hl 0 rfl) ?_
    refine lv_iload_n hx hb d_NS_init_67 rfl (lv_at hl 0 rfl) ?_
    refine g_iast B hw e10 (vp_in_nI h59 (by omega)) d_NS_init_68 (fun H locs hw => ?_)
    rw [nI_clamp (by omega)] at hw
    have hw : wd D A (nsW K h q1 q2 q3 q q9 q10 G (idC (j + 1))) s H locs := hw
    refine lv_iinc (k := 0) hx hb d_NS_init_69 hl rfl (show nI j + Int32.ofInt 1 = nI (j + 1) from (nI_succ j).symm) (by decide) rfl (fun ls (hl : lv_has ls 2 [(1, .int (nI (j + 1))), (0, .ref _)]) => ?_)
    refine lv_goto (tgt := 56) hx hb d_NS_init_72 rfl ?_
    exact ih (j + 1) _ _ _ (by omega) ⟨by omega, lv_sub hl [0, 1] rfl, hw⟩
abbrev mdW (K : Nat → ClassId) (h a1 a2 a3 a4 a5 a6 a7 a8 : Nat) (kd cd : Nat → Int32) : va_W := [(h, .inr (4, [.ref a1, .ref a2, .ref a3, .int 0, .int 0, .long 0, .long 0, .long 0, .long 0, .int 0, .ref a4, .ref a5, .int 0, .ref a6, .ref a7, .ref a8])), (a1, arI K 8 kd), (a2, arJ K 8 (fun _ => 0)), (a3, arJ K 8 (fun _ => 0)), (a4, arI K 6 (fun _ => 0)), (a5, arI K 36 (fun _ => 0)), (a6, arI K 24 (fun _ => 0)), (a7, arI K 16 (fun _ => 0)), (a8, arI K 16 cd)]
theorem zN_0 : (fun _ => 0 : Nat → Int32) = zN (fun _ => 0) := by
  funext r
  exact nI_0.symm
theorem mdW_MR {K : Nat → ClassId} {h a1 a2 a3 a4 a5 a6 a7 a8 : Nat} : ∃ q : Nat → Nat, q 0 = h ∧ MR K q (kdC 8) (fun _ => 0) (fun _ => 0) (nI 0) (zN (fun _ => 0)) (fun _ => 0) (nI 0) (fun _ => 0) (idC 16) (mdW K h a1 a2 a3 a4 a5 a6 a7 a8 (kdC 8) (idC 16)) := by
  refine ⟨fun j => [h, a1, a2, a3, a4, a5, a6, a7, a8].getD j 0, rfl, ?_⟩
  rw [← zN_0]
  exact ⟨_, _, _, _, _, _, _, rfl⟩
set_option maxRecDepth 100000 in
set_option maxHeartbeats 4000000 in
theorem c_MD_init {l : Launch} {D : va_G} {K : Nat → ClassId} {A : Nat → Prop} {h : Nat} : ctV l y_MD_init prog_6_method_1_code 2 1 8 122 [.ref h] D K A ([(h, .inr (4, [.null, .null, .null, .int 0, .int 0, .long 0, .long 0, .long 0, .long 0, .int 0, .null, .null, .int 0, .null, .null, .null]))]) (fun v => ∃ q : Nat → Nat, q 0 = h ∧ MR K q (kdC 8) (fun _ => 0) (fun _ => 0) (nI 0) (zN (fun _ => 0)) (fun _ => 0) (nI 0) (fun _ => 0) (idC 16) v) := by
  refine mt_of (by decide) (Nat.le_of_ble_eq_true rfl) ?_
  intro p e s m below meth c ls B hw hl
  have hx := B.1
  have hb := B.2.1
  have hl : lv_has ls 2 [(0, .ref h)] := hl
  have e0 : ([(h, .inr (4, [.null, .null, .null, .int 0, .int 0, .long 0, .long 0, .long 0, .long 0, .int 0, .null, .null, .int 0, .null, .null, .null]))] : va_W)[0]? = some (h, .inr (4, [.null, .null, .null, .int 0, .int 0, .long 0, .long 0, .long 0, .long 0, .int 0, .null, .null, .int 0, .null, .null, .null])) := rfl
  refine lv_aload_n hx hb d_MD_init_0 rfl (lv_at hl 0 rfl) ?_
  refine W.objInit hx hb B.2.2.2.1 (B.2.2.2.2.1 _ ml_MD_1) (B.2.2.2.2.1 _ im_OB_init) (B.2.2.2.2.1 _ co_OB_init) rfl (by rw [B.2.2.1]; exact hl.1) rfl d_MD_init_1 (Nat.le_of_ble_eq_true rfl) (Nat.le_of_ble_eq_true rfl) ?_
  refine W.eq (g2 := F0 m 4 ls []) rfl ?_
  refine lv_aload_n hx hb d_MD_init_4 rfl (lv_at hl 0 rfl) ?_
  refine lv_bipush (v := 8) hx hb d_MD_init_5 (by decide) ?_
  refine g_newI (N' := 8) B hw (by decide) (by decide) (by decide) (Nat.le_of_ble_eq_true rfl) (Nat.le_of_ble_eq_true rfl) d_MD_init_7 (fun a1 H hw => ?_)
  have hw : wd D A [(h, .inr (4, [.null, .null, .null, .int 0, .int 0, .long 0, .long 0, .long 0, .long 0, .int 0, .null, .null, .int 0, .null, .null, .null])), (a1, arI K 8 (fun _ => 0))] s H _ := hw
  have e0 : ([(h, .inr (4, [.null, .null, .null, .int 0, .int 0, .long 0, .long 0, .long 0, .long 0, .int 0, .null, .null, .int 0, .null, .null, .null])), (a1, arI K 8 (fun _ => 0))] : va_W)[0]? = some (h, .inr (4, [.null, .null, .null, .int 0, .int 0, .long 0, .long 0, .long 0, .long 0, .int 0, .null, .null, .int 0, .null, .null, .null])) := rfl
  refine g_put B hw fl_MD_7 ck_MD e0 rfl rfl rfl (Nat.le_of_ble_eq_true rfl) d_MD_init_9 (fun H locs hw => ?_)
  have hw : wd D A [(h, .inr (4, [.ref a1, .null, .null, .int 0, .int 0, .long 0, .long 0, .long 0, .long 0, .int 0, .null, .null, .int 0, .null, .null, .null])), (a1, arI K 8 (fun _ => 0))] s H _ := hw
  refine lv_aload_n hx hb d_MD_init_12 rfl (lv_at hl 0 rfl) ?_
  refine lv_bipush (v := 8) hx hb d_MD_init_13 (by decide) ?_
  refine g_newJ (N' := 8) B hw (by decide) (by decide) (by decide) (Nat.le_of_ble_eq_true rfl) (Nat.le_of_ble_eq_true rfl) d_MD_init_15 (fun a2 H hw => ?_)
  have hw : wd D A [(h, .inr (4, [.ref a1, .null, .null, .int 0, .int 0, .long 0, .long 0, .long 0, .long 0, .int 0, .null, .null, .int 0, .null, .null, .null])), (a1, arI K 8 (fun _ => 0)), (a2, arJ K 8 (fun _ => 0))] s H _ := hw
  have e0 : ([(h, .inr (4, [.ref a1, .null, .null, .int 0, .int 0, .long 0, .long 0, .long 0, .long 0, .int 0, .null, .null, .int 0, .null, .null, .null])), (a1, arI K 8 (fun _ => 0)), (a2, arJ K 8 (fun _ => 0))] : va_W)[0]? = some (h, .inr (4, [.ref a1, .null, .null, .int 0, .int 0, .long 0, .long 0, .long 0, .long 0, .int 0, .null, .null, .int 0, .null, .null, .null])) := rfl
  refine g_put B hw fl_MD_13 ck_MD e0 rfl rfl rfl (Nat.le_of_ble_eq_true rfl) d_MD_init_17 (fun H locs hw => ?_)
  have hw : wd D A [(h, .inr (4, [.ref a1, .ref a2, .null, .int 0, .int 0, .long 0, .long 0, .long 0, .long 0, .int 0, .null, .null, .int 0, .null, .null, .null])), (a1, arI K 8 (fun _ => 0)), (a2, arJ K 8 (fun _ => 0))] s H _ := hw
  refine lv_aload_n hx hb d_MD_init_20 rfl (lv_at hl 0 rfl) ?_
  refine lv_bipush (v := 8) hx hb d_MD_init_21 (by decide) ?_
  refine g_newJ (N' := 8) B hw (by decide) (by decide) (by decide) (Nat.le_of_ble_eq_true rfl) (Nat.le_of_ble_eq_true rfl) d_MD_init_23 (fun a3 H hw => ?_)
  have hw : wd D A [(h, .inr (4, [.ref a1, .ref a2, .null, .int 0, .int 0, .long 0, .long 0, .long 0, .long 0, .int 0, .null, .null, .int 0, .null, .null, .null])), (a1, arI K 8 (fun _ => 0)), (a2, arJ K 8 (fun _ => 0)), (a3, arJ K 8 (fun _ => 0))] s H _ := hw
  have e0 : ([(h, .inr (4, [.ref a1, .ref a2, .null, .int 0, .int 0, .long 0, .long 0, .long 0, .long 0, .int 0, .null, .null, .int 0, .null, .null, .null])), (a1, arI K 8 (fun _ => 0)), (a2, arJ K 8 (fun _ => 0)), (a3, arJ K 8 (fun _ => 0))] : va_W)[0]? = some (h, .inr (4, [.ref a1, .ref a2, .null, .int 0, .int 0, .long 0, .long 0, .long 0, .long 0, .int 0, .null, .null, .int 0, .null, .null, .null])) := rfl
  refine g_put B hw fl_MD_17 ck_MD e0 rfl rfl rfl (Nat.le_of_ble_eq_true rfl) d_MD_init_25 (fun H locs hw => ?_)
  have hw : wd D A [(h, .inr (4, [.ref a1, .ref a2, .ref a3, .int 0, .int 0, .long 0, .long 0, .long 0, .long 0, .int 0, .null, .null, .int 0, .null, .null, .null])), (a1, arI K 8 (fun _ => 0)), (a2, arJ K 8 (fun _ => 0)), (a3, arJ K 8 (fun _ => 0))] s H _ := hw
  refine lv_aload_n hx hb d_MD_init_28 rfl (lv_at hl 0 rfl) ?_
  refine lv_bipush (v := 6) hx hb d_MD_init_29 (by decide) ?_
  refine g_newI (N' := 6) B hw (by decide) (by decide) (by decide) (Nat.le_of_ble_eq_true rfl) (Nat.le_of_ble_eq_true rfl) d_MD_init_31 (fun a4 H hw => ?_)
  have hw : wd D A [(h, .inr (4, [.ref a1, .ref a2, .ref a3, .int 0, .int 0, .long 0, .long 0, .long 0, .long 0, .int 0, .null, .null, .int 0, .null, .null, .null])), (a1, arI K 8 (fun _ => 0)), (a2, arJ K 8 (fun _ => 0)), (a3, arJ K 8 (fun _ => 0)), (a4, arI K 6 (fun _ => 0))] s H _ := hw
  have e0 : ([(h, .inr (4, [.ref a1, .ref a2, .ref a3, .int 0, .int 0, .long 0, .long 0, .long 0, .long 0, .int 0, .null, .null, .int 0, .null, .null, .null])), (a1, arI K 8 (fun _ => 0)), (a2, arJ K 8 (fun _ => 0)), (a3, arJ K 8 (fun _ => 0)), (a4, arI K 6 (fun _ => 0))] : va_W)[0]? = some (h, .inr (4, [.ref a1, .ref a2, .ref a3, .int 0, .int 0, .long 0, .long 0, .long 0, .long 0, .int 0, .null, .null, .int 0, .null, .null, .null])) := rfl
  refine g_put B hw fl_MD_20 ck_MD e0 rfl rfl rfl (Nat.le_of_ble_eq_true rfl) d_MD_init_33 (fun H locs hw => ?_)
  have hw : wd D A [(h, .inr (4, [.ref a1, .ref a2, .ref a3, .int 0, .int 0, .long 0, .long 0, .long 0, .long 0, .int 0, .ref a4, .null, .int 0, .null, .null, .null])), (a1, arI K 8 (fun _ => 0)), (a2, arJ K 8 (fun _ => 0)), (a3, arJ K 8 (fun _ => 0)), (a4, arI K 6 (fun _ => 0))] s H _ := hw
  refine lv_aload_n hx hb d_MD_init_36 rfl (lv_at hl 0 rfl) ?_
  refine lv_bipush (v := 36) hx hb d_MD_init_37 (by decide) ?_
  refine g_newI (N' := 36) B hw (by decide) (by decide) (by decide) (Nat.le_of_ble_eq_true rfl) (Nat.le_of_ble_eq_true rfl) d_MD_init_39 (fun a5 H hw => ?_)
  have hw : wd D A [(h, .inr (4, [.ref a1, .ref a2, .ref a3, .int 0, .int 0, .long 0, .long 0, .long 0, .long 0, .int 0, .ref a4, .null, .int 0, .null, .null, .null])), (a1, arI K 8 (fun _ => 0)), (a2, arJ K 8 (fun _ => 0)), (a3, arJ K 8 (fun _ => 0)), (a4, arI K 6 (fun _ => 0)), (a5, arI K 36 (fun _ => 0))] s H _ := hw
  have e0 : ([(h, .inr (4, [.ref a1, .ref a2, .ref a3, .int 0, .int 0, .long 0, .long 0, .long 0, .long 0, .int 0, .ref a4, .null, .int 0, .null, .null, .null])), (a1, arI K 8 (fun _ => 0)), (a2, arJ K 8 (fun _ => 0)), (a3, arJ K 8 (fun _ => 0)), (a4, arI K 6 (fun _ => 0)), (a5, arI K 36 (fun _ => 0))] : va_W)[0]? = some (h, .inr (4, [.ref a1, .ref a2, .ref a3, .int 0, .int 0, .long 0, .long 0, .long 0, .long 0, .int 0, .ref a4, .null, .int 0, .null, .null, .null])) := rfl
  refine g_put B hw fl_MD_23 ck_MD e0 rfl rfl rfl (Nat.le_of_ble_eq_true rfl) d_MD_init_41 (fun H locs hw => ?_)
  have hw : wd D A [(h, .inr (4, [.ref a1, .ref a2, .ref a3, .int 0, .int 0, .long 0, .long 0, .long 0, .long 0, .int 0, .ref a4, .ref a5, .int 0, .null, .null, .null])), (a1, arI K 8 (fun _ => 0)), (a2, arJ K 8 (fun _ => 0)), (a3, arJ K 8 (fun _ => 0)), (a4, arI K 6 (fun _ => 0)), (a5, arI K 36 (fun _ => 0))] s H _ := hw
  refine lv_aload_n hx hb d_MD_init_44 rfl (lv_at hl 0 rfl) ?_
  refine lv_bipush (v := 24) hx hb d_MD_init_45 (by decide) ?_
  refine g_newI (N' := 24) B hw (by decide) (by decide) (by decide) (Nat.le_of_ble_eq_true rfl) (Nat.le_of_ble_eq_true rfl) d_MD_init_47 (fun a6 H hw => ?_)
  have hw : wd D A [(h, .inr (4, [.ref a1, .ref a2, .ref a3, .int 0, .int 0, .long 0, .long 0, .long 0, .long 0, .int 0, .ref a4, .ref a5, .int 0, .null, .null, .null])), (a1, arI K 8 (fun _ => 0)), (a2, arJ K 8 (fun _ => 0)), (a3, arJ K 8 (fun _ => 0)), (a4, arI K 6 (fun _ => 0)), (a5, arI K 36 (fun _ => 0)), (a6, arI K 24 (fun _ => 0))] s H _ := hw
  have e0 : ([(h, .inr (4, [.ref a1, .ref a2, .ref a3, .int 0, .int 0, .long 0, .long 0, .long 0, .long 0, .int 0, .ref a4, .ref a5, .int 0, .null, .null, .null])), (a1, arI K 8 (fun _ => 0)), (a2, arJ K 8 (fun _ => 0)), (a3, arJ K 8 (fun _ => 0)), (a4, arI K 6 (fun _ => 0)), (a5, arI K 36 (fun _ => 0)), (a6, arI K 24 (fun _ => 0))] : va_W)[0]? = some (h, .inr (4, [.ref a1, .ref a2, .ref a3, .int 0, .int 0, .long 0, .long 0, .long 0, .long 0, .int 0, .ref a4, .ref a5, .int 0, .null, .null, .null])) := rfl
  refine g_put B hw fl_MD_26 ck_MD e0 rfl rfl rfl (Nat.le_of_ble_eq_true rfl) d_MD_init_49 (fun H locs hw => ?_)
  have hw : wd D A [(h, .inr (4, [.ref a1, .ref a2, .ref a3, .int 0, .int 0, .long 0, .long 0, .long 0, .long 0, .int 0, .ref a4, .ref a5, .int 0, .ref a6, .null, .null])), (a1, arI K 8 (fun _ => 0)), (a2, arJ K 8 (fun _ => 0)), (a3, arJ K 8 (fun _ => 0)), (a4, arI K 6 (fun _ => 0)), (a5, arI K 36 (fun _ => 0)), (a6, arI K 24 (fun _ => 0))] s H _ := hw
  refine lv_aload_n hx hb d_MD_init_52 rfl (lv_at hl 0 rfl) ?_
  refine lv_bipush (v := 16) hx hb d_MD_init_53 (by decide) ?_
  refine g_newI (N' := 16) B hw (by decide) (by decide) (by decide) (Nat.le_of_ble_eq_true rfl) (Nat.le_of_ble_eq_true rfl) d_MD_init_55 (fun a7 H hw => ?_)
  have hw : wd D A [(h, .inr (4, [.ref a1, .ref a2, .ref a3, .int 0, .int 0, .long 0, .long 0, .long 0, .long 0, .int 0, .ref a4, .ref a5, .int 0, .ref a6, .null, .null])), (a1, arI K 8 (fun _ => 0)), (a2, arJ K 8 (fun _ => 0)), (a3, arJ K 8 (fun _ => 0)), (a4, arI K 6 (fun _ => 0)), (a5, arI K 36 (fun _ => 0)), (a6, arI K 24 (fun _ => 0)), (a7, arI K 16 (fun _ => 0))] s H _ := hw
  have e0 : ([(h, .inr (4, [.ref a1, .ref a2, .ref a3, .int 0, .int 0, .long 0, .long 0, .long 0, .long 0, .int 0, .ref a4, .ref a5, .int 0, .ref a6, .null, .null])), (a1, arI K 8 (fun _ => 0)), (a2, arJ K 8 (fun _ => 0)), (a3, arJ K 8 (fun _ => 0)), (a4, arI K 6 (fun _ => 0)), (a5, arI K 36 (fun _ => 0)), (a6, arI K 24 (fun _ => 0)), (a7, arI K 16 (fun _ => 0))] : va_W)[0]? = some (h, .inr (4, [.ref a1, .ref a2, .ref a3, .int 0, .int 0, .long 0, .long 0, .long 0, .long 0, .int 0, .ref a4, .ref a5, .int 0, .ref a6, .null, .null])) := rfl
  refine g_put B hw fl_MD_29 ck_MD e0 rfl rfl rfl (Nat.le_of_ble_eq_true rfl) d_MD_init_57 (fun H locs hw => ?_)
  have hw : wd D A [(h, .inr (4, [.ref a1, .ref a2, .ref a3, .int 0, .int 0, .long 0, .long 0, .long 0, .long 0, .int 0, .ref a4, .ref a5, .int 0, .ref a6, .ref a7, .null])), (a1, arI K 8 (fun _ => 0)), (a2, arJ K 8 (fun _ => 0)), (a3, arJ K 8 (fun _ => 0)), (a4, arI K 6 (fun _ => 0)), (a5, arI K 36 (fun _ => 0)), (a6, arI K 24 (fun _ => 0)), (a7, arI K 16 (fun _ => 0))] s H _ := hw
  refine lv_aload_n hx hb d_MD_init_60 rfl (lv_at hl 0 rfl) ?_
  refine lv_bipush (v := 16) hx hb d_MD_init_61 (by decide) ?_
  refine g_newI (N' := 16) B hw (by decide) (by decide) (by decide) (Nat.le_of_ble_eq_true rfl) (Nat.le_of_ble_eq_true rfl) d_MD_init_63 (fun a8 H hw => ?_)
  have hw : wd D A [(h, .inr (4, [.ref a1, .ref a2, .ref a3, .int 0, .int 0, .long 0, .long 0, .long 0, .long 0, .int 0, .ref a4, .ref a5, .int 0, .ref a6, .ref a7, .null])), (a1, arI K 8 (fun _ => 0)), (a2, arJ K 8 (fun _ => 0)), (a3, arJ K 8 (fun _ => 0)), (a4, arI K 6 (fun _ => 0)), (a5, arI K 36 (fun _ => 0)), (a6, arI K 24 (fun _ => 0)), (a7, arI K 16 (fun _ => 0)), (a8, arI K 16 (fun _ => 0))] s H _ := hw
  have e0 : ([(h, .inr (4, [.ref a1, .ref a2, .ref a3, .int 0, .int 0, .long 0, .long 0, .long 0, .long 0, .int 0, .ref a4, .ref a5, .int 0, .ref a6, .ref a7, .null])), (a1, arI K 8 (fun _ => 0)), (a2, arJ K 8 (fun _ => 0)), (a3, arJ K 8 (fun _ => 0)), (a4, arI K 6 (fun _ => 0)), (a5, arI K 36 (fun _ => 0)), (a6, arI K 24 (fun _ => 0)), (a7, arI K 16 (fun _ => 0)), (a8, arI K 16 (fun _ => 0))] : va_W)[0]? = some (h, .inr (4, [.ref a1, .ref a2, .ref a3, .int 0, .int 0, .long 0, .long 0, .long 0, .long 0, .int 0, .ref a4, .ref a5, .int 0, .ref a6, .ref a7, .null])) := rfl
  refine g_put B hw fl_MD_32 ck_MD e0 rfl rfl rfl (Nat.le_of_ble_eq_true rfl) d_MD_init_65 (fun H locs hw => ?_)
  have hw : wd D A (mdW K h a1 a2 a3 a4 a5 a6 a7 a8 (kdC 0) (idC 0)) s H locs := hw
  refine lv_iconst (v := 0) hx hb d_MD_init_68 (by decide) ?_
  refine lv_istore_n hx hb d_MD_init_69 rfl hl (by decide) rfl (fun ls (hl : lv_has ls 2 [(1, .int _), (0, .ref _)]) => ?_)
  refine lp_w (σ := Nat) (fun j => 8 - j) (fun j H locs ls => j ≤ 8 ∧ lv_has ls 2 [(1, .int (nI j)), (0, .ref h)] ∧ wd D A (mdW K h a1 a2 a3 a4 a5 a6 a7 a8 (kdC j) (idC 0)) s H locs) ?_ 0 _ _ _ ⟨by omega, lv_sub hl [0, 1] rfl, hw⟩
  rintro j H locs ls ⟨hj, hl, hw⟩ ih
  have e0 : (mdW K h a1 a2 a3 a4 a5 a6 a7 a8 (kdC j) (idC 0))[0]? = some (h, .inr (4, [.ref a1, .ref a2, .ref a3, .int 0, .int 0, .long 0, .long 0, .long 0, .long 0, .int 0, .ref a4, .ref a5, .int 0, .ref a6, .ref a7, .ref a8])) := rfl
  have ex : (mdW K h a1 a2 a3 a4 a5 a6 a7 a8 (kdC j) (idC 0))[1]? = some (a1, arI K 8 (kdC j)) := rfl
  refine lv_iload_n hx hb d_MD_init_70 rfl (lv_at hl 0 rfl) ?_
  refine lv_bipush (v := 8) hx hb d_MD_init_71 (by decide) ?_
  refine lv_icmp_ge (tgt := 89) hx hb d_MD_init_73 rfl (fun h73 => ?_) (fun h73 => ?_)
  · have h73 : 8 ≤ j := (nI_leI (a := 8) (by omega) (by omega)).mp h73
    obtain rfl : j = 8 := by omega
    refine lv_iconst (v := 0) hx hb d_MD_init_89 (by decide) ?_
    refine lv_istore_n hx hb d_MD_init_90 rfl hl (by decide) rfl (fun ls (hl : lv_has ls 2 [(1, .int _), (0, .ref _)]) => ?_)
    refine lp_w (σ := Nat) (fun j => 16 - j) (fun j H locs ls => j ≤ 16 ∧ lv_has ls 2 [(1, .int (nI j)), (0, .ref h)] ∧ wd D A (mdW K h a1 a2 a3 a4 a5 a6 a7 a8 (kdC 8) (idC j)) s H locs) ?_ 0 _ _ _ ⟨by omega, lv_sub hl [0, 1] rfl, hw⟩
    rintro j H locs ls ⟨hj, hl, hw⟩ ih
    have e0 : (mdW K h a1 a2 a3 a4 a5 a6 a7 a8 (kdC 8) (idC j))[0]? = some (h, .inr (4, [.ref a1, .ref a2, .ref a3, .int 0, .int 0, .long 0, .long 0, .long 0, .long 0, .int 0, .ref a4, .ref a5, .int 0, .ref a6, .ref a7, .ref a8])) := rfl
    have ex : (mdW K h a1 a2 a3 a4 a5 a6 a7 a8 (kdC 8) (idC j))[8]? = some (a8, arI K 16 (idC j)) := rfl
    refine lv_iload_n hx hb d_MD_init_91 rfl (lv_at hl 0 rfl) ?_
    refine lv_bipush (v := 16) hx hb d_MD_init_92 (by decide) ?_
    refine lv_icmp_ge (tgt := 110) hx hb d_MD_init_94 rfl (fun h94 => ?_) (fun h94 => ?_)
    · have h94 : 16 ≤ j := (nI_leI (a := 16) (by omega) (by omega)).mp h94
      obtain rfl : j = 16 := by omega
      exact r_v B hw d_MD_init_110 mdW_MR
    · have h94 : j < 16 := Nat.lt_of_not_le (fun q => h94 ((nI_leI (a := 16) (by omega) (by omega)).mpr q))
      refine lv_aload_n hx hb d_MD_init_97 rfl (lv_at hl 1 rfl) ?_
      refine g_get B hw fl_MD_32 e0 rfl d_MD_init_98 ?_
      refine lv_iload_n hx hb d_MD_init_101 rfl (lv_at hl 0 rfl) ?_
      refine lv_iload_n hx hb d_MD_init_102 rfl (lv_at hl 0 rfl) ?_
      refine g_iast B hw ex (vp_in_nI h94 (by omega)) d_MD_init_103 (fun H locs hw => ?_)
      rw [nI_clamp (by omega)] at hw
      have hw : wd D A (mdW K h a1 a2 a3 a4 a5 a6 a7 a8 (kdC 8) (idC (j + 1))) s H locs := hw
      refine lv_iinc (k := 0) hx hb d_MD_init_104 hl rfl (show nI j + Int32.ofInt 1 = nI (j + 1) from (nI_succ j).symm) (by decide) rfl (fun ls (hl : lv_has ls 2 [(1, .int (nI (j + 1))), (0, .ref _)]) => ?_)
      refine lv_goto (tgt := 91) hx hb d_MD_init_107 rfl ?_
      exact ih (j + 1) _ _ _ (by omega) ⟨by omega, lv_sub hl [0, 1] rfl, hw⟩
  · have h73 : j < 8 := Nat.lt_of_not_le (fun q => h73 ((nI_leI (a := 8) (by omega) (by omega)).mpr q))
    refine lv_aload_n hx hb d_MD_init_76 rfl (lv_at hl 1 rfl) ?_
    refine g_get B hw fl_MD_7 e0 rfl d_MD_init_77 ?_
    refine lv_iload_n hx hb d_MD_init_80 rfl (lv_at hl 0 rfl) ?_
    refine lv_iconst (v := (-1)) hx hb d_MD_init_81 (by decide) ?_
    refine g_iast B hw ex (vp_in_nI h73 (by omega)) d_MD_init_82 (fun H locs hw => ?_)
    rw [nI_clamp (by omega)] at hw
    have hw : wd D A (mdW K h a1 a2 a3 a4 a5 a6 a7 a8 (kdC (j + 1)) (idC 0)) s H locs := hw
    refine lv_iinc (k := 0) hx hb d_MD_init_83 hl rfl (show nI j + Int32.ofInt 1 = nI (j + 1) from (nI_succ j).symm) (by decide) rfl (fun ls (hl : lv_has ls 2 [(1, .int (nI (j + 1))), (0, .ref _)]) => ?_)
    refine lv_goto (tgt := 70) hx hb d_MD_init_86 rfl ?_
    exact ih (j + 1) _ _ _ (by omega) ⟨by omega, lv_sub hl [0, 1] rfl, hw⟩
