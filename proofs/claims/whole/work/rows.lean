section
-- ===== PART A: goes FIRST, ahead of the names: the tables' words, and 'selects' of the private methods out of them =====
/-- a private method of a class that the tables say can be made, by its rows of tables_1 -/
def lw_okq (q : MethodName × Nat) : Prop := (q.1.cls ≠ "java/lang/invoke/MethodHandle" ∧ q.1.cls ≠ "java/lang/invoke/VarHandle") ∧ Cond.instantiable q.1.cls q.2 ∈ tables_1 ∧ Cond.privateMethod q.1 ∈ tables_1 ∧ Cond.instanceMethod q.1 ∈ tables_1
theorem lw_p0 : lw_okq (⟨"NumberStreams$Points", "startRow", "(IIII)V"⟩, 2) := ⟨⟨by decide +kernel, by decide +kernel⟩, List.mem_of_getElem? (i := 20) (by decide +kernel), List.mem_of_getElem? (i := 28) (by decide +kernel), List.mem_of_getElem? (i := 29) (by decide +kernel)⟩
theorem lw_p1 : lw_okq (⟨"NumberStreams$Points", "growRow", "(III)V"⟩, 2) := ⟨⟨by decide +kernel, by decide +kernel⟩, List.mem_of_getElem? (i := 20) (by decide +kernel), List.mem_of_getElem? (i := 32) (by decide +kernel), List.mem_of_getElem? (i := 33) (by decide +kernel)⟩
theorem lw_p2 : lw_okq (⟨"NumberStreams$Points", "alignRow", "(I)V"⟩, 2) := ⟨⟨by decide +kernel, by decide +kernel⟩, List.mem_of_getElem? (i := 20) (by decide +kernel), List.mem_of_getElem? (i := 36) (by decide +kernel), List.mem_of_getElem? (i := 37) (by decide +kernel)⟩
theorem lw_p3 : lw_okq (⟨"NumberStreams", "leastFreeSlot", "()I"⟩, 6) := ⟨⟨by decide +kernel, by decide +kernel⟩, List.mem_of_getElem? (i := 8) (by decide +kernel), List.mem_of_getElem? (i := 72) (by decide +kernel), List.mem_of_getElem? (i := 73) (by decide +kernel)⟩
theorem lw_p4 : lw_okq (⟨"NumberStreams", "streamAt", "(I)LNumberStreams$Stream;"⟩, 6) := ⟨⟨by decide +kernel, by decide +kernel⟩, List.mem_of_getElem? (i := 8) (by decide +kernel), List.mem_of_getElem? (i := 126) (by decide +kernel), List.mem_of_getElem? (i := 127) (by decide +kernel)⟩
theorem lw_p5 : lw_okq (⟨"NumberStreams$Stream", "output", "()I"⟩, 3) := ⟨⟨by decide +kernel, by decide +kernel⟩, List.mem_of_getElem? (i := 100) (by decide +kernel), List.mem_of_getElem? (i := 143) (by decide +kernel), List.mem_of_getElem? (i := 144) (by decide +kernel)⟩
theorem lw_p6 : lw_okq (⟨"NumberStreams$Stream", "mixedCounter", "()I"⟩, 3) := ⟨⟨by decide +kernel, by decide +kernel⟩, List.mem_of_getElem? (i := 100) (by decide +kernel), List.mem_of_getElem? (i := 154) (by decide +kernel), List.mem_of_getElem? (i := 155) (by decide +kernel)⟩
theorem lw_p7 : lw_okq (⟨"NumberStreams$Stream", "nextRemainder", "()J"⟩, 3) := ⟨⟨by decide +kernel, by decide +kernel⟩, List.mem_of_getElem? (i := 100) (by decide +kernel), List.mem_of_getElem? (i := 160) (by decide +kernel), List.mem_of_getElem? (i := 161) (by decide +kernel)⟩
theorem lw_p8 : lw_okq (⟨"NumberStreams$Stream", "moveRotations", "()V"⟩, 3) := ⟨⟨by decide +kernel, by decide +kernel⟩, List.mem_of_getElem? (i := 100) (by decide +kernel), List.mem_of_getElem? (i := 171) (by decide +kernel), List.mem_of_getElem? (i := 172) (by decide +kernel)⟩
theorem lw_p9 : lw_okq (⟨"NumberStreams$Saved", "append", "(I)V"⟩, 2) := ⟨⟨by decide +kernel, by decide +kernel⟩, List.mem_of_getElem? (i := 199) (by decide +kernel), List.mem_of_getElem? (i := 206) (by decide +kernel), List.mem_of_getElem? (i := 207) (by decide +kernel)⟩
theorem lw_p10 : lw_okq (⟨"NumberStreams$Saved", "appendPart", "(JZ)V"⟩, 2) := ⟨⟨by decide +kernel, by decide +kernel⟩, List.mem_of_getElem? (i := 199) (by decide +kernel), List.mem_of_getElem? (i := 213) (by decide +kernel), List.mem_of_getElem? (i := 214) (by decide +kernel)⟩
theorem lw_p11 : lw_okq (⟨"NumberStreams$Saved", "checkOfFirst", "(I)I"⟩, 2) := ⟨⟨by decide +kernel, by decide +kernel⟩, List.mem_of_getElem? (i := 199) (by decide +kernel), List.mem_of_getElem? (i := 220) (by decide +kernel), List.mem_of_getElem? (i := 221) (by decide +kernel)⟩
theorem lw_p12 : lw_okq (⟨"NumberStreams", "recordAt", "(I)LNumberStreams$Saved;"⟩, 6) := ⟨⟨by decide +kernel, by decide +kernel⟩, List.mem_of_getElem? (i := 8) (by decide +kernel), List.mem_of_getElem? (i := 237) (by decide +kernel), List.mem_of_getElem? (i := 238) (by decide +kernel)⟩
theorem lw_p13 : lw_okq (⟨"NumberStreams$Saved", "partAt", "(IZ)J"⟩, 2) := ⟨⟨by decide +kernel, by decide +kernel⟩, List.mem_of_getElem? (i := 199) (by decide +kernel), List.mem_of_getElem? (i := 280) (by decide +kernel), List.mem_of_getElem? (i := 281) (by decide +kernel)⟩
theorem lw_p14 : lw_okq (⟨"NumberStreams", "totalWeight", "()I"⟩, 6) := ⟨⟨by decide +kernel, by decide +kernel⟩, List.mem_of_getElem? (i := 8) (by decide +kernel), List.mem_of_getElem? (i := 323) (by decide +kernel), List.mem_of_getElem? (i := 324) (by decide +kernel)⟩
theorem lw_p15 : lw_okq (⟨"NumberStreams", "outcomeAt", "(I)I"⟩, 6) := ⟨⟨by decide +kernel, by decide +kernel⟩, List.mem_of_getElem? (i := 8) (by decide +kernel), List.mem_of_getElem? (i := 327) (by decide +kernel), List.mem_of_getElem? (i := 328) (by decide +kernel)⟩
def lw_privs_1 : List (MethodName × Nat) := [(⟨"NumberStreams$Points", "startRow", "(IIII)V"⟩, 2), (⟨"NumberStreams$Points", "growRow", "(III)V"⟩, 2), (⟨"NumberStreams$Points", "alignRow", "(I)V"⟩, 2), (⟨"NumberStreams", "leastFreeSlot", "()I"⟩, 6), (⟨"NumberStreams", "streamAt", "(I)LNumberStreams$Stream;"⟩, 6), (⟨"NumberStreams$Stream", "output", "()I"⟩, 3), (⟨"NumberStreams$Stream", "mixedCounter", "()I"⟩, 3), (⟨"NumberStreams$Stream", "nextRemainder", "()J"⟩, 3), (⟨"NumberStreams$Stream", "moveRotations", "()V"⟩, 3), (⟨"NumberStreams$Saved", "append", "(I)V"⟩, 2), (⟨"NumberStreams$Saved", "appendPart", "(JZ)V"⟩, 2), (⟨"NumberStreams$Saved", "checkOfFirst", "(I)I"⟩, 2), (⟨"NumberStreams", "recordAt", "(I)LNumberStreams$Saved;"⟩, 6), (⟨"NumberStreams$Saved", "partAt", "(IZ)J"⟩, 2), (⟨"NumberStreams", "totalWeight", "()I"⟩, 6), (⟨"NumberStreams", "outcomeAt", "(I)I"⟩, 6)]
theorem lw_r1 : ∀ q ∈ lw_privs_1, lw_okq q := List.forall_mem_cons.mpr ⟨lw_p0, List.forall_mem_cons.mpr ⟨lw_p1, List.forall_mem_cons.mpr ⟨lw_p2, List.forall_mem_cons.mpr ⟨lw_p3, List.forall_mem_cons.mpr ⟨lw_p4, List.forall_mem_cons.mpr ⟨lw_p5, List.forall_mem_cons.mpr ⟨lw_p6, List.forall_mem_cons.mpr ⟨lw_p7, List.forall_mem_cons.mpr ⟨lw_p8, List.forall_mem_cons.mpr ⟨lw_p9, List.forall_mem_cons.mpr ⟨lw_p10, List.forall_mem_cons.mpr ⟨lw_p11, List.forall_mem_cons.mpr ⟨lw_p12, List.forall_mem_cons.mpr ⟨lw_p13, List.forall_mem_cons.mpr ⟨lw_p14, List.forall_mem_cons.mpr ⟨lw_p15, fun _ h => absurd h List.not_mem_nil⟩⟩⟩⟩⟩⟩⟩⟩⟩⟩⟩⟩⟩⟩⟩⟩
theorem lw_p16 : lw_okq (⟨"NumberStreamsModel", "freeSlot", "()I"⟩, 16) := ⟨⟨by decide +kernel, by decide +kernel⟩, List.mem_of_getElem? (i := 339) (by decide +kernel), List.mem_of_getElem? (i := 399) (by decide +kernel), List.mem_of_getElem? (i := 400) (by decide +kernel)⟩
theorem lw_p17 : lw_okq (⟨"NumberStreamsModel", "sound", "()Z"⟩, 16) := ⟨⟨by decide +kernel, by decide +kernel⟩, List.mem_of_getElem? (i := 339) (by decide +kernel), List.mem_of_getElem? (i := 408) (by decide +kernel), List.mem_of_getElem? (i := 409) (by decide +kernel)⟩
theorem lw_p18 : lw_okq (⟨"NumberStreamsModel", "settle", "(I)I"⟩, 16) := ⟨⟨by decide +kernel, by decide +kernel⟩, List.mem_of_getElem? (i := 339) (by decide +kernel), List.mem_of_getElem? (i := 416) (by decide +kernel), List.mem_of_getElem? (i := 417) (by decide +kernel)⟩
theorem lw_p19 : lw_okq (⟨"NumberStreamsModel", "holds", "(I)Z"⟩, 16) := ⟨⟨by decide +kernel, by decide +kernel⟩, List.mem_of_getElem? (i := 339) (by decide +kernel), List.mem_of_getElem? (i := 424) (by decide +kernel), List.mem_of_getElem? (i := 425) (by decide +kernel)⟩
theorem lw_p20 : lw_okq (⟨"NumberStreamsModel", "step", "(I)V"⟩, 16) := ⟨⟨by decide +kernel, by decide +kernel⟩, List.mem_of_getElem? (i := 339) (by decide +kernel), List.mem_of_getElem? (i := 437) (by decide +kernel), List.mem_of_getElem? (i := 438) (by decide +kernel)⟩
theorem lw_p21 : lw_okq (⟨"NumberStreamsModel", "rounds", "(IJ)V"⟩, 16) := ⟨⟨by decide +kernel, by decide +kernel⟩, List.mem_of_getElem? (i := 339) (by decide +kernel), List.mem_of_getElem? (i := 446) (by decide +kernel), List.mem_of_getElem? (i := 447) (by decide +kernel)⟩
theorem lw_p22 : lw_okq (⟨"NumberStreamsModel", "multiply", "(JJ)V"⟩, 16) := ⟨⟨by decide +kernel, by decide +kernel⟩, List.mem_of_getElem? (i := 339) (by decide +kernel), List.mem_of_getElem? (i := 451) (by decide +kernel), List.mem_of_getElem? (i := 452) (by decide +kernel)⟩
theorem lw_p23 : lw_okq (⟨"NumberStreamsModel", "below", "(II)I"⟩, 16) := ⟨⟨by decide +kernel, by decide +kernel⟩, List.mem_of_getElem? (i := 339) (by decide +kernel), List.mem_of_getElem? (i := 470) (by decide +kernel), List.mem_of_getElem? (i := 471) (by decide +kernel)⟩
theorem lw_p24 : lw_okq (⟨"NumberStreamsModel", "append", "(I)V"⟩, 16) := ⟨⟨by decide +kernel, by decide +kernel⟩, List.mem_of_getElem? (i := 339) (by decide +kernel), List.mem_of_getElem? (i := 483) (by decide +kernel), List.mem_of_getElem? (i := 484) (by decide +kernel)⟩
theorem lw_p25 : lw_okq (⟨"NumberStreamsModel", "appendLong", "(J)V"⟩, 16) := ⟨⟨by decide +kernel, by decide +kernel⟩, List.mem_of_getElem? (i := 339) (by decide +kernel), List.mem_of_getElem? (i := 487) (by decide +kernel), List.mem_of_getElem? (i := 488) (by decide +kernel)⟩
theorem lw_p26 : lw_okq (⟨"NumberStreamsModel", "check", "(II)I"⟩, 16) := ⟨⟨by decide +kernel, by decide +kernel⟩, List.mem_of_getElem? (i := 339) (by decide +kernel), List.mem_of_getElem? (i := 491) (by decide +kernel), List.mem_of_getElem? (i := 492) (by decide +kernel)⟩
theorem lw_p27 : lw_okq (⟨"NumberStreamsModel", "isWord", "(II)Z"⟩, 16) := ⟨⟨by decide +kernel, by decide +kernel⟩, List.mem_of_getElem? (i := 339) (by decide +kernel), List.mem_of_getElem? (i := 503) (by decide +kernel), List.mem_of_getElem? (i := 504) (by decide +kernel)⟩
theorem lw_p28 : lw_okq (⟨"NumberStreamsModel", "twoWords", "(I)J"⟩, 16) := ⟨⟨by decide +kernel, by decide +kernel⟩, List.mem_of_getElem? (i := 339) (by decide +kernel), List.mem_of_getElem? (i := 519) (by decide +kernel), List.mem_of_getElem? (i := 520) (by decide +kernel)⟩
theorem lw_p29 : lw_okq (⟨"NumberStreamsModel", "turned", "(II)J"⟩, 16) := ⟨⟨by decide +kernel, by decide +kernel⟩, List.mem_of_getElem? (i := 339) (by decide +kernel), List.mem_of_getElem? (i := 536) (by decide +kernel), List.mem_of_getElem? (i := 537) (by decide +kernel)⟩
theorem lw_p30 : lw_okq (⟨"NumberStreamsModel", "inner", "(I)V"⟩, 16) := ⟨⟨by decide +kernel, by decide +kernel⟩, List.mem_of_getElem? (i := 339) (by decide +kernel), List.mem_of_getElem? (i := 540) (by decide +kernel), List.mem_of_getElem? (i := 541) (by decide +kernel)⟩
def lw_privs_2 : List (MethodName × Nat) := [(⟨"NumberStreamsModel", "freeSlot", "()I"⟩, 16), (⟨"NumberStreamsModel", "sound", "()Z"⟩, 16), (⟨"NumberStreamsModel", "settle", "(I)I"⟩, 16), (⟨"NumberStreamsModel", "holds", "(I)Z"⟩, 16), (⟨"NumberStreamsModel", "step", "(I)V"⟩, 16), (⟨"NumberStreamsModel", "rounds", "(IJ)V"⟩, 16), (⟨"NumberStreamsModel", "multiply", "(JJ)V"⟩, 16), (⟨"NumberStreamsModel", "below", "(II)I"⟩, 16), (⟨"NumberStreamsModel", "append", "(I)V"⟩, 16), (⟨"NumberStreamsModel", "appendLong", "(J)V"⟩, 16), (⟨"NumberStreamsModel", "check", "(II)I"⟩, 16), (⟨"NumberStreamsModel", "isWord", "(II)Z"⟩, 16), (⟨"NumberStreamsModel", "twoWords", "(I)J"⟩, 16), (⟨"NumberStreamsModel", "turned", "(II)J"⟩, 16), (⟨"NumberStreamsModel", "inner", "(I)V"⟩, 16)]
theorem lw_r2 : ∀ q ∈ lw_privs_2, lw_okq q := List.forall_mem_cons.mpr ⟨lw_p16, List.forall_mem_cons.mpr ⟨lw_p17, List.forall_mem_cons.mpr ⟨lw_p18, List.forall_mem_cons.mpr ⟨lw_p19, List.forall_mem_cons.mpr ⟨lw_p20, List.forall_mem_cons.mpr ⟨lw_p21, List.forall_mem_cons.mpr ⟨lw_p22, List.forall_mem_cons.mpr ⟨lw_p23, List.forall_mem_cons.mpr ⟨lw_p24, List.forall_mem_cons.mpr ⟨lw_p25, List.forall_mem_cons.mpr ⟨lw_p26, List.forall_mem_cons.mpr ⟨lw_p27, List.forall_mem_cons.mpr ⟨lw_p28, List.forall_mem_cons.mpr ⟨lw_p29, List.forall_mem_cons.mpr ⟨lw_p30, fun _ h => absurd h List.not_mem_nil⟩⟩⟩⟩⟩⟩⟩⟩⟩⟩⟩⟩⟩⟩⟩
def lw_privs : List (MethodName × Nat) := lw_privs_1 ++ (lw_privs_2)
def lw_tbl : List Cond := k2_sels lw_privs ++ tables_1
theorem lw_privs_ok : ∀ q ∈ lw_privs, lw_okq q := by
  show ∀ q ∈ lw_privs_1 ++ (lw_privs_2), lw_okq q
  exact List.forall_mem_append.mpr ⟨lw_r1, lw_r2⟩
end
section
/-! Names: classes, fields, methods, the words of the tables by their places. Printed by wip/whole/names.py out of the Statement. -/
abbrev RL : String := "NumberStreamsLaw"
def T_NS : u_T := fun k => match k with
  | 0 => ("NumberStreams", "slots", "[LNumberStreams$Stream;", true)
  | 1 => ("NumberStreams", "records", "[LNumberStreams$Saved;", true)
  | 2 => ("NumberStreams", "recordCount", "I", false)
  | 3 => ("NumberStreams", "points", "LNumberStreams$Points;", true)
  | 4 => ("NumberStreams", "weights", "[I", true)
  | _ => ("NumberStreams", "cards", "[I", true)
def t_NS : Nat → FieldType := fun k => match k with
  | 0 => .array (.object "NumberStreams$Stream")
  | 1 => .array (.object "NumberStreams$Saved")
  | 2 => .int
  | 3 => .object "NumberStreams$Points"
  | 4 => .array .int
  | _ => .array .int
theorem tt_NS : ∀ k, k < 6 → parseFieldDescriptor (T_NS k).2.2.1 = some (t_NS k) := by decide +kernel
theorem tn_NS : ∀ a, a < 6 → ∀ b, b < 6 → a ≠ b → (T_NS a).2.1 ≠ (T_NS b).2.1 := by decide +kernel
def T_PT : u_T := fun k => match k with
  | 0 => ("NumberStreams$Points", "directions", "[[I", true)
  | _ => ("NumberStreams$Points", "index", "I", false)
def t_PT : Nat → FieldType := fun k => match k with
  | 0 => .array (.array .int)
  | _ => .int
theorem tt_PT : ∀ k, k < 2 → parseFieldDescriptor (T_PT k).2.2.1 = some (t_PT k) := by decide +kernel
theorem tn_PT : ∀ a, a < 2 → ∀ b, b < 2 → a ≠ b → (T_PT a).2.1 ≠ (T_PT b).2.1 := by decide +kernel
def T_SV : u_T := fun k => match k with
  | 0 => ("NumberStreams$Saved", "words", "[I", true)
  | _ => ("NumberStreams$Saved", "count", "I", false)
def t_SV : Nat → FieldType := fun k => match k with
  | 0 => .array .int
  | _ => .int
theorem tt_SV : ∀ k, k < 2 → parseFieldDescriptor (T_SV k).2.2.1 = some (t_SV k) := by decide +kernel
theorem tn_SV : ∀ a, a < 2 → ∀ b, b < 2 → a ≠ b → (T_SV a).2.1 ≠ (T_SV b).2.1 := by decide +kernel
def T_ST : u_T := fun k => match k with
  | 0 => ("NumberStreams$Stream", "kind", "I", true)
  | 1 => ("NumberStreams$Stream", "first", "J", false)
  | _ => ("NumberStreams$Stream", "second", "J", false)
def t_ST : Nat → FieldType := fun k => match k with
  | 0 => .int
  | 1 => .long
  | _ => .long
theorem tt_ST : ∀ k, k < 3 → parseFieldDescriptor (T_ST k).2.2.1 = some (t_ST k) := by decide +kernel
theorem tn_ST : ∀ a, a < 3 → ∀ b, b < 3 → a ≠ b → (T_ST a).2.1 ≠ (T_ST b).2.1 := by decide +kernel
def T_MD : u_T := fun k => match k with
  | 0 => ("NumberStreamsModel", "kind", "[I", false)
  | 1 => ("NumberStreamsModel", "first", "[J", false)
  | 2 => ("NumberStreamsModel", "second", "[J", false)
  | 3 => ("NumberStreamsModel", "out", "I", false)
  | 4 => ("NumberStreamsModel", "newKind", "I", false)
  | 5 => ("NumberStreamsModel", "newFirst", "J", false)
  | 6 => ("NumberStreamsModel", "newSecond", "J", false)
  | 7 => ("NumberStreamsModel", "high", "J", false)
  | 8 => ("NumberStreamsModel", "low", "J", false)
  | 9 => ("NumberStreamsModel", "records", "I", false)
  | 10 => ("NumberStreamsModel", "size", "[I", false)
  | 11 => ("NumberStreamsModel", "stored", "[I", false)
  | 12 => ("NumberStreamsModel", "index", "I", false)
  | 13 => ("NumberStreamsModel", "m", "[I", false)
  | 14 => ("NumberStreamsModel", "weight", "[I", false)
  | _ => ("NumberStreamsModel", "cards", "[I", false)
def t_MD : Nat → FieldType := fun k => match k with
  | 0 => .array .int
  | 1 => .array .long
  | 2 => .array .long
  | 3 => .int
  | 4 => .int
  | 5 => .long
  | 6 => .long
  | 7 => .long
  | 8 => .long
  | 9 => .int
  | 10 => .array .int
  | 11 => .array .int
  | 12 => .int
  | 13 => .array .int
  | 14 => .array .int
  | _ => .array .int
theorem tt_MD : ∀ k, k < 16 → parseFieldDescriptor (T_MD k).2.2.1 = some (t_MD k) := by decide +kernel
theorem tn_MD : ∀ a, a < 16 → ∀ b, b < 16 → a ≠ b → (T_MD a).2.1 ≠ (T_MD b).2.1 := by decide +kernel
abbrev vwCl : List vw_C := [("NumberStreams", T_NS, 6), ("NumberStreams$Points", T_PT, 2), ("NumberStreams$Saved", T_SV, 2), ("NumberStreams$Stream", T_ST, 3), ("NumberStreamsModel", T_MD, 16)]
/-- the words of the tables that every later state keeps -/
def tsW : List Cond := lw_tbl.filter goodWord
theorem ts_in {w : Cond} (h : w ∈ tables_1) (g : goodWord w = true) : w ∈ tsW := List.mem_filter.mpr ⟨List.mem_append_right _ h, g⟩
theorem ts_sel {w : Cond} (h : w ∈ k2_sels lw_privs) (g : goodWord w = true) : w ∈ tsW := List.mem_filter.mpr ⟨List.mem_append_left _ h, g⟩
theorem ts_good {w : Cond} (h : w ∈ tsW) : goodWord w = true := (List.mem_filter.mp h).2
abbrev y_NS_init : MethodName := ⟨"NumberStreams", "<init>", "()V"⟩
theorem co_NS_init : Cond.code y_NS_init prog_1_method_1_code 2 none ∈ tsW := ts_in (List.mem_append_left _ (List.mem_of_getElem? (i := 11) rfl)) rfl
abbrev y_PT_init : MethodName := ⟨"NumberStreams$Points", "<init>", "()V"⟩
theorem co_PT_init : Cond.code y_PT_init prog_2_method_1_code 2 none ∈ tsW := ts_in (List.mem_append_left _ (List.mem_of_getElem? (i := 23) rfl)) rfl
abbrev y_PT_startRow : MethodName := ⟨"NumberStreams$Points", "startRow", "(IIII)V"⟩
theorem co_PT_startRow : Cond.code y_PT_startRow prog_2_method_2_code 5 none ∈ tsW := ts_in (List.mem_append_left _ (List.mem_of_getElem? (i := 30) rfl)) rfl
abbrev y_PT_growRow : MethodName := ⟨"NumberStreams$Points", "growRow", "(III)V"⟩
theorem co_PT_growRow : Cond.code y_PT_growRow prog_2_method_3_code 8 none ∈ tsW := ts_in (List.mem_append_left _ (List.mem_of_getElem? (i := 34) rfl)) rfl
abbrev y_PT_alignRow : MethodName := ⟨"NumberStreams$Points", "alignRow", "(I)V"⟩
theorem co_PT_alignRow : Cond.code y_PT_alignRow prog_2_method_4_code 3 none ∈ tsW := ts_in (List.mem_append_left _ (List.mem_of_getElem? (i := 38) rfl)) rfl
abbrev y_NS_make : MethodName := ⟨"NumberStreams", "make", "(III)I"⟩
theorem co_NS_make : Cond.code y_NS_make prog_1_method_2_code 9 (some .int) ∈ tsW := ts_in (List.mem_append_left _ (List.mem_of_getElem? (i := 70) rfl)) rfl
abbrev y_NS_leastFreeSlot : MethodName := ⟨"NumberStreams", "leastFreeSlot", "()I"⟩
theorem co_NS_leastFreeSlot : Cond.code y_NS_leastFreeSlot prog_1_method_23_code 2 (some .int) ∈ tsW := ts_in (List.mem_append_left _ (List.mem_of_getElem? (i := 74) rfl)) rfl
abbrev y_ST_isKind : MethodName := ⟨"NumberStreams$Stream", "isKind", "(I)Z"⟩
theorem co_ST_isKind : Cond.code y_ST_isKind prog_4_method_2_code 1 (some .boolean) ∈ tsW := ts_in (List.mem_append_left _ (List.mem_of_getElem? (i := 77) rfl)) rfl
abbrev y_ST_firstOfSeed : MethodName := ⟨"NumberStreams$Stream", "firstOfSeed", "(III)J"⟩
theorem co_ST_firstOfSeed : Cond.code y_ST_firstOfSeed prog_4_method_5_code 3 (some .long) ∈ tsW := ts_in (List.mem_append_left _ (List.mem_of_getElem? (i := 80) rfl)) rfl
abbrev y_NS_joined : MethodName := ⟨"NumberStreams", "joined", "(II)J"⟩
theorem co_NS_joined : Cond.code y_NS_joined prog_1_method_28_code 2 (some .long) ∈ tsW := ts_in (List.mem_append_left _ (List.mem_of_getElem? (i := 83) rfl)) rfl
abbrev y_NS_asNumber : MethodName := ⟨"NumberStreams", "asNumber", "(I)J"⟩
theorem co_NS_asNumber : Cond.code y_NS_asNumber prog_1_method_27_code 1 (some .long) ∈ tsW := ts_in (List.mem_append_left _ (List.mem_of_getElem? (i := 86) rfl)) rfl
abbrev y_ST_secondOfSeed : MethodName := ⟨"NumberStreams$Stream", "secondOfSeed", "(III)J"⟩
theorem co_ST_secondOfSeed : Cond.code y_ST_secondOfSeed prog_4_method_6_code 3 (some .long) ∈ tsW := ts_in (List.mem_append_left _ (List.mem_of_getElem? (i := 90) rfl)) rfl
abbrev y_ST_isState : MethodName := ⟨"NumberStreams$Stream", "isState", "(IJJ)Z"⟩
theorem co_ST_isState : Cond.code y_ST_isState prog_4_method_7_code 5 (some .boolean) ∈ tsW := ts_in (List.mem_append_left _ (List.mem_of_getElem? (i := 95) rfl)) rfl
abbrev y_ST_isRemainder : MethodName := ⟨"NumberStreams$Stream", "isRemainder", "(J)Z"⟩
theorem co_ST_isRemainder : Cond.code y_ST_isRemainder prog_4_method_8_code 2 (some .boolean) ∈ tsW := ts_in (List.mem_append_left _ (List.mem_of_getElem? (i := 98) rfl)) rfl
abbrev y_ST_init : MethodName := ⟨"NumberStreams$Stream", "<init>", "(IJJ)V"⟩
theorem co_ST_init : Cond.code y_ST_init prog_4_method_1_code 6 none ∈ tsW := ts_in (List.mem_append_left _ (List.mem_of_getElem? (i := 103) rfl)) rfl
abbrev y_NS_twin : MethodName := ⟨"NumberStreams", "twin", "(I)I"⟩
theorem co_NS_twin : Cond.code y_NS_twin prog_1_method_3_code 4 (some .int) ∈ tsW := ts_in (List.mem_append_left _ (List.mem_of_getElem? (i := 124) rfl)) rfl
abbrev y_NS_streamAt : MethodName := ⟨"NumberStreams", "streamAt", "(I)LNumberStreams$Stream;"⟩
theorem co_NS_streamAt : Cond.code y_NS_streamAt prog_1_method_22_code 2 (some (.object "NumberStreams$Stream")) ∈ tsW := ts_in (List.mem_append_left _ (List.mem_of_getElem? (i := 128) rfl)) rfl
abbrev y_NS_release : MethodName := ⟨"NumberStreams", "release", "(I)Z"⟩
theorem co_NS_release : Cond.code y_NS_release prog_1_method_4_code 2 (some .boolean) ∈ tsW := ts_in (List.mem_append_left _ (List.mem_of_getElem? (i := 132) rfl)) rfl
abbrev y_NS_next : MethodName := ⟨"NumberStreams", "next", "(I)J"⟩
theorem co_NS_next : Cond.code y_NS_next prog_1_method_5_code 3 (some .long) ∈ tsW := ts_in (List.mem_append_left _ (List.mem_of_getElem? (i := 136) rfl)) rfl
abbrev y_ST_step : MethodName := ⟨"NumberStreams$Stream", "step", "()I"⟩
theorem co_ST_step : Cond.code y_ST_step prog_4_method_9_code 2 (some .int) ∈ tsW := ts_in (List.mem_append_left _ (List.mem_of_getElem? (i := 141) rfl)) rfl
abbrev y_ST_output : MethodName := ⟨"NumberStreams$Stream", "output", "()I"⟩
theorem co_ST_output : Cond.code y_ST_output prog_4_method_12_code 1 (some .int) ∈ tsW := ts_in (List.mem_append_left _ (List.mem_of_getElem? (i := 145) rfl)) rfl
abbrev y_JI_rotateRight : MethodName := ⟨"java/lang/Integer", "rotateRight", "(II)I"⟩
theorem co_JI_rotateRight : Cond.code y_JI_rotateRight prog_7_method_51_code 2 (some .int) ∈ tsW := ts_in (List.mem_append_left _ (List.mem_of_getElem? (i := 148) rfl)) rfl
abbrev y_JI_rotateLeft : MethodName := ⟨"java/lang/Integer", "rotateLeft", "(II)I"⟩
theorem co_JI_rotateLeft : Cond.code y_JI_rotateLeft prog_7_method_50_code 2 (some .int) ∈ tsW := ts_in (List.mem_append_left _ (List.mem_of_getElem? (i := 152) rfl)) rfl
abbrev y_ST_mixedCounter : MethodName := ⟨"NumberStreams$Stream", "mixedCounter", "()I"⟩
theorem co_ST_mixedCounter : Cond.code y_ST_mixedCounter prog_4_method_14_code 7 (some .int) ∈ tsW := ts_in (List.mem_append_left _ (List.mem_of_getElem? (i := 156) rfl)) rfl
abbrev y_ST_nextRemainder : MethodName := ⟨"NumberStreams$Stream", "nextRemainder", "()J"⟩
theorem co_ST_nextRemainder : Cond.code y_ST_nextRemainder prog_4_method_15_code 1 (some .long) ∈ tsW := ts_in (List.mem_append_left _ (List.mem_of_getElem? (i := 162) rfl)) rfl
abbrev y_ST_move : MethodName := ⟨"NumberStreams$Stream", "move", "()V"⟩
theorem co_ST_move : Cond.code y_ST_move prog_4_method_11_code 3 none ∈ tsW := ts_in (List.mem_append_left _ (List.mem_of_getElem? (i := 168) rfl)) rfl
abbrev y_ST_moveRotations : MethodName := ⟨"NumberStreams$Stream", "moveRotations", "()V"⟩
theorem co_ST_moveRotations : Cond.code y_ST_moveRotations prog_4_method_13_code 3 none ∈ tsW := ts_in (List.mem_append_left _ (List.mem_of_getElem? (i := 173) rfl)) rfl
abbrev y_NS_jump : MethodName := ⟨"NumberStreams", "jump", "(II)Z"⟩
theorem co_NS_jump : Cond.code y_NS_jump prog_1_method_6_code 5 (some .boolean) ∈ tsW := ts_in (List.mem_append_left _ (List.mem_of_getElem? (i := 178) rfl)) rfl
abbrev y_NS_draw : MethodName := ⟨"NumberStreams", "draw", "(II)I"⟩
theorem co_NS_draw : Cond.code y_NS_draw prog_1_method_7_code 4 (some .int) ∈ tsW := ts_in (List.mem_append_left _ (List.mem_of_getElem? (i := 184) rfl)) rfl
abbrev y_ST_drawnBelow : MethodName := ⟨"NumberStreams$Stream", "drawnBelow", "(I)I"⟩
theorem co_ST_drawnBelow : Cond.code y_ST_drawnBelow prog_4_method_10_code 7 (some .int) ∈ tsW := ts_in (List.mem_append_left _ (List.mem_of_getElem? (i := 188) rfl)) rfl
abbrev y_NS_same : MethodName := ⟨"NumberStreams", "same", "(II)Z"⟩
theorem co_NS_same : Cond.code y_NS_same prog_1_method_8_code 5 (some .boolean) ∈ tsW := ts_in (List.mem_append_left _ (List.mem_of_getElem? (i := 194) rfl)) rfl
abbrev y_NS_save : MethodName := ⟨"NumberStreams", "save", "(I)I"⟩
theorem co_NS_save : Cond.code y_NS_save prog_1_method_9_code 4 (some .int) ∈ tsW := ts_in (List.mem_append_left _ (List.mem_of_getElem? (i := 198) rfl)) rfl
abbrev y_SV_init : MethodName := ⟨"NumberStreams$Saved", "<init>", "(LNumberStreams$Stream;)V"⟩
theorem co_SV_init : Cond.code y_SV_init prog_3_method_1_code 2 none ∈ tsW := ts_in (List.mem_append_left _ (List.mem_of_getElem? (i := 202) rfl)) rfl
abbrev y_SV_append : MethodName := ⟨"NumberStreams$Saved", "append", "(I)V"⟩
theorem co_SV_append : Cond.code y_SV_append prog_3_method_2_code 2 none ∈ tsW := ts_in (List.mem_append_left _ (List.mem_of_getElem? (i := 208) rfl)) rfl
abbrev y_ST_isFirstLong : MethodName := ⟨"NumberStreams$Stream", "isFirstLong", "(I)Z"⟩
theorem co_ST_isFirstLong : Cond.code y_ST_isFirstLong prog_4_method_3_code 1 (some .boolean) ∈ tsW := ts_in (List.mem_append_left _ (List.mem_of_getElem? (i := 211) rfl)) rfl
abbrev y_SV_appendPart : MethodName := ⟨"NumberStreams$Saved", "appendPart", "(JZ)V"⟩
theorem co_SV_appendPart : Cond.code y_SV_appendPart prog_3_method_3_code 4 none ∈ tsW := ts_in (List.mem_append_left _ (List.mem_of_getElem? (i := 215) rfl)) rfl
abbrev y_ST_isSecondLong : MethodName := ⟨"NumberStreams$Stream", "isSecondLong", "(I)Z"⟩
theorem co_ST_isSecondLong : Cond.code y_ST_isSecondLong prog_4_method_4_code 1 (some .boolean) ∈ tsW := ts_in (List.mem_append_left _ (List.mem_of_getElem? (i := 218) rfl)) rfl
abbrev y_SV_checkOfFirst : MethodName := ⟨"NumberStreams$Saved", "checkOfFirst", "(I)I"⟩
theorem co_SV_checkOfFirst : Cond.code y_SV_checkOfFirst prog_3_method_4_code 4 (some .int) ∈ tsW := ts_in (List.mem_append_left _ (List.mem_of_getElem? (i := 222) rfl)) rfl
abbrev y_NS_length : MethodName := ⟨"NumberStreams", "length", "(I)I"⟩
theorem co_NS_length : Cond.code y_NS_length prog_1_method_10_code 3 (some .int) ∈ tsW := ts_in (List.mem_append_left _ (List.mem_of_getElem? (i := 235) rfl)) rfl
abbrev y_NS_recordAt : MethodName := ⟨"NumberStreams", "recordAt", "(I)LNumberStreams$Saved;"⟩
theorem co_NS_recordAt : Cond.code y_NS_recordAt prog_1_method_24_code 2 (some (.object "NumberStreams$Saved")) ∈ tsW := ts_in (List.mem_append_left _ (List.mem_of_getElem? (i := 239) rfl)) rfl
abbrev y_NS_word : MethodName := ⟨"NumberStreams", "word", "(II)I"⟩
theorem co_NS_word : Cond.code y_NS_word prog_1_method_11_code 4 (some .int) ∈ tsW := ts_in (List.mem_append_right _ (List.mem_append_left _ (List.mem_of_getElem? (i := 3) rfl))) rfl
abbrev y_SV_hasWord : MethodName := ⟨"NumberStreams$Saved", "hasWord", "(I)Z"⟩
theorem co_SV_hasWord : Cond.code y_SV_hasWord prog_3_method_5_code 2 (some .boolean) ∈ tsW := ts_in (List.mem_append_right _ (List.mem_append_left _ (List.mem_of_getElem? (i := 7) rfl))) rfl
abbrev y_NS_spoil : MethodName := ⟨"NumberStreams", "spoil", "(III)Z"⟩
theorem co_NS_spoil : Cond.code y_NS_spoil prog_1_method_12_code 5 (some .boolean) ∈ tsW := ts_in (List.mem_append_right _ (List.mem_append_left _ (List.mem_of_getElem? (i := 11) rfl))) rfl
abbrev y_NS_cut : MethodName := ⟨"NumberStreams", "cut", "(I)Z"⟩
theorem co_NS_cut : Cond.code y_NS_cut prog_1_method_13_code 3 (some .boolean) ∈ tsW := ts_in (List.mem_append_right _ (List.mem_append_left _ (List.mem_of_getElem? (i := 15) rfl))) rfl
abbrev y_NS_restore : MethodName := ⟨"NumberStreams", "restore", "(I)I"⟩
theorem co_NS_restore : Cond.code y_NS_restore prog_1_method_14_code 5 (some .int) ∈ tsW := ts_in (List.mem_append_right _ (List.mem_append_left _ (List.mem_of_getElem? (i := 19) rfl))) rfl
abbrev y_SV_fault : MethodName := ⟨"NumberStreams$Saved", "fault", "()I"⟩
theorem co_SV_fault : Cond.code y_SV_fault prog_3_method_6_code 1 (some .int) ∈ tsW := ts_in (List.mem_append_right _ (List.mem_append_left _ (List.mem_of_getElem? (i := 23) rfl))) rfl
abbrev y_SV_kind : MethodName := ⟨"NumberStreams$Saved", "kind", "()I"⟩
theorem co_SV_kind : Cond.code y_SV_kind prog_3_method_9_code 1 (some .int) ∈ tsW := ts_in (List.mem_append_right _ (List.mem_append_left _ (List.mem_of_getElem? (i := 27) rfl))) rfl
abbrev y_SV_wordsOfKind : MethodName := ⟨"NumberStreams$Saved", "wordsOfKind", "(I)I"⟩
theorem co_SV_wordsOfKind : Cond.code y_SV_wordsOfKind prog_3_method_7_code 1 (some .int) ∈ tsW := ts_in (List.mem_append_right _ (List.mem_append_left _ (List.mem_of_getElem? (i := 31) rfl))) rfl
abbrev y_SV_wordsOfPart : MethodName := ⟨"NumberStreams$Saved", "wordsOfPart", "(Z)I"⟩
theorem co_SV_wordsOfPart : Cond.code y_SV_wordsOfPart prog_3_method_8_code 1 (some .int) ∈ tsW := ts_in (List.mem_append_right _ (List.mem_append_left _ (List.mem_of_getElem? (i := 34) rfl))) rfl
abbrev y_SV_first : MethodName := ⟨"NumberStreams$Saved", "first", "()J"⟩
theorem co_SV_first : Cond.code y_SV_first prog_3_method_10_code 1 (some .long) ∈ tsW := ts_in (List.mem_append_right _ (List.mem_append_left _ (List.mem_of_getElem? (i := 38) rfl))) rfl
abbrev y_SV_partAt : MethodName := ⟨"NumberStreams$Saved", "partAt", "(IZ)J"⟩
theorem co_SV_partAt : Cond.code y_SV_partAt prog_3_method_12_code 3 (some .long) ∈ tsW := ts_in (List.mem_append_right _ (List.mem_append_left _ (List.mem_of_getElem? (i := 42) rfl))) rfl
abbrev y_SV_second : MethodName := ⟨"NumberStreams$Saved", "second", "()J"⟩
theorem co_SV_second : Cond.code y_SV_second prog_3_method_11_code 2 (some .long) ∈ tsW := ts_in (List.mem_append_right _ (List.mem_append_left _ (List.mem_of_getElem? (i := 47) rfl))) rfl
abbrev y_NS_seek : MethodName := ⟨"NumberStreams", "seek", "(I)Z"⟩
theorem co_NS_seek : Cond.code y_NS_seek prog_1_method_15_code 2 (some .boolean) ∈ tsW := ts_in (List.mem_append_right _ (List.mem_append_left _ (List.mem_of_getElem? (i := 55) rfl))) rfl
abbrev y_NS_advance : MethodName := ⟨"NumberStreams", "advance", "()I"⟩
theorem co_NS_advance : Cond.code y_NS_advance prog_1_method_16_code 1 (some .int) ∈ tsW := ts_in (List.mem_append_right _ (List.mem_append_left _ (List.mem_of_getElem? (i := 60) rfl))) rfl
abbrev y_NS_coordinate : MethodName := ⟨"NumberStreams", "coordinate", "(I)J"⟩
theorem co_NS_coordinate : Cond.code y_NS_coordinate prog_1_method_17_code 2 (some .long) ∈ tsW := ts_in (List.mem_append_right _ (List.mem_append_left _ (List.mem_of_getElem? (i := 64) rfl))) rfl
abbrev y_PT_joinedDirections : MethodName := ⟨"NumberStreams$Points", "joinedDirections", "(I)I"⟩
theorem co_PT_joinedDirections : Cond.code y_PT_joinedDirections prog_2_method_5_code 5 (some .int) ∈ tsW := ts_in (List.mem_append_right _ (List.mem_append_left _ (List.mem_of_getElem? (i := 68) rfl))) rfl
abbrev y_PT_turnedDigits : MethodName := ⟨"NumberStreams$Points", "turnedDigits", "(II)I"⟩
theorem co_PT_turnedDigits : Cond.code y_PT_turnedDigits prog_2_method_6_code 6 (some .int) ∈ tsW := ts_in (List.mem_append_right _ (List.mem_append_left _ (List.mem_of_getElem? (i := 72) rfl))) rfl
abbrev y_NS_weigh : MethodName := ⟨"NumberStreams", "weigh", "(II)Z"⟩
theorem co_NS_weigh : Cond.code y_NS_weigh prog_1_method_18_code 3 (some .boolean) ∈ tsW := ts_in (List.mem_append_right _ (List.mem_append_left _ (List.mem_of_getElem? (i := 76) rfl))) rfl
abbrev y_NS_pick : MethodName := ⟨"NumberStreams", "pick", "(I)I"⟩
theorem co_NS_pick : Cond.code y_NS_pick prog_1_method_19_code 4 (some .int) ∈ tsW := ts_in (List.mem_append_right _ (List.mem_append_left _ (List.mem_of_getElem? (i := 81) rfl))) rfl
abbrev y_NS_totalWeight : MethodName := ⟨"NumberStreams", "totalWeight", "()I"⟩
theorem co_NS_totalWeight : Cond.code y_NS_totalWeight prog_1_method_25_code 3 (some .int) ∈ tsW := ts_in (List.mem_append_right _ (List.mem_append_left _ (List.mem_of_getElem? (i := 85) rfl))) rfl
abbrev y_NS_outcomeAt : MethodName := ⟨"NumberStreams", "outcomeAt", "(I)I"⟩
theorem co_NS_outcomeAt : Cond.code y_NS_outcomeAt prog_1_method_26_code 4 (some .int) ∈ tsW := ts_in (List.mem_append_right _ (List.mem_append_left _ (List.mem_of_getElem? (i := 89) rfl))) rfl
abbrev y_NS_shuffle : MethodName := ⟨"NumberStreams", "shuffle", "(I)Z"⟩
theorem co_NS_shuffle : Cond.code y_NS_shuffle prog_1_method_20_code 6 (some .boolean) ∈ tsW := ts_in (List.mem_append_right _ (List.mem_append_left _ (List.mem_of_getElem? (i := 93) rfl))) rfl
abbrev y_NS_card : MethodName := ⟨"NumberStreams", "card", "(I)I"⟩
theorem co_NS_card : Cond.code y_NS_card prog_1_method_21_code 2 (some .int) ∈ tsW := ts_in (List.mem_append_right _ (List.mem_append_left _ (List.mem_of_getElem? (i := 97) rfl))) rfl
abbrev y_MD_init : MethodName := ⟨"NumberStreamsModel", "<init>", "()V"⟩
theorem co_MD_init : Cond.code y_MD_init prog_6_method_1_code 2 none ∈ tsW := ts_in (List.mem_append_right _ (List.mem_append_left _ (List.mem_of_getElem? (i := 102) rfl))) rfl
abbrev y_MD_make : MethodName := ⟨"NumberStreamsModel", "make", "(III)I"⟩
theorem co_MD_make : Cond.code y_MD_make prog_6_method_12_code 5 (some .int) ∈ tsW := ts_in (List.mem_append_right _ (List.mem_append_left _ (List.mem_of_getElem? (i := 157) rfl))) rfl
abbrev y_MD_freeSlot : MethodName := ⟨"NumberStreamsModel", "freeSlot", "()I"⟩
theorem co_MD_freeSlot : Cond.code y_MD_freeSlot prog_6_method_8_code 2 (some .int) ∈ tsW := ts_in (List.mem_append_right _ (List.mem_append_left _ (List.mem_of_getElem? (i := 161) rfl))) rfl
abbrev y_MD_number : MethodName := ⟨"NumberStreamsModel", "number", "(I)J"⟩
theorem co_MD_number : Cond.code y_MD_number prog_6_method_2_code 3 (some .long) ∈ tsW := ts_in (List.mem_append_right _ (List.mem_append_left _ (List.mem_of_getElem? (i := 164) rfl))) rfl
abbrev y_MD_sound : MethodName := ⟨"NumberStreamsModel", "sound", "()Z"⟩
theorem co_MD_sound : Cond.code y_MD_sound prog_6_method_10_code 2 (some .boolean) ∈ tsW := ts_in (List.mem_append_right _ (List.mem_append_left _ (List.mem_of_getElem? (i := 170) rfl))) rfl
abbrev y_MD_residue : MethodName := ⟨"NumberStreamsModel", "residue", "(J)Z"⟩
theorem co_MD_residue : Cond.code y_MD_residue prog_6_method_9_code 2 (some .boolean) ∈ tsW := ts_in (List.mem_append_right _ (List.mem_append_left _ (List.mem_of_getElem? (i := 173) rfl))) rfl
abbrev y_MD_settle : MethodName := ⟨"NumberStreamsModel", "settle", "(I)I"⟩
theorem co_MD_settle : Cond.code y_MD_settle prog_6_method_11_code 2 (some .int) ∈ tsW := ts_in (List.mem_append_right _ (List.mem_append_left _ (List.mem_of_getElem? (i := 178) rfl))) rfl
abbrev y_MD_twin : MethodName := ⟨"NumberStreamsModel", "twin", "(I)I"⟩
theorem co_MD_twin : Cond.code y_MD_twin prog_6_method_13_code 3 (some .int) ∈ tsW := ts_in (List.mem_append_right _ (List.mem_append_left _ (List.mem_of_getElem? (i := 182) rfl))) rfl
abbrev y_MD_holds : MethodName := ⟨"NumberStreamsModel", "holds", "(I)Z"⟩
theorem co_MD_holds : Cond.code y_MD_holds prog_6_method_7_code 2 (some .boolean) ∈ tsW := ts_in (List.mem_append_right _ (List.mem_append_left _ (List.mem_of_getElem? (i := 186) rfl))) rfl
abbrev y_MD_release : MethodName := ⟨"NumberStreamsModel", "release", "(I)Z"⟩
theorem co_MD_release : Cond.code y_MD_release prog_6_method_14_code 2 (some .boolean) ∈ tsW := ts_in (List.mem_append_right _ (List.mem_append_left _ (List.mem_of_getElem? (i := 190) rfl))) rfl
abbrev y_MD_next : MethodName := ⟨"NumberStreamsModel", "next", "(I)J"⟩
theorem co_MD_next : Cond.code y_MD_next prog_6_method_15_code 2 (some .long) ∈ tsW := ts_in (List.mem_append_right _ (List.mem_append_left _ (List.mem_of_getElem? (i := 194) rfl))) rfl
abbrev y_MD_step : MethodName := ⟨"NumberStreamsModel", "step", "(I)V"⟩
theorem co_MD_step : Cond.code y_MD_step prog_6_method_5_code 8 none ∈ tsW := ts_in (List.mem_append_right _ (List.mem_append_left _ (List.mem_of_getElem? (i := 199) rfl))) rfl
abbrev y_MD_rotl : MethodName := ⟨"NumberStreamsModel", "rotl", "(II)I"⟩
theorem co_MD_rotl : Cond.code y_MD_rotl prog_6_method_3_code 4 (some .int) ∈ tsW := ts_in (List.mem_append_right _ (List.mem_append_left _ (List.mem_of_getElem? (i := 202) rfl))) rfl
abbrev y_MD_rounds : MethodName := ⟨"NumberStreamsModel", "rounds", "(IJ)V"⟩
theorem co_MD_rounds : Cond.code y_MD_rounds prog_6_method_6_code 8 none ∈ tsW := ts_in (List.mem_append_right _ (List.mem_append_left _ (List.mem_of_getElem? (i := 208) rfl))) rfl
abbrev y_MD_multiply : MethodName := ⟨"NumberStreamsModel", "multiply", "(JJ)V"⟩
theorem co_MD_multiply : Cond.code y_MD_multiply prog_6_method_4_code 19 none ∈ tsW := ts_in (List.mem_append_right _ (List.mem_append_left _ (List.mem_of_getElem? (i := 213) rfl))) rfl
abbrev y_MD_jump : MethodName := ⟨"NumberStreamsModel", "jump", "(II)Z"⟩
theorem co_MD_jump : Cond.code y_MD_jump prog_6_method_16_code 4 (some .boolean) ∈ tsW := ts_in (List.mem_append_right _ (List.mem_append_left _ (List.mem_of_getElem? (i := 223) rfl))) rfl
abbrev y_MD_draw : MethodName := ⟨"NumberStreamsModel", "draw", "(II)I"⟩
theorem co_MD_draw : Cond.code y_MD_draw prog_6_method_18_code 3 (some .int) ∈ tsW := ts_in (List.mem_append_right _ (List.mem_append_left _ (List.mem_of_getElem? (i := 228) rfl))) rfl
abbrev y_MD_below : MethodName := ⟨"NumberStreamsModel", "below", "(II)I"⟩
theorem co_MD_below : Cond.code y_MD_below prog_6_method_17_code 6 (some .int) ∈ tsW := ts_in (List.mem_append_right _ (List.mem_append_left _ (List.mem_of_getElem? (i := 232) rfl))) rfl
abbrev y_MD_same : MethodName := ⟨"NumberStreamsModel", "same", "(II)Z"⟩
theorem co_MD_same : Cond.code y_MD_same prog_6_method_19_code 3 (some .boolean) ∈ tsW := ts_in (List.mem_append_right _ (List.mem_append_left _ (List.mem_of_getElem? (i := 236) rfl))) rfl
abbrev y_MD_save : MethodName := ⟨"NumberStreamsModel", "save", "(I)I"⟩
theorem co_MD_save : Cond.code y_MD_save prog_6_method_23_code 3 (some .int) ∈ tsW := ts_in (List.mem_append_right _ (List.mem_append_right _ (List.mem_of_getElem? (i := 0) rfl))) rfl
abbrev y_MD_append : MethodName := ⟨"NumberStreamsModel", "append", "(I)V"⟩
theorem co_MD_append : Cond.code y_MD_append prog_6_method_20_code 2 none ∈ tsW := ts_in (List.mem_append_right _ (List.mem_append_right _ (List.mem_of_getElem? (i := 5) rfl))) rfl
abbrev y_MD_appendLong : MethodName := ⟨"NumberStreamsModel", "appendLong", "(J)V"⟩
theorem co_MD_appendLong : Cond.code y_MD_appendLong prog_6_method_21_code 3 none ∈ tsW := ts_in (List.mem_append_right _ (List.mem_append_right _ (List.mem_of_getElem? (i := 9) rfl))) rfl
abbrev y_MD_check : MethodName := ⟨"NumberStreamsModel", "check", "(II)I"⟩
theorem co_MD_check : Cond.code y_MD_check prog_6_method_22_code 5 (some .int) ∈ tsW := ts_in (List.mem_append_right _ (List.mem_append_right _ (List.mem_of_getElem? (i := 13) rfl))) rfl
abbrev y_MD_length : MethodName := ⟨"NumberStreamsModel", "length", "(I)I"⟩
theorem co_MD_length : Cond.code y_MD_length prog_6_method_25_code 2 (some .int) ∈ tsW := ts_in (List.mem_append_right _ (List.mem_append_right _ (List.mem_of_getElem? (i := 17) rfl))) rfl
abbrev y_MD_word : MethodName := ⟨"NumberStreamsModel", "word", "(II)I"⟩
theorem co_MD_word : Cond.code y_MD_word prog_6_method_26_code 3 (some .int) ∈ tsW := ts_in (List.mem_append_right _ (List.mem_append_right _ (List.mem_of_getElem? (i := 21) rfl))) rfl
abbrev y_MD_isWord : MethodName := ⟨"NumberStreamsModel", "isWord", "(II)Z"⟩
theorem co_MD_isWord : Cond.code y_MD_isWord prog_6_method_24_code 3 (some .boolean) ∈ tsW := ts_in (List.mem_append_right _ (List.mem_append_right _ (List.mem_of_getElem? (i := 25) rfl))) rfl
abbrev y_MD_spoil : MethodName := ⟨"NumberStreamsModel", "spoil", "(III)Z"⟩
theorem co_MD_spoil : Cond.code y_MD_spoil prog_6_method_27_code 4 (some .boolean) ∈ tsW := ts_in (List.mem_append_right _ (List.mem_append_right _ (List.mem_of_getElem? (i := 29) rfl))) rfl
abbrev y_MD_cut : MethodName := ⟨"NumberStreamsModel", "cut", "(I)Z"⟩
theorem co_MD_cut : Cond.code y_MD_cut prog_6_method_28_code 2 (some .boolean) ∈ tsW := ts_in (List.mem_append_right _ (List.mem_append_right _ (List.mem_of_getElem? (i := 33) rfl))) rfl
abbrev y_MD_restore : MethodName := ⟨"NumberStreamsModel", "restore", "(I)I"⟩
theorem co_MD_restore : Cond.code y_MD_restore prog_6_method_30_code 6 (some .int) ∈ tsW := ts_in (List.mem_append_right _ (List.mem_append_right _ (List.mem_of_getElem? (i := 37) rfl))) rfl
abbrev y_MD_twoWords : MethodName := ⟨"NumberStreamsModel", "twoWords", "(I)J"⟩
theorem co_MD_twoWords : Cond.code y_MD_twoWords prog_6_method_29_code 2 (some .long) ∈ tsW := ts_in (List.mem_append_right _ (List.mem_append_right _ (List.mem_of_getElem? (i := 41) rfl))) rfl
abbrev y_MD_seek : MethodName := ⟨"NumberStreamsModel", "seek", "(I)Z"⟩
theorem co_MD_seek : Cond.code y_MD_seek prog_6_method_31_code 2 (some .boolean) ∈ tsW := ts_in (List.mem_append_right _ (List.mem_append_right _ (List.mem_of_getElem? (i := 45) rfl))) rfl
abbrev y_MD_advance : MethodName := ⟨"NumberStreamsModel", "advance", "()I"⟩
theorem co_MD_advance : Cond.code y_MD_advance prog_6_method_32_code 1 (some .int) ∈ tsW := ts_in (List.mem_append_right _ (List.mem_append_right _ (List.mem_of_getElem? (i := 50) rfl))) rfl
abbrev y_MD_coordinate : MethodName := ⟨"NumberStreamsModel", "coordinate", "(I)J"⟩
theorem co_MD_coordinate : Cond.code y_MD_coordinate prog_6_method_35_code 5 (some .long) ∈ tsW := ts_in (List.mem_append_right _ (List.mem_append_right _ (List.mem_of_getElem? (i := 54) rfl))) rfl
abbrev y_MD_turned : MethodName := ⟨"NumberStreamsModel", "turned", "(II)J"⟩
theorem co_MD_turned : Cond.code y_MD_turned prog_6_method_34_code 7 (some .long) ∈ tsW := ts_in (List.mem_append_right _ (List.mem_append_right _ (List.mem_of_getElem? (i := 58) rfl))) rfl
abbrev y_MD_inner : MethodName := ⟨"NumberStreamsModel", "inner", "(I)V"⟩
theorem co_MD_inner : Cond.code y_MD_inner prog_6_method_33_code 6 none ∈ tsW := ts_in (List.mem_append_right _ (List.mem_append_right _ (List.mem_of_getElem? (i := 62) rfl))) rfl
abbrev y_MD_weigh : MethodName := ⟨"NumberStreamsModel", "weigh", "(II)Z"⟩
theorem co_MD_weigh : Cond.code y_MD_weigh prog_6_method_36_code 3 (some .boolean) ∈ tsW := ts_in (List.mem_append_right _ (List.mem_append_right _ (List.mem_of_getElem? (i := 66) rfl))) rfl
abbrev y_MD_pick : MethodName := ⟨"NumberStreamsModel", "pick", "(I)I"⟩
theorem co_MD_pick : Cond.code y_MD_pick prog_6_method_37_code 5 (some .int) ∈ tsW := ts_in (List.mem_append_right _ (List.mem_append_right _ (List.mem_of_getElem? (i := 71) rfl))) rfl
abbrev y_MD_shuffle : MethodName := ⟨"NumberStreamsModel", "shuffle", "(I)Z"⟩
theorem co_MD_shuffle : Cond.code y_MD_shuffle prog_6_method_38_code 5 (some .boolean) ∈ tsW := ts_in (List.mem_append_right _ (List.mem_append_right _ (List.mem_of_getElem? (i := 75) rfl))) rfl
abbrev y_MD_card : MethodName := ⟨"NumberStreamsModel", "card", "(I)I"⟩
theorem co_MD_card : Cond.code y_MD_card prog_6_method_39_code 2 (some .int) ∈ tsW := ts_in (List.mem_append_right _ (List.mem_append_right _ (List.mem_of_getElem? (i := 79) rfl))) rfl
theorem in_LW : (Jvm.Cond.initialized "NumberStreamsLaw") ∈ tsW := ts_in (List.mem_append_left _ (List.mem_of_getElem? (i := 0) rfl)) rfl
theorem in_NS : (Jvm.Cond.initialized "NumberStreams") ∈ tsW := ts_in (List.mem_append_left _ (List.mem_of_getElem? (i := 1) rfl)) rfl
theorem in_PT : (Jvm.Cond.initialized "NumberStreams$Points") ∈ tsW := ts_in (List.mem_append_left _ (List.mem_of_getElem? (i := 2) rfl)) rfl
theorem in_MD : (Jvm.Cond.initialized "NumberStreamsModel") ∈ tsW := ts_in (List.mem_append_left _ (List.mem_of_getElem? (i := 3) rfl)) rfl
theorem in_ST : (Jvm.Cond.initialized "NumberStreams$Stream") ∈ tsW := ts_in (List.mem_append_left _ (List.mem_of_getElem? (i := 4) rfl)) rfl
theorem in_JI : (Jvm.Cond.initialized "java/lang/Integer") ∈ tsW := ts_in (List.mem_append_left _ (List.mem_of_getElem? (i := 5) rfl)) rfl
theorem in_SV : (Jvm.Cond.initialized "NumberStreams$Saved") ∈ tsW := ts_in (List.mem_append_left _ (List.mem_of_getElem? (i := 6) rfl)) rfl
theorem sa_ST_isKind : (Jvm.Cond.static ({ cls := "NumberStreams$Stream", name := "isKind", desc := "(I)Z" } : Jvm.MethodName)) ∈ tsW := ts_in (List.mem_append_left _ (List.mem_of_getElem? (i := 76) rfl)) rfl
theorem sa_ST_firstOfSeed : (Jvm.Cond.static ({ cls := "NumberStreams$Stream", name := "firstOfSeed", desc := "(III)J" } : Jvm.MethodName)) ∈ tsW := ts_in (List.mem_append_left _ (List.mem_of_getElem? (i := 79) rfl)) rfl
theorem sa_NS_joined : (Jvm.Cond.static ({ cls := "NumberStreams", name := "joined", desc := "(II)J" } : Jvm.MethodName)) ∈ tsW := ts_in (List.mem_append_left _ (List.mem_of_getElem? (i := 82) rfl)) rfl
theorem sa_NS_asNumber : (Jvm.Cond.static ({ cls := "NumberStreams", name := "asNumber", desc := "(I)J" } : Jvm.MethodName)) ∈ tsW := ts_in (List.mem_append_left _ (List.mem_of_getElem? (i := 85) rfl)) rfl
theorem sa_ST_secondOfSeed : (Jvm.Cond.static ({ cls := "NumberStreams$Stream", name := "secondOfSeed", desc := "(III)J" } : Jvm.MethodName)) ∈ tsW := ts_in (List.mem_append_left _ (List.mem_of_getElem? (i := 89) rfl)) rfl
theorem sa_ST_isState : (Jvm.Cond.static ({ cls := "NumberStreams$Stream", name := "isState", desc := "(IJJ)Z" } : Jvm.MethodName)) ∈ tsW := ts_in (List.mem_append_left _ (List.mem_of_getElem? (i := 94) rfl)) rfl
theorem sa_ST_isRemainder : (Jvm.Cond.static ({ cls := "NumberStreams$Stream", name := "isRemainder", desc := "(J)Z" } : Jvm.MethodName)) ∈ tsW := ts_in (List.mem_append_left _ (List.mem_of_getElem? (i := 97) rfl)) rfl
theorem sa_JI_rotateRight : (Jvm.Cond.static ({ cls := "java/lang/Integer", name := "rotateRight", desc := "(II)I" } : Jvm.MethodName)) ∈ tsW := ts_in (List.mem_append_left _ (List.mem_of_getElem? (i := 147) rfl)) rfl
theorem sa_JI_rotateLeft : (Jvm.Cond.static ({ cls := "java/lang/Integer", name := "rotateLeft", desc := "(II)I" } : Jvm.MethodName)) ∈ tsW := ts_in (List.mem_append_left _ (List.mem_of_getElem? (i := 151) rfl)) rfl
theorem sa_ST_isFirstLong : (Jvm.Cond.static ({ cls := "NumberStreams$Stream", name := "isFirstLong", desc := "(I)Z" } : Jvm.MethodName)) ∈ tsW := ts_in (List.mem_append_left _ (List.mem_of_getElem? (i := 210) rfl)) rfl
theorem sa_ST_isSecondLong : (Jvm.Cond.static ({ cls := "NumberStreams$Stream", name := "isSecondLong", desc := "(I)Z" } : Jvm.MethodName)) ∈ tsW := ts_in (List.mem_append_left _ (List.mem_of_getElem? (i := 217) rfl)) rfl
theorem sa_SV_wordsOfKind : (Jvm.Cond.static ({ cls := "NumberStreams$Saved", name := "wordsOfKind", desc := "(I)I" } : Jvm.MethodName)) ∈ tsW := ts_in (List.mem_append_right _ (List.mem_append_left _ (List.mem_of_getElem? (i := 30) rfl))) rfl
theorem sa_SV_wordsOfPart : (Jvm.Cond.static ({ cls := "NumberStreams$Saved", name := "wordsOfPart", desc := "(Z)I" } : Jvm.MethodName)) ∈ tsW := ts_in (List.mem_append_right _ (List.mem_append_left _ (List.mem_of_getElem? (i := 33) rfl))) rfl
theorem sa_MD_number : (Jvm.Cond.static ({ cls := "NumberStreamsModel", name := "number", desc := "(I)J" } : Jvm.MethodName)) ∈ tsW := ts_in (List.mem_append_right _ (List.mem_append_left _ (List.mem_of_getElem? (i := 163) rfl))) rfl
theorem sa_MD_residue : (Jvm.Cond.static ({ cls := "NumberStreamsModel", name := "residue", desc := "(J)Z" } : Jvm.MethodName)) ∈ tsW := ts_in (List.mem_append_right _ (List.mem_append_left _ (List.mem_of_getElem? (i := 172) rfl))) rfl
theorem sa_MD_rotl : (Jvm.Cond.static ({ cls := "NumberStreamsModel", name := "rotl", desc := "(II)I" } : Jvm.MethodName)) ∈ tsW := ts_in (List.mem_append_right _ (List.mem_append_left _ (List.mem_of_getElem? (i := 201) rfl))) rfl
theorem im_NS_init : (Jvm.Cond.instanceMethod ({ cls := "NumberStreams", name := "<init>", desc := "()V" } : Jvm.MethodName)) ∈ tsW := ts_in (List.mem_append_left _ (List.mem_of_getElem? (i := 10) rfl)) rfl
theorem im_OB_init : (Jvm.Cond.instanceMethod ({ cls := "java/lang/Object", name := "<init>", desc := "()V" } : Jvm.MethodName)) ∈ tsW := ts_in (List.mem_append_left _ (List.mem_of_getElem? (i := 13) rfl)) rfl
theorem im_PT_init : (Jvm.Cond.instanceMethod ({ cls := "NumberStreams$Points", name := "<init>", desc := "()V" } : Jvm.MethodName)) ∈ tsW := ts_in (List.mem_append_left _ (List.mem_of_getElem? (i := 22) rfl)) rfl
theorem im_PT_startRow : (Jvm.Cond.instanceMethod ({ cls := "NumberStreams$Points", name := "startRow", desc := "(IIII)V" } : Jvm.MethodName)) ∈ tsW := ts_in (List.mem_append_left _ (List.mem_of_getElem? (i := 29) rfl)) rfl
theorem im_PT_growRow : (Jvm.Cond.instanceMethod ({ cls := "NumberStreams$Points", name := "growRow", desc := "(III)V" } : Jvm.MethodName)) ∈ tsW := ts_in (List.mem_append_left _ (List.mem_of_getElem? (i := 33) rfl)) rfl
theorem im_PT_alignRow : (Jvm.Cond.instanceMethod ({ cls := "NumberStreams$Points", name := "alignRow", desc := "(I)V" } : Jvm.MethodName)) ∈ tsW := ts_in (List.mem_append_left _ (List.mem_of_getElem? (i := 37) rfl)) rfl
theorem im_NS_make : (Jvm.Cond.instanceMethod ({ cls := "NumberStreams", name := "make", desc := "(III)I" } : Jvm.MethodName)) ∈ tsW := ts_in (List.mem_append_left _ (List.mem_of_getElem? (i := 68) rfl)) rfl
theorem im_NS_leastFreeSlot : (Jvm.Cond.instanceMethod ({ cls := "NumberStreams", name := "leastFreeSlot", desc := "()I" } : Jvm.MethodName)) ∈ tsW := ts_in (List.mem_append_left _ (List.mem_of_getElem? (i := 73) rfl)) rfl
theorem im_ST_init : (Jvm.Cond.instanceMethod ({ cls := "NumberStreams$Stream", name := "<init>", desc := "(IJJ)V" } : Jvm.MethodName)) ∈ tsW := ts_in (List.mem_append_left _ (List.mem_of_getElem? (i := 102) rfl)) rfl
theorem im_NS_twin : (Jvm.Cond.instanceMethod ({ cls := "NumberStreams", name := "twin", desc := "(I)I" } : Jvm.MethodName)) ∈ tsW := ts_in (List.mem_append_left _ (List.mem_of_getElem? (i := 122) rfl)) rfl
theorem im_NS_streamAt : (Jvm.Cond.instanceMethod ({ cls := "NumberStreams", name := "streamAt", desc := "(I)LNumberStreams$Stream;" } : Jvm.MethodName)) ∈ tsW := ts_in (List.mem_append_left _ (List.mem_of_getElem? (i := 127) rfl)) rfl
theorem im_NS_release : (Jvm.Cond.instanceMethod ({ cls := "NumberStreams", name := "release", desc := "(I)Z" } : Jvm.MethodName)) ∈ tsW := ts_in (List.mem_append_left _ (List.mem_of_getElem? (i := 130) rfl)) rfl
theorem im_NS_next : (Jvm.Cond.instanceMethod ({ cls := "NumberStreams", name := "next", desc := "(I)J" } : Jvm.MethodName)) ∈ tsW := ts_in (List.mem_append_left _ (List.mem_of_getElem? (i := 134) rfl)) rfl
theorem im_ST_step : (Jvm.Cond.instanceMethod ({ cls := "NumberStreams$Stream", name := "step", desc := "()I" } : Jvm.MethodName)) ∈ tsW := ts_in (List.mem_append_left _ (List.mem_of_getElem? (i := 139) rfl)) rfl
theorem im_ST_output : (Jvm.Cond.instanceMethod ({ cls := "NumberStreams$Stream", name := "output", desc := "()I" } : Jvm.MethodName)) ∈ tsW := ts_in (List.mem_append_left _ (List.mem_of_getElem? (i := 144) rfl)) rfl
theorem im_ST_mixedCounter : (Jvm.Cond.instanceMethod ({ cls := "NumberStreams$Stream", name := "mixedCounter", desc := "()I" } : Jvm.MethodName)) ∈ tsW := ts_in (List.mem_append_left _ (List.mem_of_getElem? (i := 155) rfl)) rfl
theorem im_ST_nextRemainder : (Jvm.Cond.instanceMethod ({ cls := "NumberStreams$Stream", name := "nextRemainder", desc := "()J" } : Jvm.MethodName)) ∈ tsW := ts_in (List.mem_append_left _ (List.mem_of_getElem? (i := 161) rfl)) rfl
theorem im_ST_move : (Jvm.Cond.instanceMethod ({ cls := "NumberStreams$Stream", name := "move", desc := "()V" } : Jvm.MethodName)) ∈ tsW := ts_in (List.mem_append_left _ (List.mem_of_getElem? (i := 166) rfl)) rfl
theorem im_ST_moveRotations : (Jvm.Cond.instanceMethod ({ cls := "NumberStreams$Stream", name := "moveRotations", desc := "()V" } : Jvm.MethodName)) ∈ tsW := ts_in (List.mem_append_left _ (List.mem_of_getElem? (i := 172) rfl)) rfl
theorem im_NS_jump : (Jvm.Cond.instanceMethod ({ cls := "NumberStreams", name := "jump", desc := "(II)Z" } : Jvm.MethodName)) ∈ tsW := ts_in (List.mem_append_left _ (List.mem_of_getElem? (i := 176) rfl)) rfl
theorem im_NS_draw : (Jvm.Cond.instanceMethod ({ cls := "NumberStreams", name := "draw", desc := "(II)I" } : Jvm.MethodName)) ∈ tsW := ts_in (List.mem_append_left _ (List.mem_of_getElem? (i := 182) rfl)) rfl
theorem im_ST_drawnBelow : (Jvm.Cond.instanceMethod ({ cls := "NumberStreams$Stream", name := "drawnBelow", desc := "(I)I" } : Jvm.MethodName)) ∈ tsW := ts_in (List.mem_append_left _ (List.mem_of_getElem? (i := 186) rfl)) rfl
theorem im_NS_same : (Jvm.Cond.instanceMethod ({ cls := "NumberStreams", name := "same", desc := "(II)Z" } : Jvm.MethodName)) ∈ tsW := ts_in (List.mem_append_left _ (List.mem_of_getElem? (i := 192) rfl)) rfl
theorem im_NS_save : (Jvm.Cond.instanceMethod ({ cls := "NumberStreams", name := "save", desc := "(I)I" } : Jvm.MethodName)) ∈ tsW := ts_in (List.mem_append_left _ (List.mem_of_getElem? (i := 196) rfl)) rfl
theorem im_SV_init : (Jvm.Cond.instanceMethod ({ cls := "NumberStreams$Saved", name := "<init>", desc := "(LNumberStreams$Stream;)V" } : Jvm.MethodName)) ∈ tsW := ts_in (List.mem_append_left _ (List.mem_of_getElem? (i := 201) rfl)) rfl
theorem im_SV_append : (Jvm.Cond.instanceMethod ({ cls := "NumberStreams$Saved", name := "append", desc := "(I)V" } : Jvm.MethodName)) ∈ tsW := ts_in (List.mem_append_left _ (List.mem_of_getElem? (i := 207) rfl)) rfl
theorem im_SV_appendPart : (Jvm.Cond.instanceMethod ({ cls := "NumberStreams$Saved", name := "appendPart", desc := "(JZ)V" } : Jvm.MethodName)) ∈ tsW := ts_in (List.mem_append_left _ (List.mem_of_getElem? (i := 214) rfl)) rfl
theorem im_SV_checkOfFirst : (Jvm.Cond.instanceMethod ({ cls := "NumberStreams$Saved", name := "checkOfFirst", desc := "(I)I" } : Jvm.MethodName)) ∈ tsW := ts_in (List.mem_append_left _ (List.mem_of_getElem? (i := 221) rfl)) rfl
theorem im_NS_length : (Jvm.Cond.instanceMethod ({ cls := "NumberStreams", name := "length", desc := "(I)I" } : Jvm.MethodName)) ∈ tsW := ts_in (List.mem_append_left _ (List.mem_of_getElem? (i := 233) rfl)) rfl
theorem im_NS_recordAt : (Jvm.Cond.instanceMethod ({ cls := "NumberStreams", name := "recordAt", desc := "(I)LNumberStreams$Saved;" } : Jvm.MethodName)) ∈ tsW := ts_in (List.mem_append_left _ (List.mem_of_getElem? (i := 238) rfl)) rfl
theorem im_NS_word : (Jvm.Cond.instanceMethod ({ cls := "NumberStreams", name := "word", desc := "(II)I" } : Jvm.MethodName)) ∈ tsW := ts_in (List.mem_append_right _ (List.mem_append_left _ (List.mem_of_getElem? (i := 1) rfl))) rfl
theorem im_SV_hasWord : (Jvm.Cond.instanceMethod ({ cls := "NumberStreams$Saved", name := "hasWord", desc := "(I)Z" } : Jvm.MethodName)) ∈ tsW := ts_in (List.mem_append_right _ (List.mem_append_left _ (List.mem_of_getElem? (i := 5) rfl))) rfl
theorem im_NS_spoil : (Jvm.Cond.instanceMethod ({ cls := "NumberStreams", name := "spoil", desc := "(III)Z" } : Jvm.MethodName)) ∈ tsW := ts_in (List.mem_append_right _ (List.mem_append_left _ (List.mem_of_getElem? (i := 9) rfl))) rfl
theorem im_NS_cut : (Jvm.Cond.instanceMethod ({ cls := "NumberStreams", name := "cut", desc := "(I)Z" } : Jvm.MethodName)) ∈ tsW := ts_in (List.mem_append_right _ (List.mem_append_left _ (List.mem_of_getElem? (i := 13) rfl))) rfl
theorem im_NS_restore : (Jvm.Cond.instanceMethod ({ cls := "NumberStreams", name := "restore", desc := "(I)I" } : Jvm.MethodName)) ∈ tsW := ts_in (List.mem_append_right _ (List.mem_append_left _ (List.mem_of_getElem? (i := 17) rfl))) rfl
theorem im_SV_fault : (Jvm.Cond.instanceMethod ({ cls := "NumberStreams$Saved", name := "fault", desc := "()I" } : Jvm.MethodName)) ∈ tsW := ts_in (List.mem_append_right _ (List.mem_append_left _ (List.mem_of_getElem? (i := 21) rfl))) rfl
theorem im_SV_kind : (Jvm.Cond.instanceMethod ({ cls := "NumberStreams$Saved", name := "kind", desc := "()I" } : Jvm.MethodName)) ∈ tsW := ts_in (List.mem_append_right _ (List.mem_append_left _ (List.mem_of_getElem? (i := 25) rfl))) rfl
theorem im_SV_first : (Jvm.Cond.instanceMethod ({ cls := "NumberStreams$Saved", name := "first", desc := "()J" } : Jvm.MethodName)) ∈ tsW := ts_in (List.mem_append_right _ (List.mem_append_left _ (List.mem_of_getElem? (i := 36) rfl))) rfl
theorem im_SV_partAt : (Jvm.Cond.instanceMethod ({ cls := "NumberStreams$Saved", name := "partAt", desc := "(IZ)J" } : Jvm.MethodName)) ∈ tsW := ts_in (List.mem_append_right _ (List.mem_append_left _ (List.mem_of_getElem? (i := 41) rfl))) rfl
theorem im_SV_second : (Jvm.Cond.instanceMethod ({ cls := "NumberStreams$Saved", name := "second", desc := "()J" } : Jvm.MethodName)) ∈ tsW := ts_in (List.mem_append_right _ (List.mem_append_left _ (List.mem_of_getElem? (i := 45) rfl))) rfl
theorem im_NS_seek : (Jvm.Cond.instanceMethod ({ cls := "NumberStreams", name := "seek", desc := "(I)Z" } : Jvm.MethodName)) ∈ tsW := ts_in (List.mem_append_right _ (List.mem_append_left _ (List.mem_of_getElem? (i := 53) rfl))) rfl
theorem im_NS_advance : (Jvm.Cond.instanceMethod ({ cls := "NumberStreams", name := "advance", desc := "()I" } : Jvm.MethodName)) ∈ tsW := ts_in (List.mem_append_right _ (List.mem_append_left _ (List.mem_of_getElem? (i := 58) rfl))) rfl
theorem im_NS_coordinate : (Jvm.Cond.instanceMethod ({ cls := "NumberStreams", name := "coordinate", desc := "(I)J" } : Jvm.MethodName)) ∈ tsW := ts_in (List.mem_append_right _ (List.mem_append_left _ (List.mem_of_getElem? (i := 62) rfl))) rfl
theorem im_PT_joinedDirections : (Jvm.Cond.instanceMethod ({ cls := "NumberStreams$Points", name := "joinedDirections", desc := "(I)I" } : Jvm.MethodName)) ∈ tsW := ts_in (List.mem_append_right _ (List.mem_append_left _ (List.mem_of_getElem? (i := 66) rfl))) rfl
theorem im_PT_turnedDigits : (Jvm.Cond.instanceMethod ({ cls := "NumberStreams$Points", name := "turnedDigits", desc := "(II)I" } : Jvm.MethodName)) ∈ tsW := ts_in (List.mem_append_right _ (List.mem_append_left _ (List.mem_of_getElem? (i := 70) rfl))) rfl
theorem im_NS_weigh : (Jvm.Cond.instanceMethod ({ cls := "NumberStreams", name := "weigh", desc := "(II)Z" } : Jvm.MethodName)) ∈ tsW := ts_in (List.mem_append_right _ (List.mem_append_left _ (List.mem_of_getElem? (i := 74) rfl))) rfl
theorem im_NS_pick : (Jvm.Cond.instanceMethod ({ cls := "NumberStreams", name := "pick", desc := "(I)I" } : Jvm.MethodName)) ∈ tsW := ts_in (List.mem_append_right _ (List.mem_append_left _ (List.mem_of_getElem? (i := 79) rfl))) rfl
theorem im_NS_totalWeight : (Jvm.Cond.instanceMethod ({ cls := "NumberStreams", name := "totalWeight", desc := "()I" } : Jvm.MethodName)) ∈ tsW := ts_in (List.mem_append_right _ (List.mem_append_left _ (List.mem_of_getElem? (i := 84) rfl))) rfl
theorem im_NS_outcomeAt : (Jvm.Cond.instanceMethod ({ cls := "NumberStreams", name := "outcomeAt", desc := "(I)I" } : Jvm.MethodName)) ∈ tsW := ts_in (List.mem_append_right _ (List.mem_append_left _ (List.mem_of_getElem? (i := 88) rfl))) rfl
theorem im_NS_shuffle : (Jvm.Cond.instanceMethod ({ cls := "NumberStreams", name := "shuffle", desc := "(I)Z" } : Jvm.MethodName)) ∈ tsW := ts_in (List.mem_append_right _ (List.mem_append_left _ (List.mem_of_getElem? (i := 91) rfl))) rfl
theorem im_NS_card : (Jvm.Cond.instanceMethod ({ cls := "NumberStreams", name := "card", desc := "(I)I" } : Jvm.MethodName)) ∈ tsW := ts_in (List.mem_append_right _ (List.mem_append_left _ (List.mem_of_getElem? (i := 95) rfl))) rfl
theorem im_MD_init : (Jvm.Cond.instanceMethod ({ cls := "NumberStreamsModel", name := "<init>", desc := "()V" } : Jvm.MethodName)) ∈ tsW := ts_in (List.mem_append_right _ (List.mem_append_left _ (List.mem_of_getElem? (i := 101) rfl))) rfl
theorem im_MD_make : (Jvm.Cond.instanceMethod ({ cls := "NumberStreamsModel", name := "make", desc := "(III)I" } : Jvm.MethodName)) ∈ tsW := ts_in (List.mem_append_right _ (List.mem_append_left _ (List.mem_of_getElem? (i := 155) rfl))) rfl
theorem im_MD_freeSlot : (Jvm.Cond.instanceMethod ({ cls := "NumberStreamsModel", name := "freeSlot", desc := "()I" } : Jvm.MethodName)) ∈ tsW := ts_in (List.mem_append_right _ (List.mem_append_left _ (List.mem_of_getElem? (i := 160) rfl))) rfl
theorem im_MD_sound : (Jvm.Cond.instanceMethod ({ cls := "NumberStreamsModel", name := "sound", desc := "()Z" } : Jvm.MethodName)) ∈ tsW := ts_in (List.mem_append_right _ (List.mem_append_left _ (List.mem_of_getElem? (i := 169) rfl))) rfl
theorem im_MD_settle : (Jvm.Cond.instanceMethod ({ cls := "NumberStreamsModel", name := "settle", desc := "(I)I" } : Jvm.MethodName)) ∈ tsW := ts_in (List.mem_append_right _ (List.mem_append_left _ (List.mem_of_getElem? (i := 177) rfl))) rfl
theorem im_MD_twin : (Jvm.Cond.instanceMethod ({ cls := "NumberStreamsModel", name := "twin", desc := "(I)I" } : Jvm.MethodName)) ∈ tsW := ts_in (List.mem_append_right _ (List.mem_append_left _ (List.mem_of_getElem? (i := 180) rfl))) rfl
theorem im_MD_holds : (Jvm.Cond.instanceMethod ({ cls := "NumberStreamsModel", name := "holds", desc := "(I)Z" } : Jvm.MethodName)) ∈ tsW := ts_in (List.mem_append_right _ (List.mem_append_left _ (List.mem_of_getElem? (i := 185) rfl))) rfl
theorem im_MD_release : (Jvm.Cond.instanceMethod ({ cls := "NumberStreamsModel", name := "release", desc := "(I)Z" } : Jvm.MethodName)) ∈ tsW := ts_in (List.mem_append_right _ (List.mem_append_left _ (List.mem_of_getElem? (i := 188) rfl))) rfl
theorem im_MD_next : (Jvm.Cond.instanceMethod ({ cls := "NumberStreamsModel", name := "next", desc := "(I)J" } : Jvm.MethodName)) ∈ tsW := ts_in (List.mem_append_right _ (List.mem_append_left _ (List.mem_of_getElem? (i := 192) rfl))) rfl
theorem im_MD_step : (Jvm.Cond.instanceMethod ({ cls := "NumberStreamsModel", name := "step", desc := "(I)V" } : Jvm.MethodName)) ∈ tsW := ts_in (List.mem_append_right _ (List.mem_append_left _ (List.mem_of_getElem? (i := 198) rfl))) rfl
theorem im_MD_rounds : (Jvm.Cond.instanceMethod ({ cls := "NumberStreamsModel", name := "rounds", desc := "(IJ)V" } : Jvm.MethodName)) ∈ tsW := ts_in (List.mem_append_right _ (List.mem_append_left _ (List.mem_of_getElem? (i := 207) rfl))) rfl
theorem im_MD_multiply : (Jvm.Cond.instanceMethod ({ cls := "NumberStreamsModel", name := "multiply", desc := "(JJ)V" } : Jvm.MethodName)) ∈ tsW := ts_in (List.mem_append_right _ (List.mem_append_left _ (List.mem_of_getElem? (i := 212) rfl))) rfl
theorem im_MD_jump : (Jvm.Cond.instanceMethod ({ cls := "NumberStreamsModel", name := "jump", desc := "(II)Z" } : Jvm.MethodName)) ∈ tsW := ts_in (List.mem_append_right _ (List.mem_append_left _ (List.mem_of_getElem? (i := 221) rfl))) rfl
theorem im_MD_draw : (Jvm.Cond.instanceMethod ({ cls := "NumberStreamsModel", name := "draw", desc := "(II)I" } : Jvm.MethodName)) ∈ tsW := ts_in (List.mem_append_right _ (List.mem_append_left _ (List.mem_of_getElem? (i := 226) rfl))) rfl
theorem im_MD_below : (Jvm.Cond.instanceMethod ({ cls := "NumberStreamsModel", name := "below", desc := "(II)I" } : Jvm.MethodName)) ∈ tsW := ts_in (List.mem_append_right _ (List.mem_append_left _ (List.mem_of_getElem? (i := 231) rfl))) rfl
theorem im_MD_same : (Jvm.Cond.instanceMethod ({ cls := "NumberStreamsModel", name := "same", desc := "(II)Z" } : Jvm.MethodName)) ∈ tsW := ts_in (List.mem_append_right _ (List.mem_append_left _ (List.mem_of_getElem? (i := 234) rfl))) rfl
theorem im_MD_save : (Jvm.Cond.instanceMethod ({ cls := "NumberStreamsModel", name := "save", desc := "(I)I" } : Jvm.MethodName)) ∈ tsW := ts_in (List.mem_append_right _ (List.mem_append_left _ (List.mem_of_getElem? (i := 238) rfl))) rfl
theorem im_MD_append : (Jvm.Cond.instanceMethod ({ cls := "NumberStreamsModel", name := "append", desc := "(I)V" } : Jvm.MethodName)) ∈ tsW := ts_in (List.mem_append_right _ (List.mem_append_right _ (List.mem_of_getElem? (i := 4) rfl))) rfl
theorem im_MD_appendLong : (Jvm.Cond.instanceMethod ({ cls := "NumberStreamsModel", name := "appendLong", desc := "(J)V" } : Jvm.MethodName)) ∈ tsW := ts_in (List.mem_append_right _ (List.mem_append_right _ (List.mem_of_getElem? (i := 8) rfl))) rfl
theorem im_MD_check : (Jvm.Cond.instanceMethod ({ cls := "NumberStreamsModel", name := "check", desc := "(II)I" } : Jvm.MethodName)) ∈ tsW := ts_in (List.mem_append_right _ (List.mem_append_right _ (List.mem_of_getElem? (i := 12) rfl))) rfl
theorem im_MD_length : (Jvm.Cond.instanceMethod ({ cls := "NumberStreamsModel", name := "length", desc := "(I)I" } : Jvm.MethodName)) ∈ tsW := ts_in (List.mem_append_right _ (List.mem_append_right _ (List.mem_of_getElem? (i := 15) rfl))) rfl
theorem im_MD_word : (Jvm.Cond.instanceMethod ({ cls := "NumberStreamsModel", name := "word", desc := "(II)I" } : Jvm.MethodName)) ∈ tsW := ts_in (List.mem_append_right _ (List.mem_append_right _ (List.mem_of_getElem? (i := 19) rfl))) rfl
theorem im_MD_isWord : (Jvm.Cond.instanceMethod ({ cls := "NumberStreamsModel", name := "isWord", desc := "(II)Z" } : Jvm.MethodName)) ∈ tsW := ts_in (List.mem_append_right _ (List.mem_append_right _ (List.mem_of_getElem? (i := 24) rfl))) rfl
theorem im_MD_spoil : (Jvm.Cond.instanceMethod ({ cls := "NumberStreamsModel", name := "spoil", desc := "(III)Z" } : Jvm.MethodName)) ∈ tsW := ts_in (List.mem_append_right _ (List.mem_append_right _ (List.mem_of_getElem? (i := 27) rfl))) rfl
theorem im_MD_cut : (Jvm.Cond.instanceMethod ({ cls := "NumberStreamsModel", name := "cut", desc := "(I)Z" } : Jvm.MethodName)) ∈ tsW := ts_in (List.mem_append_right _ (List.mem_append_right _ (List.mem_of_getElem? (i := 31) rfl))) rfl
theorem im_MD_restore : (Jvm.Cond.instanceMethod ({ cls := "NumberStreamsModel", name := "restore", desc := "(I)I" } : Jvm.MethodName)) ∈ tsW := ts_in (List.mem_append_right _ (List.mem_append_right _ (List.mem_of_getElem? (i := 35) rfl))) rfl
theorem im_MD_twoWords : (Jvm.Cond.instanceMethod ({ cls := "NumberStreamsModel", name := "twoWords", desc := "(I)J" } : Jvm.MethodName)) ∈ tsW := ts_in (List.mem_append_right _ (List.mem_append_right _ (List.mem_of_getElem? (i := 40) rfl))) rfl
theorem im_MD_seek : (Jvm.Cond.instanceMethod ({ cls := "NumberStreamsModel", name := "seek", desc := "(I)Z" } : Jvm.MethodName)) ∈ tsW := ts_in (List.mem_append_right _ (List.mem_append_right _ (List.mem_of_getElem? (i := 43) rfl))) rfl
theorem im_MD_advance : (Jvm.Cond.instanceMethod ({ cls := "NumberStreamsModel", name := "advance", desc := "()I" } : Jvm.MethodName)) ∈ tsW := ts_in (List.mem_append_right _ (List.mem_append_right _ (List.mem_of_getElem? (i := 48) rfl))) rfl
theorem im_MD_coordinate : (Jvm.Cond.instanceMethod ({ cls := "NumberStreamsModel", name := "coordinate", desc := "(I)J" } : Jvm.MethodName)) ∈ tsW := ts_in (List.mem_append_right _ (List.mem_append_right _ (List.mem_of_getElem? (i := 52) rfl))) rfl
theorem im_MD_turned : (Jvm.Cond.instanceMethod ({ cls := "NumberStreamsModel", name := "turned", desc := "(II)J" } : Jvm.MethodName)) ∈ tsW := ts_in (List.mem_append_right _ (List.mem_append_right _ (List.mem_of_getElem? (i := 57) rfl))) rfl
theorem im_MD_inner : (Jvm.Cond.instanceMethod ({ cls := "NumberStreamsModel", name := "inner", desc := "(I)V" } : Jvm.MethodName)) ∈ tsW := ts_in (List.mem_append_right _ (List.mem_append_right _ (List.mem_of_getElem? (i := 61) rfl))) rfl
theorem im_MD_weigh : (Jvm.Cond.instanceMethod ({ cls := "NumberStreamsModel", name := "weigh", desc := "(II)Z" } : Jvm.MethodName)) ∈ tsW := ts_in (List.mem_append_right _ (List.mem_append_right _ (List.mem_of_getElem? (i := 64) rfl))) rfl
theorem im_MD_pick : (Jvm.Cond.instanceMethod ({ cls := "NumberStreamsModel", name := "pick", desc := "(I)I" } : Jvm.MethodName)) ∈ tsW := ts_in (List.mem_append_right _ (List.mem_append_right _ (List.mem_of_getElem? (i := 69) rfl))) rfl
theorem im_MD_shuffle : (Jvm.Cond.instanceMethod ({ cls := "NumberStreamsModel", name := "shuffle", desc := "(I)Z" } : Jvm.MethodName)) ∈ tsW := ts_in (List.mem_append_right _ (List.mem_append_right _ (List.mem_of_getElem? (i := 73) rfl))) rfl
theorem im_MD_card : (Jvm.Cond.instanceMethod ({ cls := "NumberStreamsModel", name := "card", desc := "(I)I" } : Jvm.MethodName)) ∈ tsW := ts_in (List.mem_append_right _ (List.mem_append_right _ (List.mem_of_getElem? (i := 77) rfl))) rfl
theorem se_NS_make : (Jvm.Cond.selects "NumberStreams" ({ cls := "NumberStreams", name := "make", desc := "(III)I" } : Jvm.MethodName) ({ cls := "NumberStreams", name := "make", desc := "(III)I" } : Jvm.MethodName)) ∈ tsW := ts_in (List.mem_append_left _ (List.mem_of_getElem? (i := 69) rfl)) rfl
theorem se_NS_twin : (Jvm.Cond.selects "NumberStreams" ({ cls := "NumberStreams", name := "twin", desc := "(I)I" } : Jvm.MethodName) ({ cls := "NumberStreams", name := "twin", desc := "(I)I" } : Jvm.MethodName)) ∈ tsW := ts_in (List.mem_append_left _ (List.mem_of_getElem? (i := 123) rfl)) rfl
theorem se_NS_release : (Jvm.Cond.selects "NumberStreams" ({ cls := "NumberStreams", name := "release", desc := "(I)Z" } : Jvm.MethodName) ({ cls := "NumberStreams", name := "release", desc := "(I)Z" } : Jvm.MethodName)) ∈ tsW := ts_in (List.mem_append_left _ (List.mem_of_getElem? (i := 131) rfl)) rfl
theorem se_NS_next : (Jvm.Cond.selects "NumberStreams" ({ cls := "NumberStreams", name := "next", desc := "(I)J" } : Jvm.MethodName) ({ cls := "NumberStreams", name := "next", desc := "(I)J" } : Jvm.MethodName)) ∈ tsW := ts_in (List.mem_append_left _ (List.mem_of_getElem? (i := 135) rfl)) rfl
theorem se_ST_step : (Jvm.Cond.selects "NumberStreams$Stream" ({ cls := "NumberStreams$Stream", name := "step", desc := "()I" } : Jvm.MethodName) ({ cls := "NumberStreams$Stream", name := "step", desc := "()I" } : Jvm.MethodName)) ∈ tsW := ts_in (List.mem_append_left _ (List.mem_of_getElem? (i := 140) rfl)) rfl
theorem se_ST_move : (Jvm.Cond.selects "NumberStreams$Stream" ({ cls := "NumberStreams$Stream", name := "move", desc := "()V" } : Jvm.MethodName) ({ cls := "NumberStreams$Stream", name := "move", desc := "()V" } : Jvm.MethodName)) ∈ tsW := ts_in (List.mem_append_left _ (List.mem_of_getElem? (i := 167) rfl)) rfl
theorem se_NS_jump : (Jvm.Cond.selects "NumberStreams" ({ cls := "NumberStreams", name := "jump", desc := "(II)Z" } : Jvm.MethodName) ({ cls := "NumberStreams", name := "jump", desc := "(II)Z" } : Jvm.MethodName)) ∈ tsW := ts_in (List.mem_append_left _ (List.mem_of_getElem? (i := 177) rfl)) rfl
theorem se_NS_draw : (Jvm.Cond.selects "NumberStreams" ({ cls := "NumberStreams", name := "draw", desc := "(II)I" } : Jvm.MethodName) ({ cls := "NumberStreams", name := "draw", desc := "(II)I" } : Jvm.MethodName)) ∈ tsW := ts_in (List.mem_append_left _ (List.mem_of_getElem? (i := 183) rfl)) rfl
theorem se_ST_drawnBelow : (Jvm.Cond.selects "NumberStreams$Stream" ({ cls := "NumberStreams$Stream", name := "drawnBelow", desc := "(I)I" } : Jvm.MethodName) ({ cls := "NumberStreams$Stream", name := "drawnBelow", desc := "(I)I" } : Jvm.MethodName)) ∈ tsW := ts_in (List.mem_append_left _ (List.mem_of_getElem? (i := 187) rfl)) rfl
theorem se_NS_same : (Jvm.Cond.selects "NumberStreams" ({ cls := "NumberStreams", name := "same", desc := "(II)Z" } : Jvm.MethodName) ({ cls := "NumberStreams", name := "same", desc := "(II)Z" } : Jvm.MethodName)) ∈ tsW := ts_in (List.mem_append_left _ (List.mem_of_getElem? (i := 193) rfl)) rfl
theorem se_NS_save : (Jvm.Cond.selects "NumberStreams" ({ cls := "NumberStreams", name := "save", desc := "(I)I" } : Jvm.MethodName) ({ cls := "NumberStreams", name := "save", desc := "(I)I" } : Jvm.MethodName)) ∈ tsW := ts_in (List.mem_append_left _ (List.mem_of_getElem? (i := 197) rfl)) rfl
theorem se_NS_length : (Jvm.Cond.selects "NumberStreams" ({ cls := "NumberStreams", name := "length", desc := "(I)I" } : Jvm.MethodName) ({ cls := "NumberStreams", name := "length", desc := "(I)I" } : Jvm.MethodName)) ∈ tsW := ts_in (List.mem_append_left _ (List.mem_of_getElem? (i := 234) rfl)) rfl
theorem se_NS_word : (Jvm.Cond.selects "NumberStreams" ({ cls := "NumberStreams", name := "word", desc := "(II)I" } : Jvm.MethodName) ({ cls := "NumberStreams", name := "word", desc := "(II)I" } : Jvm.MethodName)) ∈ tsW := ts_in (List.mem_append_right _ (List.mem_append_left _ (List.mem_of_getElem? (i := 2) rfl))) rfl
theorem se_SV_hasWord : (Jvm.Cond.selects "NumberStreams$Saved" ({ cls := "NumberStreams$Saved", name := "hasWord", desc := "(I)Z" } : Jvm.MethodName) ({ cls := "NumberStreams$Saved", name := "hasWord", desc := "(I)Z" } : Jvm.MethodName)) ∈ tsW := ts_in (List.mem_append_right _ (List.mem_append_left _ (List.mem_of_getElem? (i := 6) rfl))) rfl
theorem se_NS_spoil : (Jvm.Cond.selects "NumberStreams" ({ cls := "NumberStreams", name := "spoil", desc := "(III)Z" } : Jvm.MethodName) ({ cls := "NumberStreams", name := "spoil", desc := "(III)Z" } : Jvm.MethodName)) ∈ tsW := ts_in (List.mem_append_right _ (List.mem_append_left _ (List.mem_of_getElem? (i := 10) rfl))) rfl
theorem se_NS_cut : (Jvm.Cond.selects "NumberStreams" ({ cls := "NumberStreams", name := "cut", desc := "(I)Z" } : Jvm.MethodName) ({ cls := "NumberStreams", name := "cut", desc := "(I)Z" } : Jvm.MethodName)) ∈ tsW := ts_in (List.mem_append_right _ (List.mem_append_left _ (List.mem_of_getElem? (i := 14) rfl))) rfl
theorem se_NS_restore : (Jvm.Cond.selects "NumberStreams" ({ cls := "NumberStreams", name := "restore", desc := "(I)I" } : Jvm.MethodName) ({ cls := "NumberStreams", name := "restore", desc := "(I)I" } : Jvm.MethodName)) ∈ tsW := ts_in (List.mem_append_right _ (List.mem_append_left _ (List.mem_of_getElem? (i := 18) rfl))) rfl
theorem se_SV_fault : (Jvm.Cond.selects "NumberStreams$Saved" ({ cls := "NumberStreams$Saved", name := "fault", desc := "()I" } : Jvm.MethodName) ({ cls := "NumberStreams$Saved", name := "fault", desc := "()I" } : Jvm.MethodName)) ∈ tsW := ts_in (List.mem_append_right _ (List.mem_append_left _ (List.mem_of_getElem? (i := 22) rfl))) rfl
theorem se_SV_kind : (Jvm.Cond.selects "NumberStreams$Saved" ({ cls := "NumberStreams$Saved", name := "kind", desc := "()I" } : Jvm.MethodName) ({ cls := "NumberStreams$Saved", name := "kind", desc := "()I" } : Jvm.MethodName)) ∈ tsW := ts_in (List.mem_append_right _ (List.mem_append_left _ (List.mem_of_getElem? (i := 26) rfl))) rfl
theorem se_SV_first : (Jvm.Cond.selects "NumberStreams$Saved" ({ cls := "NumberStreams$Saved", name := "first", desc := "()J" } : Jvm.MethodName) ({ cls := "NumberStreams$Saved", name := "first", desc := "()J" } : Jvm.MethodName)) ∈ tsW := ts_in (List.mem_append_right _ (List.mem_append_left _ (List.mem_of_getElem? (i := 37) rfl))) rfl
theorem se_SV_second : (Jvm.Cond.selects "NumberStreams$Saved" ({ cls := "NumberStreams$Saved", name := "second", desc := "()J" } : Jvm.MethodName) ({ cls := "NumberStreams$Saved", name := "second", desc := "()J" } : Jvm.MethodName)) ∈ tsW := ts_in (List.mem_append_right _ (List.mem_append_left _ (List.mem_of_getElem? (i := 46) rfl))) rfl
theorem se_NS_seek : (Jvm.Cond.selects "NumberStreams" ({ cls := "NumberStreams", name := "seek", desc := "(I)Z" } : Jvm.MethodName) ({ cls := "NumberStreams", name := "seek", desc := "(I)Z" } : Jvm.MethodName)) ∈ tsW := ts_in (List.mem_append_right _ (List.mem_append_left _ (List.mem_of_getElem? (i := 54) rfl))) rfl
theorem se_NS_advance : (Jvm.Cond.selects "NumberStreams" ({ cls := "NumberStreams", name := "advance", desc := "()I" } : Jvm.MethodName) ({ cls := "NumberStreams", name := "advance", desc := "()I" } : Jvm.MethodName)) ∈ tsW := ts_in (List.mem_append_right _ (List.mem_append_left _ (List.mem_of_getElem? (i := 59) rfl))) rfl
theorem se_NS_coordinate : (Jvm.Cond.selects "NumberStreams" ({ cls := "NumberStreams", name := "coordinate", desc := "(I)J" } : Jvm.MethodName) ({ cls := "NumberStreams", name := "coordinate", desc := "(I)J" } : Jvm.MethodName)) ∈ tsW := ts_in (List.mem_append_right _ (List.mem_append_left _ (List.mem_of_getElem? (i := 63) rfl))) rfl
theorem se_PT_joinedDirections : (Jvm.Cond.selects "NumberStreams$Points" ({ cls := "NumberStreams$Points", name := "joinedDirections", desc := "(I)I" } : Jvm.MethodName) ({ cls := "NumberStreams$Points", name := "joinedDirections", desc := "(I)I" } : Jvm.MethodName)) ∈ tsW := ts_in (List.mem_append_right _ (List.mem_append_left _ (List.mem_of_getElem? (i := 67) rfl))) rfl
theorem se_PT_turnedDigits : (Jvm.Cond.selects "NumberStreams$Points" ({ cls := "NumberStreams$Points", name := "turnedDigits", desc := "(II)I" } : Jvm.MethodName) ({ cls := "NumberStreams$Points", name := "turnedDigits", desc := "(II)I" } : Jvm.MethodName)) ∈ tsW := ts_in (List.mem_append_right _ (List.mem_append_left _ (List.mem_of_getElem? (i := 71) rfl))) rfl
theorem se_NS_weigh : (Jvm.Cond.selects "NumberStreams" ({ cls := "NumberStreams", name := "weigh", desc := "(II)Z" } : Jvm.MethodName) ({ cls := "NumberStreams", name := "weigh", desc := "(II)Z" } : Jvm.MethodName)) ∈ tsW := ts_in (List.mem_append_right _ (List.mem_append_left _ (List.mem_of_getElem? (i := 75) rfl))) rfl
theorem se_NS_pick : (Jvm.Cond.selects "NumberStreams" ({ cls := "NumberStreams", name := "pick", desc := "(I)I" } : Jvm.MethodName) ({ cls := "NumberStreams", name := "pick", desc := "(I)I" } : Jvm.MethodName)) ∈ tsW := ts_in (List.mem_append_right _ (List.mem_append_left _ (List.mem_of_getElem? (i := 80) rfl))) rfl
theorem se_NS_shuffle : (Jvm.Cond.selects "NumberStreams" ({ cls := "NumberStreams", name := "shuffle", desc := "(I)Z" } : Jvm.MethodName) ({ cls := "NumberStreams", name := "shuffle", desc := "(I)Z" } : Jvm.MethodName)) ∈ tsW := ts_in (List.mem_append_right _ (List.mem_append_left _ (List.mem_of_getElem? (i := 92) rfl))) rfl
theorem se_NS_card : (Jvm.Cond.selects "NumberStreams" ({ cls := "NumberStreams", name := "card", desc := "(I)I" } : Jvm.MethodName) ({ cls := "NumberStreams", name := "card", desc := "(I)I" } : Jvm.MethodName)) ∈ tsW := ts_in (List.mem_append_right _ (List.mem_append_left _ (List.mem_of_getElem? (i := 96) rfl))) rfl
theorem se_MD_make : (Jvm.Cond.selects "NumberStreamsModel" ({ cls := "NumberStreamsModel", name := "make", desc := "(III)I" } : Jvm.MethodName) ({ cls := "NumberStreamsModel", name := "make", desc := "(III)I" } : Jvm.MethodName)) ∈ tsW := ts_in (List.mem_append_right _ (List.mem_append_left _ (List.mem_of_getElem? (i := 156) rfl))) rfl
theorem se_MD_twin : (Jvm.Cond.selects "NumberStreamsModel" ({ cls := "NumberStreamsModel", name := "twin", desc := "(I)I" } : Jvm.MethodName) ({ cls := "NumberStreamsModel", name := "twin", desc := "(I)I" } : Jvm.MethodName)) ∈ tsW := ts_in (List.mem_append_right _ (List.mem_append_left _ (List.mem_of_getElem? (i := 181) rfl))) rfl
theorem se_MD_release : (Jvm.Cond.selects "NumberStreamsModel" ({ cls := "NumberStreamsModel", name := "release", desc := "(I)Z" } : Jvm.MethodName) ({ cls := "NumberStreamsModel", name := "release", desc := "(I)Z" } : Jvm.MethodName)) ∈ tsW := ts_in (List.mem_append_right _ (List.mem_append_left _ (List.mem_of_getElem? (i := 189) rfl))) rfl
theorem se_MD_next : (Jvm.Cond.selects "NumberStreamsModel" ({ cls := "NumberStreamsModel", name := "next", desc := "(I)J" } : Jvm.MethodName) ({ cls := "NumberStreamsModel", name := "next", desc := "(I)J" } : Jvm.MethodName)) ∈ tsW := ts_in (List.mem_append_right _ (List.mem_append_left _ (List.mem_of_getElem? (i := 193) rfl))) rfl
theorem se_MD_jump : (Jvm.Cond.selects "NumberStreamsModel" ({ cls := "NumberStreamsModel", name := "jump", desc := "(II)Z" } : Jvm.MethodName) ({ cls := "NumberStreamsModel", name := "jump", desc := "(II)Z" } : Jvm.MethodName)) ∈ tsW := ts_in (List.mem_append_right _ (List.mem_append_left _ (List.mem_of_getElem? (i := 222) rfl))) rfl
theorem se_MD_draw : (Jvm.Cond.selects "NumberStreamsModel" ({ cls := "NumberStreamsModel", name := "draw", desc := "(II)I" } : Jvm.MethodName) ({ cls := "NumberStreamsModel", name := "draw", desc := "(II)I" } : Jvm.MethodName)) ∈ tsW := ts_in (List.mem_append_right _ (List.mem_append_left _ (List.mem_of_getElem? (i := 227) rfl))) rfl
theorem se_MD_same : (Jvm.Cond.selects "NumberStreamsModel" ({ cls := "NumberStreamsModel", name := "same", desc := "(II)Z" } : Jvm.MethodName) ({ cls := "NumberStreamsModel", name := "same", desc := "(II)Z" } : Jvm.MethodName)) ∈ tsW := ts_in (List.mem_append_right _ (List.mem_append_left _ (List.mem_of_getElem? (i := 235) rfl))) rfl
theorem se_MD_save : (Jvm.Cond.selects "NumberStreamsModel" ({ cls := "NumberStreamsModel", name := "save", desc := "(I)I" } : Jvm.MethodName) ({ cls := "NumberStreamsModel", name := "save", desc := "(I)I" } : Jvm.MethodName)) ∈ tsW := ts_in (List.mem_append_right _ (List.mem_append_left _ (List.mem_of_getElem? (i := 239) rfl))) rfl
theorem se_MD_length : (Jvm.Cond.selects "NumberStreamsModel" ({ cls := "NumberStreamsModel", name := "length", desc := "(I)I" } : Jvm.MethodName) ({ cls := "NumberStreamsModel", name := "length", desc := "(I)I" } : Jvm.MethodName)) ∈ tsW := ts_in (List.mem_append_right _ (List.mem_append_right _ (List.mem_of_getElem? (i := 16) rfl))) rfl
theorem se_MD_word : (Jvm.Cond.selects "NumberStreamsModel" ({ cls := "NumberStreamsModel", name := "word", desc := "(II)I" } : Jvm.MethodName) ({ cls := "NumberStreamsModel", name := "word", desc := "(II)I" } : Jvm.MethodName)) ∈ tsW := ts_in (List.mem_append_right _ (List.mem_append_right _ (List.mem_of_getElem? (i := 20) rfl))) rfl
theorem se_MD_spoil : (Jvm.Cond.selects "NumberStreamsModel" ({ cls := "NumberStreamsModel", name := "spoil", desc := "(III)Z" } : Jvm.MethodName) ({ cls := "NumberStreamsModel", name := "spoil", desc := "(III)Z" } : Jvm.MethodName)) ∈ tsW := ts_in (List.mem_append_right _ (List.mem_append_right _ (List.mem_of_getElem? (i := 28) rfl))) rfl
theorem se_MD_cut : (Jvm.Cond.selects "NumberStreamsModel" ({ cls := "NumberStreamsModel", name := "cut", desc := "(I)Z" } : Jvm.MethodName) ({ cls := "NumberStreamsModel", name := "cut", desc := "(I)Z" } : Jvm.MethodName)) ∈ tsW := ts_in (List.mem_append_right _ (List.mem_append_right _ (List.mem_of_getElem? (i := 32) rfl))) rfl
theorem se_MD_restore : (Jvm.Cond.selects "NumberStreamsModel" ({ cls := "NumberStreamsModel", name := "restore", desc := "(I)I" } : Jvm.MethodName) ({ cls := "NumberStreamsModel", name := "restore", desc := "(I)I" } : Jvm.MethodName)) ∈ tsW := ts_in (List.mem_append_right _ (List.mem_append_right _ (List.mem_of_getElem? (i := 36) rfl))) rfl
theorem se_MD_seek : (Jvm.Cond.selects "NumberStreamsModel" ({ cls := "NumberStreamsModel", name := "seek", desc := "(I)Z" } : Jvm.MethodName) ({ cls := "NumberStreamsModel", name := "seek", desc := "(I)Z" } : Jvm.MethodName)) ∈ tsW := ts_in (List.mem_append_right _ (List.mem_append_right _ (List.mem_of_getElem? (i := 44) rfl))) rfl
theorem se_MD_advance : (Jvm.Cond.selects "NumberStreamsModel" ({ cls := "NumberStreamsModel", name := "advance", desc := "()I" } : Jvm.MethodName) ({ cls := "NumberStreamsModel", name := "advance", desc := "()I" } : Jvm.MethodName)) ∈ tsW := ts_in (List.mem_append_right _ (List.mem_append_right _ (List.mem_of_getElem? (i := 49) rfl))) rfl
theorem se_MD_coordinate : (Jvm.Cond.selects "NumberStreamsModel" ({ cls := "NumberStreamsModel", name := "coordinate", desc := "(I)J" } : Jvm.MethodName) ({ cls := "NumberStreamsModel", name := "coordinate", desc := "(I)J" } : Jvm.MethodName)) ∈ tsW := ts_in (List.mem_append_right _ (List.mem_append_right _ (List.mem_of_getElem? (i := 53) rfl))) rfl
theorem se_MD_weigh : (Jvm.Cond.selects "NumberStreamsModel" ({ cls := "NumberStreamsModel", name := "weigh", desc := "(II)Z" } : Jvm.MethodName) ({ cls := "NumberStreamsModel", name := "weigh", desc := "(II)Z" } : Jvm.MethodName)) ∈ tsW := ts_in (List.mem_append_right _ (List.mem_append_right _ (List.mem_of_getElem? (i := 65) rfl))) rfl
theorem se_MD_pick : (Jvm.Cond.selects "NumberStreamsModel" ({ cls := "NumberStreamsModel", name := "pick", desc := "(I)I" } : Jvm.MethodName) ({ cls := "NumberStreamsModel", name := "pick", desc := "(I)I" } : Jvm.MethodName)) ∈ tsW := ts_in (List.mem_append_right _ (List.mem_append_right _ (List.mem_of_getElem? (i := 70) rfl))) rfl
theorem se_MD_shuffle : (Jvm.Cond.selects "NumberStreamsModel" ({ cls := "NumberStreamsModel", name := "shuffle", desc := "(I)Z" } : Jvm.MethodName) ({ cls := "NumberStreamsModel", name := "shuffle", desc := "(I)Z" } : Jvm.MethodName)) ∈ tsW := ts_in (List.mem_append_right _ (List.mem_append_right _ (List.mem_of_getElem? (i := 74) rfl))) rfl
theorem se_MD_card : (Jvm.Cond.selects "NumberStreamsModel" ({ cls := "NumberStreamsModel", name := "card", desc := "(I)I" } : Jvm.MethodName) ({ cls := "NumberStreamsModel", name := "card", desc := "(I)I" } : Jvm.MethodName)) ∈ tsW := ts_in (List.mem_append_right _ (List.mem_append_right _ (List.mem_of_getElem? (i := 78) rfl))) rfl
theorem ml_LW_9 : (Jvm.Cond.methodLink "NumberStreamsLaw" (9 : Nat) ({ cls := "NumberStreams", name := "<init>", desc := "()V" } : Jvm.MethodName)) ∈ tsW := ts_in (List.mem_append_left _ (List.mem_of_getElem? (i := 9) rfl)) rfl
theorem ml_NS_1 : (Jvm.Cond.methodLink "NumberStreams" (1 : Nat) ({ cls := "java/lang/Object", name := "<init>", desc := "()V" } : Jvm.MethodName)) ∈ tsW := ts_in (List.mem_append_left _ (List.mem_of_getElem? (i := 12) rfl)) rfl
theorem ml_NS_27 : (Jvm.Cond.methodLink "NumberStreams" (27 : Nat) ({ cls := "NumberStreams$Points", name := "<init>", desc := "()V" } : Jvm.MethodName)) ∈ tsW := ts_in (List.mem_append_left _ (List.mem_of_getElem? (i := 21) rfl)) rfl
theorem ml_PT_1 : (Jvm.Cond.methodLink "NumberStreams$Points" (1 : Nat) ({ cls := "java/lang/Object", name := "<init>", desc := "()V" } : Jvm.MethodName)) ∈ tsW := ts_in (List.mem_append_left _ (List.mem_of_getElem? (i := 24) rfl)) rfl
theorem ml_PT_18 : (Jvm.Cond.methodLink "NumberStreams$Points" (18 : Nat) ({ cls := "NumberStreams$Points", name := "startRow", desc := "(IIII)V" } : Jvm.MethodName)) ∈ tsW := ts_in (List.mem_append_left _ (List.mem_of_getElem? (i := 27) rfl)) rfl
theorem ml_PT_22 : (Jvm.Cond.methodLink "NumberStreams$Points" (22 : Nat) ({ cls := "NumberStreams$Points", name := "growRow", desc := "(III)V" } : Jvm.MethodName)) ∈ tsW := ts_in (List.mem_append_left _ (List.mem_of_getElem? (i := 31) rfl)) rfl
theorem ml_PT_26 : (Jvm.Cond.methodLink "NumberStreams$Points" (26 : Nat) ({ cls := "NumberStreams$Points", name := "alignRow", desc := "(I)V" } : Jvm.MethodName)) ∈ tsW := ts_in (List.mem_append_left _ (List.mem_of_getElem? (i := 35) rfl)) rfl
theorem ml_LW_13 : (Jvm.Cond.methodLink "NumberStreamsLaw" (13 : Nat) ({ cls := "NumberStreams", name := "make", desc := "(III)I" } : Jvm.MethodName)) ∈ tsW := ts_in (List.mem_append_left _ (List.mem_of_getElem? (i := 67) rfl)) rfl
theorem ml_NS_39 : (Jvm.Cond.methodLink "NumberStreams" (39 : Nat) ({ cls := "NumberStreams", name := "leastFreeSlot", desc := "()I" } : Jvm.MethodName)) ∈ tsW := ts_in (List.mem_append_left _ (List.mem_of_getElem? (i := 71) rfl)) rfl
theorem ml_NS_43 : (Jvm.Cond.methodLink "NumberStreams" (43 : Nat) ({ cls := "NumberStreams$Stream", name := "isKind", desc := "(I)Z" } : Jvm.MethodName)) ∈ tsW := ts_in (List.mem_append_left _ (List.mem_of_getElem? (i := 75) rfl)) rfl
theorem ml_NS_47 : (Jvm.Cond.methodLink "NumberStreams" (47 : Nat) ({ cls := "NumberStreams$Stream", name := "firstOfSeed", desc := "(III)J" } : Jvm.MethodName)) ∈ tsW := ts_in (List.mem_append_left _ (List.mem_of_getElem? (i := 78) rfl)) rfl
theorem ml_NS_80 : (Jvm.Cond.methodLink "NumberStreams" (80 : Nat) ({ cls := "NumberStreams", name := "asNumber", desc := "(I)J" } : Jvm.MethodName)) ∈ tsW := ts_in (List.mem_append_left _ (List.mem_of_getElem? (i := 84) rfl)) rfl
theorem ml_NS_51 : (Jvm.Cond.methodLink "NumberStreams" (51 : Nat) ({ cls := "NumberStreams$Stream", name := "secondOfSeed", desc := "(III)J" } : Jvm.MethodName)) ∈ tsW := ts_in (List.mem_append_left _ (List.mem_of_getElem? (i := 88) rfl)) rfl
theorem ml_NS_54 : (Jvm.Cond.methodLink "NumberStreams" (54 : Nat) ({ cls := "NumberStreams$Stream", name := "isState", desc := "(IJJ)Z" } : Jvm.MethodName)) ∈ tsW := ts_in (List.mem_append_left _ (List.mem_of_getElem? (i := 93) rfl)) rfl
theorem ml_ST_32 : (Jvm.Cond.methodLink "NumberStreams$Stream" (32 : Nat) ({ cls := "NumberStreams$Stream", name := "isRemainder", desc := "(J)Z" } : Jvm.MethodName)) ∈ tsW := ts_in (List.mem_append_left _ (List.mem_of_getElem? (i := 96) rfl)) rfl
theorem ml_NS_58 : (Jvm.Cond.methodLink "NumberStreams" (58 : Nat) ({ cls := "NumberStreams$Stream", name := "<init>", desc := "(IJJ)V" } : Jvm.MethodName)) ∈ tsW := ts_in (List.mem_append_left _ (List.mem_of_getElem? (i := 101) rfl)) rfl
theorem ml_ST_1 : (Jvm.Cond.methodLink "NumberStreams$Stream" (1 : Nat) ({ cls := "java/lang/Object", name := "<init>", desc := "()V" } : Jvm.MethodName)) ∈ tsW := ts_in (List.mem_append_left _ (List.mem_of_getElem? (i := 104) rfl)) rfl
theorem ml_LW_18 : (Jvm.Cond.methodLink "NumberStreamsLaw" (18 : Nat) ({ cls := "NumberStreams", name := "twin", desc := "(I)I" } : Jvm.MethodName)) ∈ tsW := ts_in (List.mem_append_left _ (List.mem_of_getElem? (i := 121) rfl)) rfl
theorem ml_NS_61 : (Jvm.Cond.methodLink "NumberStreams" (61 : Nat) ({ cls := "NumberStreams", name := "streamAt", desc := "(I)LNumberStreams$Stream;" } : Jvm.MethodName)) ∈ tsW := ts_in (List.mem_append_left _ (List.mem_of_getElem? (i := 125) rfl)) rfl
theorem ml_LW_23 : (Jvm.Cond.methodLink "NumberStreamsLaw" (23 : Nat) ({ cls := "NumberStreams", name := "release", desc := "(I)Z" } : Jvm.MethodName)) ∈ tsW := ts_in (List.mem_append_left _ (List.mem_of_getElem? (i := 129) rfl)) rfl
theorem ml_LW_28 : (Jvm.Cond.methodLink "NumberStreamsLaw" (28 : Nat) ({ cls := "NumberStreams", name := "next", desc := "(I)J" } : Jvm.MethodName)) ∈ tsW := ts_in (List.mem_append_left _ (List.mem_of_getElem? (i := 133) rfl)) rfl
theorem ml_NS_77 : (Jvm.Cond.methodLink "NumberStreams" (77 : Nat) ({ cls := "NumberStreams$Stream", name := "step", desc := "()I" } : Jvm.MethodName)) ∈ tsW := ts_in (List.mem_append_left _ (List.mem_of_getElem? (i := 138) rfl)) rfl
theorem ml_ST_38 : (Jvm.Cond.methodLink "NumberStreams$Stream" (38 : Nat) ({ cls := "NumberStreams$Stream", name := "output", desc := "()I" } : Jvm.MethodName)) ∈ tsW := ts_in (List.mem_append_left _ (List.mem_of_getElem? (i := 142) rfl)) rfl
theorem ml_ST_61 : (Jvm.Cond.methodLink "NumberStreams$Stream" (61 : Nat) ({ cls := "java/lang/Integer", name := "rotateRight", desc := "(II)I" } : Jvm.MethodName)) ∈ tsW := ts_in (List.mem_append_left _ (List.mem_of_getElem? (i := 146) rfl)) rfl
theorem ml_ST_68 : (Jvm.Cond.methodLink "NumberStreams$Stream" (68 : Nat) ({ cls := "java/lang/Integer", name := "rotateLeft", desc := "(II)I" } : Jvm.MethodName)) ∈ tsW := ts_in (List.mem_append_left _ (List.mem_of_getElem? (i := 150) rfl)) rfl
theorem ml_ST_71 : (Jvm.Cond.methodLink "NumberStreams$Stream" (71 : Nat) ({ cls := "NumberStreams$Stream", name := "mixedCounter", desc := "()I" } : Jvm.MethodName)) ∈ tsW := ts_in (List.mem_append_left _ (List.mem_of_getElem? (i := 153) rfl)) rfl
theorem ml_ST_57 : (Jvm.Cond.methodLink "NumberStreams$Stream" (57 : Nat) ({ cls := "NumberStreams$Stream", name := "nextRemainder", desc := "()J" } : Jvm.MethodName)) ∈ tsW := ts_in (List.mem_append_left _ (List.mem_of_getElem? (i := 159) rfl)) rfl
theorem ml_ST_42 : (Jvm.Cond.methodLink "NumberStreams$Stream" (42 : Nat) ({ cls := "NumberStreams$Stream", name := "move", desc := "()V" } : Jvm.MethodName)) ∈ tsW := ts_in (List.mem_append_left _ (List.mem_of_getElem? (i := 165) rfl)) rfl
theorem ml_ST_52 : (Jvm.Cond.methodLink "NumberStreams$Stream" (52 : Nat) ({ cls := "NumberStreams$Stream", name := "moveRotations", desc := "()V" } : Jvm.MethodName)) ∈ tsW := ts_in (List.mem_append_left _ (List.mem_of_getElem? (i := 170) rfl)) rfl
theorem ml_LW_33 : (Jvm.Cond.methodLink "NumberStreamsLaw" (33 : Nat) ({ cls := "NumberStreams", name := "jump", desc := "(II)Z" } : Jvm.MethodName)) ∈ tsW := ts_in (List.mem_append_left _ (List.mem_of_getElem? (i := 175) rfl)) rfl
theorem ml_NS_85 : (Jvm.Cond.methodLink "NumberStreams" (85 : Nat) ({ cls := "NumberStreams$Stream", name := "move", desc := "()V" } : Jvm.MethodName)) ∈ tsW := ts_in (List.mem_append_left _ (List.mem_of_getElem? (i := 180) rfl)) rfl
theorem ml_LW_38 : (Jvm.Cond.methodLink "NumberStreamsLaw" (38 : Nat) ({ cls := "NumberStreams", name := "draw", desc := "(II)I" } : Jvm.MethodName)) ∈ tsW := ts_in (List.mem_append_left _ (List.mem_of_getElem? (i := 181) rfl)) rfl
theorem ml_NS_88 : (Jvm.Cond.methodLink "NumberStreams" (88 : Nat) ({ cls := "NumberStreams$Stream", name := "drawnBelow", desc := "(I)I" } : Jvm.MethodName)) ∈ tsW := ts_in (List.mem_append_left _ (List.mem_of_getElem? (i := 185) rfl)) rfl
theorem ml_ST_47 : (Jvm.Cond.methodLink "NumberStreams$Stream" (47 : Nat) ({ cls := "NumberStreams$Stream", name := "step", desc := "()I" } : Jvm.MethodName)) ∈ tsW := ts_in (List.mem_append_left _ (List.mem_of_getElem? (i := 190) rfl)) rfl
theorem ml_LW_43 : (Jvm.Cond.methodLink "NumberStreamsLaw" (43 : Nat) ({ cls := "NumberStreams", name := "same", desc := "(II)Z" } : Jvm.MethodName)) ∈ tsW := ts_in (List.mem_append_left _ (List.mem_of_getElem? (i := 191) rfl)) rfl
theorem ml_LW_47 : (Jvm.Cond.methodLink "NumberStreamsLaw" (47 : Nat) ({ cls := "NumberStreams", name := "save", desc := "(I)I" } : Jvm.MethodName)) ∈ tsW := ts_in (List.mem_append_left _ (List.mem_of_getElem? (i := 195) rfl)) rfl
theorem ml_NS_92 : (Jvm.Cond.methodLink "NumberStreams" (92 : Nat) ({ cls := "NumberStreams$Saved", name := "<init>", desc := "(LNumberStreams$Stream;)V" } : Jvm.MethodName)) ∈ tsW := ts_in (List.mem_append_left _ (List.mem_of_getElem? (i := 200) rfl)) rfl
theorem ml_SV_1 : (Jvm.Cond.methodLink "NumberStreams$Saved" (1 : Nat) ({ cls := "java/lang/Object", name := "<init>", desc := "()V" } : Jvm.MethodName)) ∈ tsW := ts_in (List.mem_append_left _ (List.mem_of_getElem? (i := 203) rfl)) rfl
theorem ml_SV_23 : (Jvm.Cond.methodLink "NumberStreams$Saved" (23 : Nat) ({ cls := "NumberStreams$Saved", name := "append", desc := "(I)V" } : Jvm.MethodName)) ∈ tsW := ts_in (List.mem_append_left _ (List.mem_of_getElem? (i := 205) rfl)) rfl
theorem ml_SV_31 : (Jvm.Cond.methodLink "NumberStreams$Saved" (31 : Nat) ({ cls := "NumberStreams$Stream", name := "isFirstLong", desc := "(I)Z" } : Jvm.MethodName)) ∈ tsW := ts_in (List.mem_append_left _ (List.mem_of_getElem? (i := 209) rfl)) rfl
theorem ml_SV_35 : (Jvm.Cond.methodLink "NumberStreams$Saved" (35 : Nat) ({ cls := "NumberStreams$Saved", name := "appendPart", desc := "(JZ)V" } : Jvm.MethodName)) ∈ tsW := ts_in (List.mem_append_left _ (List.mem_of_getElem? (i := 212) rfl)) rfl
theorem ml_SV_42 : (Jvm.Cond.methodLink "NumberStreams$Saved" (42 : Nat) ({ cls := "NumberStreams$Stream", name := "isSecondLong", desc := "(I)Z" } : Jvm.MethodName)) ∈ tsW := ts_in (List.mem_append_left _ (List.mem_of_getElem? (i := 216) rfl)) rfl
theorem ml_SV_45 : (Jvm.Cond.methodLink "NumberStreams$Saved" (45 : Nat) ({ cls := "NumberStreams$Saved", name := "checkOfFirst", desc := "(I)I" } : Jvm.MethodName)) ∈ tsW := ts_in (List.mem_append_left _ (List.mem_of_getElem? (i := 219) rfl)) rfl
theorem ml_LW_51 : (Jvm.Cond.methodLink "NumberStreamsLaw" (51 : Nat) ({ cls := "NumberStreams", name := "length", desc := "(I)I" } : Jvm.MethodName)) ∈ tsW := ts_in (List.mem_append_left _ (List.mem_of_getElem? (i := 232) rfl)) rfl
theorem ml_NS_95 : (Jvm.Cond.methodLink "NumberStreams" (95 : Nat) ({ cls := "NumberStreams", name := "recordAt", desc := "(I)LNumberStreams$Saved;" } : Jvm.MethodName)) ∈ tsW := ts_in (List.mem_append_left _ (List.mem_of_getElem? (i := 236) rfl)) rfl
theorem ml_LW_55 : (Jvm.Cond.methodLink "NumberStreamsLaw" (55 : Nat) ({ cls := "NumberStreams", name := "word", desc := "(II)I" } : Jvm.MethodName)) ∈ tsW := ts_in (List.mem_append_right _ (List.mem_append_left _ (List.mem_of_getElem? (i := 0) rfl))) rfl
theorem ml_NS_102 : (Jvm.Cond.methodLink "NumberStreams" (102 : Nat) ({ cls := "NumberStreams$Saved", name := "hasWord", desc := "(I)Z" } : Jvm.MethodName)) ∈ tsW := ts_in (List.mem_append_right _ (List.mem_append_left _ (List.mem_of_getElem? (i := 4) rfl))) rfl
theorem ml_LW_59 : (Jvm.Cond.methodLink "NumberStreamsLaw" (59 : Nat) ({ cls := "NumberStreams", name := "spoil", desc := "(III)Z" } : Jvm.MethodName)) ∈ tsW := ts_in (List.mem_append_right _ (List.mem_append_left _ (List.mem_of_getElem? (i := 8) rfl))) rfl
theorem ml_LW_64 : (Jvm.Cond.methodLink "NumberStreamsLaw" (64 : Nat) ({ cls := "NumberStreams", name := "cut", desc := "(I)Z" } : Jvm.MethodName)) ∈ tsW := ts_in (List.mem_append_right _ (List.mem_append_left _ (List.mem_of_getElem? (i := 12) rfl))) rfl
theorem ml_LW_68 : (Jvm.Cond.methodLink "NumberStreamsLaw" (68 : Nat) ({ cls := "NumberStreams", name := "restore", desc := "(I)I" } : Jvm.MethodName)) ∈ tsW := ts_in (List.mem_append_right _ (List.mem_append_left _ (List.mem_of_getElem? (i := 16) rfl))) rfl
theorem ml_NS_108 : (Jvm.Cond.methodLink "NumberStreams" (108 : Nat) ({ cls := "NumberStreams$Saved", name := "fault", desc := "()I" } : Jvm.MethodName)) ∈ tsW := ts_in (List.mem_append_right _ (List.mem_append_left _ (List.mem_of_getElem? (i := 20) rfl))) rfl
theorem ml_SV_49 : (Jvm.Cond.methodLink "NumberStreams$Saved" (49 : Nat) ({ cls := "NumberStreams$Saved", name := "kind", desc := "()I" } : Jvm.MethodName)) ∈ tsW := ts_in (List.mem_append_right _ (List.mem_append_left _ (List.mem_of_getElem? (i := 24) rfl))) rfl
theorem ml_SV_52 : (Jvm.Cond.methodLink "NumberStreams$Saved" (52 : Nat) ({ cls := "NumberStreams$Stream", name := "isKind", desc := "(I)Z" } : Jvm.MethodName)) ∈ tsW := ts_in (List.mem_append_right _ (List.mem_append_left _ (List.mem_of_getElem? (i := 28) rfl))) rfl
theorem ml_SV_55 : (Jvm.Cond.methodLink "NumberStreams$Saved" (55 : Nat) ({ cls := "NumberStreams$Saved", name := "wordsOfKind", desc := "(I)I" } : Jvm.MethodName)) ∈ tsW := ts_in (List.mem_append_right _ (List.mem_append_left _ (List.mem_of_getElem? (i := 29) rfl))) rfl
theorem ml_SV_67 : (Jvm.Cond.methodLink "NumberStreams$Saved" (67 : Nat) ({ cls := "NumberStreams$Saved", name := "wordsOfPart", desc := "(Z)I" } : Jvm.MethodName)) ∈ tsW := ts_in (List.mem_append_right _ (List.mem_append_left _ (List.mem_of_getElem? (i := 32) rfl))) rfl
theorem ml_SV_58 : (Jvm.Cond.methodLink "NumberStreams$Saved" (58 : Nat) ({ cls := "NumberStreams$Saved", name := "first", desc := "()J" } : Jvm.MethodName)) ∈ tsW := ts_in (List.mem_append_right _ (List.mem_append_left _ (List.mem_of_getElem? (i := 35) rfl))) rfl
theorem ml_SV_71 : (Jvm.Cond.methodLink "NumberStreams$Saved" (71 : Nat) ({ cls := "NumberStreams$Saved", name := "partAt", desc := "(IZ)J" } : Jvm.MethodName)) ∈ tsW := ts_in (List.mem_append_right _ (List.mem_append_left _ (List.mem_of_getElem? (i := 39) rfl))) rfl
theorem ml_SV_61 : (Jvm.Cond.methodLink "NumberStreams$Saved" (61 : Nat) ({ cls := "NumberStreams$Saved", name := "second", desc := "()J" } : Jvm.MethodName)) ∈ tsW := ts_in (List.mem_append_right _ (List.mem_append_left _ (List.mem_of_getElem? (i := 44) rfl))) rfl
theorem ml_SV_63 : (Jvm.Cond.methodLink "NumberStreams$Saved" (63 : Nat) ({ cls := "NumberStreams$Stream", name := "isState", desc := "(IJJ)Z" } : Jvm.MethodName)) ∈ tsW := ts_in (List.mem_append_right _ (List.mem_append_left _ (List.mem_of_getElem? (i := 48) rfl))) rfl
theorem ml_NS_111 : (Jvm.Cond.methodLink "NumberStreams" (111 : Nat) ({ cls := "NumberStreams$Saved", name := "kind", desc := "()I" } : Jvm.MethodName)) ∈ tsW := ts_in (List.mem_append_right _ (List.mem_append_left _ (List.mem_of_getElem? (i := 49) rfl))) rfl
theorem ml_NS_113 : (Jvm.Cond.methodLink "NumberStreams" (113 : Nat) ({ cls := "NumberStreams$Saved", name := "first", desc := "()J" } : Jvm.MethodName)) ∈ tsW := ts_in (List.mem_append_right _ (List.mem_append_left _ (List.mem_of_getElem? (i := 50) rfl))) rfl
theorem ml_NS_116 : (Jvm.Cond.methodLink "NumberStreams" (116 : Nat) ({ cls := "NumberStreams$Saved", name := "second", desc := "()J" } : Jvm.MethodName)) ∈ tsW := ts_in (List.mem_append_right _ (List.mem_append_left _ (List.mem_of_getElem? (i := 51) rfl))) rfl
theorem ml_LW_72 : (Jvm.Cond.methodLink "NumberStreamsLaw" (72 : Nat) ({ cls := "NumberStreams", name := "seek", desc := "(I)Z" } : Jvm.MethodName)) ∈ tsW := ts_in (List.mem_append_right _ (List.mem_append_left _ (List.mem_of_getElem? (i := 52) rfl))) rfl
theorem ml_LW_76 : (Jvm.Cond.methodLink "NumberStreamsLaw" (76 : Nat) ({ cls := "NumberStreams", name := "advance", desc := "()I" } : Jvm.MethodName)) ∈ tsW := ts_in (List.mem_append_right _ (List.mem_append_left _ (List.mem_of_getElem? (i := 57) rfl))) rfl
theorem ml_LW_81 : (Jvm.Cond.methodLink "NumberStreamsLaw" (81 : Nat) ({ cls := "NumberStreams", name := "coordinate", desc := "(I)J" } : Jvm.MethodName)) ∈ tsW := ts_in (List.mem_append_right _ (List.mem_append_left _ (List.mem_of_getElem? (i := 61) rfl))) rfl
theorem ml_NS_122 : (Jvm.Cond.methodLink "NumberStreams" (122 : Nat) ({ cls := "NumberStreams$Points", name := "joinedDirections", desc := "(I)I" } : Jvm.MethodName)) ∈ tsW := ts_in (List.mem_append_right _ (List.mem_append_left _ (List.mem_of_getElem? (i := 65) rfl))) rfl
theorem ml_NS_125 : (Jvm.Cond.methodLink "NumberStreams" (125 : Nat) ({ cls := "NumberStreams$Points", name := "turnedDigits", desc := "(II)I" } : Jvm.MethodName)) ∈ tsW := ts_in (List.mem_append_right _ (List.mem_append_left _ (List.mem_of_getElem? (i := 69) rfl))) rfl
theorem ml_LW_85 : (Jvm.Cond.methodLink "NumberStreamsLaw" (85 : Nat) ({ cls := "NumberStreams", name := "weigh", desc := "(II)Z" } : Jvm.MethodName)) ∈ tsW := ts_in (List.mem_append_right _ (List.mem_append_left _ (List.mem_of_getElem? (i := 73) rfl))) rfl
theorem ml_LW_89 : (Jvm.Cond.methodLink "NumberStreamsLaw" (89 : Nat) ({ cls := "NumberStreams", name := "pick", desc := "(I)I" } : Jvm.MethodName)) ∈ tsW := ts_in (List.mem_append_right _ (List.mem_append_left _ (List.mem_of_getElem? (i := 78) rfl))) rfl
theorem ml_NS_130 : (Jvm.Cond.methodLink "NumberStreams" (130 : Nat) ({ cls := "NumberStreams", name := "totalWeight", desc := "()I" } : Jvm.MethodName)) ∈ tsW := ts_in (List.mem_append_right _ (List.mem_append_left _ (List.mem_of_getElem? (i := 82) rfl))) rfl
theorem ml_NS_133 : (Jvm.Cond.methodLink "NumberStreams" (133 : Nat) ({ cls := "NumberStreams", name := "outcomeAt", desc := "(I)I" } : Jvm.MethodName)) ∈ tsW := ts_in (List.mem_append_right _ (List.mem_append_left _ (List.mem_of_getElem? (i := 86) rfl))) rfl
theorem ml_LW_93 : (Jvm.Cond.methodLink "NumberStreamsLaw" (93 : Nat) ({ cls := "NumberStreams", name := "shuffle", desc := "(I)Z" } : Jvm.MethodName)) ∈ tsW := ts_in (List.mem_append_right _ (List.mem_append_left _ (List.mem_of_getElem? (i := 90) rfl))) rfl
theorem ml_LW_97 : (Jvm.Cond.methodLink "NumberStreamsLaw" (97 : Nat) ({ cls := "NumberStreams", name := "card", desc := "(I)I" } : Jvm.MethodName)) ∈ tsW := ts_in (List.mem_append_right _ (List.mem_append_left _ (List.mem_of_getElem? (i := 94) rfl))) rfl
theorem ml_LW_12 : (Jvm.Cond.methodLink "NumberStreamsLaw" (12 : Nat) ({ cls := "NumberStreamsModel", name := "<init>", desc := "()V" } : Jvm.MethodName)) ∈ tsW := ts_in (List.mem_append_right _ (List.mem_append_left _ (List.mem_of_getElem? (i := 100) rfl))) rfl
theorem ml_MD_1 : (Jvm.Cond.methodLink "NumberStreamsModel" (1 : Nat) ({ cls := "java/lang/Object", name := "<init>", desc := "()V" } : Jvm.MethodName)) ∈ tsW := ts_in (List.mem_append_right _ (List.mem_append_left _ (List.mem_of_getElem? (i := 103) rfl))) rfl
theorem ml_LW_17 : (Jvm.Cond.methodLink "NumberStreamsLaw" (17 : Nat) ({ cls := "NumberStreamsModel", name := "make", desc := "(III)I" } : Jvm.MethodName)) ∈ tsW := ts_in (List.mem_append_right _ (List.mem_append_left _ (List.mem_of_getElem? (i := 154) rfl))) rfl
theorem ml_MD_97 : (Jvm.Cond.methodLink "NumberStreamsModel" (97 : Nat) ({ cls := "NumberStreamsModel", name := "freeSlot", desc := "()I" } : Jvm.MethodName)) ∈ tsW := ts_in (List.mem_append_right _ (List.mem_append_left _ (List.mem_of_getElem? (i := 158) rfl))) rfl
theorem ml_MD_71 : (Jvm.Cond.methodLink "NumberStreamsModel" (71 : Nat) ({ cls := "NumberStreamsModel", name := "number", desc := "(I)J" } : Jvm.MethodName)) ∈ tsW := ts_in (List.mem_append_right _ (List.mem_append_left _ (List.mem_of_getElem? (i := 162) rfl))) rfl
theorem ml_MD_101 : (Jvm.Cond.methodLink "NumberStreamsModel" (101 : Nat) ({ cls := "NumberStreamsModel", name := "sound", desc := "()Z" } : Jvm.MethodName)) ∈ tsW := ts_in (List.mem_append_right _ (List.mem_append_left _ (List.mem_of_getElem? (i := 167) rfl))) rfl
theorem ml_MD_93 : (Jvm.Cond.methodLink "NumberStreamsModel" (93 : Nat) ({ cls := "NumberStreamsModel", name := "residue", desc := "(J)Z" } : Jvm.MethodName)) ∈ tsW := ts_in (List.mem_append_right _ (List.mem_append_left _ (List.mem_of_getElem? (i := 171) rfl))) rfl
theorem ml_MD_105 : (Jvm.Cond.methodLink "NumberStreamsModel" (105 : Nat) ({ cls := "NumberStreamsModel", name := "settle", desc := "(I)I" } : Jvm.MethodName)) ∈ tsW := ts_in (List.mem_append_right _ (List.mem_append_left _ (List.mem_of_getElem? (i := 175) rfl))) rfl
theorem ml_LW_22 : (Jvm.Cond.methodLink "NumberStreamsLaw" (22 : Nat) ({ cls := "NumberStreamsModel", name := "twin", desc := "(I)I" } : Jvm.MethodName)) ∈ tsW := ts_in (List.mem_append_right _ (List.mem_append_left _ (List.mem_of_getElem? (i := 179) rfl))) rfl
theorem ml_MD_109 : (Jvm.Cond.methodLink "NumberStreamsModel" (109 : Nat) ({ cls := "NumberStreamsModel", name := "holds", desc := "(I)Z" } : Jvm.MethodName)) ∈ tsW := ts_in (List.mem_append_right _ (List.mem_append_left _ (List.mem_of_getElem? (i := 183) rfl))) rfl
theorem ml_LW_27 : (Jvm.Cond.methodLink "NumberStreamsLaw" (27 : Nat) ({ cls := "NumberStreamsModel", name := "release", desc := "(I)Z" } : Jvm.MethodName)) ∈ tsW := ts_in (List.mem_append_right _ (List.mem_append_left _ (List.mem_of_getElem? (i := 187) rfl))) rfl
theorem ml_LW_32 : (Jvm.Cond.methodLink "NumberStreamsLaw" (32 : Nat) ({ cls := "NumberStreamsModel", name := "next", desc := "(I)J" } : Jvm.MethodName)) ∈ tsW := ts_in (List.mem_append_right _ (List.mem_append_left _ (List.mem_of_getElem? (i := 191) rfl))) rfl
theorem ml_MD_115 : (Jvm.Cond.methodLink "NumberStreamsModel" (115 : Nat) ({ cls := "NumberStreamsModel", name := "step", desc := "(I)V" } : Jvm.MethodName)) ∈ tsW := ts_in (List.mem_append_right _ (List.mem_append_left _ (List.mem_of_getElem? (i := 196) rfl))) rfl
theorem ml_MD_46 : (Jvm.Cond.methodLink "NumberStreamsModel" (46 : Nat) ({ cls := "NumberStreamsModel", name := "rotl", desc := "(II)I" } : Jvm.MethodName)) ∈ tsW := ts_in (List.mem_append_right _ (List.mem_append_left _ (List.mem_of_getElem? (i := 200) rfl))) rfl
theorem ml_MD_57 : (Jvm.Cond.methodLink "NumberStreamsModel" (57 : Nat) ({ cls := "NumberStreamsModel", name := "rounds", desc := "(IJ)V" } : Jvm.MethodName)) ∈ tsW := ts_in (List.mem_append_right _ (List.mem_append_left _ (List.mem_of_getElem? (i := 205) rfl))) rfl
theorem ml_MD_77 : (Jvm.Cond.methodLink "NumberStreamsModel" (77 : Nat) ({ cls := "NumberStreamsModel", name := "multiply", desc := "(JJ)V" } : Jvm.MethodName)) ∈ tsW := ts_in (List.mem_append_right _ (List.mem_append_left _ (List.mem_of_getElem? (i := 210) rfl))) rfl
theorem ml_LW_37 : (Jvm.Cond.methodLink "NumberStreamsLaw" (37 : Nat) ({ cls := "NumberStreamsModel", name := "jump", desc := "(II)Z" } : Jvm.MethodName)) ∈ tsW := ts_in (List.mem_append_right _ (List.mem_append_left _ (List.mem_of_getElem? (i := 220) rfl))) rfl
theorem ml_LW_42 : (Jvm.Cond.methodLink "NumberStreamsLaw" (42 : Nat) ({ cls := "NumberStreamsModel", name := "draw", desc := "(II)I" } : Jvm.MethodName)) ∈ tsW := ts_in (List.mem_append_right _ (List.mem_append_left _ (List.mem_of_getElem? (i := 225) rfl))) rfl
theorem ml_MD_120 : (Jvm.Cond.methodLink "NumberStreamsModel" (120 : Nat) ({ cls := "NumberStreamsModel", name := "below", desc := "(II)I" } : Jvm.MethodName)) ∈ tsW := ts_in (List.mem_append_right _ (List.mem_append_left _ (List.mem_of_getElem? (i := 229) rfl))) rfl
theorem ml_LW_46 : (Jvm.Cond.methodLink "NumberStreamsLaw" (46 : Nat) ({ cls := "NumberStreamsModel", name := "same", desc := "(II)Z" } : Jvm.MethodName)) ∈ tsW := ts_in (List.mem_append_right _ (List.mem_append_left _ (List.mem_of_getElem? (i := 233) rfl))) rfl
theorem ml_LW_50 : (Jvm.Cond.methodLink "NumberStreamsLaw" (50 : Nat) ({ cls := "NumberStreamsModel", name := "save", desc := "(I)I" } : Jvm.MethodName)) ∈ tsW := ts_in (List.mem_append_right _ (List.mem_append_left _ (List.mem_of_getElem? (i := 237) rfl))) rfl
theorem ml_MD_126 : (Jvm.Cond.methodLink "NumberStreamsModel" (126 : Nat) ({ cls := "NumberStreamsModel", name := "append", desc := "(I)V" } : Jvm.MethodName)) ∈ tsW := ts_in (List.mem_append_right _ (List.mem_append_right _ (List.mem_of_getElem? (i := 2) rfl))) rfl
theorem ml_MD_130 : (Jvm.Cond.methodLink "NumberStreamsModel" (130 : Nat) ({ cls := "NumberStreamsModel", name := "appendLong", desc := "(J)V" } : Jvm.MethodName)) ∈ tsW := ts_in (List.mem_append_right _ (List.mem_append_right _ (List.mem_of_getElem? (i := 6) rfl))) rfl
theorem ml_MD_134 : (Jvm.Cond.methodLink "NumberStreamsModel" (134 : Nat) ({ cls := "NumberStreamsModel", name := "check", desc := "(II)I" } : Jvm.MethodName)) ∈ tsW := ts_in (List.mem_append_right _ (List.mem_append_right _ (List.mem_of_getElem? (i := 10) rfl))) rfl
theorem ml_LW_54 : (Jvm.Cond.methodLink "NumberStreamsLaw" (54 : Nat) ({ cls := "NumberStreamsModel", name := "length", desc := "(I)I" } : Jvm.MethodName)) ∈ tsW := ts_in (List.mem_append_right _ (List.mem_append_right _ (List.mem_of_getElem? (i := 14) rfl))) rfl
theorem ml_LW_58 : (Jvm.Cond.methodLink "NumberStreamsLaw" (58 : Nat) ({ cls := "NumberStreamsModel", name := "word", desc := "(II)I" } : Jvm.MethodName)) ∈ tsW := ts_in (List.mem_append_right _ (List.mem_append_right _ (List.mem_of_getElem? (i := 18) rfl))) rfl
theorem ml_MD_137 : (Jvm.Cond.methodLink "NumberStreamsModel" (137 : Nat) ({ cls := "NumberStreamsModel", name := "isWord", desc := "(II)Z" } : Jvm.MethodName)) ∈ tsW := ts_in (List.mem_append_right _ (List.mem_append_right _ (List.mem_of_getElem? (i := 22) rfl))) rfl
theorem ml_LW_63 : (Jvm.Cond.methodLink "NumberStreamsLaw" (63 : Nat) ({ cls := "NumberStreamsModel", name := "spoil", desc := "(III)Z" } : Jvm.MethodName)) ∈ tsW := ts_in (List.mem_append_right _ (List.mem_append_right _ (List.mem_of_getElem? (i := 26) rfl))) rfl
theorem ml_LW_67 : (Jvm.Cond.methodLink "NumberStreamsLaw" (67 : Nat) ({ cls := "NumberStreamsModel", name := "cut", desc := "(I)Z" } : Jvm.MethodName)) ∈ tsW := ts_in (List.mem_append_right _ (List.mem_append_right _ (List.mem_of_getElem? (i := 30) rfl))) rfl
theorem ml_LW_71 : (Jvm.Cond.methodLink "NumberStreamsLaw" (71 : Nat) ({ cls := "NumberStreamsModel", name := "restore", desc := "(I)I" } : Jvm.MethodName)) ∈ tsW := ts_in (List.mem_append_right _ (List.mem_append_right _ (List.mem_of_getElem? (i := 34) rfl))) rfl
theorem ml_MD_141 : (Jvm.Cond.methodLink "NumberStreamsModel" (141 : Nat) ({ cls := "NumberStreamsModel", name := "twoWords", desc := "(I)J" } : Jvm.MethodName)) ∈ tsW := ts_in (List.mem_append_right _ (List.mem_append_right _ (List.mem_of_getElem? (i := 38) rfl))) rfl
theorem ml_LW_75 : (Jvm.Cond.methodLink "NumberStreamsLaw" (75 : Nat) ({ cls := "NumberStreamsModel", name := "seek", desc := "(I)Z" } : Jvm.MethodName)) ∈ tsW := ts_in (List.mem_append_right _ (List.mem_append_right _ (List.mem_of_getElem? (i := 42) rfl))) rfl
theorem ml_LW_80 : (Jvm.Cond.methodLink "NumberStreamsLaw" (80 : Nat) ({ cls := "NumberStreamsModel", name := "advance", desc := "()I" } : Jvm.MethodName)) ∈ tsW := ts_in (List.mem_append_right _ (List.mem_append_right _ (List.mem_of_getElem? (i := 47) rfl))) rfl
theorem ml_LW_84 : (Jvm.Cond.methodLink "NumberStreamsLaw" (84 : Nat) ({ cls := "NumberStreamsModel", name := "coordinate", desc := "(I)J" } : Jvm.MethodName)) ∈ tsW := ts_in (List.mem_append_right _ (List.mem_append_right _ (List.mem_of_getElem? (i := 51) rfl))) rfl
theorem ml_MD_148 : (Jvm.Cond.methodLink "NumberStreamsModel" (148 : Nat) ({ cls := "NumberStreamsModel", name := "turned", desc := "(II)J" } : Jvm.MethodName)) ∈ tsW := ts_in (List.mem_append_right _ (List.mem_append_right _ (List.mem_of_getElem? (i := 55) rfl))) rfl
theorem ml_MD_152 : (Jvm.Cond.methodLink "NumberStreamsModel" (152 : Nat) ({ cls := "NumberStreamsModel", name := "inner", desc := "(I)V" } : Jvm.MethodName)) ∈ tsW := ts_in (List.mem_append_right _ (List.mem_append_right _ (List.mem_of_getElem? (i := 59) rfl))) rfl
theorem ml_LW_88 : (Jvm.Cond.methodLink "NumberStreamsLaw" (88 : Nat) ({ cls := "NumberStreamsModel", name := "weigh", desc := "(II)Z" } : Jvm.MethodName)) ∈ tsW := ts_in (List.mem_append_right _ (List.mem_append_right _ (List.mem_of_getElem? (i := 63) rfl))) rfl
theorem ml_LW_92 : (Jvm.Cond.methodLink "NumberStreamsLaw" (92 : Nat) ({ cls := "NumberStreamsModel", name := "pick", desc := "(I)I" } : Jvm.MethodName)) ∈ tsW := ts_in (List.mem_append_right _ (List.mem_append_right _ (List.mem_of_getElem? (i := 68) rfl))) rfl
theorem ml_LW_96 : (Jvm.Cond.methodLink "NumberStreamsLaw" (96 : Nat) ({ cls := "NumberStreamsModel", name := "shuffle", desc := "(I)Z" } : Jvm.MethodName)) ∈ tsW := ts_in (List.mem_append_right _ (List.mem_append_right _ (List.mem_of_getElem? (i := 72) rfl))) rfl
theorem ml_LW_100 : (Jvm.Cond.methodLink "NumberStreamsLaw" (100 : Nat) ({ cls := "NumberStreamsModel", name := "card", desc := "(I)I" } : Jvm.MethodName)) ∈ tsW := ts_in (List.mem_append_right _ (List.mem_append_right _ (List.mem_of_getElem? (i := 76) rfl))) rfl
theorem fk_PT_11 : (Jvm.Cond.fieldLink "NumberStreams$Points" (11 : Nat) "NumberStreams$Points" "directions" "[[I") ∈ tsW := ts_in (List.mem_append_left _ (List.mem_of_getElem? (i := 39) rfl)) rfl
theorem fk_PT_14 : (Jvm.Cond.fieldLink "NumberStreams$Points" (14 : Nat) "NumberStreams$Points" "index" "I") ∈ tsW := ts_in (List.mem_append_left _ (List.mem_of_getElem? (i := 40) rfl)) rfl
theorem fk_NS_119 : (Jvm.Cond.fieldLink "NumberStreams" (119 : Nat) "NumberStreams$Points" "index" "I") ∈ tsW := ts_in (List.mem_append_left _ (List.mem_of_getElem? (i := 41) rfl)) rfl
theorem fk_NS_11 : (Jvm.Cond.fieldLink "NumberStreams" (11 : Nat) "NumberStreams" "slots" "[LNumberStreams$Stream;") ∈ tsW := ts_in (List.mem_append_left _ (List.mem_of_getElem? (i := 48) rfl)) rfl
theorem fk_NS_17 : (Jvm.Cond.fieldLink "NumberStreams" (17 : Nat) "NumberStreams" "records" "[LNumberStreams$Saved;") ∈ tsW := ts_in (List.mem_append_left _ (List.mem_of_getElem? (i := 49) rfl)) rfl
theorem fk_NS_21 : (Jvm.Cond.fieldLink "NumberStreams" (21 : Nat) "NumberStreams" "recordCount" "I") ∈ tsW := ts_in (List.mem_append_left _ (List.mem_of_getElem? (i := 50) rfl)) rfl
theorem fk_NS_28 : (Jvm.Cond.fieldLink "NumberStreams" (28 : Nat) "NumberStreams" "points" "LNumberStreams$Points;") ∈ tsW := ts_in (List.mem_append_left _ (List.mem_of_getElem? (i := 51) rfl)) rfl
theorem fk_NS_32 : (Jvm.Cond.fieldLink "NumberStreams" (32 : Nat) "NumberStreams" "weights" "[I") ∈ tsW := ts_in (List.mem_append_left _ (List.mem_of_getElem? (i := 52) rfl)) rfl
theorem fk_NS_36 : (Jvm.Cond.fieldLink "NumberStreams" (36 : Nat) "NumberStreams" "cards" "[I") ∈ tsW := ts_in (List.mem_append_left _ (List.mem_of_getElem? (i := 53) rfl)) rfl
theorem fk_ST_7 : (Jvm.Cond.fieldLink "NumberStreams$Stream" (7 : Nat) "NumberStreams$Stream" "kind" "I") ∈ tsW := ts_in (List.mem_append_left _ (List.mem_of_getElem? (i := 105) rfl)) rfl
theorem fk_SV_18 : (Jvm.Cond.fieldLink "NumberStreams$Saved" (18 : Nat) "NumberStreams$Stream" "kind" "I") ∈ tsW := ts_in (List.mem_append_left _ (List.mem_of_getElem? (i := 106) rfl)) rfl
theorem fk_NS_65 : (Jvm.Cond.fieldLink "NumberStreams" (65 : Nat) "NumberStreams$Stream" "kind" "I") ∈ tsW := ts_in (List.mem_append_left _ (List.mem_of_getElem? (i := 107) rfl)) rfl
theorem fk_ST_13 : (Jvm.Cond.fieldLink "NumberStreams$Stream" (13 : Nat) "NumberStreams$Stream" "first" "J") ∈ tsW := ts_in (List.mem_append_left _ (List.mem_of_getElem? (i := 108) rfl)) rfl
theorem fk_SV_27 : (Jvm.Cond.fieldLink "NumberStreams$Saved" (27 : Nat) "NumberStreams$Stream" "first" "J") ∈ tsW := ts_in (List.mem_append_left _ (List.mem_of_getElem? (i := 109) rfl)) rfl
theorem fk_NS_68 : (Jvm.Cond.fieldLink "NumberStreams" (68 : Nat) "NumberStreams$Stream" "first" "J") ∈ tsW := ts_in (List.mem_append_left _ (List.mem_of_getElem? (i := 110) rfl)) rfl
theorem fk_ST_17 : (Jvm.Cond.fieldLink "NumberStreams$Stream" (17 : Nat) "NumberStreams$Stream" "second" "J") ∈ tsW := ts_in (List.mem_append_left _ (List.mem_of_getElem? (i := 111) rfl)) rfl
theorem fk_SV_39 : (Jvm.Cond.fieldLink "NumberStreams$Saved" (39 : Nat) "NumberStreams$Stream" "second" "J") ∈ tsW := ts_in (List.mem_append_left _ (List.mem_of_getElem? (i := 112) rfl)) rfl
theorem fk_NS_72 : (Jvm.Cond.fieldLink "NumberStreams" (72 : Nat) "NumberStreams$Stream" "second" "J") ∈ tsW := ts_in (List.mem_append_left _ (List.mem_of_getElem? (i := 113) rfl)) rfl
theorem fk_SV_9 : (Jvm.Cond.fieldLink "NumberStreams$Saved" (9 : Nat) "NumberStreams$Saved" "words" "[I") ∈ tsW := ts_in (List.mem_append_left _ (List.mem_of_getElem? (i := 223) rfl)) rfl
theorem fk_NS_105 : (Jvm.Cond.fieldLink "NumberStreams" (105 : Nat) "NumberStreams$Saved" "words" "[I") ∈ tsW := ts_in (List.mem_append_left _ (List.mem_of_getElem? (i := 224) rfl)) rfl
theorem fk_SV_13 : (Jvm.Cond.fieldLink "NumberStreams$Saved" (13 : Nat) "NumberStreams$Saved" "count" "I") ∈ tsW := ts_in (List.mem_append_left _ (List.mem_of_getElem? (i := 225) rfl)) rfl
theorem fk_NS_99 : (Jvm.Cond.fieldLink "NumberStreams" (99 : Nat) "NumberStreams$Saved" "count" "I") ∈ tsW := ts_in (List.mem_append_left _ (List.mem_of_getElem? (i := 226) rfl)) rfl
theorem fk_MD_7 : (Jvm.Cond.fieldLink "NumberStreamsModel" (7 : Nat) "NumberStreamsModel" "kind" "[I") ∈ tsW := ts_in (List.mem_append_right _ (List.mem_append_left _ (List.mem_of_getElem? (i := 104) rfl))) rfl
theorem fk_MD_13 : (Jvm.Cond.fieldLink "NumberStreamsModel" (13 : Nat) "NumberStreamsModel" "first" "[J") ∈ tsW := ts_in (List.mem_append_right _ (List.mem_append_left _ (List.mem_of_getElem? (i := 105) rfl))) rfl
theorem fk_MD_17 : (Jvm.Cond.fieldLink "NumberStreamsModel" (17 : Nat) "NumberStreamsModel" "second" "[J") ∈ tsW := ts_in (List.mem_append_right _ (List.mem_append_left _ (List.mem_of_getElem? (i := 106) rfl))) rfl
theorem fk_MD_50 : (Jvm.Cond.fieldLink "NumberStreamsModel" (50 : Nat) "NumberStreamsModel" "out" "I") ∈ tsW := ts_in (List.mem_append_right _ (List.mem_append_left _ (List.mem_of_getElem? (i := 107) rfl))) rfl
theorem fk_MD_90 : (Jvm.Cond.fieldLink "NumberStreamsModel" (90 : Nat) "NumberStreamsModel" "newKind" "I") ∈ tsW := ts_in (List.mem_append_right _ (List.mem_append_left _ (List.mem_of_getElem? (i := 108) rfl))) rfl
theorem fk_MD_84 : (Jvm.Cond.fieldLink "NumberStreamsModel" (84 : Nat) "NumberStreamsModel" "newFirst" "J") ∈ tsW := ts_in (List.mem_append_right _ (List.mem_append_left _ (List.mem_of_getElem? (i := 109) rfl))) rfl
theorem fk_MD_87 : (Jvm.Cond.fieldLink "NumberStreamsModel" (87 : Nat) "NumberStreamsModel" "newSecond" "J") ∈ tsW := ts_in (List.mem_append_right _ (List.mem_append_left _ (List.mem_of_getElem? (i := 110) rfl))) rfl
theorem fk_MD_43 : (Jvm.Cond.fieldLink "NumberStreamsModel" (43 : Nat) "NumberStreamsModel" "high" "J") ∈ tsW := ts_in (List.mem_append_right _ (List.mem_append_left _ (List.mem_of_getElem? (i := 111) rfl))) rfl
theorem fk_MD_39 : (Jvm.Cond.fieldLink "NumberStreamsModel" (39 : Nat) "NumberStreamsModel" "low" "J") ∈ tsW := ts_in (List.mem_append_right _ (List.mem_append_left _ (List.mem_of_getElem? (i := 112) rfl))) rfl
theorem fk_MD_123 : (Jvm.Cond.fieldLink "NumberStreamsModel" (123 : Nat) "NumberStreamsModel" "records" "I") ∈ tsW := ts_in (List.mem_append_right _ (List.mem_append_left _ (List.mem_of_getElem? (i := 113) rfl))) rfl
theorem fk_MD_20 : (Jvm.Cond.fieldLink "NumberStreamsModel" (20 : Nat) "NumberStreamsModel" "size" "[I") ∈ tsW := ts_in (List.mem_append_right _ (List.mem_append_left _ (List.mem_of_getElem? (i := 114) rfl))) rfl
theorem fk_MD_23 : (Jvm.Cond.fieldLink "NumberStreamsModel" (23 : Nat) "NumberStreamsModel" "stored" "[I") ∈ tsW := ts_in (List.mem_append_right _ (List.mem_append_left _ (List.mem_of_getElem? (i := 115) rfl))) rfl
theorem fk_MD_145 : (Jvm.Cond.fieldLink "NumberStreamsModel" (145 : Nat) "NumberStreamsModel" "index" "I") ∈ tsW := ts_in (List.mem_append_right _ (List.mem_append_left _ (List.mem_of_getElem? (i := 116) rfl))) rfl
theorem fk_MD_26 : (Jvm.Cond.fieldLink "NumberStreamsModel" (26 : Nat) "NumberStreamsModel" "m" "[I") ∈ tsW := ts_in (List.mem_append_right _ (List.mem_append_left _ (List.mem_of_getElem? (i := 117) rfl))) rfl
theorem fk_MD_29 : (Jvm.Cond.fieldLink "NumberStreamsModel" (29 : Nat) "NumberStreamsModel" "weight" "[I") ∈ tsW := ts_in (List.mem_append_right _ (List.mem_append_left _ (List.mem_of_getElem? (i := 118) rfl))) rfl
theorem fk_MD_32 : (Jvm.Cond.fieldLink "NumberStreamsModel" (32 : Nat) "NumberStreamsModel" "cards" "[I") ∈ tsW := ts_in (List.mem_append_right _ (List.mem_append_left _ (List.mem_of_getElem? (i := 119) rfl))) rfl
theorem kc_ST_67 : (Jvm.Cond.constant "NumberStreams$Stream" (67 : Nat) (-1640531525 : Int32)) ∈ tsW := ts_in (List.mem_append_left _ (List.mem_of_getElem? (i := 149) rfl)) rfl
theorem kc_ST_76 : (Jvm.Cond.constant "NumberStreams$Stream" (76 : Nat) (1640531527 : Int32)) ∈ tsW := ts_in (List.mem_append_left _ (List.mem_of_getElem? (i := 158) rfl)) rfl
theorem kc_NS_84 : (Jvm.Cond.constant "NumberStreams" (84 : Nat) (65535 : Int32)) ∈ tsW := ts_in (List.mem_append_left _ (List.mem_of_getElem? (i := 179) rfl)) rfl
theorem kc_SV_17 : (Jvm.Cond.constant "NumberStreams$Saved" (17 : Nat) (24301824 : Int32)) ∈ tsW := ts_in (List.mem_append_left _ (List.mem_of_getElem? (i := 204) rfl)) rfl
theorem kc_NS_118 : (Jvm.Cond.constant "NumberStreams" (118 : Nat) (1048575 : Int32)) ∈ tsW := ts_in (List.mem_append_right _ (List.mem_append_left _ (List.mem_of_getElem? (i := 56) rfl))) rfl
theorem kc_NS_129 : (Jvm.Cond.constant "NumberStreams" (129 : Nat) (1000000 : Int32)) ∈ tsW := ts_in (List.mem_append_right _ (List.mem_append_left _ (List.mem_of_getElem? (i := 77) rfl))) rfl
theorem kc_MD_56 : (Jvm.Cond.constant "NumberStreamsModel" (56 : Nat) (-1640531525 : Int32)) ∈ tsW := ts_in (List.mem_append_right _ (List.mem_append_left _ (List.mem_of_getElem? (i := 204) rfl))) rfl
theorem kc_MD_81 : (Jvm.Cond.constant "NumberStreamsModel" (81 : Nat) (-1640531527 : Int32)) ∈ tsW := ts_in (List.mem_append_right _ (List.mem_append_left _ (List.mem_of_getElem? (i := 215) rfl))) rfl
theorem kc_MD_119 : (Jvm.Cond.constant "NumberStreamsModel" (119 : Nat) (65535 : Int32)) ∈ tsW := ts_in (List.mem_append_right _ (List.mem_append_left _ (List.mem_of_getElem? (i := 224) rfl))) rfl
theorem kc_MD_129 : (Jvm.Cond.constant "NumberStreamsModel" (129 : Nat) (24301824 : Int32)) ∈ tsW := ts_in (List.mem_append_right _ (List.mem_append_right _ (List.mem_of_getElem? (i := 1) rfl))) rfl
theorem kc_MD_144 : (Jvm.Cond.constant "NumberStreamsModel" (144 : Nat) (1048575 : Int32)) ∈ tsW := ts_in (List.mem_append_right _ (List.mem_append_right _ (List.mem_of_getElem? (i := 46) rfl))) rfl
theorem kc_MD_155 : (Jvm.Cond.constant "NumberStreamsModel" (155 : Nat) (1000000 : Int32)) ∈ tsW := ts_in (List.mem_append_right _ (List.mem_append_right _ (List.mem_of_getElem? (i := 67) rfl))) rfl
theorem kc_NS_136 : (Jvm.Cond.constantLong "NumberStreams" (136 : Nat) (4294967295 : Int64)) ∈ tsW := ts_in (List.mem_append_left _ (List.mem_of_getElem? (i := 87) rfl)) rfl
theorem kc_ST_26 : (Jvm.Cond.constantLong "NumberStreams$Stream" (26 : Nat) (2 : Int64)) ∈ tsW := ts_in (List.mem_append_left _ (List.mem_of_getElem? (i := 91) rfl)) rfl
theorem kc_ST_36 : (Jvm.Cond.constantLong "NumberStreams$Stream" (36 : Nat) (2147483647 : Int64)) ∈ tsW := ts_in (List.mem_append_left _ (List.mem_of_getElem? (i := 99) rfl)) rfl
theorem kc_NS_75 : (Jvm.Cond.constantLong "NumberStreams" (75 : Nat) (-1 : Int64)) ∈ tsW := ts_in (List.mem_append_left _ (List.mem_of_getElem? (i := 137) rfl)) rfl
theorem kc_ST_74 : (Jvm.Cond.constantLong "NumberStreams$Stream" (74 : Nat) (3528905107 : Int64)) ∈ tsW := ts_in (List.mem_append_left _ (List.mem_of_getElem? (i := 157) rfl)) rfl
theorem kc_ST_77 : (Jvm.Cond.constantLong "NumberStreams$Stream" (77 : Nat) (1403580 : Int64)) ∈ tsW := ts_in (List.mem_append_left _ (List.mem_of_getElem? (i := 163) rfl)) rfl
theorem kc_ST_79 : (Jvm.Cond.constantLong "NumberStreams$Stream" (79 : Nat) (810728 : Int64)) ∈ tsW := ts_in (List.mem_append_left _ (List.mem_of_getElem? (i := 164) rfl)) rfl
theorem kc_ST_50 : (Jvm.Cond.constantLong "NumberStreams$Stream" (50 : Nat) (6364136223846793005 : Int64)) ∈ tsW := ts_in (List.mem_append_left _ (List.mem_of_getElem? (i := 169) rfl)) rfl
theorem kc_ST_55 : (Jvm.Cond.constantLong "NumberStreams$Stream" (55 : Nat) (9223372036854775807 : Int64)) ∈ tsW := ts_in (List.mem_append_left _ (List.mem_of_getElem? (i := 174) rfl)) rfl
theorem kc_ST_45 : (Jvm.Cond.constantLong "NumberStreams$Stream" (45 : Nat) (4294967296 : Int64)) ∈ tsW := ts_in (List.mem_append_left _ (List.mem_of_getElem? (i := 189) rfl)) rfl
theorem kc_MD_35 : (Jvm.Cond.constantLong "NumberStreamsModel" (35 : Nat) (4294967296 : Int64)) ∈ tsW := ts_in (List.mem_append_right _ (List.mem_append_left _ (List.mem_of_getElem? (i := 165) rfl))) rfl
theorem kc_MD_69 : (Jvm.Cond.constantLong "NumberStreamsModel" (69 : Nat) (2 : Int64)) ∈ tsW := ts_in (List.mem_append_right _ (List.mem_append_left _ (List.mem_of_getElem? (i := 166) rfl))) rfl
theorem kc_MD_82 : (Jvm.Cond.constantLong "NumberStreamsModel" (82 : Nat) (2147483646 : Int64)) ∈ tsW := ts_in (List.mem_append_right _ (List.mem_append_left _ (List.mem_of_getElem? (i := 174) rfl))) rfl
theorem kc_MD_113 : (Jvm.Cond.constantLong "NumberStreamsModel" (113 : Nat) (-1 : Int64)) ∈ tsW := ts_in (List.mem_append_right _ (List.mem_append_left _ (List.mem_of_getElem? (i := 195) rfl))) rfl
theorem kc_MD_54 : (Jvm.Cond.constantLong "NumberStreamsModel" (54 : Nat) (6364136223846793005 : Int64)) ∈ tsW := ts_in (List.mem_append_right _ (List.mem_append_left _ (List.mem_of_getElem? (i := 203) rfl))) rfl
theorem kc_MD_75 : (Jvm.Cond.constantLong "NumberStreamsModel" (75 : Nat) (3528905107 : Int64)) ∈ tsW := ts_in (List.mem_append_right _ (List.mem_append_left _ (List.mem_of_getElem? (i := 209) rfl))) rfl
theorem kc_MD_37 : (Jvm.Cond.constantLong "NumberStreamsModel" (37 : Nat) (65536 : Int64)) ∈ tsW := ts_in (List.mem_append_right _ (List.mem_append_left _ (List.mem_of_getElem? (i := 214) rfl))) rfl
theorem kc_MD_61 : (Jvm.Cond.constantLong "NumberStreamsModel" (61 : Nat) (9223372036854775807 : Int64)) ∈ tsW := ts_in (List.mem_append_right _ (List.mem_append_left _ (List.mem_of_getElem? (i := 216) rfl))) rfl
theorem kc_MD_63 : (Jvm.Cond.constantLong "NumberStreamsModel" (63 : Nat) (1403580 : Int64)) ∈ tsW := ts_in (List.mem_append_right _ (List.mem_append_left _ (List.mem_of_getElem? (i := 217) rfl))) rfl
theorem kc_MD_65 : (Jvm.Cond.constantLong "NumberStreamsModel" (65 : Nat) (810728 : Int64)) ∈ tsW := ts_in (List.mem_append_right _ (List.mem_append_left _ (List.mem_of_getElem? (i := 218) rfl))) rfl
theorem kc_MD_67 : (Jvm.Cond.constantLong "NumberStreamsModel" (67 : Nat) (2147483647 : Int64)) ∈ tsW := ts_in (List.mem_append_right _ (List.mem_append_left _ (List.mem_of_getElem? (i := 219) rfl))) rfl
theorem cl_LW_7 : (Jvm.Cond.classLink "NumberStreamsLaw" (7 : Nat) "NumberStreams") ∈ tsW := ts_in (List.mem_append_left _ (List.mem_of_getElem? (i := 7) rfl)) rfl
theorem cl_NS_9 : (Jvm.Cond.classLink "NumberStreams" (9 : Nat) "NumberStreams$Stream") ∈ tsW := ts_in (List.mem_append_left _ (List.mem_of_getElem? (i := 15) rfl)) rfl
theorem cl_NS_15 : (Jvm.Cond.classLink "NumberStreams" (15 : Nat) "NumberStreams$Saved") ∈ tsW := ts_in (List.mem_append_left _ (List.mem_of_getElem? (i := 17) rfl)) rfl
theorem cl_NS_25 : (Jvm.Cond.classLink "NumberStreams" (25 : Nat) "NumberStreams$Points") ∈ tsW := ts_in (List.mem_append_left _ (List.mem_of_getElem? (i := 19) rfl)) rfl
theorem cl_PT_9 : (Jvm.Cond.classLink "NumberStreams$Points" (9 : Nat) "[[I") ∈ tsW := ts_in (List.mem_append_left _ (List.mem_of_getElem? (i := 25) rfl)) rfl
theorem cl_LW_10 : (Jvm.Cond.classLink "NumberStreamsLaw" (10 : Nat) "NumberStreamsModel") ∈ tsW := ts_in (List.mem_append_right _ (List.mem_append_left _ (List.mem_of_getElem? (i := 98) rfl))) rfl
theorem ib_NS : (Jvm.Cond.instantiable "NumberStreams" (6 : Nat)) ∈ tsW := ts_in (List.mem_append_left _ (List.mem_of_getElem? (i := 8) rfl)) rfl
theorem ib_PT : (Jvm.Cond.instantiable "NumberStreams$Points" (2 : Nat)) ∈ tsW := ts_in (List.mem_append_left _ (List.mem_of_getElem? (i := 20) rfl)) rfl
theorem ib_ST : (Jvm.Cond.instantiable "NumberStreams$Stream" (3 : Nat)) ∈ tsW := ts_in (List.mem_append_left _ (List.mem_of_getElem? (i := 100) rfl)) rfl
theorem ib_SV : (Jvm.Cond.instantiable "NumberStreams$Saved" (2 : Nat)) ∈ tsW := ts_in (List.mem_append_left _ (List.mem_of_getElem? (i := 199) rfl)) rfl
theorem ib_MD : (Jvm.Cond.instantiable "NumberStreamsModel" (16 : Nat)) ∈ tsW := ts_in (List.mem_append_right _ (List.mem_append_left _ (List.mem_of_getElem? (i := 99) rfl))) rfl
theorem ac_int : (Jvm.Cond.arrayClass Jvm.ClassFile.FieldType.int) ∈ tsW := ts_in (List.mem_append_left _ (List.mem_of_getElem? (i := 47) rfl)) rfl
theorem ac_long : (Jvm.Cond.arrayClass Jvm.ClassFile.FieldType.long) ∈ tsW := ts_in (List.mem_append_right _ (List.mem_append_left _ (List.mem_of_getElem? (i := 153) rfl))) rfl
theorem se_PT_startRow : Cond.selects "NumberStreams$Points" y_PT_startRow y_PT_startRow ∈ tsW := ts_sel (List.mem_of_getElem? (i := 0) rfl) rfl
theorem se_PT_growRow : Cond.selects "NumberStreams$Points" y_PT_growRow y_PT_growRow ∈ tsW := ts_sel (List.mem_of_getElem? (i := 1) rfl) rfl
theorem se_PT_alignRow : Cond.selects "NumberStreams$Points" y_PT_alignRow y_PT_alignRow ∈ tsW := ts_sel (List.mem_of_getElem? (i := 2) rfl) rfl
theorem se_NS_leastFreeSlot : Cond.selects "NumberStreams" y_NS_leastFreeSlot y_NS_leastFreeSlot ∈ tsW := ts_sel (List.mem_of_getElem? (i := 3) rfl) rfl
theorem se_NS_streamAt : Cond.selects "NumberStreams" y_NS_streamAt y_NS_streamAt ∈ tsW := ts_sel (List.mem_of_getElem? (i := 4) rfl) rfl
theorem se_ST_output : Cond.selects "NumberStreams$Stream" y_ST_output y_ST_output ∈ tsW := ts_sel (List.mem_of_getElem? (i := 5) rfl) rfl
theorem se_ST_mixedCounter : Cond.selects "NumberStreams$Stream" y_ST_mixedCounter y_ST_mixedCounter ∈ tsW := ts_sel (List.mem_of_getElem? (i := 6) rfl) rfl
theorem se_ST_nextRemainder : Cond.selects "NumberStreams$Stream" y_ST_nextRemainder y_ST_nextRemainder ∈ tsW := ts_sel (List.mem_of_getElem? (i := 7) rfl) rfl
theorem se_ST_moveRotations : Cond.selects "NumberStreams$Stream" y_ST_moveRotations y_ST_moveRotations ∈ tsW := ts_sel (List.mem_of_getElem? (i := 8) rfl) rfl
theorem se_SV_append : Cond.selects "NumberStreams$Saved" y_SV_append y_SV_append ∈ tsW := ts_sel (List.mem_of_getElem? (i := 9) rfl) rfl
theorem se_SV_appendPart : Cond.selects "NumberStreams$Saved" y_SV_appendPart y_SV_appendPart ∈ tsW := ts_sel (List.mem_of_getElem? (i := 10) rfl) rfl
theorem se_SV_checkOfFirst : Cond.selects "NumberStreams$Saved" y_SV_checkOfFirst y_SV_checkOfFirst ∈ tsW := ts_sel (List.mem_of_getElem? (i := 11) rfl) rfl
theorem se_NS_recordAt : Cond.selects "NumberStreams" y_NS_recordAt y_NS_recordAt ∈ tsW := ts_sel (List.mem_of_getElem? (i := 12) rfl) rfl
theorem se_SV_partAt : Cond.selects "NumberStreams$Saved" y_SV_partAt y_SV_partAt ∈ tsW := ts_sel (List.mem_of_getElem? (i := 13) rfl) rfl
theorem se_NS_totalWeight : Cond.selects "NumberStreams" y_NS_totalWeight y_NS_totalWeight ∈ tsW := ts_sel (List.mem_of_getElem? (i := 14) rfl) rfl
theorem se_NS_outcomeAt : Cond.selects "NumberStreams" y_NS_outcomeAt y_NS_outcomeAt ∈ tsW := ts_sel (List.mem_of_getElem? (i := 15) rfl) rfl
theorem se_MD_freeSlot : Cond.selects "NumberStreamsModel" y_MD_freeSlot y_MD_freeSlot ∈ tsW := ts_sel (List.mem_of_getElem? (i := 16) rfl) rfl
theorem se_MD_sound : Cond.selects "NumberStreamsModel" y_MD_sound y_MD_sound ∈ tsW := ts_sel (List.mem_of_getElem? (i := 17) rfl) rfl
theorem se_MD_settle : Cond.selects "NumberStreamsModel" y_MD_settle y_MD_settle ∈ tsW := ts_sel (List.mem_of_getElem? (i := 18) rfl) rfl
theorem se_MD_holds : Cond.selects "NumberStreamsModel" y_MD_holds y_MD_holds ∈ tsW := ts_sel (List.mem_of_getElem? (i := 19) rfl) rfl
theorem se_MD_step : Cond.selects "NumberStreamsModel" y_MD_step y_MD_step ∈ tsW := ts_sel (List.mem_of_getElem? (i := 20) rfl) rfl
theorem se_MD_rounds : Cond.selects "NumberStreamsModel" y_MD_rounds y_MD_rounds ∈ tsW := ts_sel (List.mem_of_getElem? (i := 21) rfl) rfl
theorem se_MD_multiply : Cond.selects "NumberStreamsModel" y_MD_multiply y_MD_multiply ∈ tsW := ts_sel (List.mem_of_getElem? (i := 22) rfl) rfl
theorem se_MD_below : Cond.selects "NumberStreamsModel" y_MD_below y_MD_below ∈ tsW := ts_sel (List.mem_of_getElem? (i := 23) rfl) rfl
theorem se_MD_append : Cond.selects "NumberStreamsModel" y_MD_append y_MD_append ∈ tsW := ts_sel (List.mem_of_getElem? (i := 24) rfl) rfl
theorem se_MD_appendLong : Cond.selects "NumberStreamsModel" y_MD_appendLong y_MD_appendLong ∈ tsW := ts_sel (List.mem_of_getElem? (i := 25) rfl) rfl
theorem se_MD_check : Cond.selects "NumberStreamsModel" y_MD_check y_MD_check ∈ tsW := ts_sel (List.mem_of_getElem? (i := 26) rfl) rfl
theorem se_MD_isWord : Cond.selects "NumberStreamsModel" y_MD_isWord y_MD_isWord ∈ tsW := ts_sel (List.mem_of_getElem? (i := 27) rfl) rfl
theorem se_MD_twoWords : Cond.selects "NumberStreamsModel" y_MD_twoWords y_MD_twoWords ∈ tsW := ts_sel (List.mem_of_getElem? (i := 28) rfl) rfl
theorem se_MD_turned : Cond.selects "NumberStreamsModel" y_MD_turned y_MD_turned ∈ tsW := ts_sel (List.mem_of_getElem? (i := 29) rfl) rfl
theorem se_MD_inner : Cond.selects "NumberStreamsModel" y_MD_inner y_MD_inner ∈ tsW := ts_sel (List.mem_of_getElem? (i := 30) rfl) rfl
theorem mn_ST_20 : (Jvm.Cond.methodLinkNest "NumberStreams$Stream" (20 : Nat) ({ cls := "NumberStreams", name := "joined", desc := "(II)J" } : Jvm.MethodName) "NumberStreams") ∈ lw_tbl := List.mem_append_right _ (List.mem_append_left _ (List.mem_of_getElem? (i := 81) rfl))
theorem mn_ST_28 : (Jvm.Cond.methodLinkNest "NumberStreams$Stream" (28 : Nat) ({ cls := "NumberStreams", name := "asNumber", desc := "(I)J" } : Jvm.MethodName) "NumberStreams") ∈ lw_tbl := List.mem_append_right _ (List.mem_append_left _ (List.mem_of_getElem? (i := 92) rfl))
theorem mn_SV_75 : (Jvm.Cond.methodLinkNest "NumberStreams$Saved" (75 : Nat) ({ cls := "NumberStreams", name := "joined", desc := "(II)J" } : Jvm.MethodName) "NumberStreams") ∈ lw_tbl := List.mem_append_right _ (List.mem_append_right _ (List.mem_append_left _ (List.mem_of_getElem? (i := 43) rfl)))
theorem ao_ST : (Jvm.Cond.arrayOver (Jvm.ClassFile.FieldType.object "NumberStreams$Stream")) ∈ lw_tbl := List.mem_append_right _ (List.mem_append_left _ (List.mem_of_getElem? (i := 16) rfl))
theorem ao_SV : (Jvm.Cond.arrayOver (Jvm.ClassFile.FieldType.object "NumberStreams$Saved")) ∈ lw_tbl := List.mem_append_right _ (List.mem_append_left _ (List.mem_of_getElem? (i := 18) rfl))
theorem ao_g : (Jvm.Cond.arrayOver (Jvm.ClassFile.FieldType.array Jvm.ClassFile.FieldType.int)) ∈ lw_tbl := List.mem_append_right _ (List.mem_append_left _ (List.mem_of_getElem? (i := 26) rfl))
theorem co_OB_init : (Jvm.Cond.code ({ cls := "java/lang/Object", name := "<init>", desc := "()V" } : Jvm.MethodName) object_method_1_code (1 : Nat) (Option.none : Option Jvm.ClassFile.FieldType)) ∈ tsW := ts_in (List.mem_append_left _ (List.mem_of_getElem? (i := 14) rfl)) rfl
theorem li_NS : ∀ w ∈ u_ws "NumberStreams" T_NS 6, w ∈ tsW := by
  intro w h
  obtain ⟨k, hk, rfl⟩ := List.mem_map.mp h
  have hk := List.mem_range.mp hk
  rcases (by omega : k = 0 ∨ k = 1 ∨ k = 2 ∨ k = 3 ∨ k = 4 ∨ k = 5) with rfl | rfl | rfl | rfl | rfl | rfl
  · exact ts_in (List.mem_append_left _ (List.mem_of_getElem? (i := 54) rfl)) rfl
  · exact ts_in (List.mem_append_left _ (List.mem_of_getElem? (i := 56) rfl)) rfl
  · exact ts_in (List.mem_append_left _ (List.mem_of_getElem? (i := 58) rfl)) rfl
  · exact ts_in (List.mem_append_left _ (List.mem_of_getElem? (i := 60) rfl)) rfl
  · exact ts_in (List.mem_append_left _ (List.mem_of_getElem? (i := 62) rfl)) rfl
  · exact ts_in (List.mem_append_left _ (List.mem_of_getElem? (i := 64) rfl)) rfl
theorem li_PT : ∀ w ∈ u_ws "NumberStreams$Points" T_PT 2, w ∈ tsW := by
  intro w h
  obtain ⟨k, hk, rfl⟩ := List.mem_map.mp h
  have hk := List.mem_range.mp hk
  rcases (by omega : k = 0 ∨ k = 1) with rfl | rfl
  · exact ts_in (List.mem_append_left _ (List.mem_of_getElem? (i := 42) rfl)) rfl
  · exact ts_in (List.mem_append_left _ (List.mem_of_getElem? (i := 44) rfl)) rfl
theorem li_SV : ∀ w ∈ u_ws "NumberStreams$Saved" T_SV 2, w ∈ tsW := by
  intro w h
  obtain ⟨k, hk, rfl⟩ := List.mem_map.mp h
  have hk := List.mem_range.mp hk
  rcases (by omega : k = 0 ∨ k = 1) with rfl | rfl
  · exact ts_in (List.mem_append_left _ (List.mem_of_getElem? (i := 227) rfl)) rfl
  · exact ts_in (List.mem_append_left _ (List.mem_of_getElem? (i := 229) rfl)) rfl
theorem li_ST : ∀ w ∈ u_ws "NumberStreams$Stream" T_ST 3, w ∈ tsW := by
  intro w h
  obtain ⟨k, hk, rfl⟩ := List.mem_map.mp h
  have hk := List.mem_range.mp hk
  rcases (by omega : k = 0 ∨ k = 1 ∨ k = 2) with rfl | rfl | rfl
  · exact ts_in (List.mem_append_left _ (List.mem_of_getElem? (i := 114) rfl)) rfl
  · exact ts_in (List.mem_append_left _ (List.mem_of_getElem? (i := 116) rfl)) rfl
  · exact ts_in (List.mem_append_left _ (List.mem_of_getElem? (i := 118) rfl)) rfl
theorem li_MD : ∀ w ∈ u_ws "NumberStreamsModel" T_MD 16, w ∈ tsW := by
  intro w h
  obtain ⟨k, hk, rfl⟩ := List.mem_map.mp h
  have hk := List.mem_range.mp hk
  rcases (by omega : k = 0 ∨ k = 1 ∨ k = 2 ∨ k = 3 ∨ k = 4 ∨ k = 5 ∨ k = 6 ∨ k = 7 ∨ k = 8 ∨ k = 9 ∨ k = 10 ∨ k = 11 ∨ k = 12 ∨ k = 13 ∨ k = 14 ∨ k = 15) with rfl | rfl | rfl | rfl | rfl | rfl | rfl | rfl | rfl | rfl | rfl | rfl | rfl | rfl | rfl | rfl
  · exact ts_in (List.mem_append_right _ (List.mem_append_left _ (List.mem_of_getElem? (i := 120) rfl))) rfl
  · exact ts_in (List.mem_append_right _ (List.mem_append_left _ (List.mem_of_getElem? (i := 122) rfl))) rfl
  · exact ts_in (List.mem_append_right _ (List.mem_append_left _ (List.mem_of_getElem? (i := 124) rfl))) rfl
  · exact ts_in (List.mem_append_right _ (List.mem_append_left _ (List.mem_of_getElem? (i := 126) rfl))) rfl
  · exact ts_in (List.mem_append_right _ (List.mem_append_left _ (List.mem_of_getElem? (i := 128) rfl))) rfl
  · exact ts_in (List.mem_append_right _ (List.mem_append_left _ (List.mem_of_getElem? (i := 130) rfl))) rfl
  · exact ts_in (List.mem_append_right _ (List.mem_append_left _ (List.mem_of_getElem? (i := 132) rfl))) rfl
  · exact ts_in (List.mem_append_right _ (List.mem_append_left _ (List.mem_of_getElem? (i := 134) rfl))) rfl
  · exact ts_in (List.mem_append_right _ (List.mem_append_left _ (List.mem_of_getElem? (i := 136) rfl))) rfl
  · exact ts_in (List.mem_append_right _ (List.mem_append_left _ (List.mem_of_getElem? (i := 138) rfl))) rfl
  · exact ts_in (List.mem_append_right _ (List.mem_append_left _ (List.mem_of_getElem? (i := 140) rfl))) rfl
  · exact ts_in (List.mem_append_right _ (List.mem_append_left _ (List.mem_of_getElem? (i := 142) rfl))) rfl
  · exact ts_in (List.mem_append_right _ (List.mem_append_left _ (List.mem_of_getElem? (i := 144) rfl))) rfl
  · exact ts_in (List.mem_append_right _ (List.mem_append_left _ (List.mem_of_getElem? (i := 146) rfl))) rfl
  · exact ts_in (List.mem_append_right _ (List.mem_append_left _ (List.mem_of_getElem? (i := 148) rfl))) rfl
  · exact ts_in (List.mem_append_right _ (List.mem_append_left _ (List.mem_of_getElem? (i := 150) rfl))) rfl
end
section
/-! Decode rows, printed by wip/whole/names.py. -/
theorem d_NS_init_0 : decode prog_1_method_1_code 0 = .ok (.aload_n 0, 1) := by decide +kernel
theorem d_NS_init_1 : decode prog_1_method_1_code 1 = .ok (.invokespecial 1, 3) := by decide +kernel
theorem d_NS_init_4 : decode prog_1_method_1_code 4 = .ok (.aload_n 0, 1) := by decide +kernel
theorem d_NS_init_5 : decode prog_1_method_1_code 5 = .ok (.bipush 8, 2) := by decide +kernel
theorem d_NS_init_7 : decode prog_1_method_1_code 7 = .ok (.anewarray 9, 3) := by decide +kernel
theorem d_NS_init_10 : decode prog_1_method_1_code 10 = .ok (.putfield 11, 3) := by decide +kernel
theorem d_NS_init_13 : decode prog_1_method_1_code 13 = .ok (.aload_n 0, 1) := by decide +kernel
theorem d_NS_init_14 : decode prog_1_method_1_code 14 = .ok (.bipush 6, 2) := by decide +kernel
theorem d_NS_init_16 : decode prog_1_method_1_code 16 = .ok (.anewarray 15, 3) := by decide +kernel
theorem d_NS_init_19 : decode prog_1_method_1_code 19 = .ok (.putfield 17, 3) := by decide +kernel
theorem d_NS_init_22 : decode prog_1_method_1_code 22 = .ok (.aload_n 0, 1) := by decide +kernel
theorem d_NS_init_23 : decode prog_1_method_1_code 23 = .ok (.iconst 0, 1) := by decide +kernel
theorem d_NS_init_24 : decode prog_1_method_1_code 24 = .ok (.putfield 21, 3) := by decide +kernel
theorem d_NS_init_27 : decode prog_1_method_1_code 27 = .ok (.aload_n 0, 1) := by decide +kernel
theorem d_NS_init_28 : decode prog_1_method_1_code 28 = .ok (.new 25, 3) := by decide +kernel
theorem d_NS_init_31 : decode prog_1_method_1_code 31 = .ok (.dup, 1) := by decide +kernel
theorem d_NS_init_32 : decode prog_1_method_1_code 32 = .ok (.invokespecial 27, 3) := by decide +kernel
theorem d_NS_init_35 : decode prog_1_method_1_code 35 = .ok (.putfield 28, 3) := by decide +kernel
theorem d_NS_init_38 : decode prog_1_method_1_code 38 = .ok (.aload_n 0, 1) := by decide +kernel
theorem d_NS_init_39 : decode prog_1_method_1_code 39 = .ok (.bipush 16, 2) := by decide +kernel
theorem d_NS_init_41 : decode prog_1_method_1_code 41 = .ok (.newarray .int, 2) := by decide +kernel
theorem d_NS_init_43 : decode prog_1_method_1_code 43 = .ok (.putfield 32, 3) := by decide +kernel
theorem d_NS_init_46 : decode prog_1_method_1_code 46 = .ok (.aload_n 0, 1) := by decide +kernel
theorem d_NS_init_47 : decode prog_1_method_1_code 47 = .ok (.bipush 16, 2) := by decide +kernel
theorem d_NS_init_49 : decode prog_1_method_1_code 49 = .ok (.newarray .int, 2) := by decide +kernel
theorem d_NS_init_51 : decode prog_1_method_1_code 51 = .ok (.putfield 36, 3) := by decide +kernel
theorem d_NS_init_54 : decode prog_1_method_1_code 54 = .ok (.iconst 0, 1) := by decide +kernel
theorem d_NS_init_55 : decode prog_1_method_1_code 55 = .ok (.istore_n 1, 1) := by decide +kernel
theorem d_NS_init_56 : decode prog_1_method_1_code 56 = .ok (.iload_n 1, 1) := by decide +kernel
theorem d_NS_init_57 : decode prog_1_method_1_code 57 = .ok (.bipush 16, 2) := by decide +kernel
theorem d_NS_init_59 : decode prog_1_method_1_code 59 = .ok (.if_icmp .ge 16, 3) := by decide +kernel
theorem d_NS_init_62 : decode prog_1_method_1_code 62 = .ok (.aload_n 0, 1) := by decide +kernel
theorem d_NS_init_63 : decode prog_1_method_1_code 63 = .ok (.getfield 36, 3) := by decide +kernel
theorem d_NS_init_66 : decode prog_1_method_1_code 66 = .ok (.iload_n 1, 1) := by decide +kernel
theorem d_NS_init_67 : decode prog_1_method_1_code 67 = .ok (.iload_n 1, 1) := by decide +kernel
theorem d_NS_init_68 : decode prog_1_method_1_code 68 = .ok (.iastore, 1) := by decide +kernel
theorem d_NS_init_69 : decode prog_1_method_1_code 69 = .ok (.iinc 1 1, 3) := by decide +kernel
theorem d_NS_init_72 : decode prog_1_method_1_code 72 = .ok (.goto (-16), 3) := by decide +kernel
theorem d_NS_init_75 : decode prog_1_method_1_code 75 = .ok (.return_, 1) := by decide +kernel
theorem d_PT_init_0 : decode prog_2_method_1_code 0 = .ok (.aload_n 0, 1) := by decide +kernel
theorem d_PT_init_1 : decode prog_2_method_1_code 1 = .ok (.invokespecial 1, 3) := by decide +kernel
theorem d_PT_init_4 : decode prog_2_method_1_code 4 = .ok (.aload_n 0, 1) := by decide +kernel
theorem d_PT_init_5 : decode prog_2_method_1_code 5 = .ok (.iconst 4, 1) := by decide +kernel
theorem d_PT_init_6 : decode prog_2_method_1_code 6 = .ok (.bipush 20, 2) := by decide +kernel
theorem d_PT_init_8 : decode prog_2_method_1_code 8 = .ok (.multianewarray 9 2, 4) := by decide +kernel
theorem d_PT_init_12 : decode prog_2_method_1_code 12 = .ok (.putfield 11, 3) := by decide +kernel
theorem d_PT_init_15 : decode prog_2_method_1_code 15 = .ok (.aload_n 0, 1) := by decide +kernel
theorem d_PT_init_16 : decode prog_2_method_1_code 16 = .ok (.iconst 0, 1) := by decide +kernel
theorem d_PT_init_17 : decode prog_2_method_1_code 17 = .ok (.putfield 14, 3) := by decide +kernel
theorem d_PT_init_20 : decode prog_2_method_1_code 20 = .ok (.iconst 0, 1) := by decide +kernel
theorem d_PT_init_21 : decode prog_2_method_1_code 21 = .ok (.istore_n 1, 1) := by decide +kernel
theorem d_PT_init_22 : decode prog_2_method_1_code 22 = .ok (.iload_n 1, 1) := by decide +kernel
theorem d_PT_init_23 : decode prog_2_method_1_code 23 = .ok (.bipush 20, 2) := by decide +kernel
theorem d_PT_init_25 : decode prog_2_method_1_code 25 = .ok (.if_icmp .ge 18, 3) := by decide +kernel
theorem d_PT_init_28 : decode prog_2_method_1_code 28 = .ok (.aload_n 0, 1) := by decide +kernel
theorem d_PT_init_29 : decode prog_2_method_1_code 29 = .ok (.getfield 11, 3) := by decide +kernel
theorem d_PT_init_32 : decode prog_2_method_1_code 32 = .ok (.iconst 0, 1) := by decide +kernel
theorem d_PT_init_33 : decode prog_2_method_1_code 33 = .ok (.aaload, 1) := by decide +kernel
theorem d_PT_init_34 : decode prog_2_method_1_code 34 = .ok (.iload_n 1, 1) := by decide +kernel
theorem d_PT_init_35 : decode prog_2_method_1_code 35 = .ok (.iconst 1, 1) := by decide +kernel
theorem d_PT_init_36 : decode prog_2_method_1_code 36 = .ok (.iastore, 1) := by decide +kernel
theorem d_PT_init_37 : decode prog_2_method_1_code 37 = .ok (.iinc 1 1, 3) := by decide +kernel
theorem d_PT_init_40 : decode prog_2_method_1_code 40 = .ok (.goto (-18), 3) := by decide +kernel
theorem d_PT_init_43 : decode prog_2_method_1_code 43 = .ok (.aload_n 0, 1) := by decide +kernel
theorem d_PT_init_44 : decode prog_2_method_1_code 44 = .ok (.iconst 1, 1) := by decide +kernel
theorem d_PT_init_45 : decode prog_2_method_1_code 45 = .ok (.iconst 1, 1) := by decide +kernel
theorem d_PT_init_46 : decode prog_2_method_1_code 46 = .ok (.iconst 0, 1) := by decide +kernel
theorem d_PT_init_47 : decode prog_2_method_1_code 47 = .ok (.iconst 0, 1) := by decide +kernel
theorem d_PT_init_48 : decode prog_2_method_1_code 48 = .ok (.invokevirtual 18, 3) := by decide +kernel
theorem d_PT_init_51 : decode prog_2_method_1_code 51 = .ok (.aload_n 0, 1) := by decide +kernel
theorem d_PT_init_52 : decode prog_2_method_1_code 52 = .ok (.iconst 1, 1) := by decide +kernel
theorem d_PT_init_53 : decode prog_2_method_1_code 53 = .ok (.iconst 1, 1) := by decide +kernel
theorem d_PT_init_54 : decode prog_2_method_1_code 54 = .ok (.iconst 0, 1) := by decide +kernel
theorem d_PT_init_55 : decode prog_2_method_1_code 55 = .ok (.invokevirtual 22, 3) := by decide +kernel
theorem d_PT_init_58 : decode prog_2_method_1_code 58 = .ok (.aload_n 0, 1) := by decide +kernel
theorem d_PT_init_59 : decode prog_2_method_1_code 59 = .ok (.iconst 2, 1) := by decide +kernel
theorem d_PT_init_60 : decode prog_2_method_1_code 60 = .ok (.iconst 1, 1) := by decide +kernel
theorem d_PT_init_61 : decode prog_2_method_1_code 61 = .ok (.iconst 3, 1) := by decide +kernel
theorem d_PT_init_62 : decode prog_2_method_1_code 62 = .ok (.iconst 0, 1) := by decide +kernel
theorem d_PT_init_63 : decode prog_2_method_1_code 63 = .ok (.invokevirtual 18, 3) := by decide +kernel
theorem d_PT_init_66 : decode prog_2_method_1_code 66 = .ok (.aload_n 0, 1) := by decide +kernel
theorem d_PT_init_67 : decode prog_2_method_1_code 67 = .ok (.iconst 2, 1) := by decide +kernel
theorem d_PT_init_68 : decode prog_2_method_1_code 68 = .ok (.iconst 2, 1) := by decide +kernel
theorem d_PT_init_69 : decode prog_2_method_1_code 69 = .ok (.iconst 1, 1) := by decide +kernel
theorem d_PT_init_70 : decode prog_2_method_1_code 70 = .ok (.invokevirtual 22, 3) := by decide +kernel
theorem d_PT_init_73 : decode prog_2_method_1_code 73 = .ok (.aload_n 0, 1) := by decide +kernel
theorem d_PT_init_74 : decode prog_2_method_1_code 74 = .ok (.iconst 3, 1) := by decide +kernel
theorem d_PT_init_75 : decode prog_2_method_1_code 75 = .ok (.iconst 1, 1) := by decide +kernel
theorem d_PT_init_76 : decode prog_2_method_1_code 76 = .ok (.iconst 3, 1) := by decide +kernel
theorem d_PT_init_77 : decode prog_2_method_1_code 77 = .ok (.iconst 1, 1) := by decide +kernel
theorem d_PT_init_78 : decode prog_2_method_1_code 78 = .ok (.invokevirtual 18, 3) := by decide +kernel
theorem d_PT_init_81 : decode prog_2_method_1_code 81 = .ok (.aload_n 0, 1) := by decide +kernel
theorem d_PT_init_82 : decode prog_2_method_1_code 82 = .ok (.iconst 3, 1) := by decide +kernel
theorem d_PT_init_83 : decode prog_2_method_1_code 83 = .ok (.iconst 3, 1) := by decide +kernel
theorem d_PT_init_84 : decode prog_2_method_1_code 84 = .ok (.iconst 1, 1) := by decide +kernel
theorem d_PT_init_85 : decode prog_2_method_1_code 85 = .ok (.invokevirtual 22, 3) := by decide +kernel
theorem d_PT_init_88 : decode prog_2_method_1_code 88 = .ok (.iconst 0, 1) := by decide +kernel
theorem d_PT_init_89 : decode prog_2_method_1_code 89 = .ok (.istore_n 1, 1) := by decide +kernel
theorem d_PT_init_90 : decode prog_2_method_1_code 90 = .ok (.iload_n 1, 1) := by decide +kernel
theorem d_PT_init_91 : decode prog_2_method_1_code 91 = .ok (.iconst 4, 1) := by decide +kernel
theorem d_PT_init_92 : decode prog_2_method_1_code 92 = .ok (.if_icmp .ge 14, 3) := by decide +kernel
theorem d_PT_init_95 : decode prog_2_method_1_code 95 = .ok (.aload_n 0, 1) := by decide +kernel
theorem d_PT_init_96 : decode prog_2_method_1_code 96 = .ok (.iload_n 1, 1) := by decide +kernel
theorem d_PT_init_97 : decode prog_2_method_1_code 97 = .ok (.invokevirtual 26, 3) := by decide +kernel
theorem d_PT_init_100 : decode prog_2_method_1_code 100 = .ok (.iinc 1 1, 3) := by decide +kernel
theorem d_PT_init_103 : decode prog_2_method_1_code 103 = .ok (.goto (-13), 3) := by decide +kernel
theorem d_PT_init_106 : decode prog_2_method_1_code 106 = .ok (.return_, 1) := by decide +kernel
theorem d_PT_startRow_0 : decode prog_2_method_2_code 0 = .ok (.aload_n 0, 1) := by decide +kernel
theorem d_PT_startRow_1 : decode prog_2_method_2_code 1 = .ok (.getfield 11, 3) := by decide +kernel
theorem d_PT_startRow_4 : decode prog_2_method_2_code 4 = .ok (.iload_n 1, 1) := by decide +kernel
theorem d_PT_startRow_5 : decode prog_2_method_2_code 5 = .ok (.aaload, 1) := by decide +kernel
theorem d_PT_startRow_6 : decode prog_2_method_2_code 6 = .ok (.iconst 0, 1) := by decide +kernel
theorem d_PT_startRow_7 : decode prog_2_method_2_code 7 = .ok (.iload_n 2, 1) := by decide +kernel
theorem d_PT_startRow_8 : decode prog_2_method_2_code 8 = .ok (.iastore, 1) := by decide +kernel
theorem d_PT_startRow_9 : decode prog_2_method_2_code 9 = .ok (.aload_n 0, 1) := by decide +kernel
theorem d_PT_startRow_10 : decode prog_2_method_2_code 10 = .ok (.getfield 11, 3) := by decide +kernel
theorem d_PT_startRow_13 : decode prog_2_method_2_code 13 = .ok (.iload_n 1, 1) := by decide +kernel
theorem d_PT_startRow_14 : decode prog_2_method_2_code 14 = .ok (.aaload, 1) := by decide +kernel
theorem d_PT_startRow_15 : decode prog_2_method_2_code 15 = .ok (.iconst 1, 1) := by decide +kernel
theorem d_PT_startRow_16 : decode prog_2_method_2_code 16 = .ok (.iload_n 3, 1) := by decide +kernel
theorem d_PT_startRow_17 : decode prog_2_method_2_code 17 = .ok (.iastore, 1) := by decide +kernel
theorem d_PT_startRow_18 : decode prog_2_method_2_code 18 = .ok (.aload_n 0, 1) := by decide +kernel
theorem d_PT_startRow_19 : decode prog_2_method_2_code 19 = .ok (.getfield 11, 3) := by decide +kernel
theorem d_PT_startRow_22 : decode prog_2_method_2_code 22 = .ok (.iload_n 1, 1) := by decide +kernel
theorem d_PT_startRow_23 : decode prog_2_method_2_code 23 = .ok (.aaload, 1) := by decide +kernel
theorem d_PT_startRow_24 : decode prog_2_method_2_code 24 = .ok (.iconst 2, 1) := by decide +kernel
theorem d_PT_startRow_25 : decode prog_2_method_2_code 25 = .ok (.iload 4, 2) := by decide +kernel
theorem d_PT_startRow_27 : decode prog_2_method_2_code 27 = .ok (.iastore, 1) := by decide +kernel
theorem d_PT_startRow_28 : decode prog_2_method_2_code 28 = .ok (.return_, 1) := by decide +kernel
theorem d_PT_growRow_0 : decode prog_2_method_3_code 0 = .ok (.aload_n 0, 1) := by decide +kernel
theorem d_PT_growRow_1 : decode prog_2_method_3_code 1 = .ok (.getfield 11, 3) := by decide +kernel
theorem d_PT_growRow_4 : decode prog_2_method_3_code 4 = .ok (.iload_n 1, 1) := by decide +kernel
theorem d_PT_growRow_5 : decode prog_2_method_3_code 5 = .ok (.aaload, 1) := by decide +kernel
theorem d_PT_growRow_6 : decode prog_2_method_3_code 6 = .ok (.astore 4, 2) := by decide +kernel
theorem d_PT_growRow_8 : decode prog_2_method_3_code 8 = .ok (.iload_n 2, 1) := by decide +kernel
theorem d_PT_growRow_9 : decode prog_2_method_3_code 9 = .ok (.istore 5, 2) := by decide +kernel
theorem d_PT_growRow_11 : decode prog_2_method_3_code 11 = .ok (.iload 5, 2) := by decide +kernel
theorem d_PT_growRow_13 : decode prog_2_method_3_code 13 = .ok (.bipush 20, 2) := by decide +kernel
theorem d_PT_growRow_15 : decode prog_2_method_3_code 15 = .ok (.if_icmp .ge 80, 3) := by decide +kernel
theorem d_PT_growRow_18 : decode prog_2_method_3_code 18 = .ok (.aload 4, 2) := by decide +kernel
theorem d_PT_growRow_20 : decode prog_2_method_3_code 20 = .ok (.iload 5, 2) := by decide +kernel
theorem d_PT_growRow_22 : decode prog_2_method_3_code 22 = .ok (.iload_n 2, 1) := by decide +kernel
theorem d_PT_growRow_23 : decode prog_2_method_3_code 23 = .ok (.isub, 1) := by decide +kernel
theorem d_PT_growRow_24 : decode prog_2_method_3_code 24 = .ok (.iaload, 1) := by decide +kernel
theorem d_PT_growRow_25 : decode prog_2_method_3_code 25 = .ok (.aload 4, 2) := by decide +kernel
theorem d_PT_growRow_27 : decode prog_2_method_3_code 27 = .ok (.iload 5, 2) := by decide +kernel
theorem d_PT_growRow_29 : decode prog_2_method_3_code 29 = .ok (.iload_n 2, 1) := by decide +kernel
theorem d_PT_growRow_30 : decode prog_2_method_3_code 30 = .ok (.isub, 1) := by decide +kernel
theorem d_PT_growRow_31 : decode prog_2_method_3_code 31 = .ok (.iaload, 1) := by decide +kernel
theorem d_PT_growRow_32 : decode prog_2_method_3_code 32 = .ok (.iload_n 2, 1) := by decide +kernel
theorem d_PT_growRow_33 : decode prog_2_method_3_code 33 = .ok (.ishl, 1) := by decide +kernel
theorem d_PT_growRow_34 : decode prog_2_method_3_code 34 = .ok (.ixor, 1) := by decide +kernel
theorem d_PT_growRow_35 : decode prog_2_method_3_code 35 = .ok (.istore 6, 2) := by decide +kernel
theorem d_PT_growRow_37 : decode prog_2_method_3_code 37 = .ok (.iconst 1, 1) := by decide +kernel
theorem d_PT_growRow_38 : decode prog_2_method_3_code 38 = .ok (.istore 7, 2) := by decide +kernel
theorem d_PT_growRow_40 : decode prog_2_method_3_code 40 = .ok (.iload 7, 2) := by decide +kernel
theorem d_PT_growRow_42 : decode prog_2_method_3_code 42 = .ok (.iload_n 2, 1) := by decide +kernel
theorem d_PT_growRow_43 : decode prog_2_method_3_code 43 = .ok (.if_icmp .ge 39, 3) := by decide +kernel
theorem d_PT_growRow_46 : decode prog_2_method_3_code 46 = .ok (.iload_n 3, 1) := by decide +kernel
theorem d_PT_growRow_47 : decode prog_2_method_3_code 47 = .ok (.iload_n 2, 1) := by decide +kernel
theorem d_PT_growRow_48 : decode prog_2_method_3_code 48 = .ok (.iconst 1, 1) := by decide +kernel
theorem d_PT_growRow_49 : decode prog_2_method_3_code 49 = .ok (.isub, 1) := by decide +kernel
theorem d_PT_growRow_50 : decode prog_2_method_3_code 50 = .ok (.iload 7, 2) := by decide +kernel
theorem d_PT_growRow_52 : decode prog_2_method_3_code 52 = .ok (.isub, 1) := by decide +kernel
theorem d_PT_growRow_53 : decode prog_2_method_3_code 53 = .ok (.iushr, 1) := by decide +kernel
theorem d_PT_growRow_54 : decode prog_2_method_3_code 54 = .ok (.iconst 1, 1) := by decide +kernel
theorem d_PT_growRow_55 : decode prog_2_method_3_code 55 = .ok (.iand, 1) := by decide +kernel
theorem d_PT_growRow_56 : decode prog_2_method_3_code 56 = .ok (.iconst 1, 1) := by decide +kernel
theorem d_PT_growRow_57 : decode prog_2_method_3_code 57 = .ok (.if_icmp .ne 19, 3) := by decide +kernel
theorem d_PT_growRow_60 : decode prog_2_method_3_code 60 = .ok (.iload 6, 2) := by decide +kernel
theorem d_PT_growRow_62 : decode prog_2_method_3_code 62 = .ok (.aload 4, 2) := by decide +kernel
theorem d_PT_growRow_64 : decode prog_2_method_3_code 64 = .ok (.iload 5, 2) := by decide +kernel
theorem d_PT_growRow_66 : decode prog_2_method_3_code 66 = .ok (.iload 7, 2) := by decide +kernel
theorem d_PT_growRow_68 : decode prog_2_method_3_code 68 = .ok (.isub, 1) := by decide +kernel
theorem d_PT_growRow_69 : decode prog_2_method_3_code 69 = .ok (.iaload, 1) := by decide +kernel
theorem d_PT_growRow_70 : decode prog_2_method_3_code 70 = .ok (.iload 7, 2) := by decide +kernel
theorem d_PT_growRow_72 : decode prog_2_method_3_code 72 = .ok (.ishl, 1) := by decide +kernel
theorem d_PT_growRow_73 : decode prog_2_method_3_code 73 = .ok (.ixor, 1) := by decide +kernel
theorem d_PT_growRow_74 : decode prog_2_method_3_code 74 = .ok (.istore 6, 2) := by decide +kernel
theorem d_PT_growRow_76 : decode prog_2_method_3_code 76 = .ok (.iinc 7 1, 3) := by decide +kernel
theorem d_PT_growRow_79 : decode prog_2_method_3_code 79 = .ok (.goto (-39), 3) := by decide +kernel
theorem d_PT_growRow_82 : decode prog_2_method_3_code 82 = .ok (.aload 4, 2) := by decide +kernel
theorem d_PT_growRow_84 : decode prog_2_method_3_code 84 = .ok (.iload 5, 2) := by decide +kernel
theorem d_PT_growRow_86 : decode prog_2_method_3_code 86 = .ok (.iload 6, 2) := by decide +kernel
theorem d_PT_growRow_88 : decode prog_2_method_3_code 88 = .ok (.iastore, 1) := by decide +kernel
theorem d_PT_growRow_89 : decode prog_2_method_3_code 89 = .ok (.iinc 5 1, 3) := by decide +kernel
theorem d_PT_growRow_92 : decode prog_2_method_3_code 92 = .ok (.goto (-81), 3) := by decide +kernel
theorem d_PT_growRow_95 : decode prog_2_method_3_code 95 = .ok (.return_, 1) := by decide +kernel
theorem d_PT_alignRow_0 : decode prog_2_method_4_code 0 = .ok (.iconst 0, 1) := by decide +kernel
theorem d_PT_alignRow_1 : decode prog_2_method_4_code 1 = .ok (.istore_n 2, 1) := by decide +kernel
theorem d_PT_alignRow_2 : decode prog_2_method_4_code 2 = .ok (.iload_n 2, 1) := by decide +kernel
theorem d_PT_alignRow_3 : decode prog_2_method_4_code 3 = .ok (.bipush 20, 2) := by decide +kernel
theorem d_PT_alignRow_5 : decode prog_2_method_4_code 5 = .ok (.if_icmp .ge 24, 3) := by decide +kernel
theorem d_PT_alignRow_8 : decode prog_2_method_4_code 8 = .ok (.aload_n 0, 1) := by decide +kernel
theorem d_PT_alignRow_9 : decode prog_2_method_4_code 9 = .ok (.getfield 11, 3) := by decide +kernel
theorem d_PT_alignRow_12 : decode prog_2_method_4_code 12 = .ok (.iload_n 1, 1) := by decide +kernel
theorem d_PT_alignRow_13 : decode prog_2_method_4_code 13 = .ok (.aaload, 1) := by decide +kernel
theorem d_PT_alignRow_14 : decode prog_2_method_4_code 14 = .ok (.iload_n 2, 1) := by decide +kernel
theorem d_PT_alignRow_15 : decode prog_2_method_4_code 15 = .ok (.dup2, 1) := by decide +kernel
theorem d_PT_alignRow_16 : decode prog_2_method_4_code 16 = .ok (.iaload, 1) := by decide +kernel
theorem d_PT_alignRow_17 : decode prog_2_method_4_code 17 = .ok (.bipush 31, 2) := by decide +kernel
theorem d_PT_alignRow_19 : decode prog_2_method_4_code 19 = .ok (.iload_n 2, 1) := by decide +kernel
theorem d_PT_alignRow_20 : decode prog_2_method_4_code 20 = .ok (.isub, 1) := by decide +kernel
theorem d_PT_alignRow_21 : decode prog_2_method_4_code 21 = .ok (.ishl, 1) := by decide +kernel
theorem d_PT_alignRow_22 : decode prog_2_method_4_code 22 = .ok (.iastore, 1) := by decide +kernel
theorem d_PT_alignRow_23 : decode prog_2_method_4_code 23 = .ok (.iinc 2 1, 3) := by decide +kernel
theorem d_PT_alignRow_26 : decode prog_2_method_4_code 26 = .ok (.goto (-24), 3) := by decide +kernel
theorem d_PT_alignRow_29 : decode prog_2_method_4_code 29 = .ok (.return_, 1) := by decide +kernel
theorem d_NS_make_0 : decode prog_1_method_2_code 0 = .ok (.aload_n 0, 1) := by decide +kernel
theorem d_NS_make_1 : decode prog_1_method_2_code 1 = .ok (.invokevirtual 39, 3) := by decide +kernel
theorem d_NS_make_4 : decode prog_1_method_2_code 4 = .ok (.istore 4, 2) := by decide +kernel
theorem d_NS_make_6 : decode prog_1_method_2_code 6 = .ok (.iload_n 1, 1) := by decide +kernel
theorem d_NS_make_7 : decode prog_1_method_2_code 7 = .ok (.invokestatic 43, 3) := by decide +kernel
theorem d_NS_make_10 : decode prog_1_method_2_code 10 = .ok (.ifCond .eq 8, 3) := by decide +kernel
theorem d_NS_make_13 : decode prog_1_method_2_code 13 = .ok (.iload 4, 2) := by decide +kernel
theorem d_NS_make_15 : decode prog_1_method_2_code 15 = .ok (.ifCond .ge 5, 3) := by decide +kernel
theorem d_NS_make_18 : decode prog_1_method_2_code 18 = .ok (.iconst (-1), 1) := by decide +kernel
theorem d_NS_make_19 : decode prog_1_method_2_code 19 = .ok (.ireturn, 1) := by decide +kernel
theorem d_NS_make_20 : decode prog_1_method_2_code 20 = .ok (.iload_n 1, 1) := by decide +kernel
theorem d_NS_make_21 : decode prog_1_method_2_code 21 = .ok (.iload_n 2, 1) := by decide +kernel
theorem d_NS_make_22 : decode prog_1_method_2_code 22 = .ok (.iload_n 3, 1) := by decide +kernel
theorem d_NS_make_23 : decode prog_1_method_2_code 23 = .ok (.invokestatic 47, 3) := by decide +kernel
theorem d_NS_make_26 : decode prog_1_method_2_code 26 = .ok (.lstore 5, 2) := by decide +kernel
theorem d_NS_make_28 : decode prog_1_method_2_code 28 = .ok (.iload_n 1, 1) := by decide +kernel
theorem d_NS_make_29 : decode prog_1_method_2_code 29 = .ok (.iload_n 2, 1) := by decide +kernel
theorem d_NS_make_30 : decode prog_1_method_2_code 30 = .ok (.iload_n 3, 1) := by decide +kernel
theorem d_NS_make_31 : decode prog_1_method_2_code 31 = .ok (.invokestatic 51, 3) := by decide +kernel
theorem d_NS_make_34 : decode prog_1_method_2_code 34 = .ok (.lstore 7, 2) := by decide +kernel
theorem d_NS_make_36 : decode prog_1_method_2_code 36 = .ok (.iload_n 1, 1) := by decide +kernel
theorem d_NS_make_37 : decode prog_1_method_2_code 37 = .ok (.lload 5, 2) := by decide +kernel
theorem d_NS_make_39 : decode prog_1_method_2_code 39 = .ok (.lload 7, 2) := by decide +kernel
theorem d_NS_make_41 : decode prog_1_method_2_code 41 = .ok (.invokestatic 54, 3) := by decide +kernel
theorem d_NS_make_44 : decode prog_1_method_2_code 44 = .ok (.ifCond .ne 6, 3) := by decide +kernel
theorem d_NS_make_47 : decode prog_1_method_2_code 47 = .ok (.bipush (-2), 2) := by decide +kernel
theorem d_NS_make_49 : decode prog_1_method_2_code 49 = .ok (.ireturn, 1) := by decide +kernel
theorem d_NS_make_50 : decode prog_1_method_2_code 50 = .ok (.aload_n 0, 1) := by decide +kernel
theorem d_NS_make_51 : decode prog_1_method_2_code 51 = .ok (.getfield 11, 3) := by decide +kernel
theorem d_NS_make_54 : decode prog_1_method_2_code 54 = .ok (.iload 4, 2) := by decide +kernel
theorem d_NS_make_56 : decode prog_1_method_2_code 56 = .ok (.new 9, 3) := by decide +kernel
theorem d_NS_make_59 : decode prog_1_method_2_code 59 = .ok (.dup, 1) := by decide +kernel
theorem d_NS_make_60 : decode prog_1_method_2_code 60 = .ok (.iload_n 1, 1) := by decide +kernel
theorem d_NS_make_61 : decode prog_1_method_2_code 61 = .ok (.lload 5, 2) := by decide +kernel
theorem d_NS_make_63 : decode prog_1_method_2_code 63 = .ok (.lload 7, 2) := by decide +kernel
theorem d_NS_make_65 : decode prog_1_method_2_code 65 = .ok (.invokespecial 58, 3) := by decide +kernel
theorem d_NS_make_68 : decode prog_1_method_2_code 68 = .ok (.aastore, 1) := by decide +kernel
theorem d_NS_make_69 : decode prog_1_method_2_code 69 = .ok (.iload 4, 2) := by decide +kernel
theorem d_NS_make_71 : decode prog_1_method_2_code 71 = .ok (.ireturn, 1) := by decide +kernel
theorem d_NS_leastFreeSlot_0 : decode prog_1_method_23_code 0 = .ok (.iconst 0, 1) := by decide +kernel
theorem d_NS_leastFreeSlot_1 : decode prog_1_method_23_code 1 = .ok (.istore_n 1, 1) := by decide +kernel
theorem d_NS_leastFreeSlot_2 : decode prog_1_method_23_code 2 = .ok (.iload_n 1, 1) := by decide +kernel
theorem d_NS_leastFreeSlot_3 : decode prog_1_method_23_code 3 = .ok (.bipush 8, 2) := by decide +kernel
theorem d_NS_leastFreeSlot_5 : decode prog_1_method_23_code 5 = .ok (.if_icmp .ge 20, 3) := by decide +kernel
theorem d_NS_leastFreeSlot_8 : decode prog_1_method_23_code 8 = .ok (.aload_n 0, 1) := by decide +kernel
theorem d_NS_leastFreeSlot_9 : decode prog_1_method_23_code 9 = .ok (.getfield 11, 3) := by decide +kernel
theorem d_NS_leastFreeSlot_12 : decode prog_1_method_23_code 12 = .ok (.iload_n 1, 1) := by decide +kernel
theorem d_NS_leastFreeSlot_13 : decode prog_1_method_23_code 13 = .ok (.aaload, 1) := by decide +kernel
theorem d_NS_leastFreeSlot_14 : decode prog_1_method_23_code 14 = .ok (.ifnonnull 5, 3) := by decide +kernel
theorem d_NS_leastFreeSlot_17 : decode prog_1_method_23_code 17 = .ok (.iload_n 1, 1) := by decide +kernel
theorem d_NS_leastFreeSlot_18 : decode prog_1_method_23_code 18 = .ok (.ireturn, 1) := by decide +kernel
theorem d_NS_leastFreeSlot_19 : decode prog_1_method_23_code 19 = .ok (.iinc 1 1, 3) := by decide +kernel
theorem d_NS_leastFreeSlot_22 : decode prog_1_method_23_code 22 = .ok (.goto (-20), 3) := by decide +kernel
theorem d_NS_leastFreeSlot_25 : decode prog_1_method_23_code 25 = .ok (.iconst (-1), 1) := by decide +kernel
theorem d_NS_leastFreeSlot_26 : decode prog_1_method_23_code 26 = .ok (.ireturn, 1) := by decide +kernel
theorem d_ST_isKind_0 : decode prog_4_method_2_code 0 = .ok (.iload_n 0, 1) := by decide +kernel
theorem d_ST_isKind_1 : decode prog_4_method_2_code 1 = .ok (.ifCond .lt 12, 3) := by decide +kernel
theorem d_ST_isKind_4 : decode prog_4_method_2_code 4 = .ok (.iload_n 0, 1) := by decide +kernel
theorem d_ST_isKind_5 : decode prog_4_method_2_code 5 = .ok (.iconst 3, 1) := by decide +kernel
theorem d_ST_isKind_6 : decode prog_4_method_2_code 6 = .ok (.if_icmp .gt 7, 3) := by decide +kernel
theorem d_ST_isKind_9 : decode prog_4_method_2_code 9 = .ok (.iconst 1, 1) := by decide +kernel
theorem d_ST_isKind_10 : decode prog_4_method_2_code 10 = .ok (.goto 4, 3) := by decide +kernel
theorem d_ST_isKind_13 : decode prog_4_method_2_code 13 = .ok (.iconst 0, 1) := by decide +kernel
theorem d_ST_isKind_14 : decode prog_4_method_2_code 14 = .ok (.ireturn, 1) := by decide +kernel
theorem d_ST_firstOfSeed_0 : decode prog_4_method_5_code 0 = .ok (.iload_n 0, 1) := by decide +kernel
theorem d_ST_firstOfSeed_1 : decode prog_4_method_5_code 1 = .ok (.ifCond .ne 11, 3) := by decide +kernel
theorem d_ST_firstOfSeed_4 : decode prog_4_method_5_code 4 = .ok (.iload_n 1, 1) := by decide +kernel
theorem d_ST_firstOfSeed_5 : decode prog_4_method_5_code 5 = .ok (.iload_n 2, 1) := by decide +kernel
theorem d_ST_firstOfSeed_6 : decode prog_4_method_5_code 6 = .ok (.invokestatic 20, 3) := by decide +kernel
theorem d_ST_firstOfSeed_9 : decode prog_4_method_5_code 9 = .ok (.goto 5, 3) := by decide +kernel
theorem d_ST_firstOfSeed_12 : decode prog_4_method_5_code 12 = .ok (.iload_n 1, 1) := by decide +kernel
theorem d_ST_firstOfSeed_13 : decode prog_4_method_5_code 13 = .ok (.i2l, 1) := by decide +kernel
theorem d_ST_firstOfSeed_14 : decode prog_4_method_5_code 14 = .ok (.lreturn, 1) := by decide +kernel
theorem d_NS_joined_0 : decode prog_1_method_28_code 0 = .ok (.iload_n 0, 1) := by decide +kernel
theorem d_NS_joined_1 : decode prog_1_method_28_code 1 = .ok (.i2l, 1) := by decide +kernel
theorem d_NS_joined_2 : decode prog_1_method_28_code 2 = .ok (.bipush 32, 2) := by decide +kernel
theorem d_NS_joined_4 : decode prog_1_method_28_code 4 = .ok (.lshl, 1) := by decide +kernel
theorem d_NS_joined_5 : decode prog_1_method_28_code 5 = .ok (.iload_n 1, 1) := by decide +kernel
theorem d_NS_joined_6 : decode prog_1_method_28_code 6 = .ok (.invokestatic 80, 3) := by decide +kernel
theorem d_NS_joined_9 : decode prog_1_method_28_code 9 = .ok (.lor, 1) := by decide +kernel
theorem d_NS_joined_10 : decode prog_1_method_28_code 10 = .ok (.lreturn, 1) := by decide +kernel
theorem d_NS_asNumber_0 : decode prog_1_method_27_code 0 = .ok (.iload_n 0, 1) := by decide +kernel
theorem d_NS_asNumber_1 : decode prog_1_method_27_code 1 = .ok (.i2l, 1) := by decide +kernel
theorem d_NS_asNumber_2 : decode prog_1_method_27_code 2 = .ok (.ldc2_w 136, 3) := by decide +kernel
theorem d_NS_asNumber_5 : decode prog_1_method_27_code 5 = .ok (.land, 1) := by decide +kernel
theorem d_NS_asNumber_6 : decode prog_1_method_27_code 6 = .ok (.lreturn, 1) := by decide +kernel
theorem d_ST_secondOfSeed_0 : decode prog_4_method_6_code 0 = .ok (.iload_n 0, 1) := by decide +kernel
theorem d_ST_secondOfSeed_1 : decode prog_4_method_6_code 1 = .ok (.lookupswitch 44 #[(0, 27), (2, 39)], 27) := by decide +kernel
theorem d_ST_secondOfSeed_28 : decode prog_4_method_6_code 28 = .ok (.ldc2_w 26, 3) := by decide +kernel
theorem d_ST_secondOfSeed_31 : decode prog_4_method_6_code 31 = .ok (.iload_n 1, 1) := by decide +kernel
theorem d_ST_secondOfSeed_32 : decode prog_4_method_6_code 32 = .ok (.iload_n 2, 1) := by decide +kernel
theorem d_ST_secondOfSeed_33 : decode prog_4_method_6_code 33 = .ok (.invokestatic 20, 3) := by decide +kernel
theorem d_ST_secondOfSeed_36 : decode prog_4_method_6_code 36 = .ok (.lmul, 1) := by decide +kernel
theorem d_ST_secondOfSeed_37 : decode prog_4_method_6_code 37 = .ok (.lconst 1, 1) := by decide +kernel
theorem d_ST_secondOfSeed_38 : decode prog_4_method_6_code 38 = .ok (.ladd, 1) := by decide +kernel
theorem d_ST_secondOfSeed_39 : decode prog_4_method_6_code 39 = .ok (.lreturn, 1) := by decide +kernel
theorem d_ST_secondOfSeed_40 : decode prog_4_method_6_code 40 = .ok (.iload_n 2, 1) := by decide +kernel
theorem d_ST_secondOfSeed_41 : decode prog_4_method_6_code 41 = .ok (.invokestatic 28, 3) := by decide +kernel
theorem d_ST_secondOfSeed_44 : decode prog_4_method_6_code 44 = .ok (.lreturn, 1) := by decide +kernel
theorem d_ST_secondOfSeed_45 : decode prog_4_method_6_code 45 = .ok (.iload_n 2, 1) := by decide +kernel
theorem d_ST_secondOfSeed_46 : decode prog_4_method_6_code 46 = .ok (.i2l, 1) := by decide +kernel
theorem d_ST_secondOfSeed_47 : decode prog_4_method_6_code 47 = .ok (.lreturn, 1) := by decide +kernel
theorem d_ST_isState_0 : decode prog_4_method_7_code 0 = .ok (.iload_n 0, 1) := by decide +kernel
theorem d_ST_isState_1 : decode prog_4_method_7_code 1 = .ok (.tableswitch 107 0 3 #[31, 45, 63, 75], 31) := by decide +kernel
theorem d_ST_isState_32 : decode prog_4_method_7_code 32 = .ok (.lload_n 3, 1) := by decide +kernel
theorem d_ST_isState_33 : decode prog_4_method_7_code 33 = .ok (.lconst 1, 1) := by decide +kernel
theorem d_ST_isState_34 : decode prog_4_method_7_code 34 = .ok (.land, 1) := by decide +kernel
theorem d_ST_isState_35 : decode prog_4_method_7_code 35 = .ok (.lconst 1, 1) := by decide +kernel
theorem d_ST_isState_36 : decode prog_4_method_7_code 36 = .ok (.lcmp, 1) := by decide +kernel
theorem d_ST_isState_37 : decode prog_4_method_7_code 37 = .ok (.ifCond .ne 7, 3) := by decide +kernel
theorem d_ST_isState_40 : decode prog_4_method_7_code 40 = .ok (.iconst 1, 1) := by decide +kernel
theorem d_ST_isState_41 : decode prog_4_method_7_code 41 = .ok (.goto 4, 3) := by decide +kernel
theorem d_ST_isState_44 : decode prog_4_method_7_code 44 = .ok (.iconst 0, 1) := by decide +kernel
theorem d_ST_isState_45 : decode prog_4_method_7_code 45 = .ok (.ireturn, 1) := by decide +kernel
theorem d_ST_isState_46 : decode prog_4_method_7_code 46 = .ok (.lload_n 1, 1) := by decide +kernel
theorem d_ST_isState_47 : decode prog_4_method_7_code 47 = .ok (.lconst 0, 1) := by decide +kernel
theorem d_ST_isState_48 : decode prog_4_method_7_code 48 = .ok (.lcmp, 1) := by decide +kernel
theorem d_ST_isState_49 : decode prog_4_method_7_code 49 = .ok (.ifCond .ne 9, 3) := by decide +kernel
theorem d_ST_isState_52 : decode prog_4_method_7_code 52 = .ok (.lload_n 3, 1) := by decide +kernel
theorem d_ST_isState_53 : decode prog_4_method_7_code 53 = .ok (.lconst 0, 1) := by decide +kernel
theorem d_ST_isState_54 : decode prog_4_method_7_code 54 = .ok (.lcmp, 1) := by decide +kernel
theorem d_ST_isState_55 : decode prog_4_method_7_code 55 = .ok (.ifCond .eq 7, 3) := by decide +kernel
theorem d_ST_isState_58 : decode prog_4_method_7_code 58 = .ok (.iconst 1, 1) := by decide +kernel
theorem d_ST_isState_59 : decode prog_4_method_7_code 59 = .ok (.goto 4, 3) := by decide +kernel
theorem d_ST_isState_62 : decode prog_4_method_7_code 62 = .ok (.iconst 0, 1) := by decide +kernel
theorem d_ST_isState_63 : decode prog_4_method_7_code 63 = .ok (.ireturn, 1) := by decide +kernel
theorem d_ST_isState_64 : decode prog_4_method_7_code 64 = .ok (.lload_n 3, 1) := by decide +kernel
theorem d_ST_isState_65 : decode prog_4_method_7_code 65 = .ok (.lconst 0, 1) := by decide +kernel
theorem d_ST_isState_66 : decode prog_4_method_7_code 66 = .ok (.lcmp, 1) := by decide +kernel
theorem d_ST_isState_67 : decode prog_4_method_7_code 67 = .ok (.ifCond .lt 7, 3) := by decide +kernel
theorem d_ST_isState_70 : decode prog_4_method_7_code 70 = .ok (.iconst 1, 1) := by decide +kernel
theorem d_ST_isState_71 : decode prog_4_method_7_code 71 = .ok (.goto 4, 3) := by decide +kernel
theorem d_ST_isState_74 : decode prog_4_method_7_code 74 = .ok (.iconst 0, 1) := by decide +kernel
theorem d_ST_isState_75 : decode prog_4_method_7_code 75 = .ok (.ireturn, 1) := by decide +kernel
theorem d_ST_isState_76 : decode prog_4_method_7_code 76 = .ok (.lload_n 1, 1) := by decide +kernel
theorem d_ST_isState_77 : decode prog_4_method_7_code 77 = .ok (.invokestatic 32, 3) := by decide +kernel
theorem d_ST_isState_80 : decode prog_4_method_7_code 80 = .ok (.ifCond .eq 26, 3) := by decide +kernel
theorem d_ST_isState_83 : decode prog_4_method_7_code 83 = .ok (.lload_n 3, 1) := by decide +kernel
theorem d_ST_isState_84 : decode prog_4_method_7_code 84 = .ok (.invokestatic 32, 3) := by decide +kernel
theorem d_ST_isState_87 : decode prog_4_method_7_code 87 = .ok (.ifCond .eq 19, 3) := by decide +kernel
theorem d_ST_isState_90 : decode prog_4_method_7_code 90 = .ok (.lload_n 1, 1) := by decide +kernel
theorem d_ST_isState_91 : decode prog_4_method_7_code 91 = .ok (.lconst 0, 1) := by decide +kernel
theorem d_ST_isState_92 : decode prog_4_method_7_code 92 = .ok (.lcmp, 1) := by decide +kernel
theorem d_ST_isState_93 : decode prog_4_method_7_code 93 = .ok (.ifCond .ne 9, 3) := by decide +kernel
theorem d_ST_isState_96 : decode prog_4_method_7_code 96 = .ok (.lload_n 3, 1) := by decide +kernel
theorem d_ST_isState_97 : decode prog_4_method_7_code 97 = .ok (.lconst 0, 1) := by decide +kernel
theorem d_ST_isState_98 : decode prog_4_method_7_code 98 = .ok (.lcmp, 1) := by decide +kernel
theorem d_ST_isState_99 : decode prog_4_method_7_code 99 = .ok (.ifCond .eq 7, 3) := by decide +kernel
theorem d_ST_isState_102 : decode prog_4_method_7_code 102 = .ok (.iconst 1, 1) := by decide +kernel
theorem d_ST_isState_103 : decode prog_4_method_7_code 103 = .ok (.goto 4, 3) := by decide +kernel
theorem d_ST_isState_106 : decode prog_4_method_7_code 106 = .ok (.iconst 0, 1) := by decide +kernel
theorem d_ST_isState_107 : decode prog_4_method_7_code 107 = .ok (.ireturn, 1) := by decide +kernel
theorem d_ST_isState_108 : decode prog_4_method_7_code 108 = .ok (.iconst 0, 1) := by decide +kernel
theorem d_ST_isState_109 : decode prog_4_method_7_code 109 = .ok (.ireturn, 1) := by decide +kernel
theorem d_ST_isRemainder_0 : decode prog_4_method_8_code 0 = .ok (.lload_n 0, 1) := by decide +kernel
theorem d_ST_isRemainder_1 : decode prog_4_method_8_code 1 = .ok (.lconst 0, 1) := by decide +kernel
theorem d_ST_isRemainder_2 : decode prog_4_method_8_code 2 = .ok (.lcmp, 1) := by decide +kernel
theorem d_ST_isRemainder_3 : decode prog_4_method_8_code 3 = .ok (.ifCond .lt 15, 3) := by decide +kernel
theorem d_ST_isRemainder_6 : decode prog_4_method_8_code 6 = .ok (.lload_n 0, 1) := by decide +kernel
theorem d_ST_isRemainder_7 : decode prog_4_method_8_code 7 = .ok (.ldc2_w 36, 3) := by decide +kernel
theorem d_ST_isRemainder_10 : decode prog_4_method_8_code 10 = .ok (.lcmp, 1) := by decide +kernel
theorem d_ST_isRemainder_11 : decode prog_4_method_8_code 11 = .ok (.ifCond .ge 7, 3) := by decide +kernel
theorem d_ST_isRemainder_14 : decode prog_4_method_8_code 14 = .ok (.iconst 1, 1) := by decide +kernel
theorem d_ST_isRemainder_15 : decode prog_4_method_8_code 15 = .ok (.goto 4, 3) := by decide +kernel
theorem d_ST_isRemainder_18 : decode prog_4_method_8_code 18 = .ok (.iconst 0, 1) := by decide +kernel
theorem d_ST_isRemainder_19 : decode prog_4_method_8_code 19 = .ok (.ireturn, 1) := by decide +kernel
theorem d_ST_init_0 : decode prog_4_method_1_code 0 = .ok (.aload_n 0, 1) := by decide +kernel
theorem d_ST_init_1 : decode prog_4_method_1_code 1 = .ok (.invokespecial 1, 3) := by decide +kernel
theorem d_ST_init_4 : decode prog_4_method_1_code 4 = .ok (.aload_n 0, 1) := by decide +kernel
theorem d_ST_init_5 : decode prog_4_method_1_code 5 = .ok (.iload_n 1, 1) := by decide +kernel
theorem d_ST_init_6 : decode prog_4_method_1_code 6 = .ok (.putfield 7, 3) := by decide +kernel
theorem d_ST_init_9 : decode prog_4_method_1_code 9 = .ok (.aload_n 0, 1) := by decide +kernel
theorem d_ST_init_10 : decode prog_4_method_1_code 10 = .ok (.lload_n 2, 1) := by decide +kernel
theorem d_ST_init_11 : decode prog_4_method_1_code 11 = .ok (.putfield 13, 3) := by decide +kernel
theorem d_ST_init_14 : decode prog_4_method_1_code 14 = .ok (.aload_n 0, 1) := by decide +kernel
theorem d_ST_init_15 : decode prog_4_method_1_code 15 = .ok (.lload 4, 2) := by decide +kernel
theorem d_ST_init_17 : decode prog_4_method_1_code 17 = .ok (.putfield 17, 3) := by decide +kernel
theorem d_ST_init_20 : decode prog_4_method_1_code 20 = .ok (.return_, 1) := by decide +kernel
theorem d_NS_twin_0 : decode prog_1_method_3_code 0 = .ok (.aload_n 0, 1) := by decide +kernel
theorem d_NS_twin_1 : decode prog_1_method_3_code 1 = .ok (.iload_n 1, 1) := by decide +kernel
theorem d_NS_twin_2 : decode prog_1_method_3_code 2 = .ok (.invokevirtual 61, 3) := by decide +kernel
theorem d_NS_twin_5 : decode prog_1_method_3_code 5 = .ok (.astore_n 2, 1) := by decide +kernel
theorem d_NS_twin_6 : decode prog_1_method_3_code 6 = .ok (.aload_n 0, 1) := by decide +kernel
theorem d_NS_twin_7 : decode prog_1_method_3_code 7 = .ok (.invokevirtual 39, 3) := by decide +kernel
theorem d_NS_twin_10 : decode prog_1_method_3_code 10 = .ok (.istore_n 3, 1) := by decide +kernel
theorem d_NS_twin_11 : decode prog_1_method_3_code 11 = .ok (.aload_n 2, 1) := by decide +kernel
theorem d_NS_twin_12 : decode prog_1_method_3_code 12 = .ok (.ifnull 7, 3) := by decide +kernel
theorem d_NS_twin_15 : decode prog_1_method_3_code 15 = .ok (.iload_n 3, 1) := by decide +kernel
theorem d_NS_twin_16 : decode prog_1_method_3_code 16 = .ok (.ifCond .ge 5, 3) := by decide +kernel
theorem d_NS_twin_19 : decode prog_1_method_3_code 19 = .ok (.iconst (-1), 1) := by decide +kernel
theorem d_NS_twin_20 : decode prog_1_method_3_code 20 = .ok (.ireturn, 1) := by decide +kernel
theorem d_NS_twin_21 : decode prog_1_method_3_code 21 = .ok (.aload_n 0, 1) := by decide +kernel
theorem d_NS_twin_22 : decode prog_1_method_3_code 22 = .ok (.getfield 11, 3) := by decide +kernel
theorem d_NS_twin_25 : decode prog_1_method_3_code 25 = .ok (.iload_n 3, 1) := by decide +kernel
theorem d_NS_twin_26 : decode prog_1_method_3_code 26 = .ok (.new 9, 3) := by decide +kernel
theorem d_NS_twin_29 : decode prog_1_method_3_code 29 = .ok (.dup, 1) := by decide +kernel
theorem d_NS_twin_30 : decode prog_1_method_3_code 30 = .ok (.aload_n 2, 1) := by decide +kernel
theorem d_NS_twin_31 : decode prog_1_method_3_code 31 = .ok (.getfield 65, 3) := by decide +kernel
theorem d_NS_twin_34 : decode prog_1_method_3_code 34 = .ok (.aload_n 2, 1) := by decide +kernel
theorem d_NS_twin_35 : decode prog_1_method_3_code 35 = .ok (.getfield 68, 3) := by decide +kernel
theorem d_NS_twin_38 : decode prog_1_method_3_code 38 = .ok (.aload_n 2, 1) := by decide +kernel
theorem d_NS_twin_39 : decode prog_1_method_3_code 39 = .ok (.getfield 72, 3) := by decide +kernel
theorem d_NS_twin_42 : decode prog_1_method_3_code 42 = .ok (.invokespecial 58, 3) := by decide +kernel
theorem d_NS_twin_45 : decode prog_1_method_3_code 45 = .ok (.aastore, 1) := by decide +kernel
theorem d_NS_twin_46 : decode prog_1_method_3_code 46 = .ok (.iload_n 3, 1) := by decide +kernel
theorem d_NS_twin_47 : decode prog_1_method_3_code 47 = .ok (.ireturn, 1) := by decide +kernel
theorem d_NS_streamAt_0 : decode prog_1_method_22_code 0 = .ok (.iload_n 1, 1) := by decide +kernel
theorem d_NS_streamAt_1 : decode prog_1_method_22_code 1 = .ok (.ifCond .lt 9, 3) := by decide +kernel
theorem d_NS_streamAt_4 : decode prog_1_method_22_code 4 = .ok (.iload_n 1, 1) := by decide +kernel
theorem d_NS_streamAt_5 : decode prog_1_method_22_code 5 = .ok (.bipush 8, 2) := by decide +kernel
theorem d_NS_streamAt_7 : decode prog_1_method_22_code 7 = .ok (.if_icmp .lt 7, 3) := by decide +kernel
theorem d_NS_streamAt_10 : decode prog_1_method_22_code 10 = .ok (.aconst_null, 1) := by decide +kernel
theorem d_NS_streamAt_11 : decode prog_1_method_22_code 11 = .ok (.goto 9, 3) := by decide +kernel
theorem d_NS_streamAt_14 : decode prog_1_method_22_code 14 = .ok (.aload_n 0, 1) := by decide +kernel
theorem d_NS_streamAt_15 : decode prog_1_method_22_code 15 = .ok (.getfield 11, 3) := by decide +kernel
theorem d_NS_streamAt_18 : decode prog_1_method_22_code 18 = .ok (.iload_n 1, 1) := by decide +kernel
theorem d_NS_streamAt_19 : decode prog_1_method_22_code 19 = .ok (.aaload, 1) := by decide +kernel
theorem d_NS_streamAt_20 : decode prog_1_method_22_code 20 = .ok (.areturn, 1) := by decide +kernel
theorem d_NS_release_0 : decode prog_1_method_4_code 0 = .ok (.aload_n 0, 1) := by decide +kernel
theorem d_NS_release_1 : decode prog_1_method_4_code 1 = .ok (.iload_n 1, 1) := by decide +kernel
theorem d_NS_release_2 : decode prog_1_method_4_code 2 = .ok (.invokevirtual 61, 3) := by decide +kernel
theorem d_NS_release_5 : decode prog_1_method_4_code 5 = .ok (.ifnonnull 5, 3) := by decide +kernel
theorem d_NS_release_8 : decode prog_1_method_4_code 8 = .ok (.iconst 0, 1) := by decide +kernel
theorem d_NS_release_9 : decode prog_1_method_4_code 9 = .ok (.ireturn, 1) := by decide +kernel
theorem d_NS_release_10 : decode prog_1_method_4_code 10 = .ok (.aload_n 0, 1) := by decide +kernel
theorem d_NS_release_11 : decode prog_1_method_4_code 11 = .ok (.getfield 11, 3) := by decide +kernel
theorem d_NS_release_14 : decode prog_1_method_4_code 14 = .ok (.iload_n 1, 1) := by decide +kernel
theorem d_NS_release_15 : decode prog_1_method_4_code 15 = .ok (.aconst_null, 1) := by decide +kernel
theorem d_NS_release_16 : decode prog_1_method_4_code 16 = .ok (.aastore, 1) := by decide +kernel
theorem d_NS_release_17 : decode prog_1_method_4_code 17 = .ok (.iconst 1, 1) := by decide +kernel
theorem d_NS_release_18 : decode prog_1_method_4_code 18 = .ok (.ireturn, 1) := by decide +kernel
theorem d_NS_next_0 : decode prog_1_method_5_code 0 = .ok (.aload_n 0, 1) := by decide +kernel
theorem d_NS_next_1 : decode prog_1_method_5_code 1 = .ok (.iload_n 1, 1) := by decide +kernel
theorem d_NS_next_2 : decode prog_1_method_5_code 2 = .ok (.invokevirtual 61, 3) := by decide +kernel
theorem d_NS_next_5 : decode prog_1_method_5_code 5 = .ok (.astore_n 2, 1) := by decide +kernel
theorem d_NS_next_6 : decode prog_1_method_5_code 6 = .ok (.aload_n 2, 1) := by decide +kernel
theorem d_NS_next_7 : decode prog_1_method_5_code 7 = .ok (.ifnonnull 7, 3) := by decide +kernel
theorem d_NS_next_10 : decode prog_1_method_5_code 10 = .ok (.ldc2_w 75, 3) := by decide +kernel
theorem d_NS_next_13 : decode prog_1_method_5_code 13 = .ok (.lreturn, 1) := by decide +kernel
theorem d_NS_next_14 : decode prog_1_method_5_code 14 = .ok (.aload_n 2, 1) := by decide +kernel
theorem d_NS_next_15 : decode prog_1_method_5_code 15 = .ok (.invokevirtual 77, 3) := by decide +kernel
theorem d_NS_next_18 : decode prog_1_method_5_code 18 = .ok (.invokestatic 80, 3) := by decide +kernel
theorem d_NS_next_21 : decode prog_1_method_5_code 21 = .ok (.lreturn, 1) := by decide +kernel
theorem d_ST_step_0 : decode prog_4_method_9_code 0 = .ok (.aload_n 0, 1) := by decide +kernel
theorem d_ST_step_1 : decode prog_4_method_9_code 1 = .ok (.invokevirtual 38, 3) := by decide +kernel
theorem d_ST_step_4 : decode prog_4_method_9_code 4 = .ok (.istore_n 1, 1) := by decide +kernel
theorem d_ST_step_5 : decode prog_4_method_9_code 5 = .ok (.aload_n 0, 1) := by decide +kernel
theorem d_ST_step_6 : decode prog_4_method_9_code 6 = .ok (.invokevirtual 42, 3) := by decide +kernel
theorem d_ST_step_9 : decode prog_4_method_9_code 9 = .ok (.iload_n 1, 1) := by decide +kernel
theorem d_ST_step_10 : decode prog_4_method_9_code 10 = .ok (.ireturn, 1) := by decide +kernel
theorem d_ST_output_0 : decode prog_4_method_12_code 0 = .ok (.aload_n 0, 1) := by decide +kernel
theorem d_ST_output_1 : decode prog_4_method_12_code 1 = .ok (.getfield 7, 3) := by decide +kernel
theorem d_ST_output_4 : decode prog_4_method_12_code 4 = .ok (.tableswitch 76 0 2 #[28, 56, 71], 28) := by decide +kernel
theorem d_ST_output_32 : decode prog_4_method_12_code 32 = .ok (.aload_n 0, 1) := by decide +kernel
theorem d_ST_output_33 : decode prog_4_method_12_code 33 = .ok (.getfield 13, 3) := by decide +kernel
theorem d_ST_output_36 : decode prog_4_method_12_code 36 = .ok (.bipush 18, 2) := by decide +kernel
theorem d_ST_output_38 : decode prog_4_method_12_code 38 = .ok (.lushr, 1) := by decide +kernel
theorem d_ST_output_39 : decode prog_4_method_12_code 39 = .ok (.aload_n 0, 1) := by decide +kernel
theorem d_ST_output_40 : decode prog_4_method_12_code 40 = .ok (.getfield 13, 3) := by decide +kernel
theorem d_ST_output_43 : decode prog_4_method_12_code 43 = .ok (.lxor, 1) := by decide +kernel
theorem d_ST_output_44 : decode prog_4_method_12_code 44 = .ok (.bipush 27, 2) := by decide +kernel
theorem d_ST_output_46 : decode prog_4_method_12_code 46 = .ok (.lushr, 1) := by decide +kernel
theorem d_ST_output_47 : decode prog_4_method_12_code 47 = .ok (.l2i, 1) := by decide +kernel
theorem d_ST_output_48 : decode prog_4_method_12_code 48 = .ok (.aload_n 0, 1) := by decide +kernel
theorem d_ST_output_49 : decode prog_4_method_12_code 49 = .ok (.getfield 13, 3) := by decide +kernel
theorem d_ST_output_52 : decode prog_4_method_12_code 52 = .ok (.bipush 59, 2) := by decide +kernel
theorem d_ST_output_54 : decode prog_4_method_12_code 54 = .ok (.lushr, 1) := by decide +kernel
theorem d_ST_output_55 : decode prog_4_method_12_code 55 = .ok (.l2i, 1) := by decide +kernel
theorem d_ST_output_56 : decode prog_4_method_12_code 56 = .ok (.invokestatic 61, 3) := by decide +kernel
theorem d_ST_output_59 : decode prog_4_method_12_code 59 = .ok (.ireturn, 1) := by decide +kernel
theorem d_ST_output_60 : decode prog_4_method_12_code 60 = .ok (.aload_n 0, 1) := by decide +kernel
theorem d_ST_output_61 : decode prog_4_method_12_code 61 = .ok (.getfield 13, 3) := by decide +kernel
theorem d_ST_output_64 : decode prog_4_method_12_code 64 = .ok (.l2i, 1) := by decide +kernel
theorem d_ST_output_65 : decode prog_4_method_12_code 65 = .ok (.ldc 67, 2) := by decide +kernel
theorem d_ST_output_67 : decode prog_4_method_12_code 67 = .ok (.imul, 1) := by decide +kernel
theorem d_ST_output_68 : decode prog_4_method_12_code 68 = .ok (.iconst 5, 1) := by decide +kernel
theorem d_ST_output_69 : decode prog_4_method_12_code 69 = .ok (.invokestatic 68, 3) := by decide +kernel
theorem d_ST_output_72 : decode prog_4_method_12_code 72 = .ok (.iconst 5, 1) := by decide +kernel
theorem d_ST_output_73 : decode prog_4_method_12_code 73 = .ok (.imul, 1) := by decide +kernel
theorem d_ST_output_74 : decode prog_4_method_12_code 74 = .ok (.ireturn, 1) := by decide +kernel
theorem d_ST_output_75 : decode prog_4_method_12_code 75 = .ok (.aload_n 0, 1) := by decide +kernel
theorem d_ST_output_76 : decode prog_4_method_12_code 76 = .ok (.invokevirtual 71, 3) := by decide +kernel
theorem d_ST_output_79 : decode prog_4_method_12_code 79 = .ok (.ireturn, 1) := by decide +kernel
theorem d_ST_output_80 : decode prog_4_method_12_code 80 = .ok (.ldc2_w 26, 3) := by decide +kernel
theorem d_ST_output_83 : decode prog_4_method_12_code 83 = .ok (.aload_n 0, 1) := by decide +kernel
theorem d_ST_output_84 : decode prog_4_method_12_code 84 = .ok (.invokevirtual 57, 3) := by decide +kernel
theorem d_ST_output_87 : decode prog_4_method_12_code 87 = .ok (.lmul, 1) := by decide +kernel
theorem d_ST_output_88 : decode prog_4_method_12_code 88 = .ok (.aload_n 0, 1) := by decide +kernel
theorem d_ST_output_89 : decode prog_4_method_12_code 89 = .ok (.getfield 13, 3) := by decide +kernel
theorem d_ST_output_92 : decode prog_4_method_12_code 92 = .ok (.lconst 1, 1) := by decide +kernel
theorem d_ST_output_93 : decode prog_4_method_12_code 93 = .ok (.land, 1) := by decide +kernel
theorem d_ST_output_94 : decode prog_4_method_12_code 94 = .ok (.ladd, 1) := by decide +kernel
theorem d_ST_output_95 : decode prog_4_method_12_code 95 = .ok (.l2i, 1) := by decide +kernel
theorem d_ST_output_96 : decode prog_4_method_12_code 96 = .ok (.ireturn, 1) := by decide +kernel
theorem d_JI_rotateRight_0 : decode prog_7_method_51_code 0 = .ok (.iload_n 0, 1) := by decide +kernel
theorem d_JI_rotateRight_1 : decode prog_7_method_51_code 1 = .ok (.iload_n 1, 1) := by decide +kernel
theorem d_JI_rotateRight_2 : decode prog_7_method_51_code 2 = .ok (.iushr, 1) := by decide +kernel
theorem d_JI_rotateRight_3 : decode prog_7_method_51_code 3 = .ok (.iload_n 0, 1) := by decide +kernel
theorem d_JI_rotateRight_4 : decode prog_7_method_51_code 4 = .ok (.iload_n 1, 1) := by decide +kernel
theorem d_JI_rotateRight_5 : decode prog_7_method_51_code 5 = .ok (.ineg, 1) := by decide +kernel
theorem d_JI_rotateRight_6 : decode prog_7_method_51_code 6 = .ok (.ishl, 1) := by decide +kernel
theorem d_JI_rotateRight_7 : decode prog_7_method_51_code 7 = .ok (.ior, 1) := by decide +kernel
theorem d_JI_rotateRight_8 : decode prog_7_method_51_code 8 = .ok (.ireturn, 1) := by decide +kernel
theorem d_JI_rotateLeft_0 : decode prog_7_method_50_code 0 = .ok (.iload_n 0, 1) := by decide +kernel
theorem d_JI_rotateLeft_1 : decode prog_7_method_50_code 1 = .ok (.iload_n 1, 1) := by decide +kernel
theorem d_JI_rotateLeft_2 : decode prog_7_method_50_code 2 = .ok (.ishl, 1) := by decide +kernel
theorem d_JI_rotateLeft_3 : decode prog_7_method_50_code 3 = .ok (.iload_n 0, 1) := by decide +kernel
theorem d_JI_rotateLeft_4 : decode prog_7_method_50_code 4 = .ok (.iload_n 1, 1) := by decide +kernel
theorem d_JI_rotateLeft_5 : decode prog_7_method_50_code 5 = .ok (.ineg, 1) := by decide +kernel
theorem d_JI_rotateLeft_6 : decode prog_7_method_50_code 6 = .ok (.iushr, 1) := by decide +kernel
theorem d_JI_rotateLeft_7 : decode prog_7_method_50_code 7 = .ok (.ior, 1) := by decide +kernel
theorem d_JI_rotateLeft_8 : decode prog_7_method_50_code 8 = .ok (.ireturn, 1) := by decide +kernel
theorem d_ST_mixedCounter_0 : decode prog_4_method_14_code 0 = .ok (.aload_n 0, 1) := by decide +kernel
theorem d_ST_mixedCounter_1 : decode prog_4_method_14_code 1 = .ok (.getfield 17, 3) := by decide +kernel
theorem d_ST_mixedCounter_4 : decode prog_4_method_14_code 4 = .ok (.iconst 1, 1) := by decide +kernel
theorem d_ST_mixedCounter_5 : decode prog_4_method_14_code 5 = .ok (.lushr, 1) := by decide +kernel
theorem d_ST_mixedCounter_6 : decode prog_4_method_14_code 6 = .ok (.l2i, 1) := by decide +kernel
theorem d_ST_mixedCounter_7 : decode prog_4_method_14_code 7 = .ok (.istore_n 1, 1) := by decide +kernel
theorem d_ST_mixedCounter_8 : decode prog_4_method_14_code 8 = .ok (.aload_n 0, 1) := by decide +kernel
theorem d_ST_mixedCounter_9 : decode prog_4_method_14_code 9 = .ok (.getfield 17, 3) := by decide +kernel
theorem d_ST_mixedCounter_12 : decode prog_4_method_14_code 12 = .ok (.bipush 33, 2) := by decide +kernel
theorem d_ST_mixedCounter_14 : decode prog_4_method_14_code 14 = .ok (.lushr, 1) := by decide +kernel
theorem d_ST_mixedCounter_15 : decode prog_4_method_14_code 15 = .ok (.l2i, 1) := by decide +kernel
theorem d_ST_mixedCounter_16 : decode prog_4_method_14_code 16 = .ok (.istore_n 2, 1) := by decide +kernel
theorem d_ST_mixedCounter_17 : decode prog_4_method_14_code 17 = .ok (.aload_n 0, 1) := by decide +kernel
theorem d_ST_mixedCounter_18 : decode prog_4_method_14_code 18 = .ok (.getfield 13, 3) := by decide +kernel
theorem d_ST_mixedCounter_21 : decode prog_4_method_14_code 21 = .ok (.l2i, 1) := by decide +kernel
theorem d_ST_mixedCounter_22 : decode prog_4_method_14_code 22 = .ok (.istore_n 3, 1) := by decide +kernel
theorem d_ST_mixedCounter_23 : decode prog_4_method_14_code 23 = .ok (.iconst 0, 1) := by decide +kernel
theorem d_ST_mixedCounter_24 : decode prog_4_method_14_code 24 = .ok (.istore 4, 2) := by decide +kernel
theorem d_ST_mixedCounter_26 : decode prog_4_method_14_code 26 = .ok (.iload 4, 2) := by decide +kernel
theorem d_ST_mixedCounter_28 : decode prog_4_method_14_code 28 = .ok (.bipush 10, 2) := by decide +kernel
theorem d_ST_mixedCounter_30 : decode prog_4_method_14_code 30 = .ok (.if_icmp .ge 39, 3) := by decide +kernel
theorem d_ST_mixedCounter_33 : decode prog_4_method_14_code 33 = .ok (.iload_n 1, 1) := by decide +kernel
theorem d_ST_mixedCounter_34 : decode prog_4_method_14_code 34 = .ok (.invokestatic 28, 3) := by decide +kernel
theorem d_ST_mixedCounter_37 : decode prog_4_method_14_code 37 = .ok (.ldc2_w 74, 3) := by decide +kernel
theorem d_ST_mixedCounter_40 : decode prog_4_method_14_code 40 = .ok (.lmul, 1) := by decide +kernel
theorem d_ST_mixedCounter_41 : decode prog_4_method_14_code 41 = .ok (.lstore 5, 2) := by decide +kernel
theorem d_ST_mixedCounter_43 : decode prog_4_method_14_code 43 = .ok (.lload 5, 2) := by decide +kernel
theorem d_ST_mixedCounter_45 : decode prog_4_method_14_code 45 = .ok (.bipush 32, 2) := by decide +kernel
theorem d_ST_mixedCounter_47 : decode prog_4_method_14_code 47 = .ok (.lushr, 1) := by decide +kernel
theorem d_ST_mixedCounter_48 : decode prog_4_method_14_code 48 = .ok (.l2i, 1) := by decide +kernel
theorem d_ST_mixedCounter_49 : decode prog_4_method_14_code 49 = .ok (.iload_n 3, 1) := by decide +kernel
theorem d_ST_mixedCounter_50 : decode prog_4_method_14_code 50 = .ok (.ixor, 1) := by decide +kernel
theorem d_ST_mixedCounter_51 : decode prog_4_method_14_code 51 = .ok (.iload_n 2, 1) := by decide +kernel
theorem d_ST_mixedCounter_52 : decode prog_4_method_14_code 52 = .ok (.ixor, 1) := by decide +kernel
theorem d_ST_mixedCounter_53 : decode prog_4_method_14_code 53 = .ok (.istore_n 1, 1) := by decide +kernel
theorem d_ST_mixedCounter_54 : decode prog_4_method_14_code 54 = .ok (.lload 5, 2) := by decide +kernel
theorem d_ST_mixedCounter_56 : decode prog_4_method_14_code 56 = .ok (.l2i, 1) := by decide +kernel
theorem d_ST_mixedCounter_57 : decode prog_4_method_14_code 57 = .ok (.istore_n 2, 1) := by decide +kernel
theorem d_ST_mixedCounter_58 : decode prog_4_method_14_code 58 = .ok (.iload_n 3, 1) := by decide +kernel
theorem d_ST_mixedCounter_59 : decode prog_4_method_14_code 59 = .ok (.ldc 76, 2) := by decide +kernel
theorem d_ST_mixedCounter_61 : decode prog_4_method_14_code 61 = .ok (.isub, 1) := by decide +kernel
theorem d_ST_mixedCounter_62 : decode prog_4_method_14_code 62 = .ok (.istore_n 3, 1) := by decide +kernel
theorem d_ST_mixedCounter_63 : decode prog_4_method_14_code 63 = .ok (.iinc 4 1, 3) := by decide +kernel
theorem d_ST_mixedCounter_66 : decode prog_4_method_14_code 66 = .ok (.goto (-40), 3) := by decide +kernel
theorem d_ST_mixedCounter_69 : decode prog_4_method_14_code 69 = .ok (.aload_n 0, 1) := by decide +kernel
theorem d_ST_mixedCounter_70 : decode prog_4_method_14_code 70 = .ok (.getfield 17, 3) := by decide +kernel
theorem d_ST_mixedCounter_73 : decode prog_4_method_14_code 73 = .ok (.lconst 1, 1) := by decide +kernel
theorem d_ST_mixedCounter_74 : decode prog_4_method_14_code 74 = .ok (.land, 1) := by decide +kernel
theorem d_ST_mixedCounter_75 : decode prog_4_method_14_code 75 = .ok (.lconst 0, 1) := by decide +kernel
theorem d_ST_mixedCounter_76 : decode prog_4_method_14_code 76 = .ok (.lcmp, 1) := by decide +kernel
theorem d_ST_mixedCounter_77 : decode prog_4_method_14_code 77 = .ok (.ifCond .ne 7, 3) := by decide +kernel
theorem d_ST_mixedCounter_80 : decode prog_4_method_14_code 80 = .ok (.iload_n 1, 1) := by decide +kernel
theorem d_ST_mixedCounter_81 : decode prog_4_method_14_code 81 = .ok (.goto 4, 3) := by decide +kernel
theorem d_ST_mixedCounter_84 : decode prog_4_method_14_code 84 = .ok (.iload_n 2, 1) := by decide +kernel
theorem d_ST_mixedCounter_85 : decode prog_4_method_14_code 85 = .ok (.ireturn, 1) := by decide +kernel
theorem d_ST_nextRemainder_0 : decode prog_4_method_15_code 0 = .ok (.ldc2_w 77, 3) := by decide +kernel
theorem d_ST_nextRemainder_3 : decode prog_4_method_15_code 3 = .ok (.aload_n 0, 1) := by decide +kernel
theorem d_ST_nextRemainder_4 : decode prog_4_method_15_code 4 = .ok (.getfield 13, 3) := by decide +kernel
theorem d_ST_nextRemainder_7 : decode prog_4_method_15_code 7 = .ok (.lmul, 1) := by decide +kernel
theorem d_ST_nextRemainder_8 : decode prog_4_method_15_code 8 = .ok (.ldc2_w 79, 3) := by decide +kernel
theorem d_ST_nextRemainder_11 : decode prog_4_method_15_code 11 = .ok (.aload_n 0, 1) := by decide +kernel
theorem d_ST_nextRemainder_12 : decode prog_4_method_15_code 12 = .ok (.getfield 17, 3) := by decide +kernel
theorem d_ST_nextRemainder_15 : decode prog_4_method_15_code 15 = .ok (.lmul, 1) := by decide +kernel
theorem d_ST_nextRemainder_16 : decode prog_4_method_15_code 16 = .ok (.ladd, 1) := by decide +kernel
theorem d_ST_nextRemainder_17 : decode prog_4_method_15_code 17 = .ok (.ldc2_w 36, 3) := by decide +kernel
theorem d_ST_nextRemainder_20 : decode prog_4_method_15_code 20 = .ok (.lrem, 1) := by decide +kernel
theorem d_ST_nextRemainder_21 : decode prog_4_method_15_code 21 = .ok (.lreturn, 1) := by decide +kernel
theorem d_ST_move_0 : decode prog_4_method_11_code 0 = .ok (.aload_n 0, 1) := by decide +kernel
theorem d_ST_move_1 : decode prog_4_method_11_code 1 = .ok (.getfield 7, 3) := by decide +kernel
theorem d_ST_move_4 : decode prog_4_method_11_code 4 = .ok (.tableswitch 83 0 2 #[28, 48, 55], 28) := by decide +kernel
theorem d_ST_move_32 : decode prog_4_method_11_code 32 = .ok (.aload_n 0, 1) := by decide +kernel
theorem d_ST_move_33 : decode prog_4_method_11_code 33 = .ok (.aload_n 0, 1) := by decide +kernel
theorem d_ST_move_34 : decode prog_4_method_11_code 34 = .ok (.getfield 13, 3) := by decide +kernel
theorem d_ST_move_37 : decode prog_4_method_11_code 37 = .ok (.ldc2_w 50, 3) := by decide +kernel
theorem d_ST_move_40 : decode prog_4_method_11_code 40 = .ok (.lmul, 1) := by decide +kernel
theorem d_ST_move_41 : decode prog_4_method_11_code 41 = .ok (.aload_n 0, 1) := by decide +kernel
theorem d_ST_move_42 : decode prog_4_method_11_code 42 = .ok (.getfield 17, 3) := by decide +kernel
theorem d_ST_move_45 : decode prog_4_method_11_code 45 = .ok (.ladd, 1) := by decide +kernel
theorem d_ST_move_46 : decode prog_4_method_11_code 46 = .ok (.putfield 13, 3) := by decide +kernel
theorem d_ST_move_49 : decode prog_4_method_11_code 49 = .ok (.goto 56, 3) := by decide +kernel
theorem d_ST_move_52 : decode prog_4_method_11_code 52 = .ok (.aload_n 0, 1) := by decide +kernel
theorem d_ST_move_53 : decode prog_4_method_11_code 53 = .ok (.invokevirtual 52, 3) := by decide +kernel
theorem d_ST_move_56 : decode prog_4_method_11_code 56 = .ok (.goto 49, 3) := by decide +kernel
theorem d_ST_move_59 : decode prog_4_method_11_code 59 = .ok (.aload_n 0, 1) := by decide +kernel
theorem d_ST_move_60 : decode prog_4_method_11_code 60 = .ok (.aload_n 0, 1) := by decide +kernel
theorem d_ST_move_61 : decode prog_4_method_11_code 61 = .ok (.getfield 17, 3) := by decide +kernel
theorem d_ST_move_64 : decode prog_4_method_11_code 64 = .ok (.ldc2_w 55, 3) := by decide +kernel
theorem d_ST_move_67 : decode prog_4_method_11_code 67 = .ok (.lcmp, 1) := by decide +kernel
theorem d_ST_move_68 : decode prog_4_method_11_code 68 = .ok (.ifCond .ne 7, 3) := by decide +kernel
theorem d_ST_move_71 : decode prog_4_method_11_code 71 = .ok (.lconst 0, 1) := by decide +kernel
theorem d_ST_move_72 : decode prog_4_method_11_code 72 = .ok (.goto 9, 3) := by decide +kernel
theorem d_ST_move_75 : decode prog_4_method_11_code 75 = .ok (.aload_n 0, 1) := by decide +kernel
theorem d_ST_move_76 : decode prog_4_method_11_code 76 = .ok (.getfield 17, 3) := by decide +kernel
theorem d_ST_move_79 : decode prog_4_method_11_code 79 = .ok (.lconst 1, 1) := by decide +kernel
theorem d_ST_move_80 : decode prog_4_method_11_code 80 = .ok (.ladd, 1) := by decide +kernel
theorem d_ST_move_81 : decode prog_4_method_11_code 81 = .ok (.putfield 17, 3) := by decide +kernel
theorem d_ST_move_84 : decode prog_4_method_11_code 84 = .ok (.goto 21, 3) := by decide +kernel
theorem d_ST_move_87 : decode prog_4_method_11_code 87 = .ok (.aload_n 0, 1) := by decide +kernel
theorem d_ST_move_88 : decode prog_4_method_11_code 88 = .ok (.invokevirtual 57, 3) := by decide +kernel
theorem d_ST_move_91 : decode prog_4_method_11_code 91 = .ok (.lstore_n 1, 1) := by decide +kernel
theorem d_ST_move_92 : decode prog_4_method_11_code 92 = .ok (.aload_n 0, 1) := by decide +kernel
theorem d_ST_move_93 : decode prog_4_method_11_code 93 = .ok (.aload_n 0, 1) := by decide +kernel
theorem d_ST_move_94 : decode prog_4_method_11_code 94 = .ok (.getfield 13, 3) := by decide +kernel
theorem d_ST_move_97 : decode prog_4_method_11_code 97 = .ok (.putfield 17, 3) := by decide +kernel
theorem d_ST_move_100 : decode prog_4_method_11_code 100 = .ok (.aload_n 0, 1) := by decide +kernel
theorem d_ST_move_101 : decode prog_4_method_11_code 101 = .ok (.lload_n 1, 1) := by decide +kernel
theorem d_ST_move_102 : decode prog_4_method_11_code 102 = .ok (.putfield 13, 3) := by decide +kernel
theorem d_ST_move_105 : decode prog_4_method_11_code 105 = .ok (.return_, 1) := by decide +kernel
theorem d_ST_moveRotations_0 : decode prog_4_method_13_code 0 = .ok (.aload_n 0, 1) := by decide +kernel
theorem d_ST_moveRotations_1 : decode prog_4_method_13_code 1 = .ok (.getfield 13, 3) := by decide +kernel
theorem d_ST_moveRotations_4 : decode prog_4_method_13_code 4 = .ok (.l2i, 1) := by decide +kernel
theorem d_ST_moveRotations_5 : decode prog_4_method_13_code 5 = .ok (.istore_n 1, 1) := by decide +kernel
theorem d_ST_moveRotations_6 : decode prog_4_method_13_code 6 = .ok (.aload_n 0, 1) := by decide +kernel
theorem d_ST_moveRotations_7 : decode prog_4_method_13_code 7 = .ok (.getfield 17, 3) := by decide +kernel
theorem d_ST_moveRotations_10 : decode prog_4_method_13_code 10 = .ok (.l2i, 1) := by decide +kernel
theorem d_ST_moveRotations_11 : decode prog_4_method_13_code 11 = .ok (.iload_n 1, 1) := by decide +kernel
theorem d_ST_moveRotations_12 : decode prog_4_method_13_code 12 = .ok (.ixor, 1) := by decide +kernel
theorem d_ST_moveRotations_13 : decode prog_4_method_13_code 13 = .ok (.istore_n 2, 1) := by decide +kernel
theorem d_ST_moveRotations_14 : decode prog_4_method_13_code 14 = .ok (.aload_n 0, 1) := by decide +kernel
theorem d_ST_moveRotations_15 : decode prog_4_method_13_code 15 = .ok (.iload_n 1, 1) := by decide +kernel
theorem d_ST_moveRotations_16 : decode prog_4_method_13_code 16 = .ok (.bipush 26, 2) := by decide +kernel
theorem d_ST_moveRotations_18 : decode prog_4_method_13_code 18 = .ok (.invokestatic 68, 3) := by decide +kernel
theorem d_ST_moveRotations_21 : decode prog_4_method_13_code 21 = .ok (.iload_n 2, 1) := by decide +kernel
theorem d_ST_moveRotations_22 : decode prog_4_method_13_code 22 = .ok (.ixor, 1) := by decide +kernel
theorem d_ST_moveRotations_23 : decode prog_4_method_13_code 23 = .ok (.iload_n 2, 1) := by decide +kernel
theorem d_ST_moveRotations_24 : decode prog_4_method_13_code 24 = .ok (.bipush 9, 2) := by decide +kernel
theorem d_ST_moveRotations_26 : decode prog_4_method_13_code 26 = .ok (.ishl, 1) := by decide +kernel
theorem d_ST_moveRotations_27 : decode prog_4_method_13_code 27 = .ok (.ixor, 1) := by decide +kernel
theorem d_ST_moveRotations_28 : decode prog_4_method_13_code 28 = .ok (.i2l, 1) := by decide +kernel
theorem d_ST_moveRotations_29 : decode prog_4_method_13_code 29 = .ok (.putfield 13, 3) := by decide +kernel
theorem d_ST_moveRotations_32 : decode prog_4_method_13_code 32 = .ok (.aload_n 0, 1) := by decide +kernel
theorem d_ST_moveRotations_33 : decode prog_4_method_13_code 33 = .ok (.iload_n 2, 1) := by decide +kernel
theorem d_ST_moveRotations_34 : decode prog_4_method_13_code 34 = .ok (.bipush 13, 2) := by decide +kernel
theorem d_ST_moveRotations_36 : decode prog_4_method_13_code 36 = .ok (.invokestatic 68, 3) := by decide +kernel
theorem d_ST_moveRotations_39 : decode prog_4_method_13_code 39 = .ok (.i2l, 1) := by decide +kernel
theorem d_ST_moveRotations_40 : decode prog_4_method_13_code 40 = .ok (.putfield 17, 3) := by decide +kernel
theorem d_ST_moveRotations_43 : decode prog_4_method_13_code 43 = .ok (.return_, 1) := by decide +kernel
theorem d_NS_jump_0 : decode prog_1_method_6_code 0 = .ok (.aload_n 0, 1) := by decide +kernel
theorem d_NS_jump_1 : decode prog_1_method_6_code 1 = .ok (.iload_n 1, 1) := by decide +kernel
theorem d_NS_jump_2 : decode prog_1_method_6_code 2 = .ok (.invokevirtual 61, 3) := by decide +kernel
theorem d_NS_jump_5 : decode prog_1_method_6_code 5 = .ok (.astore_n 3, 1) := by decide +kernel
theorem d_NS_jump_6 : decode prog_1_method_6_code 6 = .ok (.aload_n 3, 1) := by decide +kernel
theorem d_NS_jump_7 : decode prog_1_method_6_code 7 = .ok (.ifnull 13, 3) := by decide +kernel
theorem d_NS_jump_10 : decode prog_1_method_6_code 10 = .ok (.iload_n 2, 1) := by decide +kernel
theorem d_NS_jump_11 : decode prog_1_method_6_code 11 = .ok (.ifCond .lt 9, 3) := by decide +kernel
theorem d_NS_jump_14 : decode prog_1_method_6_code 14 = .ok (.iload_n 2, 1) := by decide +kernel
theorem d_NS_jump_15 : decode prog_1_method_6_code 15 = .ok (.ldc 84, 2) := by decide +kernel
theorem d_NS_jump_17 : decode prog_1_method_6_code 17 = .ok (.if_icmp .le 5, 3) := by decide +kernel
theorem d_NS_jump_20 : decode prog_1_method_6_code 20 = .ok (.iconst 0, 1) := by decide +kernel
theorem d_NS_jump_21 : decode prog_1_method_6_code 21 = .ok (.ireturn, 1) := by decide +kernel
theorem d_NS_jump_22 : decode prog_1_method_6_code 22 = .ok (.iconst 0, 1) := by decide +kernel
theorem d_NS_jump_23 : decode prog_1_method_6_code 23 = .ok (.istore 4, 2) := by decide +kernel
theorem d_NS_jump_25 : decode prog_1_method_6_code 25 = .ok (.iload 4, 2) := by decide +kernel
theorem d_NS_jump_27 : decode prog_1_method_6_code 27 = .ok (.iload_n 2, 1) := by decide +kernel
theorem d_NS_jump_28 : decode prog_1_method_6_code 28 = .ok (.if_icmp .ge 13, 3) := by decide +kernel
theorem d_NS_jump_31 : decode prog_1_method_6_code 31 = .ok (.aload_n 3, 1) := by decide +kernel
theorem d_NS_jump_32 : decode prog_1_method_6_code 32 = .ok (.invokevirtual 85, 3) := by decide +kernel
theorem d_NS_jump_35 : decode prog_1_method_6_code 35 = .ok (.iinc 4 1, 3) := by decide +kernel
theorem d_NS_jump_38 : decode prog_1_method_6_code 38 = .ok (.goto (-13), 3) := by decide +kernel
theorem d_NS_jump_41 : decode prog_1_method_6_code 41 = .ok (.iconst 1, 1) := by decide +kernel
theorem d_NS_jump_42 : decode prog_1_method_6_code 42 = .ok (.ireturn, 1) := by decide +kernel
theorem d_NS_draw_0 : decode prog_1_method_7_code 0 = .ok (.aload_n 0, 1) := by decide +kernel
theorem d_NS_draw_1 : decode prog_1_method_7_code 1 = .ok (.iload_n 1, 1) := by decide +kernel
theorem d_NS_draw_2 : decode prog_1_method_7_code 2 = .ok (.invokevirtual 61, 3) := by decide +kernel
theorem d_NS_draw_5 : decode prog_1_method_7_code 5 = .ok (.astore_n 3, 1) := by decide +kernel
theorem d_NS_draw_6 : decode prog_1_method_7_code 6 = .ok (.aload_n 3, 1) := by decide +kernel
theorem d_NS_draw_7 : decode prog_1_method_7_code 7 = .ok (.ifnull 8, 3) := by decide +kernel
theorem d_NS_draw_10 : decode prog_1_method_7_code 10 = .ok (.iload_n 2, 1) := by decide +kernel
theorem d_NS_draw_11 : decode prog_1_method_7_code 11 = .ok (.iconst 1, 1) := by decide +kernel
theorem d_NS_draw_12 : decode prog_1_method_7_code 12 = .ok (.if_icmp .ge 5, 3) := by decide +kernel
theorem d_NS_draw_15 : decode prog_1_method_7_code 15 = .ok (.iconst (-1), 1) := by decide +kernel
theorem d_NS_draw_16 : decode prog_1_method_7_code 16 = .ok (.ireturn, 1) := by decide +kernel
theorem d_NS_draw_17 : decode prog_1_method_7_code 17 = .ok (.aload_n 3, 1) := by decide +kernel
theorem d_NS_draw_18 : decode prog_1_method_7_code 18 = .ok (.iload_n 2, 1) := by decide +kernel
theorem d_NS_draw_19 : decode prog_1_method_7_code 19 = .ok (.invokevirtual 88, 3) := by decide +kernel
theorem d_NS_draw_22 : decode prog_1_method_7_code 22 = .ok (.ireturn, 1) := by decide +kernel
theorem d_ST_drawnBelow_0 : decode prog_4_method_10_code 0 = .ok (.iload_n 1, 1) := by decide +kernel
theorem d_ST_drawnBelow_1 : decode prog_4_method_10_code 1 = .ok (.iconst 1, 1) := by decide +kernel
theorem d_ST_drawnBelow_2 : decode prog_4_method_10_code 2 = .ok (.if_icmp .ge 7, 3) := by decide +kernel
theorem d_ST_drawnBelow_5 : decode prog_4_method_10_code 5 = .ok (.lconst 0, 1) := by decide +kernel
theorem d_ST_drawnBelow_6 : decode prog_4_method_10_code 6 = .ok (.goto 9, 3) := by decide +kernel
theorem d_ST_drawnBelow_9 : decode prog_4_method_10_code 9 = .ok (.ldc2_w 45, 3) := by decide +kernel
theorem d_ST_drawnBelow_12 : decode prog_4_method_10_code 12 = .ok (.iload_n 1, 1) := by decide +kernel
theorem d_ST_drawnBelow_13 : decode prog_4_method_10_code 13 = .ok (.i2l, 1) := by decide +kernel
theorem d_ST_drawnBelow_14 : decode prog_4_method_10_code 14 = .ok (.lrem, 1) := by decide +kernel
theorem d_ST_drawnBelow_15 : decode prog_4_method_10_code 15 = .ok (.lstore_n 2, 1) := by decide +kernel
theorem d_ST_drawnBelow_16 : decode prog_4_method_10_code 16 = .ok (.aload_n 0, 1) := by decide +kernel
theorem d_ST_drawnBelow_17 : decode prog_4_method_10_code 17 = .ok (.invokevirtual 47, 3) := by decide +kernel
theorem d_ST_drawnBelow_20 : decode prog_4_method_10_code 20 = .ok (.invokestatic 28, 3) := by decide +kernel
theorem d_ST_drawnBelow_23 : decode prog_4_method_10_code 23 = .ok (.iload_n 1, 1) := by decide +kernel
theorem d_ST_drawnBelow_24 : decode prog_4_method_10_code 24 = .ok (.i2l, 1) := by decide +kernel
theorem d_ST_drawnBelow_25 : decode prog_4_method_10_code 25 = .ok (.lmul, 1) := by decide +kernel
theorem d_ST_drawnBelow_26 : decode prog_4_method_10_code 26 = .ok (.lstore 4, 2) := by decide +kernel
theorem d_ST_drawnBelow_28 : decode prog_4_method_10_code 28 = .ok (.iconst 1, 1) := by decide +kernel
theorem d_ST_drawnBelow_29 : decode prog_4_method_10_code 29 = .ok (.istore 6, 2) := by decide +kernel
theorem d_ST_drawnBelow_31 : decode prog_4_method_10_code 31 = .ok (.iload 6, 2) := by decide +kernel
theorem d_ST_drawnBelow_33 : decode prog_4_method_10_code 33 = .ok (.bipush 8, 2) := by decide +kernel
theorem d_ST_drawnBelow_35 : decode prog_4_method_10_code 35 = .ok (.if_icmp .ge 32, 3) := by decide +kernel
theorem d_ST_drawnBelow_38 : decode prog_4_method_10_code 38 = .ok (.lload 4, 2) := by decide +kernel
theorem d_ST_drawnBelow_40 : decode prog_4_method_10_code 40 = .ok (.l2i, 1) := by decide +kernel
theorem d_ST_drawnBelow_41 : decode prog_4_method_10_code 41 = .ok (.invokestatic 28, 3) := by decide +kernel
theorem d_ST_drawnBelow_44 : decode prog_4_method_10_code 44 = .ok (.lload_n 2, 1) := by decide +kernel
theorem d_ST_drawnBelow_45 : decode prog_4_method_10_code 45 = .ok (.lcmp, 1) := by decide +kernel
theorem d_ST_drawnBelow_46 : decode prog_4_method_10_code 46 = .ok (.ifCond .ge 21, 3) := by decide +kernel
theorem d_ST_drawnBelow_49 : decode prog_4_method_10_code 49 = .ok (.aload_n 0, 1) := by decide +kernel
theorem d_ST_drawnBelow_50 : decode prog_4_method_10_code 50 = .ok (.invokevirtual 47, 3) := by decide +kernel
theorem d_ST_drawnBelow_53 : decode prog_4_method_10_code 53 = .ok (.invokestatic 28, 3) := by decide +kernel
theorem d_ST_drawnBelow_56 : decode prog_4_method_10_code 56 = .ok (.iload_n 1, 1) := by decide +kernel
theorem d_ST_drawnBelow_57 : decode prog_4_method_10_code 57 = .ok (.i2l, 1) := by decide +kernel
theorem d_ST_drawnBelow_58 : decode prog_4_method_10_code 58 = .ok (.lmul, 1) := by decide +kernel
theorem d_ST_drawnBelow_59 : decode prog_4_method_10_code 59 = .ok (.lstore 4, 2) := by decide +kernel
theorem d_ST_drawnBelow_61 : decode prog_4_method_10_code 61 = .ok (.iinc 6 1, 3) := by decide +kernel
theorem d_ST_drawnBelow_64 : decode prog_4_method_10_code 64 = .ok (.goto (-33), 3) := by decide +kernel
theorem d_ST_drawnBelow_67 : decode prog_4_method_10_code 67 = .ok (.lload 4, 2) := by decide +kernel
theorem d_ST_drawnBelow_69 : decode prog_4_method_10_code 69 = .ok (.bipush 32, 2) := by decide +kernel
theorem d_ST_drawnBelow_71 : decode prog_4_method_10_code 71 = .ok (.lushr, 1) := by decide +kernel
theorem d_ST_drawnBelow_72 : decode prog_4_method_10_code 72 = .ok (.l2i, 1) := by decide +kernel
theorem d_ST_drawnBelow_73 : decode prog_4_method_10_code 73 = .ok (.ireturn, 1) := by decide +kernel
theorem d_NS_same_0 : decode prog_1_method_8_code 0 = .ok (.aload_n 0, 1) := by decide +kernel
theorem d_NS_same_1 : decode prog_1_method_8_code 1 = .ok (.iload_n 1, 1) := by decide +kernel
theorem d_NS_same_2 : decode prog_1_method_8_code 2 = .ok (.invokevirtual 61, 3) := by decide +kernel
theorem d_NS_same_5 : decode prog_1_method_8_code 5 = .ok (.astore_n 3, 1) := by decide +kernel
theorem d_NS_same_6 : decode prog_1_method_8_code 6 = .ok (.aload_n 0, 1) := by decide +kernel
theorem d_NS_same_7 : decode prog_1_method_8_code 7 = .ok (.iload_n 2, 1) := by decide +kernel
theorem d_NS_same_8 : decode prog_1_method_8_code 8 = .ok (.invokevirtual 61, 3) := by decide +kernel
theorem d_NS_same_11 : decode prog_1_method_8_code 11 = .ok (.astore 4, 2) := by decide +kernel
theorem d_NS_same_13 : decode prog_1_method_8_code 13 = .ok (.aload_n 3, 1) := by decide +kernel
theorem d_NS_same_14 : decode prog_1_method_8_code 14 = .ok (.ifnull 50, 3) := by decide +kernel
theorem d_NS_same_17 : decode prog_1_method_8_code 17 = .ok (.aload 4, 2) := by decide +kernel
theorem d_NS_same_19 : decode prog_1_method_8_code 19 = .ok (.ifnull 45, 3) := by decide +kernel
theorem d_NS_same_22 : decode prog_1_method_8_code 22 = .ok (.aload_n 3, 1) := by decide +kernel
theorem d_NS_same_23 : decode prog_1_method_8_code 23 = .ok (.getfield 65, 3) := by decide +kernel
theorem d_NS_same_26 : decode prog_1_method_8_code 26 = .ok (.aload 4, 2) := by decide +kernel
theorem d_NS_same_28 : decode prog_1_method_8_code 28 = .ok (.getfield 65, 3) := by decide +kernel
theorem d_NS_same_31 : decode prog_1_method_8_code 31 = .ok (.if_icmp .ne 33, 3) := by decide +kernel
theorem d_NS_same_34 : decode prog_1_method_8_code 34 = .ok (.aload_n 3, 1) := by decide +kernel
theorem d_NS_same_35 : decode prog_1_method_8_code 35 = .ok (.getfield 68, 3) := by decide +kernel
theorem d_NS_same_38 : decode prog_1_method_8_code 38 = .ok (.aload 4, 2) := by decide +kernel
theorem d_NS_same_40 : decode prog_1_method_8_code 40 = .ok (.getfield 68, 3) := by decide +kernel
theorem d_NS_same_43 : decode prog_1_method_8_code 43 = .ok (.lcmp, 1) := by decide +kernel
theorem d_NS_same_44 : decode prog_1_method_8_code 44 = .ok (.ifCond .ne 20, 3) := by decide +kernel
theorem d_NS_same_47 : decode prog_1_method_8_code 47 = .ok (.aload_n 3, 1) := by decide +kernel
theorem d_NS_same_48 : decode prog_1_method_8_code 48 = .ok (.getfield 72, 3) := by decide +kernel
theorem d_NS_same_51 : decode prog_1_method_8_code 51 = .ok (.aload 4, 2) := by decide +kernel
theorem d_NS_same_53 : decode prog_1_method_8_code 53 = .ok (.getfield 72, 3) := by decide +kernel
theorem d_NS_same_56 : decode prog_1_method_8_code 56 = .ok (.lcmp, 1) := by decide +kernel
theorem d_NS_same_57 : decode prog_1_method_8_code 57 = .ok (.ifCond .ne 7, 3) := by decide +kernel
theorem d_NS_same_60 : decode prog_1_method_8_code 60 = .ok (.iconst 1, 1) := by decide +kernel
theorem d_NS_same_61 : decode prog_1_method_8_code 61 = .ok (.goto 4, 3) := by decide +kernel
theorem d_NS_same_64 : decode prog_1_method_8_code 64 = .ok (.iconst 0, 1) := by decide +kernel
theorem d_NS_same_65 : decode prog_1_method_8_code 65 = .ok (.ireturn, 1) := by decide +kernel
theorem d_NS_save_0 : decode prog_1_method_9_code 0 = .ok (.aload_n 0, 1) := by decide +kernel
theorem d_NS_save_1 : decode prog_1_method_9_code 1 = .ok (.iload_n 1, 1) := by decide +kernel
theorem d_NS_save_2 : decode prog_1_method_9_code 2 = .ok (.invokevirtual 61, 3) := by decide +kernel
theorem d_NS_save_5 : decode prog_1_method_9_code 5 = .ok (.astore_n 2, 1) := by decide +kernel
theorem d_NS_save_6 : decode prog_1_method_9_code 6 = .ok (.aload_n 2, 1) := by decide +kernel
theorem d_NS_save_7 : decode prog_1_method_9_code 7 = .ok (.ifnull 12, 3) := by decide +kernel
theorem d_NS_save_10 : decode prog_1_method_9_code 10 = .ok (.aload_n 0, 1) := by decide +kernel
theorem d_NS_save_11 : decode prog_1_method_9_code 11 = .ok (.getfield 21, 3) := by decide +kernel
theorem d_NS_save_14 : decode prog_1_method_9_code 14 = .ok (.bipush 6, 2) := by decide +kernel
theorem d_NS_save_16 : decode prog_1_method_9_code 16 = .ok (.if_icmp .lt 5, 3) := by decide +kernel
theorem d_NS_save_19 : decode prog_1_method_9_code 19 = .ok (.iconst (-1), 1) := by decide +kernel
theorem d_NS_save_20 : decode prog_1_method_9_code 20 = .ok (.ireturn, 1) := by decide +kernel
theorem d_NS_save_21 : decode prog_1_method_9_code 21 = .ok (.aload_n 0, 1) := by decide +kernel
theorem d_NS_save_22 : decode prog_1_method_9_code 22 = .ok (.getfield 21, 3) := by decide +kernel
theorem d_NS_save_25 : decode prog_1_method_9_code 25 = .ok (.istore_n 3, 1) := by decide +kernel
theorem d_NS_save_26 : decode prog_1_method_9_code 26 = .ok (.aload_n 0, 1) := by decide +kernel
theorem d_NS_save_27 : decode prog_1_method_9_code 27 = .ok (.getfield 17, 3) := by decide +kernel
theorem d_NS_save_30 : decode prog_1_method_9_code 30 = .ok (.iload_n 3, 1) := by decide +kernel
theorem d_NS_save_31 : decode prog_1_method_9_code 31 = .ok (.new 15, 3) := by decide +kernel
theorem d_NS_save_34 : decode prog_1_method_9_code 34 = .ok (.dup, 1) := by decide +kernel
theorem d_NS_save_35 : decode prog_1_method_9_code 35 = .ok (.aload_n 2, 1) := by decide +kernel
theorem d_NS_save_36 : decode prog_1_method_9_code 36 = .ok (.invokespecial 92, 3) := by decide +kernel
theorem d_NS_save_39 : decode prog_1_method_9_code 39 = .ok (.aastore, 1) := by decide +kernel
theorem d_NS_save_40 : decode prog_1_method_9_code 40 = .ok (.aload_n 0, 1) := by decide +kernel
theorem d_NS_save_41 : decode prog_1_method_9_code 41 = .ok (.dup, 1) := by decide +kernel
theorem d_NS_save_42 : decode prog_1_method_9_code 42 = .ok (.getfield 21, 3) := by decide +kernel
theorem d_NS_save_45 : decode prog_1_method_9_code 45 = .ok (.iconst 1, 1) := by decide +kernel
theorem d_NS_save_46 : decode prog_1_method_9_code 46 = .ok (.iadd, 1) := by decide +kernel
theorem d_NS_save_47 : decode prog_1_method_9_code 47 = .ok (.putfield 21, 3) := by decide +kernel
theorem d_NS_save_50 : decode prog_1_method_9_code 50 = .ok (.iload_n 3, 1) := by decide +kernel
theorem d_NS_save_51 : decode prog_1_method_9_code 51 = .ok (.ireturn, 1) := by decide +kernel
theorem d_SV_init_0 : decode prog_3_method_1_code 0 = .ok (.aload_n 0, 1) := by decide +kernel
theorem d_SV_init_1 : decode prog_3_method_1_code 1 = .ok (.invokespecial 1, 3) := by decide +kernel
theorem d_SV_init_4 : decode prog_3_method_1_code 4 = .ok (.aload_n 0, 1) := by decide +kernel
theorem d_SV_init_5 : decode prog_3_method_1_code 5 = .ok (.bipush 6, 2) := by decide +kernel
theorem d_SV_init_7 : decode prog_3_method_1_code 7 = .ok (.newarray .int, 2) := by decide +kernel
theorem d_SV_init_9 : decode prog_3_method_1_code 9 = .ok (.putfield 9, 3) := by decide +kernel
theorem d_SV_init_12 : decode prog_3_method_1_code 12 = .ok (.aload_n 0, 1) := by decide +kernel
theorem d_SV_init_13 : decode prog_3_method_1_code 13 = .ok (.iconst 0, 1) := by decide +kernel
theorem d_SV_init_14 : decode prog_3_method_1_code 14 = .ok (.putfield 13, 3) := by decide +kernel
theorem d_SV_init_17 : decode prog_3_method_1_code 17 = .ok (.aload_n 0, 1) := by decide +kernel
theorem d_SV_init_18 : decode prog_3_method_1_code 18 = .ok (.ldc 17, 2) := by decide +kernel
theorem d_SV_init_20 : decode prog_3_method_1_code 20 = .ok (.aload_n 1, 1) := by decide +kernel
theorem d_SV_init_21 : decode prog_3_method_1_code 21 = .ok (.getfield 18, 3) := by decide +kernel
theorem d_SV_init_24 : decode prog_3_method_1_code 24 = .ok (.iadd, 1) := by decide +kernel
theorem d_SV_init_25 : decode prog_3_method_1_code 25 = .ok (.invokevirtual 23, 3) := by decide +kernel
theorem d_SV_init_28 : decode prog_3_method_1_code 28 = .ok (.aload_n 0, 1) := by decide +kernel
theorem d_SV_init_29 : decode prog_3_method_1_code 29 = .ok (.aload_n 1, 1) := by decide +kernel
theorem d_SV_init_30 : decode prog_3_method_1_code 30 = .ok (.getfield 27, 3) := by decide +kernel
theorem d_SV_init_33 : decode prog_3_method_1_code 33 = .ok (.aload_n 1, 1) := by decide +kernel
theorem d_SV_init_34 : decode prog_3_method_1_code 34 = .ok (.getfield 18, 3) := by decide +kernel
theorem d_SV_init_37 : decode prog_3_method_1_code 37 = .ok (.invokestatic 31, 3) := by decide +kernel
theorem d_SV_init_40 : decode prog_3_method_1_code 40 = .ok (.invokevirtual 35, 3) := by decide +kernel
theorem d_SV_init_43 : decode prog_3_method_1_code 43 = .ok (.aload_n 0, 1) := by decide +kernel
theorem d_SV_init_44 : decode prog_3_method_1_code 44 = .ok (.aload_n 1, 1) := by decide +kernel
theorem d_SV_init_45 : decode prog_3_method_1_code 45 = .ok (.getfield 39, 3) := by decide +kernel
theorem d_SV_init_48 : decode prog_3_method_1_code 48 = .ok (.aload_n 1, 1) := by decide +kernel
theorem d_SV_init_49 : decode prog_3_method_1_code 49 = .ok (.getfield 18, 3) := by decide +kernel
theorem d_SV_init_52 : decode prog_3_method_1_code 52 = .ok (.invokestatic 42, 3) := by decide +kernel
theorem d_SV_init_55 : decode prog_3_method_1_code 55 = .ok (.invokevirtual 35, 3) := by decide +kernel
theorem d_SV_init_58 : decode prog_3_method_1_code 58 = .ok (.aload_n 0, 1) := by decide +kernel
theorem d_SV_init_59 : decode prog_3_method_1_code 59 = .ok (.aload_n 0, 1) := by decide +kernel
theorem d_SV_init_60 : decode prog_3_method_1_code 60 = .ok (.aload_n 0, 1) := by decide +kernel
theorem d_SV_init_61 : decode prog_3_method_1_code 61 = .ok (.getfield 13, 3) := by decide +kernel
theorem d_SV_init_64 : decode prog_3_method_1_code 64 = .ok (.invokevirtual 45, 3) := by decide +kernel
theorem d_SV_init_67 : decode prog_3_method_1_code 67 = .ok (.invokevirtual 23, 3) := by decide +kernel
theorem d_SV_init_70 : decode prog_3_method_1_code 70 = .ok (.return_, 1) := by decide +kernel
theorem d_SV_append_0 : decode prog_3_method_2_code 0 = .ok (.aload_n 0, 1) := by decide +kernel
theorem d_SV_append_1 : decode prog_3_method_2_code 1 = .ok (.getfield 9, 3) := by decide +kernel
theorem d_SV_append_4 : decode prog_3_method_2_code 4 = .ok (.aload_n 0, 1) := by decide +kernel
theorem d_SV_append_5 : decode prog_3_method_2_code 5 = .ok (.getfield 13, 3) := by decide +kernel
theorem d_SV_append_8 : decode prog_3_method_2_code 8 = .ok (.iload_n 1, 1) := by decide +kernel
theorem d_SV_append_9 : decode prog_3_method_2_code 9 = .ok (.iastore, 1) := by decide +kernel
theorem d_SV_append_10 : decode prog_3_method_2_code 10 = .ok (.aload_n 0, 1) := by decide +kernel
theorem d_SV_append_11 : decode prog_3_method_2_code 11 = .ok (.dup, 1) := by decide +kernel
theorem d_SV_append_12 : decode prog_3_method_2_code 12 = .ok (.getfield 13, 3) := by decide +kernel
theorem d_SV_append_15 : decode prog_3_method_2_code 15 = .ok (.iconst 1, 1) := by decide +kernel
theorem d_SV_append_16 : decode prog_3_method_2_code 16 = .ok (.iadd, 1) := by decide +kernel
theorem d_SV_append_17 : decode prog_3_method_2_code 17 = .ok (.putfield 13, 3) := by decide +kernel
theorem d_SV_append_20 : decode prog_3_method_2_code 20 = .ok (.return_, 1) := by decide +kernel
theorem d_ST_isFirstLong_0 : decode prog_4_method_3_code 0 = .ok (.iload_n 0, 1) := by decide +kernel
theorem d_ST_isFirstLong_1 : decode prog_4_method_3_code 1 = .ok (.ifCond .ne 7, 3) := by decide +kernel
theorem d_ST_isFirstLong_4 : decode prog_4_method_3_code 4 = .ok (.iconst 1, 1) := by decide +kernel
theorem d_ST_isFirstLong_5 : decode prog_4_method_3_code 5 = .ok (.goto 4, 3) := by decide +kernel
theorem d_ST_isFirstLong_8 : decode prog_4_method_3_code 8 = .ok (.iconst 0, 1) := by decide +kernel
theorem d_ST_isFirstLong_9 : decode prog_4_method_3_code 9 = .ok (.ireturn, 1) := by decide +kernel
theorem d_SV_appendPart_0 : decode prog_3_method_3_code 0 = .ok (.iload_n 3, 1) := by decide +kernel
theorem d_SV_appendPart_1 : decode prog_3_method_3_code 1 = .ok (.ifCond .eq 12, 3) := by decide +kernel
theorem d_SV_appendPart_4 : decode prog_3_method_3_code 4 = .ok (.aload_n 0, 1) := by decide +kernel
theorem d_SV_appendPart_5 : decode prog_3_method_3_code 5 = .ok (.lload_n 1, 1) := by decide +kernel
theorem d_SV_appendPart_6 : decode prog_3_method_3_code 6 = .ok (.bipush 32, 2) := by decide +kernel
theorem d_SV_appendPart_8 : decode prog_3_method_3_code 8 = .ok (.lushr, 1) := by decide +kernel
theorem d_SV_appendPart_9 : decode prog_3_method_3_code 9 = .ok (.l2i, 1) := by decide +kernel
theorem d_SV_appendPart_10 : decode prog_3_method_3_code 10 = .ok (.invokevirtual 23, 3) := by decide +kernel
theorem d_SV_appendPart_13 : decode prog_3_method_3_code 13 = .ok (.aload_n 0, 1) := by decide +kernel
theorem d_SV_appendPart_14 : decode prog_3_method_3_code 14 = .ok (.lload_n 1, 1) := by decide +kernel
theorem d_SV_appendPart_15 : decode prog_3_method_3_code 15 = .ok (.l2i, 1) := by decide +kernel
theorem d_SV_appendPart_16 : decode prog_3_method_3_code 16 = .ok (.invokevirtual 23, 3) := by decide +kernel
theorem d_SV_appendPart_19 : decode prog_3_method_3_code 19 = .ok (.return_, 1) := by decide +kernel
theorem d_ST_isSecondLong_0 : decode prog_4_method_4_code 0 = .ok (.iload_n 0, 1) := by decide +kernel
theorem d_ST_isSecondLong_1 : decode prog_4_method_4_code 1 = .ok (.ifCond .eq 8, 3) := by decide +kernel
theorem d_ST_isSecondLong_4 : decode prog_4_method_4_code 4 = .ok (.iload_n 0, 1) := by decide +kernel
theorem d_ST_isSecondLong_5 : decode prog_4_method_4_code 5 = .ok (.iconst 2, 1) := by decide +kernel
theorem d_ST_isSecondLong_6 : decode prog_4_method_4_code 6 = .ok (.if_icmp .ne 7, 3) := by decide +kernel
theorem d_ST_isSecondLong_9 : decode prog_4_method_4_code 9 = .ok (.iconst 1, 1) := by decide +kernel
theorem d_ST_isSecondLong_10 : decode prog_4_method_4_code 10 = .ok (.goto 4, 3) := by decide +kernel
theorem d_ST_isSecondLong_13 : decode prog_4_method_4_code 13 = .ok (.iconst 0, 1) := by decide +kernel
theorem d_ST_isSecondLong_14 : decode prog_4_method_4_code 14 = .ok (.ireturn, 1) := by decide +kernel
theorem d_SV_checkOfFirst_0 : decode prog_3_method_4_code 0 = .ok (.iconst 1, 1) := by decide +kernel
theorem d_SV_checkOfFirst_1 : decode prog_3_method_4_code 1 = .ok (.istore_n 2, 1) := by decide +kernel
theorem d_SV_checkOfFirst_2 : decode prog_3_method_4_code 2 = .ok (.iconst 0, 1) := by decide +kernel
theorem d_SV_checkOfFirst_3 : decode prog_3_method_4_code 3 = .ok (.istore_n 3, 1) := by decide +kernel
theorem d_SV_checkOfFirst_4 : decode prog_3_method_4_code 4 = .ok (.iload_n 3, 1) := by decide +kernel
theorem d_SV_checkOfFirst_5 : decode prog_3_method_4_code 5 = .ok (.iload_n 1, 1) := by decide +kernel
theorem d_SV_checkOfFirst_6 : decode prog_3_method_4_code 6 = .ok (.if_icmp .ge 21, 3) := by decide +kernel
theorem d_SV_checkOfFirst_9 : decode prog_3_method_4_code 9 = .ok (.bipush 31, 2) := by decide +kernel
theorem d_SV_checkOfFirst_11 : decode prog_3_method_4_code 11 = .ok (.iload_n 2, 1) := by decide +kernel
theorem d_SV_checkOfFirst_12 : decode prog_3_method_4_code 12 = .ok (.imul, 1) := by decide +kernel
theorem d_SV_checkOfFirst_13 : decode prog_3_method_4_code 13 = .ok (.aload_n 0, 1) := by decide +kernel
theorem d_SV_checkOfFirst_14 : decode prog_3_method_4_code 14 = .ok (.getfield 9, 3) := by decide +kernel
theorem d_SV_checkOfFirst_17 : decode prog_3_method_4_code 17 = .ok (.iload_n 3, 1) := by decide +kernel
theorem d_SV_checkOfFirst_18 : decode prog_3_method_4_code 18 = .ok (.iaload, 1) := by decide +kernel
theorem d_SV_checkOfFirst_19 : decode prog_3_method_4_code 19 = .ok (.iadd, 1) := by decide +kernel
theorem d_SV_checkOfFirst_20 : decode prog_3_method_4_code 20 = .ok (.istore_n 2, 1) := by decide +kernel
theorem d_SV_checkOfFirst_21 : decode prog_3_method_4_code 21 = .ok (.iinc 3 1, 3) := by decide +kernel
theorem d_SV_checkOfFirst_24 : decode prog_3_method_4_code 24 = .ok (.goto (-20), 3) := by decide +kernel
theorem d_SV_checkOfFirst_27 : decode prog_3_method_4_code 27 = .ok (.iload_n 2, 1) := by decide +kernel
theorem d_SV_checkOfFirst_28 : decode prog_3_method_4_code 28 = .ok (.iload_n 2, 1) := by decide +kernel
theorem d_SV_checkOfFirst_29 : decode prog_3_method_4_code 29 = .ok (.bipush 15, 2) := by decide +kernel
theorem d_SV_checkOfFirst_31 : decode prog_3_method_4_code 31 = .ok (.iushr, 1) := by decide +kernel
theorem d_SV_checkOfFirst_32 : decode prog_3_method_4_code 32 = .ok (.ixor, 1) := by decide +kernel
theorem d_SV_checkOfFirst_33 : decode prog_3_method_4_code 33 = .ok (.ireturn, 1) := by decide +kernel
theorem d_NS_length_0 : decode prog_1_method_10_code 0 = .ok (.aload_n 0, 1) := by decide +kernel
theorem d_NS_length_1 : decode prog_1_method_10_code 1 = .ok (.iload_n 1, 1) := by decide +kernel
theorem d_NS_length_2 : decode prog_1_method_10_code 2 = .ok (.invokevirtual 95, 3) := by decide +kernel
theorem d_NS_length_5 : decode prog_1_method_10_code 5 = .ok (.astore_n 2, 1) := by decide +kernel
theorem d_NS_length_6 : decode prog_1_method_10_code 6 = .ok (.aload_n 2, 1) := by decide +kernel
theorem d_NS_length_7 : decode prog_1_method_10_code 7 = .ok (.ifnonnull 7, 3) := by decide +kernel
theorem d_NS_length_10 : decode prog_1_method_10_code 10 = .ok (.iconst (-1), 1) := by decide +kernel
theorem d_NS_length_11 : decode prog_1_method_10_code 11 = .ok (.goto 7, 3) := by decide +kernel
theorem d_NS_length_14 : decode prog_1_method_10_code 14 = .ok (.aload_n 2, 1) := by decide +kernel
theorem d_NS_length_15 : decode prog_1_method_10_code 15 = .ok (.getfield 99, 3) := by decide +kernel
theorem d_NS_length_18 : decode prog_1_method_10_code 18 = .ok (.ireturn, 1) := by decide +kernel
theorem d_NS_recordAt_0 : decode prog_1_method_24_code 0 = .ok (.iload_n 1, 1) := by decide +kernel
theorem d_NS_recordAt_1 : decode prog_1_method_24_code 1 = .ok (.ifCond .lt 11, 3) := by decide +kernel
theorem d_NS_recordAt_4 : decode prog_1_method_24_code 4 = .ok (.iload_n 1, 1) := by decide +kernel
theorem d_NS_recordAt_5 : decode prog_1_method_24_code 5 = .ok (.aload_n 0, 1) := by decide +kernel
theorem d_NS_recordAt_6 : decode prog_1_method_24_code 6 = .ok (.getfield 21, 3) := by decide +kernel
theorem d_NS_recordAt_9 : decode prog_1_method_24_code 9 = .ok (.if_icmp .lt 7, 3) := by decide +kernel
theorem d_NS_recordAt_12 : decode prog_1_method_24_code 12 = .ok (.aconst_null, 1) := by decide +kernel
theorem d_NS_recordAt_13 : decode prog_1_method_24_code 13 = .ok (.goto 9, 3) := by decide +kernel
theorem d_NS_recordAt_16 : decode prog_1_method_24_code 16 = .ok (.aload_n 0, 1) := by decide +kernel
theorem d_NS_recordAt_17 : decode prog_1_method_24_code 17 = .ok (.getfield 17, 3) := by decide +kernel
theorem d_NS_recordAt_20 : decode prog_1_method_24_code 20 = .ok (.iload_n 1, 1) := by decide +kernel
theorem d_NS_recordAt_21 : decode prog_1_method_24_code 21 = .ok (.aaload, 1) := by decide +kernel
theorem d_NS_recordAt_22 : decode prog_1_method_24_code 22 = .ok (.areturn, 1) := by decide +kernel
theorem d_NS_word_0 : decode prog_1_method_11_code 0 = .ok (.aload_n 0, 1) := by decide +kernel
theorem d_NS_word_1 : decode prog_1_method_11_code 1 = .ok (.iload_n 1, 1) := by decide +kernel
theorem d_NS_word_2 : decode prog_1_method_11_code 2 = .ok (.invokevirtual 95, 3) := by decide +kernel
theorem d_NS_word_5 : decode prog_1_method_11_code 5 = .ok (.astore_n 3, 1) := by decide +kernel
theorem d_NS_word_6 : decode prog_1_method_11_code 6 = .ok (.aload_n 3, 1) := by decide +kernel
theorem d_NS_word_7 : decode prog_1_method_11_code 7 = .ok (.ifnull 11, 3) := by decide +kernel
theorem d_NS_word_10 : decode prog_1_method_11_code 10 = .ok (.aload_n 3, 1) := by decide +kernel
theorem d_NS_word_11 : decode prog_1_method_11_code 11 = .ok (.iload_n 2, 1) := by decide +kernel
theorem d_NS_word_12 : decode prog_1_method_11_code 12 = .ok (.invokevirtual 102, 3) := by decide +kernel
theorem d_NS_word_15 : decode prog_1_method_11_code 15 = .ok (.ifCond .ne 7, 3) := by decide +kernel
theorem d_NS_word_18 : decode prog_1_method_11_code 18 = .ok (.iconst 0, 1) := by decide +kernel
theorem d_NS_word_19 : decode prog_1_method_11_code 19 = .ok (.goto 9, 3) := by decide +kernel
theorem d_NS_word_22 : decode prog_1_method_11_code 22 = .ok (.aload_n 3, 1) := by decide +kernel
theorem d_NS_word_23 : decode prog_1_method_11_code 23 = .ok (.getfield 105, 3) := by decide +kernel
theorem d_NS_word_26 : decode prog_1_method_11_code 26 = .ok (.iload_n 2, 1) := by decide +kernel
theorem d_NS_word_27 : decode prog_1_method_11_code 27 = .ok (.iaload, 1) := by decide +kernel
theorem d_NS_word_28 : decode prog_1_method_11_code 28 = .ok (.ireturn, 1) := by decide +kernel
theorem d_SV_hasWord_0 : decode prog_3_method_5_code 0 = .ok (.iload_n 1, 1) := by decide +kernel
theorem d_SV_hasWord_1 : decode prog_3_method_5_code 1 = .ok (.ifCond .lt 15, 3) := by decide +kernel
theorem d_SV_hasWord_4 : decode prog_3_method_5_code 4 = .ok (.iload_n 1, 1) := by decide +kernel
theorem d_SV_hasWord_5 : decode prog_3_method_5_code 5 = .ok (.aload_n 0, 1) := by decide +kernel
theorem d_SV_hasWord_6 : decode prog_3_method_5_code 6 = .ok (.getfield 13, 3) := by decide +kernel
theorem d_SV_hasWord_9 : decode prog_3_method_5_code 9 = .ok (.if_icmp .ge 7, 3) := by decide +kernel
theorem d_SV_hasWord_12 : decode prog_3_method_5_code 12 = .ok (.iconst 1, 1) := by decide +kernel
theorem d_SV_hasWord_13 : decode prog_3_method_5_code 13 = .ok (.goto 4, 3) := by decide +kernel
theorem d_SV_hasWord_16 : decode prog_3_method_5_code 16 = .ok (.iconst 0, 1) := by decide +kernel
theorem d_SV_hasWord_17 : decode prog_3_method_5_code 17 = .ok (.ireturn, 1) := by decide +kernel
theorem d_NS_spoil_0 : decode prog_1_method_12_code 0 = .ok (.aload_n 0, 1) := by decide +kernel
theorem d_NS_spoil_1 : decode prog_1_method_12_code 1 = .ok (.iload_n 1, 1) := by decide +kernel
theorem d_NS_spoil_2 : decode prog_1_method_12_code 2 = .ok (.invokevirtual 95, 3) := by decide +kernel
theorem d_NS_spoil_5 : decode prog_1_method_12_code 5 = .ok (.astore 4, 2) := by decide +kernel
theorem d_NS_spoil_7 : decode prog_1_method_12_code 7 = .ok (.aload 4, 2) := by decide +kernel
theorem d_NS_spoil_9 : decode prog_1_method_12_code 9 = .ok (.ifnull 12, 3) := by decide +kernel
theorem d_NS_spoil_12 : decode prog_1_method_12_code 12 = .ok (.aload 4, 2) := by decide +kernel
theorem d_NS_spoil_14 : decode prog_1_method_12_code 14 = .ok (.iload_n 2, 1) := by decide +kernel
theorem d_NS_spoil_15 : decode prog_1_method_12_code 15 = .ok (.invokevirtual 102, 3) := by decide +kernel
theorem d_NS_spoil_18 : decode prog_1_method_12_code 18 = .ok (.ifCond .ne 5, 3) := by decide +kernel
theorem d_NS_spoil_21 : decode prog_1_method_12_code 21 = .ok (.iconst 0, 1) := by decide +kernel
theorem d_NS_spoil_22 : decode prog_1_method_12_code 22 = .ok (.ireturn, 1) := by decide +kernel
theorem d_NS_spoil_23 : decode prog_1_method_12_code 23 = .ok (.aload 4, 2) := by decide +kernel
theorem d_NS_spoil_25 : decode prog_1_method_12_code 25 = .ok (.getfield 105, 3) := by decide +kernel
theorem d_NS_spoil_28 : decode prog_1_method_12_code 28 = .ok (.iload_n 2, 1) := by decide +kernel
theorem d_NS_spoil_29 : decode prog_1_method_12_code 29 = .ok (.dup2, 1) := by decide +kernel
theorem d_NS_spoil_30 : decode prog_1_method_12_code 30 = .ok (.iaload, 1) := by decide +kernel
theorem d_NS_spoil_31 : decode prog_1_method_12_code 31 = .ok (.iload_n 3, 1) := by decide +kernel
theorem d_NS_spoil_32 : decode prog_1_method_12_code 32 = .ok (.ixor, 1) := by decide +kernel
theorem d_NS_spoil_33 : decode prog_1_method_12_code 33 = .ok (.iastore, 1) := by decide +kernel
theorem d_NS_spoil_34 : decode prog_1_method_12_code 34 = .ok (.iconst 1, 1) := by decide +kernel
theorem d_NS_spoil_35 : decode prog_1_method_12_code 35 = .ok (.ireturn, 1) := by decide +kernel
theorem d_NS_cut_0 : decode prog_1_method_13_code 0 = .ok (.aload_n 0, 1) := by decide +kernel
theorem d_NS_cut_1 : decode prog_1_method_13_code 1 = .ok (.iload_n 1, 1) := by decide +kernel
theorem d_NS_cut_2 : decode prog_1_method_13_code 2 = .ok (.invokevirtual 95, 3) := by decide +kernel
theorem d_NS_cut_5 : decode prog_1_method_13_code 5 = .ok (.astore_n 2, 1) := by decide +kernel
theorem d_NS_cut_6 : decode prog_1_method_13_code 6 = .ok (.aload_n 2, 1) := by decide +kernel
theorem d_NS_cut_7 : decode prog_1_method_13_code 7 = .ok (.ifnull 10, 3) := by decide +kernel
theorem d_NS_cut_10 : decode prog_1_method_13_code 10 = .ok (.aload_n 2, 1) := by decide +kernel
theorem d_NS_cut_11 : decode prog_1_method_13_code 11 = .ok (.getfield 99, 3) := by decide +kernel
theorem d_NS_cut_14 : decode prog_1_method_13_code 14 = .ok (.ifCond .ne 5, 3) := by decide +kernel
theorem d_NS_cut_17 : decode prog_1_method_13_code 17 = .ok (.iconst 0, 1) := by decide +kernel
theorem d_NS_cut_18 : decode prog_1_method_13_code 18 = .ok (.ireturn, 1) := by decide +kernel
theorem d_NS_cut_19 : decode prog_1_method_13_code 19 = .ok (.aload_n 2, 1) := by decide +kernel
theorem d_NS_cut_20 : decode prog_1_method_13_code 20 = .ok (.dup, 1) := by decide +kernel
theorem d_NS_cut_21 : decode prog_1_method_13_code 21 = .ok (.getfield 99, 3) := by decide +kernel
theorem d_NS_cut_24 : decode prog_1_method_13_code 24 = .ok (.iconst 1, 1) := by decide +kernel
theorem d_NS_cut_25 : decode prog_1_method_13_code 25 = .ok (.isub, 1) := by decide +kernel
theorem d_NS_cut_26 : decode prog_1_method_13_code 26 = .ok (.putfield 99, 3) := by decide +kernel
theorem d_NS_cut_29 : decode prog_1_method_13_code 29 = .ok (.iconst 1, 1) := by decide +kernel
theorem d_NS_cut_30 : decode prog_1_method_13_code 30 = .ok (.ireturn, 1) := by decide +kernel
theorem d_NS_restore_0 : decode prog_1_method_14_code 0 = .ok (.aload_n 0, 1) := by decide +kernel
theorem d_NS_restore_1 : decode prog_1_method_14_code 1 = .ok (.iload_n 1, 1) := by decide +kernel
theorem d_NS_restore_2 : decode prog_1_method_14_code 2 = .ok (.invokevirtual 95, 3) := by decide +kernel
theorem d_NS_restore_5 : decode prog_1_method_14_code 5 = .ok (.astore_n 2, 1) := by decide +kernel
theorem d_NS_restore_6 : decode prog_1_method_14_code 6 = .ok (.aload_n 2, 1) := by decide +kernel
theorem d_NS_restore_7 : decode prog_1_method_14_code 7 = .ok (.ifnonnull 5, 3) := by decide +kernel
theorem d_NS_restore_10 : decode prog_1_method_14_code 10 = .ok (.iconst (-1), 1) := by decide +kernel
theorem d_NS_restore_11 : decode prog_1_method_14_code 11 = .ok (.ireturn, 1) := by decide +kernel
theorem d_NS_restore_12 : decode prog_1_method_14_code 12 = .ok (.aload_n 2, 1) := by decide +kernel
theorem d_NS_restore_13 : decode prog_1_method_14_code 13 = .ok (.invokevirtual 108, 3) := by decide +kernel
theorem d_NS_restore_16 : decode prog_1_method_14_code 16 = .ok (.istore_n 3, 1) := by decide +kernel
theorem d_NS_restore_17 : decode prog_1_method_14_code 17 = .ok (.iload_n 3, 1) := by decide +kernel
theorem d_NS_restore_18 : decode prog_1_method_14_code 18 = .ok (.ifCond .eq 5, 3) := by decide +kernel
theorem d_NS_restore_21 : decode prog_1_method_14_code 21 = .ok (.iload_n 3, 1) := by decide +kernel
theorem d_NS_restore_22 : decode prog_1_method_14_code 22 = .ok (.ireturn, 1) := by decide +kernel
theorem d_NS_restore_23 : decode prog_1_method_14_code 23 = .ok (.aload_n 0, 1) := by decide +kernel
theorem d_NS_restore_24 : decode prog_1_method_14_code 24 = .ok (.invokevirtual 39, 3) := by decide +kernel
theorem d_NS_restore_27 : decode prog_1_method_14_code 27 = .ok (.istore 4, 2) := by decide +kernel
theorem d_NS_restore_29 : decode prog_1_method_14_code 29 = .ok (.iload 4, 2) := by decide +kernel
theorem d_NS_restore_31 : decode prog_1_method_14_code 31 = .ok (.ifCond .ge 6, 3) := by decide +kernel
theorem d_NS_restore_34 : decode prog_1_method_14_code 34 = .ok (.bipush (-6), 2) := by decide +kernel
theorem d_NS_restore_36 : decode prog_1_method_14_code 36 = .ok (.ireturn, 1) := by decide +kernel
theorem d_NS_restore_37 : decode prog_1_method_14_code 37 = .ok (.aload_n 0, 1) := by decide +kernel
theorem d_NS_restore_38 : decode prog_1_method_14_code 38 = .ok (.getfield 11, 3) := by decide +kernel
theorem d_NS_restore_41 : decode prog_1_method_14_code 41 = .ok (.iload 4, 2) := by decide +kernel
theorem d_NS_restore_43 : decode prog_1_method_14_code 43 = .ok (.new 9, 3) := by decide +kernel
theorem d_NS_restore_46 : decode prog_1_method_14_code 46 = .ok (.dup, 1) := by decide +kernel
theorem d_NS_restore_47 : decode prog_1_method_14_code 47 = .ok (.aload_n 2, 1) := by decide +kernel
theorem d_NS_restore_48 : decode prog_1_method_14_code 48 = .ok (.invokevirtual 111, 3) := by decide +kernel
theorem d_NS_restore_51 : decode prog_1_method_14_code 51 = .ok (.aload_n 2, 1) := by decide +kernel
theorem d_NS_restore_52 : decode prog_1_method_14_code 52 = .ok (.invokevirtual 113, 3) := by decide +kernel
theorem d_NS_restore_55 : decode prog_1_method_14_code 55 = .ok (.aload_n 2, 1) := by decide +kernel
theorem d_NS_restore_56 : decode prog_1_method_14_code 56 = .ok (.invokevirtual 116, 3) := by decide +kernel
theorem d_NS_restore_59 : decode prog_1_method_14_code 59 = .ok (.invokespecial 58, 3) := by decide +kernel
theorem d_NS_restore_62 : decode prog_1_method_14_code 62 = .ok (.aastore, 1) := by decide +kernel
theorem d_NS_restore_63 : decode prog_1_method_14_code 63 = .ok (.iload 4, 2) := by decide +kernel
theorem d_NS_restore_65 : decode prog_1_method_14_code 65 = .ok (.ireturn, 1) := by decide +kernel
theorem d_SV_fault_0 : decode prog_3_method_6_code 0 = .ok (.aload_n 0, 1) := by decide +kernel
theorem d_SV_fault_1 : decode prog_3_method_6_code 1 = .ok (.getfield 13, 3) := by decide +kernel
theorem d_SV_fault_4 : decode prog_3_method_6_code 4 = .ok (.ifCond .eq 13, 3) := by decide +kernel
theorem d_SV_fault_7 : decode prog_3_method_6_code 7 = .ok (.aload_n 0, 1) := by decide +kernel
theorem d_SV_fault_8 : decode prog_3_method_6_code 8 = .ok (.invokevirtual 49, 3) := by decide +kernel
theorem d_SV_fault_11 : decode prog_3_method_6_code 11 = .ok (.invokestatic 52, 3) := by decide +kernel
theorem d_SV_fault_14 : decode prog_3_method_6_code 14 = .ok (.ifCond .ne 6, 3) := by decide +kernel
theorem d_SV_fault_17 : decode prog_3_method_6_code 17 = .ok (.bipush (-2), 2) := by decide +kernel
theorem d_SV_fault_19 : decode prog_3_method_6_code 19 = .ok (.ireturn, 1) := by decide +kernel
theorem d_SV_fault_20 : decode prog_3_method_6_code 20 = .ok (.aload_n 0, 1) := by decide +kernel
theorem d_SV_fault_21 : decode prog_3_method_6_code 21 = .ok (.getfield 13, 3) := by decide +kernel
theorem d_SV_fault_24 : decode prog_3_method_6_code 24 = .ok (.aload_n 0, 1) := by decide +kernel
theorem d_SV_fault_25 : decode prog_3_method_6_code 25 = .ok (.invokevirtual 49, 3) := by decide +kernel
theorem d_SV_fault_28 : decode prog_3_method_6_code 28 = .ok (.invokestatic 55, 3) := by decide +kernel
theorem d_SV_fault_31 : decode prog_3_method_6_code 31 = .ok (.if_icmp .eq 6, 3) := by decide +kernel
theorem d_SV_fault_34 : decode prog_3_method_6_code 34 = .ok (.bipush (-3), 2) := by decide +kernel
theorem d_SV_fault_36 : decode prog_3_method_6_code 36 = .ok (.ireturn, 1) := by decide +kernel
theorem d_SV_fault_37 : decode prog_3_method_6_code 37 = .ok (.aload_n 0, 1) := by decide +kernel
theorem d_SV_fault_38 : decode prog_3_method_6_code 38 = .ok (.getfield 9, 3) := by decide +kernel
theorem d_SV_fault_41 : decode prog_3_method_6_code 41 = .ok (.aload_n 0, 1) := by decide +kernel
theorem d_SV_fault_42 : decode prog_3_method_6_code 42 = .ok (.getfield 13, 3) := by decide +kernel
theorem d_SV_fault_45 : decode prog_3_method_6_code 45 = .ok (.iconst 1, 1) := by decide +kernel
theorem d_SV_fault_46 : decode prog_3_method_6_code 46 = .ok (.isub, 1) := by decide +kernel
theorem d_SV_fault_47 : decode prog_3_method_6_code 47 = .ok (.iaload, 1) := by decide +kernel
theorem d_SV_fault_48 : decode prog_3_method_6_code 48 = .ok (.aload_n 0, 1) := by decide +kernel
theorem d_SV_fault_49 : decode prog_3_method_6_code 49 = .ok (.aload_n 0, 1) := by decide +kernel
theorem d_SV_fault_50 : decode prog_3_method_6_code 50 = .ok (.getfield 13, 3) := by decide +kernel
theorem d_SV_fault_53 : decode prog_3_method_6_code 53 = .ok (.iconst 1, 1) := by decide +kernel
theorem d_SV_fault_54 : decode prog_3_method_6_code 54 = .ok (.isub, 1) := by decide +kernel
theorem d_SV_fault_55 : decode prog_3_method_6_code 55 = .ok (.invokevirtual 45, 3) := by decide +kernel
theorem d_SV_fault_58 : decode prog_3_method_6_code 58 = .ok (.if_icmp .eq 6, 3) := by decide +kernel
theorem d_SV_fault_61 : decode prog_3_method_6_code 61 = .ok (.bipush (-4), 2) := by decide +kernel
theorem d_SV_fault_63 : decode prog_3_method_6_code 63 = .ok (.ireturn, 1) := by decide +kernel
theorem d_SV_fault_64 : decode prog_3_method_6_code 64 = .ok (.aload_n 0, 1) := by decide +kernel
theorem d_SV_fault_65 : decode prog_3_method_6_code 65 = .ok (.invokevirtual 49, 3) := by decide +kernel
theorem d_SV_fault_68 : decode prog_3_method_6_code 68 = .ok (.aload_n 0, 1) := by decide +kernel
theorem d_SV_fault_69 : decode prog_3_method_6_code 69 = .ok (.invokevirtual 58, 3) := by decide +kernel
theorem d_SV_fault_72 : decode prog_3_method_6_code 72 = .ok (.aload_n 0, 1) := by decide +kernel
theorem d_SV_fault_73 : decode prog_3_method_6_code 73 = .ok (.invokevirtual 61, 3) := by decide +kernel
theorem d_SV_fault_76 : decode prog_3_method_6_code 76 = .ok (.invokestatic 63, 3) := by decide +kernel
theorem d_SV_fault_79 : decode prog_3_method_6_code 79 = .ok (.ifCond .eq 7, 3) := by decide +kernel
theorem d_SV_fault_82 : decode prog_3_method_6_code 82 = .ok (.iconst 0, 1) := by decide +kernel
theorem d_SV_fault_83 : decode prog_3_method_6_code 83 = .ok (.goto 5, 3) := by decide +kernel
theorem d_SV_fault_86 : decode prog_3_method_6_code 86 = .ok (.bipush (-5), 2) := by decide +kernel
theorem d_SV_fault_88 : decode prog_3_method_6_code 88 = .ok (.ireturn, 1) := by decide +kernel
theorem d_SV_kind_0 : decode prog_3_method_9_code 0 = .ok (.aload_n 0, 1) := by decide +kernel
theorem d_SV_kind_1 : decode prog_3_method_9_code 1 = .ok (.getfield 9, 3) := by decide +kernel
theorem d_SV_kind_4 : decode prog_3_method_9_code 4 = .ok (.iconst 0, 1) := by decide +kernel
theorem d_SV_kind_5 : decode prog_3_method_9_code 5 = .ok (.iaload, 1) := by decide +kernel
theorem d_SV_kind_6 : decode prog_3_method_9_code 6 = .ok (.ldc 17, 2) := by decide +kernel
theorem d_SV_kind_8 : decode prog_3_method_9_code 8 = .ok (.isub, 1) := by decide +kernel
theorem d_SV_kind_9 : decode prog_3_method_9_code 9 = .ok (.ireturn, 1) := by decide +kernel
theorem d_SV_wordsOfKind_0 : decode prog_3_method_7_code 0 = .ok (.iconst 2, 1) := by decide +kernel
theorem d_SV_wordsOfKind_1 : decode prog_3_method_7_code 1 = .ok (.iload_n 0, 1) := by decide +kernel
theorem d_SV_wordsOfKind_2 : decode prog_3_method_7_code 2 = .ok (.invokestatic 31, 3) := by decide +kernel
theorem d_SV_wordsOfKind_5 : decode prog_3_method_7_code 5 = .ok (.invokestatic 67, 3) := by decide +kernel
theorem d_SV_wordsOfKind_8 : decode prog_3_method_7_code 8 = .ok (.iadd, 1) := by decide +kernel
theorem d_SV_wordsOfKind_9 : decode prog_3_method_7_code 9 = .ok (.iload_n 0, 1) := by decide +kernel
theorem d_SV_wordsOfKind_10 : decode prog_3_method_7_code 10 = .ok (.invokestatic 42, 3) := by decide +kernel
theorem d_SV_wordsOfKind_13 : decode prog_3_method_7_code 13 = .ok (.invokestatic 67, 3) := by decide +kernel
theorem d_SV_wordsOfKind_16 : decode prog_3_method_7_code 16 = .ok (.iadd, 1) := by decide +kernel
theorem d_SV_wordsOfKind_17 : decode prog_3_method_7_code 17 = .ok (.ireturn, 1) := by decide +kernel
theorem d_SV_wordsOfPart_0 : decode prog_3_method_8_code 0 = .ok (.iload_n 0, 1) := by decide +kernel
theorem d_SV_wordsOfPart_1 : decode prog_3_method_8_code 1 = .ok (.ifCond .eq 7, 3) := by decide +kernel
theorem d_SV_wordsOfPart_4 : decode prog_3_method_8_code 4 = .ok (.iconst 2, 1) := by decide +kernel
theorem d_SV_wordsOfPart_5 : decode prog_3_method_8_code 5 = .ok (.goto 4, 3) := by decide +kernel
theorem d_SV_wordsOfPart_8 : decode prog_3_method_8_code 8 = .ok (.iconst 1, 1) := by decide +kernel
theorem d_SV_wordsOfPart_9 : decode prog_3_method_8_code 9 = .ok (.ireturn, 1) := by decide +kernel
theorem d_SV_first_0 : decode prog_3_method_10_code 0 = .ok (.aload_n 0, 1) := by decide +kernel
theorem d_SV_first_1 : decode prog_3_method_10_code 1 = .ok (.iconst 1, 1) := by decide +kernel
theorem d_SV_first_2 : decode prog_3_method_10_code 2 = .ok (.aload_n 0, 1) := by decide +kernel
theorem d_SV_first_3 : decode prog_3_method_10_code 3 = .ok (.invokevirtual 49, 3) := by decide +kernel
theorem d_SV_first_6 : decode prog_3_method_10_code 6 = .ok (.invokestatic 31, 3) := by decide +kernel
theorem d_SV_first_9 : decode prog_3_method_10_code 9 = .ok (.invokevirtual 71, 3) := by decide +kernel
theorem d_SV_first_12 : decode prog_3_method_10_code 12 = .ok (.lreturn, 1) := by decide +kernel
theorem d_SV_partAt_0 : decode prog_3_method_12_code 0 = .ok (.iload_n 2, 1) := by decide +kernel
theorem d_SV_partAt_1 : decode prog_3_method_12_code 1 = .ok (.ifCond .eq 23, 3) := by decide +kernel
theorem d_SV_partAt_4 : decode prog_3_method_12_code 4 = .ok (.aload_n 0, 1) := by decide +kernel
theorem d_SV_partAt_5 : decode prog_3_method_12_code 5 = .ok (.getfield 9, 3) := by decide +kernel
theorem d_SV_partAt_8 : decode prog_3_method_12_code 8 = .ok (.iload_n 1, 1) := by decide +kernel
theorem d_SV_partAt_9 : decode prog_3_method_12_code 9 = .ok (.iaload, 1) := by decide +kernel
theorem d_SV_partAt_10 : decode prog_3_method_12_code 10 = .ok (.aload_n 0, 1) := by decide +kernel
theorem d_SV_partAt_11 : decode prog_3_method_12_code 11 = .ok (.getfield 9, 3) := by decide +kernel
theorem d_SV_partAt_14 : decode prog_3_method_12_code 14 = .ok (.iload_n 1, 1) := by decide +kernel
theorem d_SV_partAt_15 : decode prog_3_method_12_code 15 = .ok (.iconst 1, 1) := by decide +kernel
theorem d_SV_partAt_16 : decode prog_3_method_12_code 16 = .ok (.iadd, 1) := by decide +kernel
theorem d_SV_partAt_17 : decode prog_3_method_12_code 17 = .ok (.iaload, 1) := by decide +kernel
theorem d_SV_partAt_18 : decode prog_3_method_12_code 18 = .ok (.invokestatic 75, 3) := by decide +kernel
theorem d_SV_partAt_21 : decode prog_3_method_12_code 21 = .ok (.goto 10, 3) := by decide +kernel
theorem d_SV_partAt_24 : decode prog_3_method_12_code 24 = .ok (.aload_n 0, 1) := by decide +kernel
theorem d_SV_partAt_25 : decode prog_3_method_12_code 25 = .ok (.getfield 9, 3) := by decide +kernel
theorem d_SV_partAt_28 : decode prog_3_method_12_code 28 = .ok (.iload_n 1, 1) := by decide +kernel
theorem d_SV_partAt_29 : decode prog_3_method_12_code 29 = .ok (.iaload, 1) := by decide +kernel
theorem d_SV_partAt_30 : decode prog_3_method_12_code 30 = .ok (.i2l, 1) := by decide +kernel
theorem d_SV_partAt_31 : decode prog_3_method_12_code 31 = .ok (.lreturn, 1) := by decide +kernel
theorem d_SV_second_0 : decode prog_3_method_11_code 0 = .ok (.iconst 1, 1) := by decide +kernel
theorem d_SV_second_1 : decode prog_3_method_11_code 1 = .ok (.aload_n 0, 1) := by decide +kernel
theorem d_SV_second_2 : decode prog_3_method_11_code 2 = .ok (.invokevirtual 49, 3) := by decide +kernel
theorem d_SV_second_5 : decode prog_3_method_11_code 5 = .ok (.invokestatic 31, 3) := by decide +kernel
theorem d_SV_second_8 : decode prog_3_method_11_code 8 = .ok (.invokestatic 67, 3) := by decide +kernel
theorem d_SV_second_11 : decode prog_3_method_11_code 11 = .ok (.iadd, 1) := by decide +kernel
theorem d_SV_second_12 : decode prog_3_method_11_code 12 = .ok (.istore_n 1, 1) := by decide +kernel
theorem d_SV_second_13 : decode prog_3_method_11_code 13 = .ok (.aload_n 0, 1) := by decide +kernel
theorem d_SV_second_14 : decode prog_3_method_11_code 14 = .ok (.iload_n 1, 1) := by decide +kernel
theorem d_SV_second_15 : decode prog_3_method_11_code 15 = .ok (.aload_n 0, 1) := by decide +kernel
theorem d_SV_second_16 : decode prog_3_method_11_code 16 = .ok (.invokevirtual 49, 3) := by decide +kernel
theorem d_SV_second_19 : decode prog_3_method_11_code 19 = .ok (.invokestatic 42, 3) := by decide +kernel
theorem d_SV_second_22 : decode prog_3_method_11_code 22 = .ok (.invokevirtual 71, 3) := by decide +kernel
theorem d_SV_second_25 : decode prog_3_method_11_code 25 = .ok (.lreturn, 1) := by decide +kernel
theorem d_NS_seek_0 : decode prog_1_method_15_code 0 = .ok (.iload_n 1, 1) := by decide +kernel
theorem d_NS_seek_1 : decode prog_1_method_15_code 1 = .ok (.ifCond .lt 9, 3) := by decide +kernel
theorem d_NS_seek_4 : decode prog_1_method_15_code 4 = .ok (.iload_n 1, 1) := by decide +kernel
theorem d_NS_seek_5 : decode prog_1_method_15_code 5 = .ok (.ldc 118, 2) := by decide +kernel
theorem d_NS_seek_7 : decode prog_1_method_15_code 7 = .ok (.if_icmp .le 5, 3) := by decide +kernel
theorem d_NS_seek_10 : decode prog_1_method_15_code 10 = .ok (.iconst 0, 1) := by decide +kernel
theorem d_NS_seek_11 : decode prog_1_method_15_code 11 = .ok (.ireturn, 1) := by decide +kernel
theorem d_NS_seek_12 : decode prog_1_method_15_code 12 = .ok (.aload_n 0, 1) := by decide +kernel
theorem d_NS_seek_13 : decode prog_1_method_15_code 13 = .ok (.getfield 28, 3) := by decide +kernel
theorem d_NS_seek_16 : decode prog_1_method_15_code 16 = .ok (.iload_n 1, 1) := by decide +kernel
theorem d_NS_seek_17 : decode prog_1_method_15_code 17 = .ok (.putfield 119, 3) := by decide +kernel
theorem d_NS_seek_20 : decode prog_1_method_15_code 20 = .ok (.iconst 1, 1) := by decide +kernel
theorem d_NS_seek_21 : decode prog_1_method_15_code 21 = .ok (.ireturn, 1) := by decide +kernel
theorem d_NS_advance_0 : decode prog_1_method_16_code 0 = .ok (.aload_n 0, 1) := by decide +kernel
theorem d_NS_advance_1 : decode prog_1_method_16_code 1 = .ok (.getfield 28, 3) := by decide +kernel
theorem d_NS_advance_4 : decode prog_1_method_16_code 4 = .ok (.aload_n 0, 1) := by decide +kernel
theorem d_NS_advance_5 : decode prog_1_method_16_code 5 = .ok (.getfield 28, 3) := by decide +kernel
theorem d_NS_advance_8 : decode prog_1_method_16_code 8 = .ok (.getfield 119, 3) := by decide +kernel
theorem d_NS_advance_11 : decode prog_1_method_16_code 11 = .ok (.ldc 118, 2) := by decide +kernel
theorem d_NS_advance_13 : decode prog_1_method_16_code 13 = .ok (.if_icmp .ne 7, 3) := by decide +kernel
theorem d_NS_advance_16 : decode prog_1_method_16_code 16 = .ok (.iconst 0, 1) := by decide +kernel
theorem d_NS_advance_17 : decode prog_1_method_16_code 17 = .ok (.goto 12, 3) := by decide +kernel
theorem d_NS_advance_20 : decode prog_1_method_16_code 20 = .ok (.aload_n 0, 1) := by decide +kernel
theorem d_NS_advance_21 : decode prog_1_method_16_code 21 = .ok (.getfield 28, 3) := by decide +kernel
theorem d_NS_advance_24 : decode prog_1_method_16_code 24 = .ok (.getfield 119, 3) := by decide +kernel
theorem d_NS_advance_27 : decode prog_1_method_16_code 27 = .ok (.iconst 1, 1) := by decide +kernel
theorem d_NS_advance_28 : decode prog_1_method_16_code 28 = .ok (.iadd, 1) := by decide +kernel
theorem d_NS_advance_29 : decode prog_1_method_16_code 29 = .ok (.putfield 119, 3) := by decide +kernel
theorem d_NS_advance_32 : decode prog_1_method_16_code 32 = .ok (.aload_n 0, 1) := by decide +kernel
theorem d_NS_advance_33 : decode prog_1_method_16_code 33 = .ok (.getfield 28, 3) := by decide +kernel
theorem d_NS_advance_36 : decode prog_1_method_16_code 36 = .ok (.getfield 119, 3) := by decide +kernel
theorem d_NS_advance_39 : decode prog_1_method_16_code 39 = .ok (.ireturn, 1) := by decide +kernel
theorem d_NS_coordinate_0 : decode prog_1_method_17_code 0 = .ok (.iload_n 1, 1) := by decide +kernel
theorem d_NS_coordinate_1 : decode prog_1_method_17_code 1 = .ok (.tableswitch 75 0 5 #[39, 39, 39, 39, 51, 63], 39) := by decide +kernel
theorem d_NS_coordinate_40 : decode prog_1_method_17_code 40 = .ok (.aload_n 0, 1) := by decide +kernel
theorem d_NS_coordinate_41 : decode prog_1_method_17_code 41 = .ok (.getfield 28, 3) := by decide +kernel
theorem d_NS_coordinate_44 : decode prog_1_method_17_code 44 = .ok (.iload_n 1, 1) := by decide +kernel
theorem d_NS_coordinate_45 : decode prog_1_method_17_code 45 = .ok (.invokevirtual 122, 3) := by decide +kernel
theorem d_NS_coordinate_48 : decode prog_1_method_17_code 48 = .ok (.invokestatic 80, 3) := by decide +kernel
theorem d_NS_coordinate_51 : decode prog_1_method_17_code 51 = .ok (.lreturn, 1) := by decide +kernel
theorem d_NS_coordinate_52 : decode prog_1_method_17_code 52 = .ok (.aload_n 0, 1) := by decide +kernel
theorem d_NS_coordinate_53 : decode prog_1_method_17_code 53 = .ok (.getfield 28, 3) := by decide +kernel
theorem d_NS_coordinate_56 : decode prog_1_method_17_code 56 = .ok (.iconst 3, 1) := by decide +kernel
theorem d_NS_coordinate_57 : decode prog_1_method_17_code 57 = .ok (.bipush 13, 2) := by decide +kernel
theorem d_NS_coordinate_59 : decode prog_1_method_17_code 59 = .ok (.invokevirtual 125, 3) := by decide +kernel
theorem d_NS_coordinate_62 : decode prog_1_method_17_code 62 = .ok (.i2l, 1) := by decide +kernel
theorem d_NS_coordinate_63 : decode prog_1_method_17_code 63 = .ok (.lreturn, 1) := by decide +kernel
theorem d_NS_coordinate_64 : decode prog_1_method_17_code 64 = .ok (.aload_n 0, 1) := by decide +kernel
theorem d_NS_coordinate_65 : decode prog_1_method_17_code 65 = .ok (.getfield 28, 3) := by decide +kernel
theorem d_NS_coordinate_68 : decode prog_1_method_17_code 68 = .ok (.iconst 5, 1) := by decide +kernel
theorem d_NS_coordinate_69 : decode prog_1_method_17_code 69 = .ok (.bipush 9, 2) := by decide +kernel
theorem d_NS_coordinate_71 : decode prog_1_method_17_code 71 = .ok (.invokevirtual 125, 3) := by decide +kernel
theorem d_NS_coordinate_74 : decode prog_1_method_17_code 74 = .ok (.i2l, 1) := by decide +kernel
theorem d_NS_coordinate_75 : decode prog_1_method_17_code 75 = .ok (.lreturn, 1) := by decide +kernel
theorem d_NS_coordinate_76 : decode prog_1_method_17_code 76 = .ok (.ldc2_w 75, 3) := by decide +kernel
theorem d_NS_coordinate_79 : decode prog_1_method_17_code 79 = .ok (.lreturn, 1) := by decide +kernel
theorem d_PT_joinedDirections_0 : decode prog_2_method_5_code 0 = .ok (.aload_n 0, 1) := by decide +kernel
theorem d_PT_joinedDirections_1 : decode prog_2_method_5_code 1 = .ok (.getfield 14, 3) := by decide +kernel
theorem d_PT_joinedDirections_4 : decode prog_2_method_5_code 4 = .ok (.aload_n 0, 1) := by decide +kernel
theorem d_PT_joinedDirections_5 : decode prog_2_method_5_code 5 = .ok (.getfield 14, 3) := by decide +kernel
theorem d_PT_joinedDirections_8 : decode prog_2_method_5_code 8 = .ok (.iconst 1, 1) := by decide +kernel
theorem d_PT_joinedDirections_9 : decode prog_2_method_5_code 9 = .ok (.iushr, 1) := by decide +kernel
theorem d_PT_joinedDirections_10 : decode prog_2_method_5_code 10 = .ok (.ixor, 1) := by decide +kernel
theorem d_PT_joinedDirections_11 : decode prog_2_method_5_code 11 = .ok (.istore_n 2, 1) := by decide +kernel
theorem d_PT_joinedDirections_12 : decode prog_2_method_5_code 12 = .ok (.iconst 0, 1) := by decide +kernel
theorem d_PT_joinedDirections_13 : decode prog_2_method_5_code 13 = .ok (.istore_n 3, 1) := by decide +kernel
theorem d_PT_joinedDirections_14 : decode prog_2_method_5_code 14 = .ok (.iconst 0, 1) := by decide +kernel
theorem d_PT_joinedDirections_15 : decode prog_2_method_5_code 15 = .ok (.istore 4, 2) := by decide +kernel
theorem d_PT_joinedDirections_17 : decode prog_2_method_5_code 17 = .ok (.iload 4, 2) := by decide +kernel
theorem d_PT_joinedDirections_19 : decode prog_2_method_5_code 19 = .ok (.bipush 20, 2) := by decide +kernel
theorem d_PT_joinedDirections_21 : decode prog_2_method_5_code 21 = .ok (.if_icmp .ge 31, 3) := by decide +kernel
theorem d_PT_joinedDirections_24 : decode prog_2_method_5_code 24 = .ok (.iload_n 2, 1) := by decide +kernel
theorem d_PT_joinedDirections_25 : decode prog_2_method_5_code 25 = .ok (.iload 4, 2) := by decide +kernel
theorem d_PT_joinedDirections_27 : decode prog_2_method_5_code 27 = .ok (.iushr, 1) := by decide +kernel
theorem d_PT_joinedDirections_28 : decode prog_2_method_5_code 28 = .ok (.iconst 1, 1) := by decide +kernel
theorem d_PT_joinedDirections_29 : decode prog_2_method_5_code 29 = .ok (.iand, 1) := by decide +kernel
theorem d_PT_joinedDirections_30 : decode prog_2_method_5_code 30 = .ok (.iconst 1, 1) := by decide +kernel
theorem d_PT_joinedDirections_31 : decode prog_2_method_5_code 31 = .ok (.if_icmp .ne 15, 3) := by decide +kernel
theorem d_PT_joinedDirections_34 : decode prog_2_method_5_code 34 = .ok (.iload_n 3, 1) := by decide +kernel
theorem d_PT_joinedDirections_35 : decode prog_2_method_5_code 35 = .ok (.aload_n 0, 1) := by decide +kernel
theorem d_PT_joinedDirections_36 : decode prog_2_method_5_code 36 = .ok (.getfield 11, 3) := by decide +kernel
theorem d_PT_joinedDirections_39 : decode prog_2_method_5_code 39 = .ok (.iload_n 1, 1) := by decide +kernel
theorem d_PT_joinedDirections_40 : decode prog_2_method_5_code 40 = .ok (.aaload, 1) := by decide +kernel
theorem d_PT_joinedDirections_41 : decode prog_2_method_5_code 41 = .ok (.iload 4, 2) := by decide +kernel
theorem d_PT_joinedDirections_43 : decode prog_2_method_5_code 43 = .ok (.iaload, 1) := by decide +kernel
theorem d_PT_joinedDirections_44 : decode prog_2_method_5_code 44 = .ok (.ixor, 1) := by decide +kernel
theorem d_PT_joinedDirections_45 : decode prog_2_method_5_code 45 = .ok (.istore_n 3, 1) := by decide +kernel
theorem d_PT_joinedDirections_46 : decode prog_2_method_5_code 46 = .ok (.iinc 4 1, 3) := by decide +kernel
theorem d_PT_joinedDirections_49 : decode prog_2_method_5_code 49 = .ok (.goto (-32), 3) := by decide +kernel
theorem d_PT_joinedDirections_52 : decode prog_2_method_5_code 52 = .ok (.iload_n 3, 1) := by decide +kernel
theorem d_PT_joinedDirections_53 : decode prog_2_method_5_code 53 = .ok (.ireturn, 1) := by decide +kernel
theorem d_PT_turnedDigits_0 : decode prog_2_method_6_code 0 = .ok (.aload_n 0, 1) := by decide +kernel
theorem d_PT_turnedDigits_1 : decode prog_2_method_6_code 1 = .ok (.getfield 14, 3) := by decide +kernel
theorem d_PT_turnedDigits_4 : decode prog_2_method_6_code 4 = .ok (.istore_n 3, 1) := by decide +kernel
theorem d_PT_turnedDigits_5 : decode prog_2_method_6_code 5 = .ok (.iconst 0, 1) := by decide +kernel
theorem d_PT_turnedDigits_6 : decode prog_2_method_6_code 6 = .ok (.istore 4, 2) := by decide +kernel
theorem d_PT_turnedDigits_8 : decode prog_2_method_6_code 8 = .ok (.iconst 0, 1) := by decide +kernel
theorem d_PT_turnedDigits_9 : decode prog_2_method_6_code 9 = .ok (.istore 5, 2) := by decide +kernel
theorem d_PT_turnedDigits_11 : decode prog_2_method_6_code 11 = .ok (.iload 5, 2) := by decide +kernel
theorem d_PT_turnedDigits_13 : decode prog_2_method_6_code 13 = .ok (.iload_n 2, 1) := by decide +kernel
theorem d_PT_turnedDigits_14 : decode prog_2_method_6_code 14 = .ok (.if_icmp .ge 23, 3) := by decide +kernel
theorem d_PT_turnedDigits_17 : decode prog_2_method_6_code 17 = .ok (.iload 4, 2) := by decide +kernel
theorem d_PT_turnedDigits_19 : decode prog_2_method_6_code 19 = .ok (.iload_n 1, 1) := by decide +kernel
theorem d_PT_turnedDigits_20 : decode prog_2_method_6_code 20 = .ok (.imul, 1) := by decide +kernel
theorem d_PT_turnedDigits_21 : decode prog_2_method_6_code 21 = .ok (.iload_n 3, 1) := by decide +kernel
theorem d_PT_turnedDigits_22 : decode prog_2_method_6_code 22 = .ok (.iload_n 1, 1) := by decide +kernel
theorem d_PT_turnedDigits_23 : decode prog_2_method_6_code 23 = .ok (.irem, 1) := by decide +kernel
theorem d_PT_turnedDigits_24 : decode prog_2_method_6_code 24 = .ok (.iadd, 1) := by decide +kernel
theorem d_PT_turnedDigits_25 : decode prog_2_method_6_code 25 = .ok (.istore 4, 2) := by decide +kernel
theorem d_PT_turnedDigits_27 : decode prog_2_method_6_code 27 = .ok (.iload_n 3, 1) := by decide +kernel
theorem d_PT_turnedDigits_28 : decode prog_2_method_6_code 28 = .ok (.iload_n 1, 1) := by decide +kernel
theorem d_PT_turnedDigits_29 : decode prog_2_method_6_code 29 = .ok (.idiv, 1) := by decide +kernel
theorem d_PT_turnedDigits_30 : decode prog_2_method_6_code 30 = .ok (.istore_n 3, 1) := by decide +kernel
theorem d_PT_turnedDigits_31 : decode prog_2_method_6_code 31 = .ok (.iinc 5 1, 3) := by decide +kernel
theorem d_PT_turnedDigits_34 : decode prog_2_method_6_code 34 = .ok (.goto (-23), 3) := by decide +kernel
theorem d_PT_turnedDigits_37 : decode prog_2_method_6_code 37 = .ok (.iload 4, 2) := by decide +kernel
theorem d_PT_turnedDigits_39 : decode prog_2_method_6_code 39 = .ok (.ireturn, 1) := by decide +kernel
theorem d_NS_weigh_0 : decode prog_1_method_18_code 0 = .ok (.iload_n 1, 1) := by decide +kernel
theorem d_NS_weigh_1 : decode prog_1_method_18_code 1 = .ok (.ifCond .lt 19, 3) := by decide +kernel
theorem d_NS_weigh_4 : decode prog_1_method_18_code 4 = .ok (.iload_n 1, 1) := by decide +kernel
theorem d_NS_weigh_5 : decode prog_1_method_18_code 5 = .ok (.bipush 16, 2) := by decide +kernel
theorem d_NS_weigh_7 : decode prog_1_method_18_code 7 = .ok (.if_icmp .ge 13, 3) := by decide +kernel
theorem d_NS_weigh_10 : decode prog_1_method_18_code 10 = .ok (.iload_n 2, 1) := by decide +kernel
theorem d_NS_weigh_11 : decode prog_1_method_18_code 11 = .ok (.ifCond .lt 9, 3) := by decide +kernel
theorem d_NS_weigh_14 : decode prog_1_method_18_code 14 = .ok (.iload_n 2, 1) := by decide +kernel
theorem d_NS_weigh_15 : decode prog_1_method_18_code 15 = .ok (.ldc 129, 2) := by decide +kernel
theorem d_NS_weigh_17 : decode prog_1_method_18_code 17 = .ok (.if_icmp .le 5, 3) := by decide +kernel
theorem d_NS_weigh_20 : decode prog_1_method_18_code 20 = .ok (.iconst 0, 1) := by decide +kernel
theorem d_NS_weigh_21 : decode prog_1_method_18_code 21 = .ok (.ireturn, 1) := by decide +kernel
theorem d_NS_weigh_22 : decode prog_1_method_18_code 22 = .ok (.aload_n 0, 1) := by decide +kernel
theorem d_NS_weigh_23 : decode prog_1_method_18_code 23 = .ok (.getfield 32, 3) := by decide +kernel
theorem d_NS_weigh_26 : decode prog_1_method_18_code 26 = .ok (.iload_n 1, 1) := by decide +kernel
theorem d_NS_weigh_27 : decode prog_1_method_18_code 27 = .ok (.iload_n 2, 1) := by decide +kernel
theorem d_NS_weigh_28 : decode prog_1_method_18_code 28 = .ok (.iastore, 1) := by decide +kernel
theorem d_NS_weigh_29 : decode prog_1_method_18_code 29 = .ok (.iconst 1, 1) := by decide +kernel
theorem d_NS_weigh_30 : decode prog_1_method_18_code 30 = .ok (.ireturn, 1) := by decide +kernel
theorem d_NS_pick_0 : decode prog_1_method_19_code 0 = .ok (.aload_n 0, 1) := by decide +kernel
theorem d_NS_pick_1 : decode prog_1_method_19_code 1 = .ok (.iload_n 1, 1) := by decide +kernel
theorem d_NS_pick_2 : decode prog_1_method_19_code 2 = .ok (.invokevirtual 61, 3) := by decide +kernel
theorem d_NS_pick_5 : decode prog_1_method_19_code 5 = .ok (.astore_n 2, 1) := by decide +kernel
theorem d_NS_pick_6 : decode prog_1_method_19_code 6 = .ok (.aload_n 0, 1) := by decide +kernel
theorem d_NS_pick_7 : decode prog_1_method_19_code 7 = .ok (.invokevirtual 130, 3) := by decide +kernel
theorem d_NS_pick_10 : decode prog_1_method_19_code 10 = .ok (.istore_n 3, 1) := by decide +kernel
theorem d_NS_pick_11 : decode prog_1_method_19_code 11 = .ok (.aload_n 2, 1) := by decide +kernel
theorem d_NS_pick_12 : decode prog_1_method_19_code 12 = .ok (.ifnull 8, 3) := by decide +kernel
theorem d_NS_pick_15 : decode prog_1_method_19_code 15 = .ok (.iload_n 3, 1) := by decide +kernel
theorem d_NS_pick_16 : decode prog_1_method_19_code 16 = .ok (.iconst 1, 1) := by decide +kernel
theorem d_NS_pick_17 : decode prog_1_method_19_code 17 = .ok (.if_icmp .ge 5, 3) := by decide +kernel
theorem d_NS_pick_20 : decode prog_1_method_19_code 20 = .ok (.iconst (-1), 1) := by decide +kernel
theorem d_NS_pick_21 : decode prog_1_method_19_code 21 = .ok (.ireturn, 1) := by decide +kernel
theorem d_NS_pick_22 : decode prog_1_method_19_code 22 = .ok (.aload_n 0, 1) := by decide +kernel
theorem d_NS_pick_23 : decode prog_1_method_19_code 23 = .ok (.aload_n 2, 1) := by decide +kernel
theorem d_NS_pick_24 : decode prog_1_method_19_code 24 = .ok (.iload_n 3, 1) := by decide +kernel
theorem d_NS_pick_25 : decode prog_1_method_19_code 25 = .ok (.invokevirtual 88, 3) := by decide +kernel
theorem d_NS_pick_28 : decode prog_1_method_19_code 28 = .ok (.invokevirtual 133, 3) := by decide +kernel
theorem d_NS_pick_31 : decode prog_1_method_19_code 31 = .ok (.ireturn, 1) := by decide +kernel
theorem d_NS_totalWeight_0 : decode prog_1_method_25_code 0 = .ok (.iconst 0, 1) := by decide +kernel
theorem d_NS_totalWeight_1 : decode prog_1_method_25_code 1 = .ok (.istore_n 1, 1) := by decide +kernel
theorem d_NS_totalWeight_2 : decode prog_1_method_25_code 2 = .ok (.iconst 0, 1) := by decide +kernel
theorem d_NS_totalWeight_3 : decode prog_1_method_25_code 3 = .ok (.istore_n 2, 1) := by decide +kernel
theorem d_NS_totalWeight_4 : decode prog_1_method_25_code 4 = .ok (.iload_n 2, 1) := by decide +kernel
theorem d_NS_totalWeight_5 : decode prog_1_method_25_code 5 = .ok (.bipush 16, 2) := by decide +kernel
theorem d_NS_totalWeight_7 : decode prog_1_method_25_code 7 = .ok (.if_icmp .ge 18, 3) := by decide +kernel
theorem d_NS_totalWeight_10 : decode prog_1_method_25_code 10 = .ok (.iload_n 1, 1) := by decide +kernel
theorem d_NS_totalWeight_11 : decode prog_1_method_25_code 11 = .ok (.aload_n 0, 1) := by decide +kernel
theorem d_NS_totalWeight_12 : decode prog_1_method_25_code 12 = .ok (.getfield 32, 3) := by decide +kernel
theorem d_NS_totalWeight_15 : decode prog_1_method_25_code 15 = .ok (.iload_n 2, 1) := by decide +kernel
theorem d_NS_totalWeight_16 : decode prog_1_method_25_code 16 = .ok (.iaload, 1) := by decide +kernel
theorem d_NS_totalWeight_17 : decode prog_1_method_25_code 17 = .ok (.iadd, 1) := by decide +kernel
theorem d_NS_totalWeight_18 : decode prog_1_method_25_code 18 = .ok (.istore_n 1, 1) := by decide +kernel
theorem d_NS_totalWeight_19 : decode prog_1_method_25_code 19 = .ok (.iinc 2 1, 3) := by decide +kernel
theorem d_NS_totalWeight_22 : decode prog_1_method_25_code 22 = .ok (.goto (-18), 3) := by decide +kernel
theorem d_NS_totalWeight_25 : decode prog_1_method_25_code 25 = .ok (.iload_n 1, 1) := by decide +kernel
theorem d_NS_totalWeight_26 : decode prog_1_method_25_code 26 = .ok (.ireturn, 1) := by decide +kernel
theorem d_NS_outcomeAt_0 : decode prog_1_method_26_code 0 = .ok (.iconst 0, 1) := by decide +kernel
theorem d_NS_outcomeAt_1 : decode prog_1_method_26_code 1 = .ok (.istore_n 2, 1) := by decide +kernel
theorem d_NS_outcomeAt_2 : decode prog_1_method_26_code 2 = .ok (.iconst 0, 1) := by decide +kernel
theorem d_NS_outcomeAt_3 : decode prog_1_method_26_code 3 = .ok (.istore_n 3, 1) := by decide +kernel
theorem d_NS_outcomeAt_4 : decode prog_1_method_26_code 4 = .ok (.iload_n 3, 1) := by decide +kernel
theorem d_NS_outcomeAt_5 : decode prog_1_method_26_code 5 = .ok (.bipush 16, 2) := by decide +kernel
theorem d_NS_outcomeAt_7 : decode prog_1_method_26_code 7 = .ok (.if_icmp .ge 25, 3) := by decide +kernel
theorem d_NS_outcomeAt_10 : decode prog_1_method_26_code 10 = .ok (.iload_n 2, 1) := by decide +kernel
theorem d_NS_outcomeAt_11 : decode prog_1_method_26_code 11 = .ok (.aload_n 0, 1) := by decide +kernel
theorem d_NS_outcomeAt_12 : decode prog_1_method_26_code 12 = .ok (.getfield 32, 3) := by decide +kernel
theorem d_NS_outcomeAt_15 : decode prog_1_method_26_code 15 = .ok (.iload_n 3, 1) := by decide +kernel
theorem d_NS_outcomeAt_16 : decode prog_1_method_26_code 16 = .ok (.iaload, 1) := by decide +kernel
theorem d_NS_outcomeAt_17 : decode prog_1_method_26_code 17 = .ok (.iadd, 1) := by decide +kernel
theorem d_NS_outcomeAt_18 : decode prog_1_method_26_code 18 = .ok (.istore_n 2, 1) := by decide +kernel
theorem d_NS_outcomeAt_19 : decode prog_1_method_26_code 19 = .ok (.iload_n 2, 1) := by decide +kernel
theorem d_NS_outcomeAt_20 : decode prog_1_method_26_code 20 = .ok (.iload_n 1, 1) := by decide +kernel
theorem d_NS_outcomeAt_21 : decode prog_1_method_26_code 21 = .ok (.if_icmp .le 5, 3) := by decide +kernel
theorem d_NS_outcomeAt_24 : decode prog_1_method_26_code 24 = .ok (.iload_n 3, 1) := by decide +kernel
theorem d_NS_outcomeAt_25 : decode prog_1_method_26_code 25 = .ok (.ireturn, 1) := by decide +kernel
theorem d_NS_outcomeAt_26 : decode prog_1_method_26_code 26 = .ok (.iinc 3 1, 3) := by decide +kernel
theorem d_NS_outcomeAt_29 : decode prog_1_method_26_code 29 = .ok (.goto (-25), 3) := by decide +kernel
theorem d_NS_outcomeAt_32 : decode prog_1_method_26_code 32 = .ok (.iconst (-1), 1) := by decide +kernel
theorem d_NS_outcomeAt_33 : decode prog_1_method_26_code 33 = .ok (.ireturn, 1) := by decide +kernel
theorem d_NS_shuffle_0 : decode prog_1_method_20_code 0 = .ok (.aload_n 0, 1) := by decide +kernel
theorem d_NS_shuffle_1 : decode prog_1_method_20_code 1 = .ok (.iload_n 1, 1) := by decide +kernel
theorem d_NS_shuffle_2 : decode prog_1_method_20_code 2 = .ok (.invokevirtual 61, 3) := by decide +kernel
theorem d_NS_shuffle_5 : decode prog_1_method_20_code 5 = .ok (.astore_n 2, 1) := by decide +kernel
theorem d_NS_shuffle_6 : decode prog_1_method_20_code 6 = .ok (.aload_n 2, 1) := by decide +kernel
theorem d_NS_shuffle_7 : decode prog_1_method_20_code 7 = .ok (.ifnonnull 5, 3) := by decide +kernel
theorem d_NS_shuffle_10 : decode prog_1_method_20_code 10 = .ok (.iconst 0, 1) := by decide +kernel
theorem d_NS_shuffle_11 : decode prog_1_method_20_code 11 = .ok (.ireturn, 1) := by decide +kernel
theorem d_NS_shuffle_12 : decode prog_1_method_20_code 12 = .ok (.bipush 15, 2) := by decide +kernel
theorem d_NS_shuffle_14 : decode prog_1_method_20_code 14 = .ok (.istore_n 3, 1) := by decide +kernel
theorem d_NS_shuffle_15 : decode prog_1_method_20_code 15 = .ok (.iload_n 3, 1) := by decide +kernel
theorem d_NS_shuffle_16 : decode prog_1_method_20_code 16 = .ok (.iconst 1, 1) := by decide +kernel
theorem d_NS_shuffle_17 : decode prog_1_method_20_code 17 = .ok (.if_icmp .lt 48, 3) := by decide +kernel
theorem d_NS_shuffle_20 : decode prog_1_method_20_code 20 = .ok (.aload_n 2, 1) := by decide +kernel
theorem d_NS_shuffle_21 : decode prog_1_method_20_code 21 = .ok (.iload_n 3, 1) := by decide +kernel
theorem d_NS_shuffle_22 : decode prog_1_method_20_code 22 = .ok (.iconst 1, 1) := by decide +kernel
theorem d_NS_shuffle_23 : decode prog_1_method_20_code 23 = .ok (.iadd, 1) := by decide +kernel
theorem d_NS_shuffle_24 : decode prog_1_method_20_code 24 = .ok (.invokevirtual 88, 3) := by decide +kernel
theorem d_NS_shuffle_27 : decode prog_1_method_20_code 27 = .ok (.istore 4, 2) := by decide +kernel
theorem d_NS_shuffle_29 : decode prog_1_method_20_code 29 = .ok (.aload_n 0, 1) := by decide +kernel
theorem d_NS_shuffle_30 : decode prog_1_method_20_code 30 = .ok (.getfield 36, 3) := by decide +kernel
theorem d_NS_shuffle_33 : decode prog_1_method_20_code 33 = .ok (.iload_n 3, 1) := by decide +kernel
theorem d_NS_shuffle_34 : decode prog_1_method_20_code 34 = .ok (.iaload, 1) := by decide +kernel
theorem d_NS_shuffle_35 : decode prog_1_method_20_code 35 = .ok (.istore 5, 2) := by decide +kernel
theorem d_NS_shuffle_37 : decode prog_1_method_20_code 37 = .ok (.aload_n 0, 1) := by decide +kernel
theorem d_NS_shuffle_38 : decode prog_1_method_20_code 38 = .ok (.getfield 36, 3) := by decide +kernel
theorem d_NS_shuffle_41 : decode prog_1_method_20_code 41 = .ok (.iload_n 3, 1) := by decide +kernel
theorem d_NS_shuffle_42 : decode prog_1_method_20_code 42 = .ok (.aload_n 0, 1) := by decide +kernel
theorem d_NS_shuffle_43 : decode prog_1_method_20_code 43 = .ok (.getfield 36, 3) := by decide +kernel
theorem d_NS_shuffle_46 : decode prog_1_method_20_code 46 = .ok (.iload 4, 2) := by decide +kernel
theorem d_NS_shuffle_48 : decode prog_1_method_20_code 48 = .ok (.iaload, 1) := by decide +kernel
theorem d_NS_shuffle_49 : decode prog_1_method_20_code 49 = .ok (.iastore, 1) := by decide +kernel
theorem d_NS_shuffle_50 : decode prog_1_method_20_code 50 = .ok (.aload_n 0, 1) := by decide +kernel
theorem d_NS_shuffle_51 : decode prog_1_method_20_code 51 = .ok (.getfield 36, 3) := by decide +kernel
theorem d_NS_shuffle_54 : decode prog_1_method_20_code 54 = .ok (.iload 4, 2) := by decide +kernel
theorem d_NS_shuffle_56 : decode prog_1_method_20_code 56 = .ok (.iload 5, 2) := by decide +kernel
theorem d_NS_shuffle_58 : decode prog_1_method_20_code 58 = .ok (.iastore, 1) := by decide +kernel
theorem d_NS_shuffle_59 : decode prog_1_method_20_code 59 = .ok (.iinc 3 (-1), 3) := by decide +kernel
theorem d_NS_shuffle_62 : decode prog_1_method_20_code 62 = .ok (.goto (-47), 3) := by decide +kernel
theorem d_NS_shuffle_65 : decode prog_1_method_20_code 65 = .ok (.iconst 1, 1) := by decide +kernel
theorem d_NS_shuffle_66 : decode prog_1_method_20_code 66 = .ok (.ireturn, 1) := by decide +kernel
theorem d_NS_card_0 : decode prog_1_method_21_code 0 = .ok (.iload_n 1, 1) := by decide +kernel
theorem d_NS_card_1 : decode prog_1_method_21_code 1 = .ok (.ifCond .lt 9, 3) := by decide +kernel
theorem d_NS_card_4 : decode prog_1_method_21_code 4 = .ok (.iload_n 1, 1) := by decide +kernel
theorem d_NS_card_5 : decode prog_1_method_21_code 5 = .ok (.bipush 16, 2) := by decide +kernel
theorem d_NS_card_7 : decode prog_1_method_21_code 7 = .ok (.if_icmp .lt 7, 3) := by decide +kernel
theorem d_NS_card_10 : decode prog_1_method_21_code 10 = .ok (.iconst (-1), 1) := by decide +kernel
theorem d_NS_card_11 : decode prog_1_method_21_code 11 = .ok (.goto 9, 3) := by decide +kernel
theorem d_NS_card_14 : decode prog_1_method_21_code 14 = .ok (.aload_n 0, 1) := by decide +kernel
theorem d_NS_card_15 : decode prog_1_method_21_code 15 = .ok (.getfield 36, 3) := by decide +kernel
theorem d_NS_card_18 : decode prog_1_method_21_code 18 = .ok (.iload_n 1, 1) := by decide +kernel
theorem d_NS_card_19 : decode prog_1_method_21_code 19 = .ok (.iaload, 1) := by decide +kernel
theorem d_NS_card_20 : decode prog_1_method_21_code 20 = .ok (.ireturn, 1) := by decide +kernel
end
section
/-! Decode rows, printed by wip/whole/names.py. -/
theorem d_MD_init_0 : decode prog_6_method_1_code 0 = .ok (.aload_n 0, 1) := by decide +kernel
theorem d_MD_init_1 : decode prog_6_method_1_code 1 = .ok (.invokespecial 1, 3) := by decide +kernel
theorem d_MD_init_4 : decode prog_6_method_1_code 4 = .ok (.aload_n 0, 1) := by decide +kernel
theorem d_MD_init_5 : decode prog_6_method_1_code 5 = .ok (.bipush 8, 2) := by decide +kernel
theorem d_MD_init_7 : decode prog_6_method_1_code 7 = .ok (.newarray .int, 2) := by decide +kernel
theorem d_MD_init_9 : decode prog_6_method_1_code 9 = .ok (.putfield 7, 3) := by decide +kernel
theorem d_MD_init_12 : decode prog_6_method_1_code 12 = .ok (.aload_n 0, 1) := by decide +kernel
theorem d_MD_init_13 : decode prog_6_method_1_code 13 = .ok (.bipush 8, 2) := by decide +kernel
theorem d_MD_init_15 : decode prog_6_method_1_code 15 = .ok (.newarray .long, 2) := by decide +kernel
theorem d_MD_init_17 : decode prog_6_method_1_code 17 = .ok (.putfield 13, 3) := by decide +kernel
theorem d_MD_init_20 : decode prog_6_method_1_code 20 = .ok (.aload_n 0, 1) := by decide +kernel
theorem d_MD_init_21 : decode prog_6_method_1_code 21 = .ok (.bipush 8, 2) := by decide +kernel
theorem d_MD_init_23 : decode prog_6_method_1_code 23 = .ok (.newarray .long, 2) := by decide +kernel
theorem d_MD_init_25 : decode prog_6_method_1_code 25 = .ok (.putfield 17, 3) := by decide +kernel
theorem d_MD_init_28 : decode prog_6_method_1_code 28 = .ok (.aload_n 0, 1) := by decide +kernel
theorem d_MD_init_29 : decode prog_6_method_1_code 29 = .ok (.bipush 6, 2) := by decide +kernel
theorem d_MD_init_31 : decode prog_6_method_1_code 31 = .ok (.newarray .int, 2) := by decide +kernel
theorem d_MD_init_33 : decode prog_6_method_1_code 33 = .ok (.putfield 20, 3) := by decide +kernel
theorem d_MD_init_36 : decode prog_6_method_1_code 36 = .ok (.aload_n 0, 1) := by decide +kernel
theorem d_MD_init_37 : decode prog_6_method_1_code 37 = .ok (.bipush 36, 2) := by decide +kernel
theorem d_MD_init_39 : decode prog_6_method_1_code 39 = .ok (.newarray .int, 2) := by decide +kernel
theorem d_MD_init_41 : decode prog_6_method_1_code 41 = .ok (.putfield 23, 3) := by decide +kernel
theorem d_MD_init_44 : decode prog_6_method_1_code 44 = .ok (.aload_n 0, 1) := by decide +kernel
theorem d_MD_init_45 : decode prog_6_method_1_code 45 = .ok (.bipush 24, 2) := by decide +kernel
theorem d_MD_init_47 : decode prog_6_method_1_code 47 = .ok (.newarray .int, 2) := by decide +kernel
theorem d_MD_init_49 : decode prog_6_method_1_code 49 = .ok (.putfield 26, 3) := by decide +kernel
theorem d_MD_init_52 : decode prog_6_method_1_code 52 = .ok (.aload_n 0, 1) := by decide +kernel
theorem d_MD_init_53 : decode prog_6_method_1_code 53 = .ok (.bipush 16, 2) := by decide +kernel
theorem d_MD_init_55 : decode prog_6_method_1_code 55 = .ok (.newarray .int, 2) := by decide +kernel
theorem d_MD_init_57 : decode prog_6_method_1_code 57 = .ok (.putfield 29, 3) := by decide +kernel
theorem d_MD_init_60 : decode prog_6_method_1_code 60 = .ok (.aload_n 0, 1) := by decide +kernel
theorem d_MD_init_61 : decode prog_6_method_1_code 61 = .ok (.bipush 16, 2) := by decide +kernel
theorem d_MD_init_63 : decode prog_6_method_1_code 63 = .ok (.newarray .int, 2) := by decide +kernel
theorem d_MD_init_65 : decode prog_6_method_1_code 65 = .ok (.putfield 32, 3) := by decide +kernel
theorem d_MD_init_68 : decode prog_6_method_1_code 68 = .ok (.iconst 0, 1) := by decide +kernel
theorem d_MD_init_69 : decode prog_6_method_1_code 69 = .ok (.istore_n 1, 1) := by decide +kernel
theorem d_MD_init_70 : decode prog_6_method_1_code 70 = .ok (.iload_n 1, 1) := by decide +kernel
theorem d_MD_init_71 : decode prog_6_method_1_code 71 = .ok (.bipush 8, 2) := by decide +kernel
theorem d_MD_init_73 : decode prog_6_method_1_code 73 = .ok (.if_icmp .ge 16, 3) := by decide +kernel
theorem d_MD_init_76 : decode prog_6_method_1_code 76 = .ok (.aload_n 0, 1) := by decide +kernel
theorem d_MD_init_77 : decode prog_6_method_1_code 77 = .ok (.getfield 7, 3) := by decide +kernel
theorem d_MD_init_80 : decode prog_6_method_1_code 80 = .ok (.iload_n 1, 1) := by decide +kernel
theorem d_MD_init_81 : decode prog_6_method_1_code 81 = .ok (.iconst (-1), 1) := by decide +kernel
theorem d_MD_init_82 : decode prog_6_method_1_code 82 = .ok (.iastore, 1) := by decide +kernel
theorem d_MD_init_83 : decode prog_6_method_1_code 83 = .ok (.iinc 1 1, 3) := by decide +kernel
theorem d_MD_init_86 : decode prog_6_method_1_code 86 = .ok (.goto (-16), 3) := by decide +kernel
theorem d_MD_init_89 : decode prog_6_method_1_code 89 = .ok (.iconst 0, 1) := by decide +kernel
theorem d_MD_init_90 : decode prog_6_method_1_code 90 = .ok (.istore_n 1, 1) := by decide +kernel
theorem d_MD_init_91 : decode prog_6_method_1_code 91 = .ok (.iload_n 1, 1) := by decide +kernel
theorem d_MD_init_92 : decode prog_6_method_1_code 92 = .ok (.bipush 16, 2) := by decide +kernel
theorem d_MD_init_94 : decode prog_6_method_1_code 94 = .ok (.if_icmp .ge 16, 3) := by decide +kernel
theorem d_MD_init_97 : decode prog_6_method_1_code 97 = .ok (.aload_n 0, 1) := by decide +kernel
theorem d_MD_init_98 : decode prog_6_method_1_code 98 = .ok (.getfield 32, 3) := by decide +kernel
theorem d_MD_init_101 : decode prog_6_method_1_code 101 = .ok (.iload_n 1, 1) := by decide +kernel
theorem d_MD_init_102 : decode prog_6_method_1_code 102 = .ok (.iload_n 1, 1) := by decide +kernel
theorem d_MD_init_103 : decode prog_6_method_1_code 103 = .ok (.iastore, 1) := by decide +kernel
theorem d_MD_init_104 : decode prog_6_method_1_code 104 = .ok (.iinc 1 1, 3) := by decide +kernel
theorem d_MD_init_107 : decode prog_6_method_1_code 107 = .ok (.goto (-16), 3) := by decide +kernel
theorem d_MD_init_110 : decode prog_6_method_1_code 110 = .ok (.return_, 1) := by decide +kernel
theorem d_MD_make_0 : decode prog_6_method_12_code 0 = .ok (.aload_n 0, 1) := by decide +kernel
theorem d_MD_make_1 : decode prog_6_method_12_code 1 = .ok (.invokevirtual 97, 3) := by decide +kernel
theorem d_MD_make_4 : decode prog_6_method_12_code 4 = .ok (.istore 4, 2) := by decide +kernel
theorem d_MD_make_6 : decode prog_6_method_12_code 6 = .ok (.iload_n 1, 1) := by decide +kernel
theorem d_MD_make_7 : decode prog_6_method_12_code 7 = .ok (.ifCond .lt 13, 3) := by decide +kernel
theorem d_MD_make_10 : decode prog_6_method_12_code 10 = .ok (.iload_n 1, 1) := by decide +kernel
theorem d_MD_make_11 : decode prog_6_method_12_code 11 = .ok (.iconst 3, 1) := by decide +kernel
theorem d_MD_make_12 : decode prog_6_method_12_code 12 = .ok (.if_icmp .gt 8, 3) := by decide +kernel
theorem d_MD_make_15 : decode prog_6_method_12_code 15 = .ok (.iload 4, 2) := by decide +kernel
theorem d_MD_make_17 : decode prog_6_method_12_code 17 = .ok (.ifCond .ge 5, 3) := by decide +kernel
theorem d_MD_make_20 : decode prog_6_method_12_code 20 = .ok (.iconst (-1), 1) := by decide +kernel
theorem d_MD_make_21 : decode prog_6_method_12_code 21 = .ok (.ireturn, 1) := by decide +kernel
theorem d_MD_make_22 : decode prog_6_method_12_code 22 = .ok (.aload_n 0, 1) := by decide +kernel
theorem d_MD_make_23 : decode prog_6_method_12_code 23 = .ok (.iload_n 1, 1) := by decide +kernel
theorem d_MD_make_24 : decode prog_6_method_12_code 24 = .ok (.putfield 90, 3) := by decide +kernel
theorem d_MD_make_27 : decode prog_6_method_12_code 27 = .ok (.aload_n 0, 1) := by decide +kernel
theorem d_MD_make_28 : decode prog_6_method_12_code 28 = .ok (.iload_n 2, 1) := by decide +kernel
theorem d_MD_make_29 : decode prog_6_method_12_code 29 = .ok (.i2l, 1) := by decide +kernel
theorem d_MD_make_30 : decode prog_6_method_12_code 30 = .ok (.putfield 84, 3) := by decide +kernel
theorem d_MD_make_33 : decode prog_6_method_12_code 33 = .ok (.aload_n 0, 1) := by decide +kernel
theorem d_MD_make_34 : decode prog_6_method_12_code 34 = .ok (.iload_n 1, 1) := by decide +kernel
theorem d_MD_make_35 : decode prog_6_method_12_code 35 = .ok (.iconst 2, 1) := by decide +kernel
theorem d_MD_make_36 : decode prog_6_method_12_code 36 = .ok (.if_icmp .ne 10, 3) := by decide +kernel
theorem d_MD_make_39 : decode prog_6_method_12_code 39 = .ok (.iload_n 3, 1) := by decide +kernel
theorem d_MD_make_40 : decode prog_6_method_12_code 40 = .ok (.invokestatic 71, 3) := by decide +kernel
theorem d_MD_make_43 : decode prog_6_method_12_code 43 = .ok (.goto 5, 3) := by decide +kernel
theorem d_MD_make_46 : decode prog_6_method_12_code 46 = .ok (.iload_n 3, 1) := by decide +kernel
theorem d_MD_make_47 : decode prog_6_method_12_code 47 = .ok (.i2l, 1) := by decide +kernel
theorem d_MD_make_48 : decode prog_6_method_12_code 48 = .ok (.putfield 87, 3) := by decide +kernel
theorem d_MD_make_51 : decode prog_6_method_12_code 51 = .ok (.iload_n 1, 1) := by decide +kernel
theorem d_MD_make_52 : decode prog_6_method_12_code 52 = .ok (.ifCond .ne 32, 3) := by decide +kernel
theorem d_MD_make_55 : decode prog_6_method_12_code 55 = .ok (.aload_n 0, 1) := by decide +kernel
theorem d_MD_make_56 : decode prog_6_method_12_code 56 = .ok (.iload_n 2, 1) := by decide +kernel
theorem d_MD_make_57 : decode prog_6_method_12_code 57 = .ok (.i2l, 1) := by decide +kernel
theorem d_MD_make_58 : decode prog_6_method_12_code 58 = .ok (.ldc2_w 35, 3) := by decide +kernel
theorem d_MD_make_61 : decode prog_6_method_12_code 61 = .ok (.lmul, 1) := by decide +kernel
theorem d_MD_make_62 : decode prog_6_method_12_code 62 = .ok (.iload_n 3, 1) := by decide +kernel
theorem d_MD_make_63 : decode prog_6_method_12_code 63 = .ok (.invokestatic 71, 3) := by decide +kernel
theorem d_MD_make_66 : decode prog_6_method_12_code 66 = .ok (.ladd, 1) := by decide +kernel
theorem d_MD_make_67 : decode prog_6_method_12_code 67 = .ok (.putfield 84, 3) := by decide +kernel
theorem d_MD_make_70 : decode prog_6_method_12_code 70 = .ok (.aload_n 0, 1) := by decide +kernel
theorem d_MD_make_71 : decode prog_6_method_12_code 71 = .ok (.ldc2_w 69, 3) := by decide +kernel
theorem d_MD_make_74 : decode prog_6_method_12_code 74 = .ok (.aload_n 0, 1) := by decide +kernel
theorem d_MD_make_75 : decode prog_6_method_12_code 75 = .ok (.getfield 84, 3) := by decide +kernel
theorem d_MD_make_78 : decode prog_6_method_12_code 78 = .ok (.lmul, 1) := by decide +kernel
theorem d_MD_make_79 : decode prog_6_method_12_code 79 = .ok (.lconst 1, 1) := by decide +kernel
theorem d_MD_make_80 : decode prog_6_method_12_code 80 = .ok (.ladd, 1) := by decide +kernel
theorem d_MD_make_81 : decode prog_6_method_12_code 81 = .ok (.putfield 87, 3) := by decide +kernel
theorem d_MD_make_84 : decode prog_6_method_12_code 84 = .ok (.aload_n 0, 1) := by decide +kernel
theorem d_MD_make_85 : decode prog_6_method_12_code 85 = .ok (.invokevirtual 101, 3) := by decide +kernel
theorem d_MD_make_88 : decode prog_6_method_12_code 88 = .ok (.ifCond .eq 12, 3) := by decide +kernel
theorem d_MD_make_91 : decode prog_6_method_12_code 91 = .ok (.aload_n 0, 1) := by decide +kernel
theorem d_MD_make_92 : decode prog_6_method_12_code 92 = .ok (.iload 4, 2) := by decide +kernel
theorem d_MD_make_94 : decode prog_6_method_12_code 94 = .ok (.invokevirtual 105, 3) := by decide +kernel
theorem d_MD_make_97 : decode prog_6_method_12_code 97 = .ok (.goto 5, 3) := by decide +kernel
theorem d_MD_make_100 : decode prog_6_method_12_code 100 = .ok (.bipush (-2), 2) := by decide +kernel
theorem d_MD_make_102 : decode prog_6_method_12_code 102 = .ok (.ireturn, 1) := by decide +kernel
theorem d_MD_freeSlot_0 : decode prog_6_method_8_code 0 = .ok (.iconst 0, 1) := by decide +kernel
theorem d_MD_freeSlot_1 : decode prog_6_method_8_code 1 = .ok (.istore_n 1, 1) := by decide +kernel
theorem d_MD_freeSlot_2 : decode prog_6_method_8_code 2 = .ok (.iload_n 1, 1) := by decide +kernel
theorem d_MD_freeSlot_3 : decode prog_6_method_8_code 3 = .ok (.bipush 8, 2) := by decide +kernel
theorem d_MD_freeSlot_5 : decode prog_6_method_8_code 5 = .ok (.if_icmp .ge 20, 3) := by decide +kernel
theorem d_MD_freeSlot_8 : decode prog_6_method_8_code 8 = .ok (.aload_n 0, 1) := by decide +kernel
theorem d_MD_freeSlot_9 : decode prog_6_method_8_code 9 = .ok (.getfield 7, 3) := by decide +kernel
theorem d_MD_freeSlot_12 : decode prog_6_method_8_code 12 = .ok (.iload_n 1, 1) := by decide +kernel
theorem d_MD_freeSlot_13 : decode prog_6_method_8_code 13 = .ok (.iaload, 1) := by decide +kernel
theorem d_MD_freeSlot_14 : decode prog_6_method_8_code 14 = .ok (.ifCond .ge 5, 3) := by decide +kernel
theorem d_MD_freeSlot_17 : decode prog_6_method_8_code 17 = .ok (.iload_n 1, 1) := by decide +kernel
theorem d_MD_freeSlot_18 : decode prog_6_method_8_code 18 = .ok (.ireturn, 1) := by decide +kernel
theorem d_MD_freeSlot_19 : decode prog_6_method_8_code 19 = .ok (.iinc 1 1, 3) := by decide +kernel
theorem d_MD_freeSlot_22 : decode prog_6_method_8_code 22 = .ok (.goto (-20), 3) := by decide +kernel
theorem d_MD_freeSlot_25 : decode prog_6_method_8_code 25 = .ok (.iconst (-1), 1) := by decide +kernel
theorem d_MD_freeSlot_26 : decode prog_6_method_8_code 26 = .ok (.ireturn, 1) := by decide +kernel
theorem d_MD_number_0 : decode prog_6_method_2_code 0 = .ok (.iload_n 0, 1) := by decide +kernel
theorem d_MD_number_1 : decode prog_6_method_2_code 1 = .ok (.i2l, 1) := by decide +kernel
theorem d_MD_number_2 : decode prog_6_method_2_code 2 = .ok (.lstore_n 1, 1) := by decide +kernel
theorem d_MD_number_3 : decode prog_6_method_2_code 3 = .ok (.lload_n 1, 1) := by decide +kernel
theorem d_MD_number_4 : decode prog_6_method_2_code 4 = .ok (.lconst 0, 1) := by decide +kernel
theorem d_MD_number_5 : decode prog_6_method_2_code 5 = .ok (.lcmp, 1) := by decide +kernel
theorem d_MD_number_6 : decode prog_6_method_2_code 6 = .ok (.ifCond .ge 11, 3) := by decide +kernel
theorem d_MD_number_9 : decode prog_6_method_2_code 9 = .ok (.lload_n 1, 1) := by decide +kernel
theorem d_MD_number_10 : decode prog_6_method_2_code 10 = .ok (.ldc2_w 35, 3) := by decide +kernel
theorem d_MD_number_13 : decode prog_6_method_2_code 13 = .ok (.ladd, 1) := by decide +kernel
theorem d_MD_number_14 : decode prog_6_method_2_code 14 = .ok (.goto 4, 3) := by decide +kernel
theorem d_MD_number_17 : decode prog_6_method_2_code 17 = .ok (.lload_n 1, 1) := by decide +kernel
theorem d_MD_number_18 : decode prog_6_method_2_code 18 = .ok (.lreturn, 1) := by decide +kernel
theorem d_MD_sound_0 : decode prog_6_method_10_code 0 = .ok (.aload_n 0, 1) := by decide +kernel
theorem d_MD_sound_1 : decode prog_6_method_10_code 1 = .ok (.getfield 84, 3) := by decide +kernel
theorem d_MD_sound_4 : decode prog_6_method_10_code 4 = .ok (.lconst 0, 1) := by decide +kernel
theorem d_MD_sound_5 : decode prog_6_method_10_code 5 = .ok (.lcmp, 1) := by decide +kernel
theorem d_MD_sound_6 : decode prog_6_method_10_code 6 = .ok (.ifCond .ne 16, 3) := by decide +kernel
theorem d_MD_sound_9 : decode prog_6_method_10_code 9 = .ok (.aload_n 0, 1) := by decide +kernel
theorem d_MD_sound_10 : decode prog_6_method_10_code 10 = .ok (.getfield 87, 3) := by decide +kernel
theorem d_MD_sound_13 : decode prog_6_method_10_code 13 = .ok (.lconst 0, 1) := by decide +kernel
theorem d_MD_sound_14 : decode prog_6_method_10_code 14 = .ok (.lcmp, 1) := by decide +kernel
theorem d_MD_sound_15 : decode prog_6_method_10_code 15 = .ok (.ifCond .ne 7, 3) := by decide +kernel
theorem d_MD_sound_18 : decode prog_6_method_10_code 18 = .ok (.iconst 1, 1) := by decide +kernel
theorem d_MD_sound_19 : decode prog_6_method_10_code 19 = .ok (.goto 4, 3) := by decide +kernel
theorem d_MD_sound_22 : decode prog_6_method_10_code 22 = .ok (.iconst 0, 1) := by decide +kernel
theorem d_MD_sound_23 : decode prog_6_method_10_code 23 = .ok (.istore_n 1, 1) := by decide +kernel
theorem d_MD_sound_24 : decode prog_6_method_10_code 24 = .ok (.aload_n 0, 1) := by decide +kernel
theorem d_MD_sound_25 : decode prog_6_method_10_code 25 = .ok (.getfield 90, 3) := by decide +kernel
theorem d_MD_sound_28 : decode prog_6_method_10_code 28 = .ok (.ifCond .ne 22, 3) := by decide +kernel
theorem d_MD_sound_31 : decode prog_6_method_10_code 31 = .ok (.aload_n 0, 1) := by decide +kernel
theorem d_MD_sound_32 : decode prog_6_method_10_code 32 = .ok (.getfield 87, 3) := by decide +kernel
theorem d_MD_sound_35 : decode prog_6_method_10_code 35 = .ok (.ldc2_w 69, 3) := by decide +kernel
theorem d_MD_sound_38 : decode prog_6_method_10_code 38 = .ok (.lrem, 1) := by decide +kernel
theorem d_MD_sound_39 : decode prog_6_method_10_code 39 = .ok (.lconst 0, 1) := by decide +kernel
theorem d_MD_sound_40 : decode prog_6_method_10_code 40 = .ok (.lcmp, 1) := by decide +kernel
theorem d_MD_sound_41 : decode prog_6_method_10_code 41 = .ok (.ifCond .eq 7, 3) := by decide +kernel
theorem d_MD_sound_44 : decode prog_6_method_10_code 44 = .ok (.iconst 1, 1) := by decide +kernel
theorem d_MD_sound_45 : decode prog_6_method_10_code 45 = .ok (.goto 4, 3) := by decide +kernel
theorem d_MD_sound_48 : decode prog_6_method_10_code 48 = .ok (.iconst 0, 1) := by decide +kernel
theorem d_MD_sound_49 : decode prog_6_method_10_code 49 = .ok (.ireturn, 1) := by decide +kernel
theorem d_MD_sound_50 : decode prog_6_method_10_code 50 = .ok (.aload_n 0, 1) := by decide +kernel
theorem d_MD_sound_51 : decode prog_6_method_10_code 51 = .ok (.getfield 90, 3) := by decide +kernel
theorem d_MD_sound_54 : decode prog_6_method_10_code 54 = .ok (.iconst 1, 1) := by decide +kernel
theorem d_MD_sound_55 : decode prog_6_method_10_code 55 = .ok (.if_icmp .ne 13, 3) := by decide +kernel
theorem d_MD_sound_58 : decode prog_6_method_10_code 58 = .ok (.iload_n 1, 1) := by decide +kernel
theorem d_MD_sound_59 : decode prog_6_method_10_code 59 = .ok (.ifCond .ne 7, 3) := by decide +kernel
theorem d_MD_sound_62 : decode prog_6_method_10_code 62 = .ok (.iconst 1, 1) := by decide +kernel
theorem d_MD_sound_63 : decode prog_6_method_10_code 63 = .ok (.goto 4, 3) := by decide +kernel
theorem d_MD_sound_66 : decode prog_6_method_10_code 66 = .ok (.iconst 0, 1) := by decide +kernel
theorem d_MD_sound_67 : decode prog_6_method_10_code 67 = .ok (.ireturn, 1) := by decide +kernel
theorem d_MD_sound_68 : decode prog_6_method_10_code 68 = .ok (.aload_n 0, 1) := by decide +kernel
theorem d_MD_sound_69 : decode prog_6_method_10_code 69 = .ok (.getfield 90, 3) := by decide +kernel
theorem d_MD_sound_72 : decode prog_6_method_10_code 72 = .ok (.iconst 2, 1) := by decide +kernel
theorem d_MD_sound_73 : decode prog_6_method_10_code 73 = .ok (.if_icmp .ne 18, 3) := by decide +kernel
theorem d_MD_sound_76 : decode prog_6_method_10_code 76 = .ok (.aload_n 0, 1) := by decide +kernel
theorem d_MD_sound_77 : decode prog_6_method_10_code 77 = .ok (.getfield 87, 3) := by decide +kernel
theorem d_MD_sound_80 : decode prog_6_method_10_code 80 = .ok (.lconst 0, 1) := by decide +kernel
theorem d_MD_sound_81 : decode prog_6_method_10_code 81 = .ok (.lcmp, 1) := by decide +kernel
theorem d_MD_sound_82 : decode prog_6_method_10_code 82 = .ok (.ifCond .lt 7, 3) := by decide +kernel
theorem d_MD_sound_85 : decode prog_6_method_10_code 85 = .ok (.iconst 1, 1) := by decide +kernel
theorem d_MD_sound_86 : decode prog_6_method_10_code 86 = .ok (.goto 4, 3) := by decide +kernel
theorem d_MD_sound_89 : decode prog_6_method_10_code 89 = .ok (.iconst 0, 1) := by decide +kernel
theorem d_MD_sound_90 : decode prog_6_method_10_code 90 = .ok (.ireturn, 1) := by decide +kernel
theorem d_MD_sound_91 : decode prog_6_method_10_code 91 = .ok (.iload_n 1, 1) := by decide +kernel
theorem d_MD_sound_92 : decode prog_6_method_10_code 92 = .ok (.ifCond .ne 27, 3) := by decide +kernel
theorem d_MD_sound_95 : decode prog_6_method_10_code 95 = .ok (.aload_n 0, 1) := by decide +kernel
theorem d_MD_sound_96 : decode prog_6_method_10_code 96 = .ok (.getfield 84, 3) := by decide +kernel
theorem d_MD_sound_99 : decode prog_6_method_10_code 99 = .ok (.invokestatic 93, 3) := by decide +kernel
theorem d_MD_sound_102 : decode prog_6_method_10_code 102 = .ok (.ifCond .eq 17, 3) := by decide +kernel
theorem d_MD_sound_105 : decode prog_6_method_10_code 105 = .ok (.aload_n 0, 1) := by decide +kernel
theorem d_MD_sound_106 : decode prog_6_method_10_code 106 = .ok (.getfield 87, 3) := by decide +kernel
theorem d_MD_sound_109 : decode prog_6_method_10_code 109 = .ok (.invokestatic 93, 3) := by decide +kernel
theorem d_MD_sound_112 : decode prog_6_method_10_code 112 = .ok (.ifCond .eq 7, 3) := by decide +kernel
theorem d_MD_sound_115 : decode prog_6_method_10_code 115 = .ok (.iconst 1, 1) := by decide +kernel
theorem d_MD_sound_116 : decode prog_6_method_10_code 116 = .ok (.goto 4, 3) := by decide +kernel
theorem d_MD_sound_119 : decode prog_6_method_10_code 119 = .ok (.iconst 0, 1) := by decide +kernel
theorem d_MD_sound_120 : decode prog_6_method_10_code 120 = .ok (.ireturn, 1) := by decide +kernel
theorem d_MD_residue_0 : decode prog_6_method_9_code 0 = .ok (.lload_n 0, 1) := by decide +kernel
theorem d_MD_residue_1 : decode prog_6_method_9_code 1 = .ok (.lconst 0, 1) := by decide +kernel
theorem d_MD_residue_2 : decode prog_6_method_9_code 2 = .ok (.lcmp, 1) := by decide +kernel
theorem d_MD_residue_3 : decode prog_6_method_9_code 3 = .ok (.ifCond .lt 15, 3) := by decide +kernel
theorem d_MD_residue_6 : decode prog_6_method_9_code 6 = .ok (.lload_n 0, 1) := by decide +kernel
theorem d_MD_residue_7 : decode prog_6_method_9_code 7 = .ok (.ldc2_w 82, 3) := by decide +kernel
theorem d_MD_residue_10 : decode prog_6_method_9_code 10 = .ok (.lcmp, 1) := by decide +kernel
theorem d_MD_residue_11 : decode prog_6_method_9_code 11 = .ok (.ifCond .gt 7, 3) := by decide +kernel
theorem d_MD_residue_14 : decode prog_6_method_9_code 14 = .ok (.iconst 1, 1) := by decide +kernel
theorem d_MD_residue_15 : decode prog_6_method_9_code 15 = .ok (.goto 4, 3) := by decide +kernel
theorem d_MD_residue_18 : decode prog_6_method_9_code 18 = .ok (.iconst 0, 1) := by decide +kernel
theorem d_MD_residue_19 : decode prog_6_method_9_code 19 = .ok (.ireturn, 1) := by decide +kernel
theorem d_MD_settle_0 : decode prog_6_method_11_code 0 = .ok (.aload_n 0, 1) := by decide +kernel
theorem d_MD_settle_1 : decode prog_6_method_11_code 1 = .ok (.getfield 7, 3) := by decide +kernel
theorem d_MD_settle_4 : decode prog_6_method_11_code 4 = .ok (.iload_n 1, 1) := by decide +kernel
theorem d_MD_settle_5 : decode prog_6_method_11_code 5 = .ok (.aload_n 0, 1) := by decide +kernel
theorem d_MD_settle_6 : decode prog_6_method_11_code 6 = .ok (.getfield 90, 3) := by decide +kernel
theorem d_MD_settle_9 : decode prog_6_method_11_code 9 = .ok (.iastore, 1) := by decide +kernel
theorem d_MD_settle_10 : decode prog_6_method_11_code 10 = .ok (.aload_n 0, 1) := by decide +kernel
theorem d_MD_settle_11 : decode prog_6_method_11_code 11 = .ok (.getfield 13, 3) := by decide +kernel
theorem d_MD_settle_14 : decode prog_6_method_11_code 14 = .ok (.iload_n 1, 1) := by decide +kernel
theorem d_MD_settle_15 : decode prog_6_method_11_code 15 = .ok (.aload_n 0, 1) := by decide +kernel
theorem d_MD_settle_16 : decode prog_6_method_11_code 16 = .ok (.getfield 84, 3) := by decide +kernel
theorem d_MD_settle_19 : decode prog_6_method_11_code 19 = .ok (.lastore, 1) := by decide +kernel
theorem d_MD_settle_20 : decode prog_6_method_11_code 20 = .ok (.aload_n 0, 1) := by decide +kernel
theorem d_MD_settle_21 : decode prog_6_method_11_code 21 = .ok (.getfield 17, 3) := by decide +kernel
theorem d_MD_settle_24 : decode prog_6_method_11_code 24 = .ok (.iload_n 1, 1) := by decide +kernel
theorem d_MD_settle_25 : decode prog_6_method_11_code 25 = .ok (.aload_n 0, 1) := by decide +kernel
theorem d_MD_settle_26 : decode prog_6_method_11_code 26 = .ok (.getfield 87, 3) := by decide +kernel
theorem d_MD_settle_29 : decode prog_6_method_11_code 29 = .ok (.lastore, 1) := by decide +kernel
theorem d_MD_settle_30 : decode prog_6_method_11_code 30 = .ok (.iload_n 1, 1) := by decide +kernel
theorem d_MD_settle_31 : decode prog_6_method_11_code 31 = .ok (.ireturn, 1) := by decide +kernel
theorem d_MD_twin_0 : decode prog_6_method_13_code 0 = .ok (.aload_n 0, 1) := by decide +kernel
theorem d_MD_twin_1 : decode prog_6_method_13_code 1 = .ok (.invokevirtual 97, 3) := by decide +kernel
theorem d_MD_twin_4 : decode prog_6_method_13_code 4 = .ok (.istore_n 2, 1) := by decide +kernel
theorem d_MD_twin_5 : decode prog_6_method_13_code 5 = .ok (.aload_n 0, 1) := by decide +kernel
theorem d_MD_twin_6 : decode prog_6_method_13_code 6 = .ok (.iload_n 1, 1) := by decide +kernel
theorem d_MD_twin_7 : decode prog_6_method_13_code 7 = .ok (.invokevirtual 109, 3) := by decide +kernel
theorem d_MD_twin_10 : decode prog_6_method_13_code 10 = .ok (.ifCond .eq 7, 3) := by decide +kernel
theorem d_MD_twin_13 : decode prog_6_method_13_code 13 = .ok (.iload_n 2, 1) := by decide +kernel
theorem d_MD_twin_14 : decode prog_6_method_13_code 14 = .ok (.ifCond .ge 5, 3) := by decide +kernel
theorem d_MD_twin_17 : decode prog_6_method_13_code 17 = .ok (.iconst (-1), 1) := by decide +kernel
theorem d_MD_twin_18 : decode prog_6_method_13_code 18 = .ok (.ireturn, 1) := by decide +kernel
theorem d_MD_twin_19 : decode prog_6_method_13_code 19 = .ok (.aload_n 0, 1) := by decide +kernel
theorem d_MD_twin_20 : decode prog_6_method_13_code 20 = .ok (.getfield 7, 3) := by decide +kernel
theorem d_MD_twin_23 : decode prog_6_method_13_code 23 = .ok (.iload_n 2, 1) := by decide +kernel
theorem d_MD_twin_24 : decode prog_6_method_13_code 24 = .ok (.aload_n 0, 1) := by decide +kernel
theorem d_MD_twin_25 : decode prog_6_method_13_code 25 = .ok (.getfield 7, 3) := by decide +kernel
theorem d_MD_twin_28 : decode prog_6_method_13_code 28 = .ok (.iload_n 1, 1) := by decide +kernel
theorem d_MD_twin_29 : decode prog_6_method_13_code 29 = .ok (.iaload, 1) := by decide +kernel
theorem d_MD_twin_30 : decode prog_6_method_13_code 30 = .ok (.iastore, 1) := by decide +kernel
theorem d_MD_twin_31 : decode prog_6_method_13_code 31 = .ok (.aload_n 0, 1) := by decide +kernel
theorem d_MD_twin_32 : decode prog_6_method_13_code 32 = .ok (.getfield 13, 3) := by decide +kernel
theorem d_MD_twin_35 : decode prog_6_method_13_code 35 = .ok (.iload_n 2, 1) := by decide +kernel
theorem d_MD_twin_36 : decode prog_6_method_13_code 36 = .ok (.aload_n 0, 1) := by decide +kernel
theorem d_MD_twin_37 : decode prog_6_method_13_code 37 = .ok (.getfield 13, 3) := by decide +kernel
theorem d_MD_twin_40 : decode prog_6_method_13_code 40 = .ok (.iload_n 1, 1) := by decide +kernel
theorem d_MD_twin_41 : decode prog_6_method_13_code 41 = .ok (.laload, 1) := by decide +kernel
theorem d_MD_twin_42 : decode prog_6_method_13_code 42 = .ok (.lastore, 1) := by decide +kernel
theorem d_MD_twin_43 : decode prog_6_method_13_code 43 = .ok (.aload_n 0, 1) := by decide +kernel
theorem d_MD_twin_44 : decode prog_6_method_13_code 44 = .ok (.getfield 17, 3) := by decide +kernel
theorem d_MD_twin_47 : decode prog_6_method_13_code 47 = .ok (.iload_n 2, 1) := by decide +kernel
theorem d_MD_twin_48 : decode prog_6_method_13_code 48 = .ok (.aload_n 0, 1) := by decide +kernel
theorem d_MD_twin_49 : decode prog_6_method_13_code 49 = .ok (.getfield 17, 3) := by decide +kernel
theorem d_MD_twin_52 : decode prog_6_method_13_code 52 = .ok (.iload_n 1, 1) := by decide +kernel
theorem d_MD_twin_53 : decode prog_6_method_13_code 53 = .ok (.laload, 1) := by decide +kernel
theorem d_MD_twin_54 : decode prog_6_method_13_code 54 = .ok (.lastore, 1) := by decide +kernel
theorem d_MD_twin_55 : decode prog_6_method_13_code 55 = .ok (.iload_n 2, 1) := by decide +kernel
theorem d_MD_twin_56 : decode prog_6_method_13_code 56 = .ok (.ireturn, 1) := by decide +kernel
theorem d_MD_holds_0 : decode prog_6_method_7_code 0 = .ok (.iload_n 1, 1) := by decide +kernel
theorem d_MD_holds_1 : decode prog_6_method_7_code 1 = .ok (.ifCond .lt 22, 3) := by decide +kernel
theorem d_MD_holds_4 : decode prog_6_method_7_code 4 = .ok (.iload_n 1, 1) := by decide +kernel
theorem d_MD_holds_5 : decode prog_6_method_7_code 5 = .ok (.bipush 7, 2) := by decide +kernel
theorem d_MD_holds_7 : decode prog_6_method_7_code 7 = .ok (.if_icmp .gt 16, 3) := by decide +kernel
theorem d_MD_holds_10 : decode prog_6_method_7_code 10 = .ok (.aload_n 0, 1) := by decide +kernel
theorem d_MD_holds_11 : decode prog_6_method_7_code 11 = .ok (.getfield 7, 3) := by decide +kernel
theorem d_MD_holds_14 : decode prog_6_method_7_code 14 = .ok (.iload_n 1, 1) := by decide +kernel
theorem d_MD_holds_15 : decode prog_6_method_7_code 15 = .ok (.iaload, 1) := by decide +kernel
theorem d_MD_holds_16 : decode prog_6_method_7_code 16 = .ok (.ifCond .lt 7, 3) := by decide +kernel
theorem d_MD_holds_19 : decode prog_6_method_7_code 19 = .ok (.iconst 1, 1) := by decide +kernel
theorem d_MD_holds_20 : decode prog_6_method_7_code 20 = .ok (.goto 4, 3) := by decide +kernel
theorem d_MD_holds_23 : decode prog_6_method_7_code 23 = .ok (.iconst 0, 1) := by decide +kernel
theorem d_MD_holds_24 : decode prog_6_method_7_code 24 = .ok (.ireturn, 1) := by decide +kernel
theorem d_MD_release_0 : decode prog_6_method_14_code 0 = .ok (.aload_n 0, 1) := by decide +kernel
theorem d_MD_release_1 : decode prog_6_method_14_code 1 = .ok (.iload_n 1, 1) := by decide +kernel
theorem d_MD_release_2 : decode prog_6_method_14_code 2 = .ok (.invokevirtual 109, 3) := by decide +kernel
theorem d_MD_release_5 : decode prog_6_method_14_code 5 = .ok (.ifCond .ne 5, 3) := by decide +kernel
theorem d_MD_release_8 : decode prog_6_method_14_code 8 = .ok (.iconst 0, 1) := by decide +kernel
theorem d_MD_release_9 : decode prog_6_method_14_code 9 = .ok (.ireturn, 1) := by decide +kernel
theorem d_MD_release_10 : decode prog_6_method_14_code 10 = .ok (.aload_n 0, 1) := by decide +kernel
theorem d_MD_release_11 : decode prog_6_method_14_code 11 = .ok (.getfield 7, 3) := by decide +kernel
theorem d_MD_release_14 : decode prog_6_method_14_code 14 = .ok (.iload_n 1, 1) := by decide +kernel
theorem d_MD_release_15 : decode prog_6_method_14_code 15 = .ok (.iconst (-1), 1) := by decide +kernel
theorem d_MD_release_16 : decode prog_6_method_14_code 16 = .ok (.iastore, 1) := by decide +kernel
theorem d_MD_release_17 : decode prog_6_method_14_code 17 = .ok (.iconst 1, 1) := by decide +kernel
theorem d_MD_release_18 : decode prog_6_method_14_code 18 = .ok (.ireturn, 1) := by decide +kernel
theorem d_MD_next_0 : decode prog_6_method_15_code 0 = .ok (.aload_n 0, 1) := by decide +kernel
theorem d_MD_next_1 : decode prog_6_method_15_code 1 = .ok (.iload_n 1, 1) := by decide +kernel
theorem d_MD_next_2 : decode prog_6_method_15_code 2 = .ok (.invokevirtual 109, 3) := by decide +kernel
theorem d_MD_next_5 : decode prog_6_method_15_code 5 = .ok (.ifCond .ne 7, 3) := by decide +kernel
theorem d_MD_next_8 : decode prog_6_method_15_code 8 = .ok (.ldc2_w 113, 3) := by decide +kernel
theorem d_MD_next_11 : decode prog_6_method_15_code 11 = .ok (.lreturn, 1) := by decide +kernel
theorem d_MD_next_12 : decode prog_6_method_15_code 12 = .ok (.aload_n 0, 1) := by decide +kernel
theorem d_MD_next_13 : decode prog_6_method_15_code 13 = .ok (.iload_n 1, 1) := by decide +kernel
theorem d_MD_next_14 : decode prog_6_method_15_code 14 = .ok (.invokevirtual 115, 3) := by decide +kernel
theorem d_MD_next_17 : decode prog_6_method_15_code 17 = .ok (.aload_n 0, 1) := by decide +kernel
theorem d_MD_next_18 : decode prog_6_method_15_code 18 = .ok (.getfield 50, 3) := by decide +kernel
theorem d_MD_next_21 : decode prog_6_method_15_code 21 = .ok (.invokestatic 71, 3) := by decide +kernel
theorem d_MD_next_24 : decode prog_6_method_15_code 24 = .ok (.lreturn, 1) := by decide +kernel
theorem d_MD_step_0 : decode prog_6_method_5_code 0 = .ok (.aload_n 0, 1) := by decide +kernel
theorem d_MD_step_1 : decode prog_6_method_5_code 1 = .ok (.getfield 13, 3) := by decide +kernel
theorem d_MD_step_4 : decode prog_6_method_5_code 4 = .ok (.iload_n 1, 1) := by decide +kernel
theorem d_MD_step_5 : decode prog_6_method_5_code 5 = .ok (.laload, 1) := by decide +kernel
theorem d_MD_step_6 : decode prog_6_method_5_code 6 = .ok (.lstore_n 2, 1) := by decide +kernel
theorem d_MD_step_7 : decode prog_6_method_5_code 7 = .ok (.aload_n 0, 1) := by decide +kernel
theorem d_MD_step_8 : decode prog_6_method_5_code 8 = .ok (.getfield 17, 3) := by decide +kernel
theorem d_MD_step_11 : decode prog_6_method_5_code 11 = .ok (.iload_n 1, 1) := by decide +kernel
theorem d_MD_step_12 : decode prog_6_method_5_code 12 = .ok (.laload, 1) := by decide +kernel
theorem d_MD_step_13 : decode prog_6_method_5_code 13 = .ok (.lstore 4, 2) := by decide +kernel
theorem d_MD_step_15 : decode prog_6_method_5_code 15 = .ok (.aload_n 0, 1) := by decide +kernel
theorem d_MD_step_16 : decode prog_6_method_5_code 16 = .ok (.getfield 7, 3) := by decide +kernel
theorem d_MD_step_19 : decode prog_6_method_5_code 19 = .ok (.iload_n 1, 1) := by decide +kernel
theorem d_MD_step_20 : decode prog_6_method_5_code 20 = .ok (.iaload, 1) := by decide +kernel
theorem d_MD_step_21 : decode prog_6_method_5_code 21 = .ok (.ifCond .ne 53, 3) := by decide +kernel
theorem d_MD_step_24 : decode prog_6_method_5_code 24 = .ok (.lload_n 2, 1) := by decide +kernel
theorem d_MD_step_25 : decode prog_6_method_5_code 25 = .ok (.bipush 18, 2) := by decide +kernel
theorem d_MD_step_27 : decode prog_6_method_5_code 27 = .ok (.lushr, 1) := by decide +kernel
theorem d_MD_step_28 : decode prog_6_method_5_code 28 = .ok (.lload_n 2, 1) := by decide +kernel
theorem d_MD_step_29 : decode prog_6_method_5_code 29 = .ok (.lxor, 1) := by decide +kernel
theorem d_MD_step_30 : decode prog_6_method_5_code 30 = .ok (.bipush 27, 2) := by decide +kernel
theorem d_MD_step_32 : decode prog_6_method_5_code 32 = .ok (.lushr, 1) := by decide +kernel
theorem d_MD_step_33 : decode prog_6_method_5_code 33 = .ok (.l2i, 1) := by decide +kernel
theorem d_MD_step_34 : decode prog_6_method_5_code 34 = .ok (.istore 6, 2) := by decide +kernel
theorem d_MD_step_36 : decode prog_6_method_5_code 36 = .ok (.lload_n 2, 1) := by decide +kernel
theorem d_MD_step_37 : decode prog_6_method_5_code 37 = .ok (.bipush 59, 2) := by decide +kernel
theorem d_MD_step_39 : decode prog_6_method_5_code 39 = .ok (.lushr, 1) := by decide +kernel
theorem d_MD_step_40 : decode prog_6_method_5_code 40 = .ok (.l2i, 1) := by decide +kernel
theorem d_MD_step_41 : decode prog_6_method_5_code 41 = .ok (.istore 7, 2) := by decide +kernel
theorem d_MD_step_43 : decode prog_6_method_5_code 43 = .ok (.aload_n 0, 1) := by decide +kernel
theorem d_MD_step_44 : decode prog_6_method_5_code 44 = .ok (.iload 6, 2) := by decide +kernel
theorem d_MD_step_46 : decode prog_6_method_5_code 46 = .ok (.bipush 32, 2) := by decide +kernel
theorem d_MD_step_48 : decode prog_6_method_5_code 48 = .ok (.iload 7, 2) := by decide +kernel
theorem d_MD_step_50 : decode prog_6_method_5_code 50 = .ok (.isub, 1) := by decide +kernel
theorem d_MD_step_51 : decode prog_6_method_5_code 51 = .ok (.invokestatic 46, 3) := by decide +kernel
theorem d_MD_step_54 : decode prog_6_method_5_code 54 = .ok (.putfield 50, 3) := by decide +kernel
theorem d_MD_step_57 : decode prog_6_method_5_code 57 = .ok (.aload_n 0, 1) := by decide +kernel
theorem d_MD_step_58 : decode prog_6_method_5_code 58 = .ok (.getfield 13, 3) := by decide +kernel
theorem d_MD_step_61 : decode prog_6_method_5_code 61 = .ok (.iload_n 1, 1) := by decide +kernel
theorem d_MD_step_62 : decode prog_6_method_5_code 62 = .ok (.lload_n 2, 1) := by decide +kernel
theorem d_MD_step_63 : decode prog_6_method_5_code 63 = .ok (.ldc2_w 54, 3) := by decide +kernel
theorem d_MD_step_66 : decode prog_6_method_5_code 66 = .ok (.lmul, 1) := by decide +kernel
theorem d_MD_step_67 : decode prog_6_method_5_code 67 = .ok (.lload 4, 2) := by decide +kernel
theorem d_MD_step_69 : decode prog_6_method_5_code 69 = .ok (.ladd, 1) := by decide +kernel
theorem d_MD_step_70 : decode prog_6_method_5_code 70 = .ok (.lastore, 1) := by decide +kernel
theorem d_MD_step_71 : decode prog_6_method_5_code 71 = .ok (.goto 182, 3) := by decide +kernel
theorem d_MD_step_74 : decode prog_6_method_5_code 74 = .ok (.aload_n 0, 1) := by decide +kernel
theorem d_MD_step_75 : decode prog_6_method_5_code 75 = .ok (.getfield 7, 3) := by decide +kernel
theorem d_MD_step_78 : decode prog_6_method_5_code 78 = .ok (.iload_n 1, 1) := by decide +kernel
theorem d_MD_step_79 : decode prog_6_method_5_code 79 = .ok (.iaload, 1) := by decide +kernel
theorem d_MD_step_80 : decode prog_6_method_5_code 80 = .ok (.iconst 1, 1) := by decide +kernel
theorem d_MD_step_81 : decode prog_6_method_5_code 81 = .ok (.if_icmp .ne 78, 3) := by decide +kernel
theorem d_MD_step_84 : decode prog_6_method_5_code 84 = .ok (.lload_n 2, 1) := by decide +kernel
theorem d_MD_step_85 : decode prog_6_method_5_code 85 = .ok (.l2i, 1) := by decide +kernel
theorem d_MD_step_86 : decode prog_6_method_5_code 86 = .ok (.istore 6, 2) := by decide +kernel
theorem d_MD_step_88 : decode prog_6_method_5_code 88 = .ok (.lload 4, 2) := by decide +kernel
theorem d_MD_step_90 : decode prog_6_method_5_code 90 = .ok (.l2i, 1) := by decide +kernel
theorem d_MD_step_91 : decode prog_6_method_5_code 91 = .ok (.istore 7, 2) := by decide +kernel
theorem d_MD_step_93 : decode prog_6_method_5_code 93 = .ok (.aload_n 0, 1) := by decide +kernel
theorem d_MD_step_94 : decode prog_6_method_5_code 94 = .ok (.iload 6, 2) := by decide +kernel
theorem d_MD_step_96 : decode prog_6_method_5_code 96 = .ok (.ldc 56, 2) := by decide +kernel
theorem d_MD_step_98 : decode prog_6_method_5_code 98 = .ok (.imul, 1) := by decide +kernel
theorem d_MD_step_99 : decode prog_6_method_5_code 99 = .ok (.iconst 5, 1) := by decide +kernel
theorem d_MD_step_100 : decode prog_6_method_5_code 100 = .ok (.invokestatic 46, 3) := by decide +kernel
theorem d_MD_step_103 : decode prog_6_method_5_code 103 = .ok (.iconst 5, 1) := by decide +kernel
theorem d_MD_step_104 : decode prog_6_method_5_code 104 = .ok (.imul, 1) := by decide +kernel
theorem d_MD_step_105 : decode prog_6_method_5_code 105 = .ok (.putfield 50, 3) := by decide +kernel
theorem d_MD_step_108 : decode prog_6_method_5_code 108 = .ok (.iload 6, 2) := by decide +kernel
theorem d_MD_step_110 : decode prog_6_method_5_code 110 = .ok (.iload 7, 2) := by decide +kernel
theorem d_MD_step_112 : decode prog_6_method_5_code 112 = .ok (.ixor, 1) := by decide +kernel
theorem d_MD_step_113 : decode prog_6_method_5_code 113 = .ok (.istore 7, 2) := by decide +kernel
theorem d_MD_step_115 : decode prog_6_method_5_code 115 = .ok (.iload 6, 2) := by decide +kernel
theorem d_MD_step_117 : decode prog_6_method_5_code 117 = .ok (.bipush 26, 2) := by decide +kernel
theorem d_MD_step_119 : decode prog_6_method_5_code 119 = .ok (.invokestatic 46, 3) := by decide +kernel
theorem d_MD_step_122 : decode prog_6_method_5_code 122 = .ok (.iload 7, 2) := by decide +kernel
theorem d_MD_step_124 : decode prog_6_method_5_code 124 = .ok (.ixor, 1) := by decide +kernel
theorem d_MD_step_125 : decode prog_6_method_5_code 125 = .ok (.iload 7, 2) := by decide +kernel
theorem d_MD_step_127 : decode prog_6_method_5_code 127 = .ok (.bipush 9, 2) := by decide +kernel
theorem d_MD_step_129 : decode prog_6_method_5_code 129 = .ok (.ishl, 1) := by decide +kernel
theorem d_MD_step_130 : decode prog_6_method_5_code 130 = .ok (.ixor, 1) := by decide +kernel
theorem d_MD_step_131 : decode prog_6_method_5_code 131 = .ok (.istore 6, 2) := by decide +kernel
theorem d_MD_step_133 : decode prog_6_method_5_code 133 = .ok (.aload_n 0, 1) := by decide +kernel
theorem d_MD_step_134 : decode prog_6_method_5_code 134 = .ok (.getfield 13, 3) := by decide +kernel
theorem d_MD_step_137 : decode prog_6_method_5_code 137 = .ok (.iload_n 1, 1) := by decide +kernel
theorem d_MD_step_138 : decode prog_6_method_5_code 138 = .ok (.iload 6, 2) := by decide +kernel
theorem d_MD_step_140 : decode prog_6_method_5_code 140 = .ok (.i2l, 1) := by decide +kernel
theorem d_MD_step_141 : decode prog_6_method_5_code 141 = .ok (.lastore, 1) := by decide +kernel
theorem d_MD_step_142 : decode prog_6_method_5_code 142 = .ok (.aload_n 0, 1) := by decide +kernel
theorem d_MD_step_143 : decode prog_6_method_5_code 143 = .ok (.getfield 17, 3) := by decide +kernel
theorem d_MD_step_146 : decode prog_6_method_5_code 146 = .ok (.iload_n 1, 1) := by decide +kernel
theorem d_MD_step_147 : decode prog_6_method_5_code 147 = .ok (.iload 7, 2) := by decide +kernel
theorem d_MD_step_149 : decode prog_6_method_5_code 149 = .ok (.bipush 13, 2) := by decide +kernel
theorem d_MD_step_151 : decode prog_6_method_5_code 151 = .ok (.invokestatic 46, 3) := by decide +kernel
theorem d_MD_step_154 : decode prog_6_method_5_code 154 = .ok (.i2l, 1) := by decide +kernel
theorem d_MD_step_155 : decode prog_6_method_5_code 155 = .ok (.lastore, 1) := by decide +kernel
theorem d_MD_step_156 : decode prog_6_method_5_code 156 = .ok (.goto 97, 3) := by decide +kernel
theorem d_MD_step_159 : decode prog_6_method_5_code 159 = .ok (.aload_n 0, 1) := by decide +kernel
theorem d_MD_step_160 : decode prog_6_method_5_code 160 = .ok (.getfield 7, 3) := by decide +kernel
theorem d_MD_step_163 : decode prog_6_method_5_code 163 = .ok (.iload_n 1, 1) := by decide +kernel
theorem d_MD_step_164 : decode prog_6_method_5_code 164 = .ok (.iaload, 1) := by decide +kernel
theorem d_MD_step_165 : decode prog_6_method_5_code 165 = .ok (.iconst 2, 1) := by decide +kernel
theorem d_MD_step_166 : decode prog_6_method_5_code 166 = .ok (.if_icmp .ne 37, 3) := by decide +kernel
theorem d_MD_step_169 : decode prog_6_method_5_code 169 = .ok (.aload_n 0, 1) := by decide +kernel
theorem d_MD_step_170 : decode prog_6_method_5_code 170 = .ok (.lload_n 2, 1) := by decide +kernel
theorem d_MD_step_171 : decode prog_6_method_5_code 171 = .ok (.l2i, 1) := by decide +kernel
theorem d_MD_step_172 : decode prog_6_method_5_code 172 = .ok (.lload 4, 2) := by decide +kernel
theorem d_MD_step_174 : decode prog_6_method_5_code 174 = .ok (.invokevirtual 57, 3) := by decide +kernel
theorem d_MD_step_177 : decode prog_6_method_5_code 177 = .ok (.aload_n 0, 1) := by decide +kernel
theorem d_MD_step_178 : decode prog_6_method_5_code 178 = .ok (.getfield 17, 3) := by decide +kernel
theorem d_MD_step_181 : decode prog_6_method_5_code 181 = .ok (.iload_n 1, 1) := by decide +kernel
theorem d_MD_step_182 : decode prog_6_method_5_code 182 = .ok (.lload 4, 2) := by decide +kernel
theorem d_MD_step_184 : decode prog_6_method_5_code 184 = .ok (.ldc2_w 61, 3) := by decide +kernel
theorem d_MD_step_187 : decode prog_6_method_5_code 187 = .ok (.lcmp, 1) := by decide +kernel
theorem d_MD_step_188 : decode prog_6_method_5_code 188 = .ok (.ifCond .ne 7, 3) := by decide +kernel
theorem d_MD_step_191 : decode prog_6_method_5_code 191 = .ok (.lconst 0, 1) := by decide +kernel
theorem d_MD_step_192 : decode prog_6_method_5_code 192 = .ok (.goto 7, 3) := by decide +kernel
theorem d_MD_step_195 : decode prog_6_method_5_code 195 = .ok (.lload 4, 2) := by decide +kernel
theorem d_MD_step_197 : decode prog_6_method_5_code 197 = .ok (.lconst 1, 1) := by decide +kernel
theorem d_MD_step_198 : decode prog_6_method_5_code 198 = .ok (.ladd, 1) := by decide +kernel
theorem d_MD_step_199 : decode prog_6_method_5_code 199 = .ok (.lastore, 1) := by decide +kernel
theorem d_MD_step_200 : decode prog_6_method_5_code 200 = .ok (.goto 53, 3) := by decide +kernel
theorem d_MD_step_203 : decode prog_6_method_5_code 203 = .ok (.ldc2_w 63, 3) := by decide +kernel
theorem d_MD_step_206 : decode prog_6_method_5_code 206 = .ok (.lload_n 2, 1) := by decide +kernel
theorem d_MD_step_207 : decode prog_6_method_5_code 207 = .ok (.lmul, 1) := by decide +kernel
theorem d_MD_step_208 : decode prog_6_method_5_code 208 = .ok (.ldc2_w 65, 3) := by decide +kernel
theorem d_MD_step_211 : decode prog_6_method_5_code 211 = .ok (.lload 4, 2) := by decide +kernel
theorem d_MD_step_213 : decode prog_6_method_5_code 213 = .ok (.lmul, 1) := by decide +kernel
theorem d_MD_step_214 : decode prog_6_method_5_code 214 = .ok (.ladd, 1) := by decide +kernel
theorem d_MD_step_215 : decode prog_6_method_5_code 215 = .ok (.ldc2_w 67, 3) := by decide +kernel
theorem d_MD_step_218 : decode prog_6_method_5_code 218 = .ok (.lrem, 1) := by decide +kernel
theorem d_MD_step_219 : decode prog_6_method_5_code 219 = .ok (.lstore 6, 2) := by decide +kernel
theorem d_MD_step_221 : decode prog_6_method_5_code 221 = .ok (.aload_n 0, 1) := by decide +kernel
theorem d_MD_step_222 : decode prog_6_method_5_code 222 = .ok (.ldc2_w 69, 3) := by decide +kernel
theorem d_MD_step_225 : decode prog_6_method_5_code 225 = .ok (.lload 6, 2) := by decide +kernel
theorem d_MD_step_227 : decode prog_6_method_5_code 227 = .ok (.lmul, 1) := by decide +kernel
theorem d_MD_step_228 : decode prog_6_method_5_code 228 = .ok (.lload_n 2, 1) := by decide +kernel
theorem d_MD_step_229 : decode prog_6_method_5_code 229 = .ok (.ldc2_w 69, 3) := by decide +kernel
theorem d_MD_step_232 : decode prog_6_method_5_code 232 = .ok (.lrem, 1) := by decide +kernel
theorem d_MD_step_233 : decode prog_6_method_5_code 233 = .ok (.ladd, 1) := by decide +kernel
theorem d_MD_step_234 : decode prog_6_method_5_code 234 = .ok (.l2i, 1) := by decide +kernel
theorem d_MD_step_235 : decode prog_6_method_5_code 235 = .ok (.putfield 50, 3) := by decide +kernel
theorem d_MD_step_238 : decode prog_6_method_5_code 238 = .ok (.aload_n 0, 1) := by decide +kernel
theorem d_MD_step_239 : decode prog_6_method_5_code 239 = .ok (.getfield 17, 3) := by decide +kernel
theorem d_MD_step_242 : decode prog_6_method_5_code 242 = .ok (.iload_n 1, 1) := by decide +kernel
theorem d_MD_step_243 : decode prog_6_method_5_code 243 = .ok (.lload_n 2, 1) := by decide +kernel
theorem d_MD_step_244 : decode prog_6_method_5_code 244 = .ok (.lastore, 1) := by decide +kernel
theorem d_MD_step_245 : decode prog_6_method_5_code 245 = .ok (.aload_n 0, 1) := by decide +kernel
theorem d_MD_step_246 : decode prog_6_method_5_code 246 = .ok (.getfield 13, 3) := by decide +kernel
theorem d_MD_step_249 : decode prog_6_method_5_code 249 = .ok (.iload_n 1, 1) := by decide +kernel
theorem d_MD_step_250 : decode prog_6_method_5_code 250 = .ok (.lload 6, 2) := by decide +kernel
theorem d_MD_step_252 : decode prog_6_method_5_code 252 = .ok (.lastore, 1) := by decide +kernel
theorem d_MD_step_253 : decode prog_6_method_5_code 253 = .ok (.return_, 1) := by decide +kernel
theorem d_MD_rotl_0 : decode prog_6_method_3_code 0 = .ok (.iload_n 0, 1) := by decide +kernel
theorem d_MD_rotl_1 : decode prog_6_method_3_code 1 = .ok (.istore_n 2, 1) := by decide +kernel
theorem d_MD_rotl_2 : decode prog_6_method_3_code 2 = .ok (.iconst 0, 1) := by decide +kernel
theorem d_MD_rotl_3 : decode prog_6_method_3_code 3 = .ok (.istore_n 3, 1) := by decide +kernel
theorem d_MD_rotl_4 : decode prog_6_method_3_code 4 = .ok (.iload_n 3, 1) := by decide +kernel
theorem d_MD_rotl_5 : decode prog_6_method_3_code 5 = .ok (.iload_n 1, 1) := by decide +kernel
theorem d_MD_rotl_6 : decode prog_6_method_3_code 6 = .ok (.if_icmp .ge 23, 3) := by decide +kernel
theorem d_MD_rotl_9 : decode prog_6_method_3_code 9 = .ok (.iload_n 2, 1) := by decide +kernel
theorem d_MD_rotl_10 : decode prog_6_method_3_code 10 = .ok (.iconst 1, 1) := by decide +kernel
theorem d_MD_rotl_11 : decode prog_6_method_3_code 11 = .ok (.ishl, 1) := by decide +kernel
theorem d_MD_rotl_12 : decode prog_6_method_3_code 12 = .ok (.iload_n 2, 1) := by decide +kernel
theorem d_MD_rotl_13 : decode prog_6_method_3_code 13 = .ok (.ifCond .ge 7, 3) := by decide +kernel
theorem d_MD_rotl_16 : decode prog_6_method_3_code 16 = .ok (.iconst 1, 1) := by decide +kernel
theorem d_MD_rotl_17 : decode prog_6_method_3_code 17 = .ok (.goto 4, 3) := by decide +kernel
theorem d_MD_rotl_20 : decode prog_6_method_3_code 20 = .ok (.iconst 0, 1) := by decide +kernel
theorem d_MD_rotl_21 : decode prog_6_method_3_code 21 = .ok (.iadd, 1) := by decide +kernel
theorem d_MD_rotl_22 : decode prog_6_method_3_code 22 = .ok (.istore_n 2, 1) := by decide +kernel
theorem d_MD_rotl_23 : decode prog_6_method_3_code 23 = .ok (.iinc 3 1, 3) := by decide +kernel
theorem d_MD_rotl_26 : decode prog_6_method_3_code 26 = .ok (.goto (-22), 3) := by decide +kernel
theorem d_MD_rotl_29 : decode prog_6_method_3_code 29 = .ok (.iload_n 2, 1) := by decide +kernel
theorem d_MD_rotl_30 : decode prog_6_method_3_code 30 = .ok (.ireturn, 1) := by decide +kernel
theorem d_MD_rounds_0 : decode prog_6_method_6_code 0 = .ok (.lload_n 2, 1) := by decide +kernel
theorem d_MD_rounds_1 : decode prog_6_method_6_code 1 = .ok (.ldc2_w 69, 3) := by decide +kernel
theorem d_MD_rounds_4 : decode prog_6_method_6_code 4 = .ok (.ldiv, 1) := by decide +kernel
theorem d_MD_rounds_5 : decode prog_6_method_6_code 5 = .ok (.l2i, 1) := by decide +kernel
theorem d_MD_rounds_6 : decode prog_6_method_6_code 6 = .ok (.istore 4, 2) := by decide +kernel
theorem d_MD_rounds_8 : decode prog_6_method_6_code 8 = .ok (.lload_n 2, 1) := by decide +kernel
theorem d_MD_rounds_9 : decode prog_6_method_6_code 9 = .ok (.bipush 33, 2) := by decide +kernel
theorem d_MD_rounds_11 : decode prog_6_method_6_code 11 = .ok (.lushr, 1) := by decide +kernel
theorem d_MD_rounds_12 : decode prog_6_method_6_code 12 = .ok (.l2i, 1) := by decide +kernel
theorem d_MD_rounds_13 : decode prog_6_method_6_code 13 = .ok (.istore 5, 2) := by decide +kernel
theorem d_MD_rounds_15 : decode prog_6_method_6_code 15 = .ok (.iload_n 1, 1) := by decide +kernel
theorem d_MD_rounds_16 : decode prog_6_method_6_code 16 = .ok (.istore 6, 2) := by decide +kernel
theorem d_MD_rounds_18 : decode prog_6_method_6_code 18 = .ok (.iconst 0, 1) := by decide +kernel
theorem d_MD_rounds_19 : decode prog_6_method_6_code 19 = .ok (.istore 7, 2) := by decide +kernel
theorem d_MD_rounds_21 : decode prog_6_method_6_code 21 = .ok (.iload 7, 2) := by decide +kernel
theorem d_MD_rounds_23 : decode prog_6_method_6_code 23 = .ok (.bipush 10, 2) := by decide +kernel
theorem d_MD_rounds_25 : decode prog_6_method_6_code 25 = .ok (.if_icmp .ge 48, 3) := by decide +kernel
theorem d_MD_rounds_28 : decode prog_6_method_6_code 28 = .ok (.aload_n 0, 1) := by decide +kernel
theorem d_MD_rounds_29 : decode prog_6_method_6_code 29 = .ok (.iload 4, 2) := by decide +kernel
theorem d_MD_rounds_31 : decode prog_6_method_6_code 31 = .ok (.invokestatic 71, 3) := by decide +kernel
theorem d_MD_rounds_34 : decode prog_6_method_6_code 34 = .ok (.ldc2_w 75, 3) := by decide +kernel
theorem d_MD_rounds_37 : decode prog_6_method_6_code 37 = .ok (.invokevirtual 77, 3) := by decide +kernel
theorem d_MD_rounds_40 : decode prog_6_method_6_code 40 = .ok (.aload_n 0, 1) := by decide +kernel
theorem d_MD_rounds_41 : decode prog_6_method_6_code 41 = .ok (.getfield 43, 3) := by decide +kernel
theorem d_MD_rounds_44 : decode prog_6_method_6_code 44 = .ok (.l2i, 1) := by decide +kernel
theorem d_MD_rounds_45 : decode prog_6_method_6_code 45 = .ok (.iload 6, 2) := by decide +kernel
theorem d_MD_rounds_47 : decode prog_6_method_6_code 47 = .ok (.ixor, 1) := by decide +kernel
theorem d_MD_rounds_48 : decode prog_6_method_6_code 48 = .ok (.iload 5, 2) := by decide +kernel
theorem d_MD_rounds_50 : decode prog_6_method_6_code 50 = .ok (.ixor, 1) := by decide +kernel
theorem d_MD_rounds_51 : decode prog_6_method_6_code 51 = .ok (.istore 4, 2) := by decide +kernel
theorem d_MD_rounds_53 : decode prog_6_method_6_code 53 = .ok (.aload_n 0, 1) := by decide +kernel
theorem d_MD_rounds_54 : decode prog_6_method_6_code 54 = .ok (.getfield 39, 3) := by decide +kernel
theorem d_MD_rounds_57 : decode prog_6_method_6_code 57 = .ok (.l2i, 1) := by decide +kernel
theorem d_MD_rounds_58 : decode prog_6_method_6_code 58 = .ok (.istore 5, 2) := by decide +kernel
theorem d_MD_rounds_60 : decode prog_6_method_6_code 60 = .ok (.iload 6, 2) := by decide +kernel
theorem d_MD_rounds_62 : decode prog_6_method_6_code 62 = .ok (.ldc 81, 2) := by decide +kernel
theorem d_MD_rounds_64 : decode prog_6_method_6_code 64 = .ok (.iadd, 1) := by decide +kernel
theorem d_MD_rounds_65 : decode prog_6_method_6_code 65 = .ok (.istore 6, 2) := by decide +kernel
theorem d_MD_rounds_67 : decode prog_6_method_6_code 67 = .ok (.iinc 7 1, 3) := by decide +kernel
theorem d_MD_rounds_70 : decode prog_6_method_6_code 70 = .ok (.goto (-49), 3) := by decide +kernel
theorem d_MD_rounds_73 : decode prog_6_method_6_code 73 = .ok (.aload_n 0, 1) := by decide +kernel
theorem d_MD_rounds_74 : decode prog_6_method_6_code 74 = .ok (.lload_n 2, 1) := by decide +kernel
theorem d_MD_rounds_75 : decode prog_6_method_6_code 75 = .ok (.ldc2_w 69, 3) := by decide +kernel
theorem d_MD_rounds_78 : decode prog_6_method_6_code 78 = .ok (.lrem, 1) := by decide +kernel
theorem d_MD_rounds_79 : decode prog_6_method_6_code 79 = .ok (.lconst 0, 1) := by decide +kernel
theorem d_MD_rounds_80 : decode prog_6_method_6_code 80 = .ok (.lcmp, 1) := by decide +kernel
theorem d_MD_rounds_81 : decode prog_6_method_6_code 81 = .ok (.ifCond .ne 8, 3) := by decide +kernel
theorem d_MD_rounds_84 : decode prog_6_method_6_code 84 = .ok (.iload 4, 2) := by decide +kernel
theorem d_MD_rounds_86 : decode prog_6_method_6_code 86 = .ok (.goto 5, 3) := by decide +kernel
theorem d_MD_rounds_89 : decode prog_6_method_6_code 89 = .ok (.iload 5, 2) := by decide +kernel
theorem d_MD_rounds_91 : decode prog_6_method_6_code 91 = .ok (.putfield 50, 3) := by decide +kernel
theorem d_MD_rounds_94 : decode prog_6_method_6_code 94 = .ok (.return_, 1) := by decide +kernel
theorem d_MD_multiply_0 : decode prog_6_method_4_code 0 = .ok (.lload_n 1, 1) := by decide +kernel
theorem d_MD_multiply_1 : decode prog_6_method_4_code 1 = .ok (.ldc2_w 37, 3) := by decide +kernel
theorem d_MD_multiply_4 : decode prog_6_method_4_code 4 = .ok (.ldiv, 1) := by decide +kernel
theorem d_MD_multiply_5 : decode prog_6_method_4_code 5 = .ok (.lstore 5, 2) := by decide +kernel
theorem d_MD_multiply_7 : decode prog_6_method_4_code 7 = .ok (.lload_n 1, 1) := by decide +kernel
theorem d_MD_multiply_8 : decode prog_6_method_4_code 8 = .ok (.ldc2_w 37, 3) := by decide +kernel
theorem d_MD_multiply_11 : decode prog_6_method_4_code 11 = .ok (.lrem, 1) := by decide +kernel
theorem d_MD_multiply_12 : decode prog_6_method_4_code 12 = .ok (.lstore 7, 2) := by decide +kernel
theorem d_MD_multiply_14 : decode prog_6_method_4_code 14 = .ok (.lload_n 3, 1) := by decide +kernel
theorem d_MD_multiply_15 : decode prog_6_method_4_code 15 = .ok (.ldc2_w 37, 3) := by decide +kernel
theorem d_MD_multiply_18 : decode prog_6_method_4_code 18 = .ok (.ldiv, 1) := by decide +kernel
theorem d_MD_multiply_19 : decode prog_6_method_4_code 19 = .ok (.lstore 9, 2) := by decide +kernel
theorem d_MD_multiply_21 : decode prog_6_method_4_code 21 = .ok (.lload_n 3, 1) := by decide +kernel
theorem d_MD_multiply_22 : decode prog_6_method_4_code 22 = .ok (.ldc2_w 37, 3) := by decide +kernel
theorem d_MD_multiply_25 : decode prog_6_method_4_code 25 = .ok (.lrem, 1) := by decide +kernel
theorem d_MD_multiply_26 : decode prog_6_method_4_code 26 = .ok (.lstore 11, 2) := by decide +kernel
theorem d_MD_multiply_28 : decode prog_6_method_4_code 28 = .ok (.lload 7, 2) := by decide +kernel
theorem d_MD_multiply_30 : decode prog_6_method_4_code 30 = .ok (.lload 11, 2) := by decide +kernel
theorem d_MD_multiply_32 : decode prog_6_method_4_code 32 = .ok (.lmul, 1) := by decide +kernel
theorem d_MD_multiply_33 : decode prog_6_method_4_code 33 = .ok (.lstore 13, 2) := by decide +kernel
theorem d_MD_multiply_35 : decode prog_6_method_4_code 35 = .ok (.lload 5, 2) := by decide +kernel
theorem d_MD_multiply_37 : decode prog_6_method_4_code 37 = .ok (.lload 11, 2) := by decide +kernel
theorem d_MD_multiply_39 : decode prog_6_method_4_code 39 = .ok (.lmul, 1) := by decide +kernel
theorem d_MD_multiply_40 : decode prog_6_method_4_code 40 = .ok (.lload 13, 2) := by decide +kernel
theorem d_MD_multiply_42 : decode prog_6_method_4_code 42 = .ok (.ldc2_w 37, 3) := by decide +kernel
theorem d_MD_multiply_45 : decode prog_6_method_4_code 45 = .ok (.ldiv, 1) := by decide +kernel
theorem d_MD_multiply_46 : decode prog_6_method_4_code 46 = .ok (.ladd, 1) := by decide +kernel
theorem d_MD_multiply_47 : decode prog_6_method_4_code 47 = .ok (.lstore 15, 2) := by decide +kernel
theorem d_MD_multiply_49 : decode prog_6_method_4_code 49 = .ok (.lload 7, 2) := by decide +kernel
theorem d_MD_multiply_51 : decode prog_6_method_4_code 51 = .ok (.lload 9, 2) := by decide +kernel
theorem d_MD_multiply_53 : decode prog_6_method_4_code 53 = .ok (.lmul, 1) := by decide +kernel
theorem d_MD_multiply_54 : decode prog_6_method_4_code 54 = .ok (.lload 15, 2) := by decide +kernel
theorem d_MD_multiply_56 : decode prog_6_method_4_code 56 = .ok (.ldc2_w 37, 3) := by decide +kernel
theorem d_MD_multiply_59 : decode prog_6_method_4_code 59 = .ok (.lrem, 1) := by decide +kernel
theorem d_MD_multiply_60 : decode prog_6_method_4_code 60 = .ok (.ladd, 1) := by decide +kernel
theorem d_MD_multiply_61 : decode prog_6_method_4_code 61 = .ok (.lstore 17, 2) := by decide +kernel
theorem d_MD_multiply_63 : decode prog_6_method_4_code 63 = .ok (.aload_n 0, 1) := by decide +kernel
theorem d_MD_multiply_64 : decode prog_6_method_4_code 64 = .ok (.lload 17, 2) := by decide +kernel
theorem d_MD_multiply_66 : decode prog_6_method_4_code 66 = .ok (.ldc2_w 37, 3) := by decide +kernel
theorem d_MD_multiply_69 : decode prog_6_method_4_code 69 = .ok (.lrem, 1) := by decide +kernel
theorem d_MD_multiply_70 : decode prog_6_method_4_code 70 = .ok (.ldc2_w 37, 3) := by decide +kernel
theorem d_MD_multiply_73 : decode prog_6_method_4_code 73 = .ok (.lmul, 1) := by decide +kernel
theorem d_MD_multiply_74 : decode prog_6_method_4_code 74 = .ok (.lload 13, 2) := by decide +kernel
theorem d_MD_multiply_76 : decode prog_6_method_4_code 76 = .ok (.ldc2_w 37, 3) := by decide +kernel
theorem d_MD_multiply_79 : decode prog_6_method_4_code 79 = .ok (.lrem, 1) := by decide +kernel
theorem d_MD_multiply_80 : decode prog_6_method_4_code 80 = .ok (.ladd, 1) := by decide +kernel
theorem d_MD_multiply_81 : decode prog_6_method_4_code 81 = .ok (.putfield 39, 3) := by decide +kernel
theorem d_MD_multiply_84 : decode prog_6_method_4_code 84 = .ok (.aload_n 0, 1) := by decide +kernel
theorem d_MD_multiply_85 : decode prog_6_method_4_code 85 = .ok (.lload 5, 2) := by decide +kernel
theorem d_MD_multiply_87 : decode prog_6_method_4_code 87 = .ok (.lload 9, 2) := by decide +kernel
theorem d_MD_multiply_89 : decode prog_6_method_4_code 89 = .ok (.lmul, 1) := by decide +kernel
theorem d_MD_multiply_90 : decode prog_6_method_4_code 90 = .ok (.lload 15, 2) := by decide +kernel
theorem d_MD_multiply_92 : decode prog_6_method_4_code 92 = .ok (.ldc2_w 37, 3) := by decide +kernel
theorem d_MD_multiply_95 : decode prog_6_method_4_code 95 = .ok (.ldiv, 1) := by decide +kernel
theorem d_MD_multiply_96 : decode prog_6_method_4_code 96 = .ok (.ladd, 1) := by decide +kernel
theorem d_MD_multiply_97 : decode prog_6_method_4_code 97 = .ok (.lload 17, 2) := by decide +kernel
theorem d_MD_multiply_99 : decode prog_6_method_4_code 99 = .ok (.ldc2_w 37, 3) := by decide +kernel
theorem d_MD_multiply_102 : decode prog_6_method_4_code 102 = .ok (.ldiv, 1) := by decide +kernel
theorem d_MD_multiply_103 : decode prog_6_method_4_code 103 = .ok (.ladd, 1) := by decide +kernel
theorem d_MD_multiply_104 : decode prog_6_method_4_code 104 = .ok (.putfield 43, 3) := by decide +kernel
theorem d_MD_multiply_107 : decode prog_6_method_4_code 107 = .ok (.return_, 1) := by decide +kernel
theorem d_MD_jump_0 : decode prog_6_method_16_code 0 = .ok (.aload_n 0, 1) := by decide +kernel
theorem d_MD_jump_1 : decode prog_6_method_16_code 1 = .ok (.iload_n 1, 1) := by decide +kernel
theorem d_MD_jump_2 : decode prog_6_method_16_code 2 = .ok (.invokevirtual 109, 3) := by decide +kernel
theorem d_MD_jump_5 : decode prog_6_method_16_code 5 = .ok (.ifCond .eq 13, 3) := by decide +kernel
theorem d_MD_jump_8 : decode prog_6_method_16_code 8 = .ok (.iload_n 2, 1) := by decide +kernel
theorem d_MD_jump_9 : decode prog_6_method_16_code 9 = .ok (.ifCond .lt 9, 3) := by decide +kernel
theorem d_MD_jump_12 : decode prog_6_method_16_code 12 = .ok (.iload_n 2, 1) := by decide +kernel
theorem d_MD_jump_13 : decode prog_6_method_16_code 13 = .ok (.ldc 119, 2) := by decide +kernel
theorem d_MD_jump_15 : decode prog_6_method_16_code 15 = .ok (.if_icmp .le 5, 3) := by decide +kernel
theorem d_MD_jump_18 : decode prog_6_method_16_code 18 = .ok (.iconst 0, 1) := by decide +kernel
theorem d_MD_jump_19 : decode prog_6_method_16_code 19 = .ok (.ireturn, 1) := by decide +kernel
theorem d_MD_jump_20 : decode prog_6_method_16_code 20 = .ok (.iconst 0, 1) := by decide +kernel
theorem d_MD_jump_21 : decode prog_6_method_16_code 21 = .ok (.istore_n 3, 1) := by decide +kernel
theorem d_MD_jump_22 : decode prog_6_method_16_code 22 = .ok (.iload_n 3, 1) := by decide +kernel
theorem d_MD_jump_23 : decode prog_6_method_16_code 23 = .ok (.iload_n 2, 1) := by decide +kernel
theorem d_MD_jump_24 : decode prog_6_method_16_code 24 = .ok (.if_icmp .ge 14, 3) := by decide +kernel
theorem d_MD_jump_27 : decode prog_6_method_16_code 27 = .ok (.aload_n 0, 1) := by decide +kernel
theorem d_MD_jump_28 : decode prog_6_method_16_code 28 = .ok (.iload_n 1, 1) := by decide +kernel
theorem d_MD_jump_29 : decode prog_6_method_16_code 29 = .ok (.invokevirtual 115, 3) := by decide +kernel
theorem d_MD_jump_32 : decode prog_6_method_16_code 32 = .ok (.iinc 3 1, 3) := by decide +kernel
theorem d_MD_jump_35 : decode prog_6_method_16_code 35 = .ok (.goto (-13), 3) := by decide +kernel
theorem d_MD_jump_38 : decode prog_6_method_16_code 38 = .ok (.iconst 1, 1) := by decide +kernel
theorem d_MD_jump_39 : decode prog_6_method_16_code 39 = .ok (.ireturn, 1) := by decide +kernel
theorem d_MD_draw_0 : decode prog_6_method_18_code 0 = .ok (.aload_n 0, 1) := by decide +kernel
theorem d_MD_draw_1 : decode prog_6_method_18_code 1 = .ok (.iload_n 1, 1) := by decide +kernel
theorem d_MD_draw_2 : decode prog_6_method_18_code 2 = .ok (.invokevirtual 109, 3) := by decide +kernel
theorem d_MD_draw_5 : decode prog_6_method_18_code 5 = .ok (.ifCond .eq 8, 3) := by decide +kernel
theorem d_MD_draw_8 : decode prog_6_method_18_code 8 = .ok (.iload_n 2, 1) := by decide +kernel
theorem d_MD_draw_9 : decode prog_6_method_18_code 9 = .ok (.iconst 1, 1) := by decide +kernel
theorem d_MD_draw_10 : decode prog_6_method_18_code 10 = .ok (.if_icmp .ge 7, 3) := by decide +kernel
theorem d_MD_draw_13 : decode prog_6_method_18_code 13 = .ok (.iconst (-1), 1) := by decide +kernel
theorem d_MD_draw_14 : decode prog_6_method_18_code 14 = .ok (.goto 9, 3) := by decide +kernel
theorem d_MD_draw_17 : decode prog_6_method_18_code 17 = .ok (.aload_n 0, 1) := by decide +kernel
theorem d_MD_draw_18 : decode prog_6_method_18_code 18 = .ok (.iload_n 1, 1) := by decide +kernel
theorem d_MD_draw_19 : decode prog_6_method_18_code 19 = .ok (.iload_n 2, 1) := by decide +kernel
theorem d_MD_draw_20 : decode prog_6_method_18_code 20 = .ok (.invokevirtual 120, 3) := by decide +kernel
theorem d_MD_draw_23 : decode prog_6_method_18_code 23 = .ok (.ireturn, 1) := by decide +kernel
theorem d_MD_below_0 : decode prog_6_method_17_code 0 = .ok (.ldc2_w 35, 3) := by decide +kernel
theorem d_MD_below_3 : decode prog_6_method_17_code 3 = .ok (.iload_n 2, 1) := by decide +kernel
theorem d_MD_below_4 : decode prog_6_method_17_code 4 = .ok (.i2l, 1) := by decide +kernel
theorem d_MD_below_5 : decode prog_6_method_17_code 5 = .ok (.lrem, 1) := by decide +kernel
theorem d_MD_below_6 : decode prog_6_method_17_code 6 = .ok (.lstore_n 3, 1) := by decide +kernel
theorem d_MD_below_7 : decode prog_6_method_17_code 7 = .ok (.iconst 1, 1) := by decide +kernel
theorem d_MD_below_8 : decode prog_6_method_17_code 8 = .ok (.istore 5, 2) := by decide +kernel
theorem d_MD_below_10 : decode prog_6_method_17_code 10 = .ok (.iload 5, 2) := by decide +kernel
theorem d_MD_below_12 : decode prog_6_method_17_code 12 = .ok (.bipush 8, 2) := by decide +kernel
theorem d_MD_below_14 : decode prog_6_method_17_code 14 = .ok (.if_icmp .gt 49, 3) := by decide +kernel
theorem d_MD_below_17 : decode prog_6_method_17_code 17 = .ok (.aload_n 0, 1) := by decide +kernel
theorem d_MD_below_18 : decode prog_6_method_17_code 18 = .ok (.iload_n 1, 1) := by decide +kernel
theorem d_MD_below_19 : decode prog_6_method_17_code 19 = .ok (.invokevirtual 115, 3) := by decide +kernel
theorem d_MD_below_22 : decode prog_6_method_17_code 22 = .ok (.aload_n 0, 1) := by decide +kernel
theorem d_MD_below_23 : decode prog_6_method_17_code 23 = .ok (.aload_n 0, 1) := by decide +kernel
theorem d_MD_below_24 : decode prog_6_method_17_code 24 = .ok (.getfield 50, 3) := by decide +kernel
theorem d_MD_below_27 : decode prog_6_method_17_code 27 = .ok (.invokestatic 71, 3) := by decide +kernel
theorem d_MD_below_30 : decode prog_6_method_17_code 30 = .ok (.iload_n 2, 1) := by decide +kernel
theorem d_MD_below_31 : decode prog_6_method_17_code 31 = .ok (.i2l, 1) := by decide +kernel
theorem d_MD_below_32 : decode prog_6_method_17_code 32 = .ok (.invokevirtual 77, 3) := by decide +kernel
theorem d_MD_below_35 : decode prog_6_method_17_code 35 = .ok (.aload_n 0, 1) := by decide +kernel
theorem d_MD_below_36 : decode prog_6_method_17_code 36 = .ok (.getfield 39, 3) := by decide +kernel
theorem d_MD_below_39 : decode prog_6_method_17_code 39 = .ok (.lload_n 3, 1) := by decide +kernel
theorem d_MD_below_40 : decode prog_6_method_17_code 40 = .ok (.lcmp, 1) := by decide +kernel
theorem d_MD_below_41 : decode prog_6_method_17_code 41 = .ok (.ifCond .ge 10, 3) := by decide +kernel
theorem d_MD_below_44 : decode prog_6_method_17_code 44 = .ok (.iload 5, 2) := by decide +kernel
theorem d_MD_below_46 : decode prog_6_method_17_code 46 = .ok (.bipush 8, 2) := by decide +kernel
theorem d_MD_below_48 : decode prog_6_method_17_code 48 = .ok (.if_icmp .ne 9, 3) := by decide +kernel
theorem d_MD_below_51 : decode prog_6_method_17_code 51 = .ok (.aload_n 0, 1) := by decide +kernel
theorem d_MD_below_52 : decode prog_6_method_17_code 52 = .ok (.getfield 43, 3) := by decide +kernel
theorem d_MD_below_55 : decode prog_6_method_17_code 55 = .ok (.l2i, 1) := by decide +kernel
theorem d_MD_below_56 : decode prog_6_method_17_code 56 = .ok (.ireturn, 1) := by decide +kernel
theorem d_MD_below_57 : decode prog_6_method_17_code 57 = .ok (.iinc 5 1, 3) := by decide +kernel
theorem d_MD_below_60 : decode prog_6_method_17_code 60 = .ok (.goto (-50), 3) := by decide +kernel
theorem d_MD_below_63 : decode prog_6_method_17_code 63 = .ok (.iconst 0, 1) := by decide +kernel
theorem d_MD_below_64 : decode prog_6_method_17_code 64 = .ok (.ireturn, 1) := by decide +kernel
theorem d_MD_same_0 : decode prog_6_method_19_code 0 = .ok (.aload_n 0, 1) := by decide +kernel
theorem d_MD_same_1 : decode prog_6_method_19_code 1 = .ok (.iload_n 1, 1) := by decide +kernel
theorem d_MD_same_2 : decode prog_6_method_19_code 2 = .ok (.invokevirtual 109, 3) := by decide +kernel
theorem d_MD_same_5 : decode prog_6_method_19_code 5 = .ok (.ifCond .eq 62, 3) := by decide +kernel
theorem d_MD_same_8 : decode prog_6_method_19_code 8 = .ok (.aload_n 0, 1) := by decide +kernel
theorem d_MD_same_9 : decode prog_6_method_19_code 9 = .ok (.iload_n 2, 1) := by decide +kernel
theorem d_MD_same_10 : decode prog_6_method_19_code 10 = .ok (.invokevirtual 109, 3) := by decide +kernel
theorem d_MD_same_13 : decode prog_6_method_19_code 13 = .ok (.ifCond .eq 54, 3) := by decide +kernel
theorem d_MD_same_16 : decode prog_6_method_19_code 16 = .ok (.aload_n 0, 1) := by decide +kernel
theorem d_MD_same_17 : decode prog_6_method_19_code 17 = .ok (.getfield 7, 3) := by decide +kernel
theorem d_MD_same_20 : decode prog_6_method_19_code 20 = .ok (.iload_n 1, 1) := by decide +kernel
theorem d_MD_same_21 : decode prog_6_method_19_code 21 = .ok (.iaload, 1) := by decide +kernel
theorem d_MD_same_22 : decode prog_6_method_19_code 22 = .ok (.aload_n 0, 1) := by decide +kernel
theorem d_MD_same_23 : decode prog_6_method_19_code 23 = .ok (.getfield 7, 3) := by decide +kernel
theorem d_MD_same_26 : decode prog_6_method_19_code 26 = .ok (.iload_n 2, 1) := by decide +kernel
theorem d_MD_same_27 : decode prog_6_method_19_code 27 = .ok (.iaload, 1) := by decide +kernel
theorem d_MD_same_28 : decode prog_6_method_19_code 28 = .ok (.if_icmp .ne 39, 3) := by decide +kernel
theorem d_MD_same_31 : decode prog_6_method_19_code 31 = .ok (.aload_n 0, 1) := by decide +kernel
theorem d_MD_same_32 : decode prog_6_method_19_code 32 = .ok (.getfield 13, 3) := by decide +kernel
theorem d_MD_same_35 : decode prog_6_method_19_code 35 = .ok (.iload_n 1, 1) := by decide +kernel
theorem d_MD_same_36 : decode prog_6_method_19_code 36 = .ok (.laload, 1) := by decide +kernel
theorem d_MD_same_37 : decode prog_6_method_19_code 37 = .ok (.aload_n 0, 1) := by decide +kernel
theorem d_MD_same_38 : decode prog_6_method_19_code 38 = .ok (.getfield 13, 3) := by decide +kernel
theorem d_MD_same_41 : decode prog_6_method_19_code 41 = .ok (.iload_n 2, 1) := by decide +kernel
theorem d_MD_same_42 : decode prog_6_method_19_code 42 = .ok (.laload, 1) := by decide +kernel
theorem d_MD_same_43 : decode prog_6_method_19_code 43 = .ok (.lcmp, 1) := by decide +kernel
theorem d_MD_same_44 : decode prog_6_method_19_code 44 = .ok (.ifCond .ne 23, 3) := by decide +kernel
theorem d_MD_same_47 : decode prog_6_method_19_code 47 = .ok (.aload_n 0, 1) := by decide +kernel
theorem d_MD_same_48 : decode prog_6_method_19_code 48 = .ok (.getfield 17, 3) := by decide +kernel
theorem d_MD_same_51 : decode prog_6_method_19_code 51 = .ok (.iload_n 1, 1) := by decide +kernel
theorem d_MD_same_52 : decode prog_6_method_19_code 52 = .ok (.laload, 1) := by decide +kernel
theorem d_MD_same_53 : decode prog_6_method_19_code 53 = .ok (.aload_n 0, 1) := by decide +kernel
theorem d_MD_same_54 : decode prog_6_method_19_code 54 = .ok (.getfield 17, 3) := by decide +kernel
theorem d_MD_same_57 : decode prog_6_method_19_code 57 = .ok (.iload_n 2, 1) := by decide +kernel
theorem d_MD_same_58 : decode prog_6_method_19_code 58 = .ok (.laload, 1) := by decide +kernel
theorem d_MD_same_59 : decode prog_6_method_19_code 59 = .ok (.lcmp, 1) := by decide +kernel
theorem d_MD_same_60 : decode prog_6_method_19_code 60 = .ok (.ifCond .ne 7, 3) := by decide +kernel
theorem d_MD_same_63 : decode prog_6_method_19_code 63 = .ok (.iconst 1, 1) := by decide +kernel
theorem d_MD_same_64 : decode prog_6_method_19_code 64 = .ok (.goto 4, 3) := by decide +kernel
theorem d_MD_same_67 : decode prog_6_method_19_code 67 = .ok (.iconst 0, 1) := by decide +kernel
theorem d_MD_same_68 : decode prog_6_method_19_code 68 = .ok (.ireturn, 1) := by decide +kernel
theorem d_MD_save_0 : decode prog_6_method_23_code 0 = .ok (.aload_n 0, 1) := by decide +kernel
theorem d_MD_save_1 : decode prog_6_method_23_code 1 = .ok (.iload_n 1, 1) := by decide +kernel
theorem d_MD_save_2 : decode prog_6_method_23_code 2 = .ok (.invokevirtual 109, 3) := by decide +kernel
theorem d_MD_save_5 : decode prog_6_method_23_code 5 = .ok (.ifCond .eq 12, 3) := by decide +kernel
theorem d_MD_save_8 : decode prog_6_method_23_code 8 = .ok (.aload_n 0, 1) := by decide +kernel
theorem d_MD_save_9 : decode prog_6_method_23_code 9 = .ok (.getfield 123, 3) := by decide +kernel
theorem d_MD_save_12 : decode prog_6_method_23_code 12 = .ok (.bipush 6, 2) := by decide +kernel
theorem d_MD_save_14 : decode prog_6_method_23_code 14 = .ok (.if_icmp .ne 5, 3) := by decide +kernel
theorem d_MD_save_17 : decode prog_6_method_23_code 17 = .ok (.iconst (-1), 1) := by decide +kernel
theorem d_MD_save_18 : decode prog_6_method_23_code 18 = .ok (.ireturn, 1) := by decide +kernel
theorem d_MD_save_19 : decode prog_6_method_23_code 19 = .ok (.aload_n 0, 1) := by decide +kernel
theorem d_MD_save_20 : decode prog_6_method_23_code 20 = .ok (.getfield 20, 3) := by decide +kernel
theorem d_MD_save_23 : decode prog_6_method_23_code 23 = .ok (.aload_n 0, 1) := by decide +kernel
theorem d_MD_save_24 : decode prog_6_method_23_code 24 = .ok (.getfield 123, 3) := by decide +kernel
theorem d_MD_save_27 : decode prog_6_method_23_code 27 = .ok (.iconst 0, 1) := by decide +kernel
theorem d_MD_save_28 : decode prog_6_method_23_code 28 = .ok (.iastore, 1) := by decide +kernel
theorem d_MD_save_29 : decode prog_6_method_23_code 29 = .ok (.aload_n 0, 1) := by decide +kernel
theorem d_MD_save_30 : decode prog_6_method_23_code 30 = .ok (.ldc 129, 2) := by decide +kernel
theorem d_MD_save_32 : decode prog_6_method_23_code 32 = .ok (.aload_n 0, 1) := by decide +kernel
theorem d_MD_save_33 : decode prog_6_method_23_code 33 = .ok (.getfield 7, 3) := by decide +kernel
theorem d_MD_save_36 : decode prog_6_method_23_code 36 = .ok (.iload_n 1, 1) := by decide +kernel
theorem d_MD_save_37 : decode prog_6_method_23_code 37 = .ok (.iaload, 1) := by decide +kernel
theorem d_MD_save_38 : decode prog_6_method_23_code 38 = .ok (.iadd, 1) := by decide +kernel
theorem d_MD_save_39 : decode prog_6_method_23_code 39 = .ok (.invokevirtual 126, 3) := by decide +kernel
theorem d_MD_save_42 : decode prog_6_method_23_code 42 = .ok (.aload_n 0, 1) := by decide +kernel
theorem d_MD_save_43 : decode prog_6_method_23_code 43 = .ok (.getfield 7, 3) := by decide +kernel
theorem d_MD_save_46 : decode prog_6_method_23_code 46 = .ok (.iload_n 1, 1) := by decide +kernel
theorem d_MD_save_47 : decode prog_6_method_23_code 47 = .ok (.iaload, 1) := by decide +kernel
theorem d_MD_save_48 : decode prog_6_method_23_code 48 = .ok (.ifCond .ne 16, 3) := by decide +kernel
theorem d_MD_save_51 : decode prog_6_method_23_code 51 = .ok (.aload_n 0, 1) := by decide +kernel
theorem d_MD_save_52 : decode prog_6_method_23_code 52 = .ok (.aload_n 0, 1) := by decide +kernel
theorem d_MD_save_53 : decode prog_6_method_23_code 53 = .ok (.getfield 13, 3) := by decide +kernel
theorem d_MD_save_56 : decode prog_6_method_23_code 56 = .ok (.iload_n 1, 1) := by decide +kernel
theorem d_MD_save_57 : decode prog_6_method_23_code 57 = .ok (.laload, 1) := by decide +kernel
theorem d_MD_save_58 : decode prog_6_method_23_code 58 = .ok (.invokevirtual 130, 3) := by decide +kernel
theorem d_MD_save_61 : decode prog_6_method_23_code 61 = .ok (.goto 14, 3) := by decide +kernel
theorem d_MD_save_64 : decode prog_6_method_23_code 64 = .ok (.aload_n 0, 1) := by decide +kernel
theorem d_MD_save_65 : decode prog_6_method_23_code 65 = .ok (.aload_n 0, 1) := by decide +kernel
theorem d_MD_save_66 : decode prog_6_method_23_code 66 = .ok (.getfield 13, 3) := by decide +kernel
theorem d_MD_save_69 : decode prog_6_method_23_code 69 = .ok (.iload_n 1, 1) := by decide +kernel
theorem d_MD_save_70 : decode prog_6_method_23_code 70 = .ok (.laload, 1) := by decide +kernel
theorem d_MD_save_71 : decode prog_6_method_23_code 71 = .ok (.l2i, 1) := by decide +kernel
theorem d_MD_save_72 : decode prog_6_method_23_code 72 = .ok (.invokevirtual 126, 3) := by decide +kernel
theorem d_MD_save_75 : decode prog_6_method_23_code 75 = .ok (.aload_n 0, 1) := by decide +kernel
theorem d_MD_save_76 : decode prog_6_method_23_code 76 = .ok (.getfield 7, 3) := by decide +kernel
theorem d_MD_save_79 : decode prog_6_method_23_code 79 = .ok (.iload_n 1, 1) := by decide +kernel
theorem d_MD_save_80 : decode prog_6_method_23_code 80 = .ok (.iaload, 1) := by decide +kernel
theorem d_MD_save_81 : decode prog_6_method_23_code 81 = .ok (.ifCond .eq 13, 3) := by decide +kernel
theorem d_MD_save_84 : decode prog_6_method_23_code 84 = .ok (.aload_n 0, 1) := by decide +kernel
theorem d_MD_save_85 : decode prog_6_method_23_code 85 = .ok (.getfield 7, 3) := by decide +kernel
theorem d_MD_save_88 : decode prog_6_method_23_code 88 = .ok (.iload_n 1, 1) := by decide +kernel
theorem d_MD_save_89 : decode prog_6_method_23_code 89 = .ok (.iaload, 1) := by decide +kernel
theorem d_MD_save_90 : decode prog_6_method_23_code 90 = .ok (.iconst 2, 1) := by decide +kernel
theorem d_MD_save_91 : decode prog_6_method_23_code 91 = .ok (.if_icmp .ne 16, 3) := by decide +kernel
theorem d_MD_save_94 : decode prog_6_method_23_code 94 = .ok (.aload_n 0, 1) := by decide +kernel
theorem d_MD_save_95 : decode prog_6_method_23_code 95 = .ok (.aload_n 0, 1) := by decide +kernel
theorem d_MD_save_96 : decode prog_6_method_23_code 96 = .ok (.getfield 17, 3) := by decide +kernel
theorem d_MD_save_99 : decode prog_6_method_23_code 99 = .ok (.iload_n 1, 1) := by decide +kernel
theorem d_MD_save_100 : decode prog_6_method_23_code 100 = .ok (.laload, 1) := by decide +kernel
theorem d_MD_save_101 : decode prog_6_method_23_code 101 = .ok (.invokevirtual 130, 3) := by decide +kernel
theorem d_MD_save_104 : decode prog_6_method_23_code 104 = .ok (.goto 14, 3) := by decide +kernel
theorem d_MD_save_107 : decode prog_6_method_23_code 107 = .ok (.aload_n 0, 1) := by decide +kernel
theorem d_MD_save_108 : decode prog_6_method_23_code 108 = .ok (.aload_n 0, 1) := by decide +kernel
theorem d_MD_save_109 : decode prog_6_method_23_code 109 = .ok (.getfield 17, 3) := by decide +kernel
theorem d_MD_save_112 : decode prog_6_method_23_code 112 = .ok (.iload_n 1, 1) := by decide +kernel
theorem d_MD_save_113 : decode prog_6_method_23_code 113 = .ok (.laload, 1) := by decide +kernel
theorem d_MD_save_114 : decode prog_6_method_23_code 114 = .ok (.l2i, 1) := by decide +kernel
theorem d_MD_save_115 : decode prog_6_method_23_code 115 = .ok (.invokevirtual 126, 3) := by decide +kernel
theorem d_MD_save_118 : decode prog_6_method_23_code 118 = .ok (.aload_n 0, 1) := by decide +kernel
theorem d_MD_save_119 : decode prog_6_method_23_code 119 = .ok (.aload_n 0, 1) := by decide +kernel
theorem d_MD_save_120 : decode prog_6_method_23_code 120 = .ok (.getfield 123, 3) := by decide +kernel
theorem d_MD_save_123 : decode prog_6_method_23_code 123 = .ok (.aload_n 0, 1) := by decide +kernel
theorem d_MD_save_124 : decode prog_6_method_23_code 124 = .ok (.getfield 20, 3) := by decide +kernel
theorem d_MD_save_127 : decode prog_6_method_23_code 127 = .ok (.aload_n 0, 1) := by decide +kernel
theorem d_MD_save_128 : decode prog_6_method_23_code 128 = .ok (.getfield 123, 3) := by decide +kernel
theorem d_MD_save_131 : decode prog_6_method_23_code 131 = .ok (.iaload, 1) := by decide +kernel
theorem d_MD_save_132 : decode prog_6_method_23_code 132 = .ok (.invokevirtual 134, 3) := by decide +kernel
theorem d_MD_save_135 : decode prog_6_method_23_code 135 = .ok (.istore_n 2, 1) := by decide +kernel
theorem d_MD_save_136 : decode prog_6_method_23_code 136 = .ok (.aload_n 0, 1) := by decide +kernel
theorem d_MD_save_137 : decode prog_6_method_23_code 137 = .ok (.iload_n 2, 1) := by decide +kernel
theorem d_MD_save_138 : decode prog_6_method_23_code 138 = .ok (.invokevirtual 126, 3) := by decide +kernel
theorem d_MD_save_141 : decode prog_6_method_23_code 141 = .ok (.aload_n 0, 1) := by decide +kernel
theorem d_MD_save_142 : decode prog_6_method_23_code 142 = .ok (.dup, 1) := by decide +kernel
theorem d_MD_save_143 : decode prog_6_method_23_code 143 = .ok (.getfield 123, 3) := by decide +kernel
theorem d_MD_save_146 : decode prog_6_method_23_code 146 = .ok (.iconst 1, 1) := by decide +kernel
theorem d_MD_save_147 : decode prog_6_method_23_code 147 = .ok (.iadd, 1) := by decide +kernel
theorem d_MD_save_148 : decode prog_6_method_23_code 148 = .ok (.putfield 123, 3) := by decide +kernel
theorem d_MD_save_151 : decode prog_6_method_23_code 151 = .ok (.aload_n 0, 1) := by decide +kernel
theorem d_MD_save_152 : decode prog_6_method_23_code 152 = .ok (.getfield 123, 3) := by decide +kernel
theorem d_MD_save_155 : decode prog_6_method_23_code 155 = .ok (.iconst 1, 1) := by decide +kernel
theorem d_MD_save_156 : decode prog_6_method_23_code 156 = .ok (.isub, 1) := by decide +kernel
theorem d_MD_save_157 : decode prog_6_method_23_code 157 = .ok (.ireturn, 1) := by decide +kernel
end
section
/-! Decode rows, printed by wip/whole/names.py. -/
theorem d_MD_append_0 : decode prog_6_method_20_code 0 = .ok (.aload_n 0, 1) := by decide +kernel
theorem d_MD_append_1 : decode prog_6_method_20_code 1 = .ok (.getfield 23, 3) := by decide +kernel
theorem d_MD_append_4 : decode prog_6_method_20_code 4 = .ok (.bipush 6, 2) := by decide +kernel
theorem d_MD_append_6 : decode prog_6_method_20_code 6 = .ok (.aload_n 0, 1) := by decide +kernel
theorem d_MD_append_7 : decode prog_6_method_20_code 7 = .ok (.getfield 123, 3) := by decide +kernel
theorem d_MD_append_10 : decode prog_6_method_20_code 10 = .ok (.imul, 1) := by decide +kernel
theorem d_MD_append_11 : decode prog_6_method_20_code 11 = .ok (.aload_n 0, 1) := by decide +kernel
theorem d_MD_append_12 : decode prog_6_method_20_code 12 = .ok (.getfield 20, 3) := by decide +kernel
theorem d_MD_append_15 : decode prog_6_method_20_code 15 = .ok (.aload_n 0, 1) := by decide +kernel
theorem d_MD_append_16 : decode prog_6_method_20_code 16 = .ok (.getfield 123, 3) := by decide +kernel
theorem d_MD_append_19 : decode prog_6_method_20_code 19 = .ok (.iaload, 1) := by decide +kernel
theorem d_MD_append_20 : decode prog_6_method_20_code 20 = .ok (.iadd, 1) := by decide +kernel
theorem d_MD_append_21 : decode prog_6_method_20_code 21 = .ok (.iload_n 1, 1) := by decide +kernel
theorem d_MD_append_22 : decode prog_6_method_20_code 22 = .ok (.iastore, 1) := by decide +kernel
theorem d_MD_append_23 : decode prog_6_method_20_code 23 = .ok (.aload_n 0, 1) := by decide +kernel
theorem d_MD_append_24 : decode prog_6_method_20_code 24 = .ok (.getfield 20, 3) := by decide +kernel
theorem d_MD_append_27 : decode prog_6_method_20_code 27 = .ok (.aload_n 0, 1) := by decide +kernel
theorem d_MD_append_28 : decode prog_6_method_20_code 28 = .ok (.getfield 123, 3) := by decide +kernel
theorem d_MD_append_31 : decode prog_6_method_20_code 31 = .ok (.dup2, 1) := by decide +kernel
theorem d_MD_append_32 : decode prog_6_method_20_code 32 = .ok (.iaload, 1) := by decide +kernel
theorem d_MD_append_33 : decode prog_6_method_20_code 33 = .ok (.iconst 1, 1) := by decide +kernel
theorem d_MD_append_34 : decode prog_6_method_20_code 34 = .ok (.iadd, 1) := by decide +kernel
theorem d_MD_append_35 : decode prog_6_method_20_code 35 = .ok (.iastore, 1) := by decide +kernel
theorem d_MD_append_36 : decode prog_6_method_20_code 36 = .ok (.return_, 1) := by decide +kernel
theorem d_MD_appendLong_0 : decode prog_6_method_21_code 0 = .ok (.aload_n 0, 1) := by decide +kernel
theorem d_MD_appendLong_1 : decode prog_6_method_21_code 1 = .ok (.lload_n 1, 1) := by decide +kernel
theorem d_MD_appendLong_2 : decode prog_6_method_21_code 2 = .ok (.bipush 32, 2) := by decide +kernel
theorem d_MD_appendLong_4 : decode prog_6_method_21_code 4 = .ok (.lshr, 1) := by decide +kernel
theorem d_MD_appendLong_5 : decode prog_6_method_21_code 5 = .ok (.l2i, 1) := by decide +kernel
theorem d_MD_appendLong_6 : decode prog_6_method_21_code 6 = .ok (.invokevirtual 126, 3) := by decide +kernel
theorem d_MD_appendLong_9 : decode prog_6_method_21_code 9 = .ok (.aload_n 0, 1) := by decide +kernel
theorem d_MD_appendLong_10 : decode prog_6_method_21_code 10 = .ok (.lload_n 1, 1) := by decide +kernel
theorem d_MD_appendLong_11 : decode prog_6_method_21_code 11 = .ok (.l2i, 1) := by decide +kernel
theorem d_MD_appendLong_12 : decode prog_6_method_21_code 12 = .ok (.invokevirtual 126, 3) := by decide +kernel
theorem d_MD_appendLong_15 : decode prog_6_method_21_code 15 = .ok (.return_, 1) := by decide +kernel
theorem d_MD_check_0 : decode prog_6_method_22_code 0 = .ok (.iconst 1, 1) := by decide +kernel
theorem d_MD_check_1 : decode prog_6_method_22_code 1 = .ok (.istore_n 3, 1) := by decide +kernel
theorem d_MD_check_2 : decode prog_6_method_22_code 2 = .ok (.iconst 0, 1) := by decide +kernel
theorem d_MD_check_3 : decode prog_6_method_22_code 3 = .ok (.istore 4, 2) := by decide +kernel
theorem d_MD_check_5 : decode prog_6_method_22_code 5 = .ok (.iload 4, 2) := by decide +kernel
theorem d_MD_check_7 : decode prog_6_method_22_code 7 = .ok (.iload_n 2, 1) := by decide +kernel
theorem d_MD_check_8 : decode prog_6_method_22_code 8 = .ok (.if_icmp .ge 27, 3) := by decide +kernel
theorem d_MD_check_11 : decode prog_6_method_22_code 11 = .ok (.bipush 31, 2) := by decide +kernel
theorem d_MD_check_13 : decode prog_6_method_22_code 13 = .ok (.iload_n 3, 1) := by decide +kernel
theorem d_MD_check_14 : decode prog_6_method_22_code 14 = .ok (.imul, 1) := by decide +kernel
theorem d_MD_check_15 : decode prog_6_method_22_code 15 = .ok (.aload_n 0, 1) := by decide +kernel
theorem d_MD_check_16 : decode prog_6_method_22_code 16 = .ok (.getfield 23, 3) := by decide +kernel
theorem d_MD_check_19 : decode prog_6_method_22_code 19 = .ok (.bipush 6, 2) := by decide +kernel
theorem d_MD_check_21 : decode prog_6_method_22_code 21 = .ok (.iload_n 1, 1) := by decide +kernel
theorem d_MD_check_22 : decode prog_6_method_22_code 22 = .ok (.imul, 1) := by decide +kernel
theorem d_MD_check_23 : decode prog_6_method_22_code 23 = .ok (.iload 4, 2) := by decide +kernel
theorem d_MD_check_25 : decode prog_6_method_22_code 25 = .ok (.iadd, 1) := by decide +kernel
theorem d_MD_check_26 : decode prog_6_method_22_code 26 = .ok (.iaload, 1) := by decide +kernel
theorem d_MD_check_27 : decode prog_6_method_22_code 27 = .ok (.iadd, 1) := by decide +kernel
theorem d_MD_check_28 : decode prog_6_method_22_code 28 = .ok (.istore_n 3, 1) := by decide +kernel
theorem d_MD_check_29 : decode prog_6_method_22_code 29 = .ok (.iinc 4 1, 3) := by decide +kernel
theorem d_MD_check_32 : decode prog_6_method_22_code 32 = .ok (.goto (-27), 3) := by decide +kernel
theorem d_MD_check_35 : decode prog_6_method_22_code 35 = .ok (.iload_n 3, 1) := by decide +kernel
theorem d_MD_check_36 : decode prog_6_method_22_code 36 = .ok (.iload_n 3, 1) := by decide +kernel
theorem d_MD_check_37 : decode prog_6_method_22_code 37 = .ok (.bipush 15, 2) := by decide +kernel
theorem d_MD_check_39 : decode prog_6_method_22_code 39 = .ok (.iushr, 1) := by decide +kernel
theorem d_MD_check_40 : decode prog_6_method_22_code 40 = .ok (.ixor, 1) := by decide +kernel
theorem d_MD_check_41 : decode prog_6_method_22_code 41 = .ok (.ireturn, 1) := by decide +kernel
theorem d_MD_length_0 : decode prog_6_method_25_code 0 = .ok (.iload_n 1, 1) := by decide +kernel
theorem d_MD_length_1 : decode prog_6_method_25_code 1 = .ok (.ifCond .lt 11, 3) := by decide +kernel
theorem d_MD_length_4 : decode prog_6_method_25_code 4 = .ok (.iload_n 1, 1) := by decide +kernel
theorem d_MD_length_5 : decode prog_6_method_25_code 5 = .ok (.aload_n 0, 1) := by decide +kernel
theorem d_MD_length_6 : decode prog_6_method_25_code 6 = .ok (.getfield 123, 3) := by decide +kernel
theorem d_MD_length_9 : decode prog_6_method_25_code 9 = .ok (.if_icmp .lt 7, 3) := by decide +kernel
theorem d_MD_length_12 : decode prog_6_method_25_code 12 = .ok (.iconst (-1), 1) := by decide +kernel
theorem d_MD_length_13 : decode prog_6_method_25_code 13 = .ok (.goto 9, 3) := by decide +kernel
theorem d_MD_length_16 : decode prog_6_method_25_code 16 = .ok (.aload_n 0, 1) := by decide +kernel
theorem d_MD_length_17 : decode prog_6_method_25_code 17 = .ok (.getfield 20, 3) := by decide +kernel
theorem d_MD_length_20 : decode prog_6_method_25_code 20 = .ok (.iload_n 1, 1) := by decide +kernel
theorem d_MD_length_21 : decode prog_6_method_25_code 21 = .ok (.iaload, 1) := by decide +kernel
theorem d_MD_length_22 : decode prog_6_method_25_code 22 = .ok (.ireturn, 1) := by decide +kernel
theorem d_MD_word_0 : decode prog_6_method_26_code 0 = .ok (.aload_n 0, 1) := by decide +kernel
theorem d_MD_word_1 : decode prog_6_method_26_code 1 = .ok (.iload_n 1, 1) := by decide +kernel
theorem d_MD_word_2 : decode prog_6_method_26_code 2 = .ok (.iload_n 2, 1) := by decide +kernel
theorem d_MD_word_3 : decode prog_6_method_26_code 3 = .ok (.invokevirtual 137, 3) := by decide +kernel
theorem d_MD_word_6 : decode prog_6_method_26_code 6 = .ok (.ifCond .eq 17, 3) := by decide +kernel
theorem d_MD_word_9 : decode prog_6_method_26_code 9 = .ok (.aload_n 0, 1) := by decide +kernel
theorem d_MD_word_10 : decode prog_6_method_26_code 10 = .ok (.getfield 23, 3) := by decide +kernel
theorem d_MD_word_13 : decode prog_6_method_26_code 13 = .ok (.bipush 6, 2) := by decide +kernel
theorem d_MD_word_15 : decode prog_6_method_26_code 15 = .ok (.iload_n 1, 1) := by decide +kernel
theorem d_MD_word_16 : decode prog_6_method_26_code 16 = .ok (.imul, 1) := by decide +kernel
theorem d_MD_word_17 : decode prog_6_method_26_code 17 = .ok (.iload_n 2, 1) := by decide +kernel
theorem d_MD_word_18 : decode prog_6_method_26_code 18 = .ok (.iadd, 1) := by decide +kernel
theorem d_MD_word_19 : decode prog_6_method_26_code 19 = .ok (.iaload, 1) := by decide +kernel
theorem d_MD_word_20 : decode prog_6_method_26_code 20 = .ok (.goto 4, 3) := by decide +kernel
theorem d_MD_word_23 : decode prog_6_method_26_code 23 = .ok (.iconst 0, 1) := by decide +kernel
theorem d_MD_word_24 : decode prog_6_method_26_code 24 = .ok (.ireturn, 1) := by decide +kernel
theorem d_MD_isWord_0 : decode prog_6_method_24_code 0 = .ok (.iload_n 1, 1) := by decide +kernel
theorem d_MD_isWord_1 : decode prog_6_method_24_code 1 = .ok (.ifCond .lt 29, 3) := by decide +kernel
theorem d_MD_isWord_4 : decode prog_6_method_24_code 4 = .ok (.iload_n 1, 1) := by decide +kernel
theorem d_MD_isWord_5 : decode prog_6_method_24_code 5 = .ok (.aload_n 0, 1) := by decide +kernel
theorem d_MD_isWord_6 : decode prog_6_method_24_code 6 = .ok (.getfield 123, 3) := by decide +kernel
theorem d_MD_isWord_9 : decode prog_6_method_24_code 9 = .ok (.if_icmp .ge 21, 3) := by decide +kernel
theorem d_MD_isWord_12 : decode prog_6_method_24_code 12 = .ok (.iload_n 2, 1) := by decide +kernel
theorem d_MD_isWord_13 : decode prog_6_method_24_code 13 = .ok (.ifCond .lt 17, 3) := by decide +kernel
theorem d_MD_isWord_16 : decode prog_6_method_24_code 16 = .ok (.iload_n 2, 1) := by decide +kernel
theorem d_MD_isWord_17 : decode prog_6_method_24_code 17 = .ok (.aload_n 0, 1) := by decide +kernel
theorem d_MD_isWord_18 : decode prog_6_method_24_code 18 = .ok (.getfield 20, 3) := by decide +kernel
theorem d_MD_isWord_21 : decode prog_6_method_24_code 21 = .ok (.iload_n 1, 1) := by decide +kernel
theorem d_MD_isWord_22 : decode prog_6_method_24_code 22 = .ok (.iaload, 1) := by decide +kernel
theorem d_MD_isWord_23 : decode prog_6_method_24_code 23 = .ok (.if_icmp .ge 7, 3) := by decide +kernel
theorem d_MD_isWord_26 : decode prog_6_method_24_code 26 = .ok (.iconst 1, 1) := by decide +kernel
theorem d_MD_isWord_27 : decode prog_6_method_24_code 27 = .ok (.goto 4, 3) := by decide +kernel
theorem d_MD_isWord_30 : decode prog_6_method_24_code 30 = .ok (.iconst 0, 1) := by decide +kernel
theorem d_MD_isWord_31 : decode prog_6_method_24_code 31 = .ok (.ireturn, 1) := by decide +kernel
theorem d_MD_spoil_0 : decode prog_6_method_27_code 0 = .ok (.aload_n 0, 1) := by decide +kernel
theorem d_MD_spoil_1 : decode prog_6_method_27_code 1 = .ok (.iload_n 1, 1) := by decide +kernel
theorem d_MD_spoil_2 : decode prog_6_method_27_code 2 = .ok (.iload_n 2, 1) := by decide +kernel
theorem d_MD_spoil_3 : decode prog_6_method_27_code 3 = .ok (.invokevirtual 137, 3) := by decide +kernel
theorem d_MD_spoil_6 : decode prog_6_method_27_code 6 = .ok (.ifCond .ne 5, 3) := by decide +kernel
theorem d_MD_spoil_9 : decode prog_6_method_27_code 9 = .ok (.iconst 0, 1) := by decide +kernel
theorem d_MD_spoil_10 : decode prog_6_method_27_code 10 = .ok (.ireturn, 1) := by decide +kernel
theorem d_MD_spoil_11 : decode prog_6_method_27_code 11 = .ok (.aload_n 0, 1) := by decide +kernel
theorem d_MD_spoil_12 : decode prog_6_method_27_code 12 = .ok (.getfield 23, 3) := by decide +kernel
theorem d_MD_spoil_15 : decode prog_6_method_27_code 15 = .ok (.bipush 6, 2) := by decide +kernel
theorem d_MD_spoil_17 : decode prog_6_method_27_code 17 = .ok (.iload_n 1, 1) := by decide +kernel
theorem d_MD_spoil_18 : decode prog_6_method_27_code 18 = .ok (.imul, 1) := by decide +kernel
theorem d_MD_spoil_19 : decode prog_6_method_27_code 19 = .ok (.iload_n 2, 1) := by decide +kernel
theorem d_MD_spoil_20 : decode prog_6_method_27_code 20 = .ok (.iadd, 1) := by decide +kernel
theorem d_MD_spoil_21 : decode prog_6_method_27_code 21 = .ok (.aload_n 0, 1) := by decide +kernel
theorem d_MD_spoil_22 : decode prog_6_method_27_code 22 = .ok (.getfield 23, 3) := by decide +kernel
theorem d_MD_spoil_25 : decode prog_6_method_27_code 25 = .ok (.bipush 6, 2) := by decide +kernel
theorem d_MD_spoil_27 : decode prog_6_method_27_code 27 = .ok (.iload_n 1, 1) := by decide +kernel
theorem d_MD_spoil_28 : decode prog_6_method_27_code 28 = .ok (.imul, 1) := by decide +kernel
theorem d_MD_spoil_29 : decode prog_6_method_27_code 29 = .ok (.iload_n 2, 1) := by decide +kernel
theorem d_MD_spoil_30 : decode prog_6_method_27_code 30 = .ok (.iadd, 1) := by decide +kernel
theorem d_MD_spoil_31 : decode prog_6_method_27_code 31 = .ok (.iaload, 1) := by decide +kernel
theorem d_MD_spoil_32 : decode prog_6_method_27_code 32 = .ok (.iload_n 3, 1) := by decide +kernel
theorem d_MD_spoil_33 : decode prog_6_method_27_code 33 = .ok (.ixor, 1) := by decide +kernel
theorem d_MD_spoil_34 : decode prog_6_method_27_code 34 = .ok (.iastore, 1) := by decide +kernel
theorem d_MD_spoil_35 : decode prog_6_method_27_code 35 = .ok (.iconst 1, 1) := by decide +kernel
theorem d_MD_spoil_36 : decode prog_6_method_27_code 36 = .ok (.ireturn, 1) := by decide +kernel
theorem d_MD_cut_0 : decode prog_6_method_28_code 0 = .ok (.aload_n 0, 1) := by decide +kernel
theorem d_MD_cut_1 : decode prog_6_method_28_code 1 = .ok (.iload_n 1, 1) := by decide +kernel
theorem d_MD_cut_2 : decode prog_6_method_28_code 2 = .ok (.iconst 0, 1) := by decide +kernel
theorem d_MD_cut_3 : decode prog_6_method_28_code 3 = .ok (.invokevirtual 137, 3) := by decide +kernel
theorem d_MD_cut_6 : decode prog_6_method_28_code 6 = .ok (.ifCond .ne 5, 3) := by decide +kernel
theorem d_MD_cut_9 : decode prog_6_method_28_code 9 = .ok (.iconst 0, 1) := by decide +kernel
theorem d_MD_cut_10 : decode prog_6_method_28_code 10 = .ok (.ireturn, 1) := by decide +kernel
theorem d_MD_cut_11 : decode prog_6_method_28_code 11 = .ok (.aload_n 0, 1) := by decide +kernel
theorem d_MD_cut_12 : decode prog_6_method_28_code 12 = .ok (.getfield 20, 3) := by decide +kernel
theorem d_MD_cut_15 : decode prog_6_method_28_code 15 = .ok (.iload_n 1, 1) := by decide +kernel
theorem d_MD_cut_16 : decode prog_6_method_28_code 16 = .ok (.dup2, 1) := by decide +kernel
theorem d_MD_cut_17 : decode prog_6_method_28_code 17 = .ok (.iaload, 1) := by decide +kernel
theorem d_MD_cut_18 : decode prog_6_method_28_code 18 = .ok (.iconst 1, 1) := by decide +kernel
theorem d_MD_cut_19 : decode prog_6_method_28_code 19 = .ok (.isub, 1) := by decide +kernel
theorem d_MD_cut_20 : decode prog_6_method_28_code 20 = .ok (.iastore, 1) := by decide +kernel
theorem d_MD_cut_21 : decode prog_6_method_28_code 21 = .ok (.iconst 1, 1) := by decide +kernel
theorem d_MD_cut_22 : decode prog_6_method_28_code 22 = .ok (.ireturn, 1) := by decide +kernel
theorem d_MD_restore_0 : decode prog_6_method_30_code 0 = .ok (.iload_n 1, 1) := by decide +kernel
theorem d_MD_restore_1 : decode prog_6_method_30_code 1 = .ok (.ifCond .lt 11, 3) := by decide +kernel
theorem d_MD_restore_4 : decode prog_6_method_30_code 4 = .ok (.iload_n 1, 1) := by decide +kernel
theorem d_MD_restore_5 : decode prog_6_method_30_code 5 = .ok (.aload_n 0, 1) := by decide +kernel
theorem d_MD_restore_6 : decode prog_6_method_30_code 6 = .ok (.getfield 123, 3) := by decide +kernel
theorem d_MD_restore_9 : decode prog_6_method_30_code 9 = .ok (.if_icmp .lt 5, 3) := by decide +kernel
theorem d_MD_restore_12 : decode prog_6_method_30_code 12 = .ok (.iconst (-1), 1) := by decide +kernel
theorem d_MD_restore_13 : decode prog_6_method_30_code 13 = .ok (.ireturn, 1) := by decide +kernel
theorem d_MD_restore_14 : decode prog_6_method_30_code 14 = .ok (.bipush 6, 2) := by decide +kernel
theorem d_MD_restore_16 : decode prog_6_method_30_code 16 = .ok (.iload_n 1, 1) := by decide +kernel
theorem d_MD_restore_17 : decode prog_6_method_30_code 17 = .ok (.imul, 1) := by decide +kernel
theorem d_MD_restore_18 : decode prog_6_method_30_code 18 = .ok (.istore_n 2, 1) := by decide +kernel
theorem d_MD_restore_19 : decode prog_6_method_30_code 19 = .ok (.aload_n 0, 1) := by decide +kernel
theorem d_MD_restore_20 : decode prog_6_method_30_code 20 = .ok (.getfield 20, 3) := by decide +kernel
theorem d_MD_restore_23 : decode prog_6_method_30_code 23 = .ok (.iload_n 1, 1) := by decide +kernel
theorem d_MD_restore_24 : decode prog_6_method_30_code 24 = .ok (.iaload, 1) := by decide +kernel
theorem d_MD_restore_25 : decode prog_6_method_30_code 25 = .ok (.ifCond .ne 7, 3) := by decide +kernel
theorem d_MD_restore_28 : decode prog_6_method_30_code 28 = .ok (.iconst (-1), 1) := by decide +kernel
theorem d_MD_restore_29 : decode prog_6_method_30_code 29 = .ok (.goto 12, 3) := by decide +kernel
theorem d_MD_restore_32 : decode prog_6_method_30_code 32 = .ok (.aload_n 0, 1) := by decide +kernel
theorem d_MD_restore_33 : decode prog_6_method_30_code 33 = .ok (.getfield 23, 3) := by decide +kernel
theorem d_MD_restore_36 : decode prog_6_method_30_code 36 = .ok (.iload_n 2, 1) := by decide +kernel
theorem d_MD_restore_37 : decode prog_6_method_30_code 37 = .ok (.iaload, 1) := by decide +kernel
theorem d_MD_restore_38 : decode prog_6_method_30_code 38 = .ok (.ldc 129, 2) := by decide +kernel
theorem d_MD_restore_40 : decode prog_6_method_30_code 40 = .ok (.isub, 1) := by decide +kernel
theorem d_MD_restore_41 : decode prog_6_method_30_code 41 = .ok (.istore_n 3, 1) := by decide +kernel
theorem d_MD_restore_42 : decode prog_6_method_30_code 42 = .ok (.iload_n 3, 1) := by decide +kernel
theorem d_MD_restore_43 : decode prog_6_method_30_code 43 = .ok (.ifCond .lt 8, 3) := by decide +kernel
theorem d_MD_restore_46 : decode prog_6_method_30_code 46 = .ok (.iload_n 3, 1) := by decide +kernel
theorem d_MD_restore_47 : decode prog_6_method_30_code 47 = .ok (.iconst 3, 1) := by decide +kernel
theorem d_MD_restore_48 : decode prog_6_method_30_code 48 = .ok (.if_icmp .le 6, 3) := by decide +kernel
theorem d_MD_restore_51 : decode prog_6_method_30_code 51 = .ok (.bipush (-2), 2) := by decide +kernel
theorem d_MD_restore_53 : decode prog_6_method_30_code 53 = .ok (.ireturn, 1) := by decide +kernel
theorem d_MD_restore_54 : decode prog_6_method_30_code 54 = .ok (.aload_n 0, 1) := by decide +kernel
theorem d_MD_restore_55 : decode prog_6_method_30_code 55 = .ok (.getfield 20, 3) := by decide +kernel
theorem d_MD_restore_58 : decode prog_6_method_30_code 58 = .ok (.iload_n 1, 1) := by decide +kernel
theorem d_MD_restore_59 : decode prog_6_method_30_code 59 = .ok (.iaload, 1) := by decide +kernel
theorem d_MD_restore_60 : decode prog_6_method_30_code 60 = .ok (.iload_n 3, 1) := by decide +kernel
theorem d_MD_restore_61 : decode prog_6_method_30_code 61 = .ok (.ifCond .ne 8, 3) := by decide +kernel
theorem d_MD_restore_64 : decode prog_6_method_30_code 64 = .ok (.bipush 6, 2) := by decide +kernel
theorem d_MD_restore_66 : decode prog_6_method_30_code 66 = .ok (.goto 13, 3) := by decide +kernel
theorem d_MD_restore_69 : decode prog_6_method_30_code 69 = .ok (.iload_n 3, 1) := by decide +kernel
theorem d_MD_restore_70 : decode prog_6_method_30_code 70 = .ok (.iconst 2, 1) := by decide +kernel
theorem d_MD_restore_71 : decode prog_6_method_30_code 71 = .ok (.if_icmp .ne 7, 3) := by decide +kernel
theorem d_MD_restore_74 : decode prog_6_method_30_code 74 = .ok (.iconst 5, 1) := by decide +kernel
theorem d_MD_restore_75 : decode prog_6_method_30_code 75 = .ok (.goto 4, 3) := by decide +kernel
theorem d_MD_restore_78 : decode prog_6_method_30_code 78 = .ok (.iconst 4, 1) := by decide +kernel
theorem d_MD_restore_79 : decode prog_6_method_30_code 79 = .ok (.if_icmp .eq 6, 3) := by decide +kernel
theorem d_MD_restore_82 : decode prog_6_method_30_code 82 = .ok (.bipush (-3), 2) := by decide +kernel
theorem d_MD_restore_84 : decode prog_6_method_30_code 84 = .ok (.ireturn, 1) := by decide +kernel
theorem d_MD_restore_85 : decode prog_6_method_30_code 85 = .ok (.aload_n 0, 1) := by decide +kernel
theorem d_MD_restore_86 : decode prog_6_method_30_code 86 = .ok (.getfield 20, 3) := by decide +kernel
theorem d_MD_restore_89 : decode prog_6_method_30_code 89 = .ok (.iload_n 1, 1) := by decide +kernel
theorem d_MD_restore_90 : decode prog_6_method_30_code 90 = .ok (.iaload, 1) := by decide +kernel
theorem d_MD_restore_91 : decode prog_6_method_30_code 91 = .ok (.iconst 1, 1) := by decide +kernel
theorem d_MD_restore_92 : decode prog_6_method_30_code 92 = .ok (.isub, 1) := by decide +kernel
theorem d_MD_restore_93 : decode prog_6_method_30_code 93 = .ok (.istore 4, 2) := by decide +kernel
theorem d_MD_restore_95 : decode prog_6_method_30_code 95 = .ok (.aload_n 0, 1) := by decide +kernel
theorem d_MD_restore_96 : decode prog_6_method_30_code 96 = .ok (.getfield 23, 3) := by decide +kernel
theorem d_MD_restore_99 : decode prog_6_method_30_code 99 = .ok (.iload_n 2, 1) := by decide +kernel
theorem d_MD_restore_100 : decode prog_6_method_30_code 100 = .ok (.iload 4, 2) := by decide +kernel
theorem d_MD_restore_102 : decode prog_6_method_30_code 102 = .ok (.iadd, 1) := by decide +kernel
theorem d_MD_restore_103 : decode prog_6_method_30_code 103 = .ok (.iaload, 1) := by decide +kernel
theorem d_MD_restore_104 : decode prog_6_method_30_code 104 = .ok (.aload_n 0, 1) := by decide +kernel
theorem d_MD_restore_105 : decode prog_6_method_30_code 105 = .ok (.iload_n 1, 1) := by decide +kernel
theorem d_MD_restore_106 : decode prog_6_method_30_code 106 = .ok (.iload 4, 2) := by decide +kernel
theorem d_MD_restore_108 : decode prog_6_method_30_code 108 = .ok (.invokevirtual 134, 3) := by decide +kernel
theorem d_MD_restore_111 : decode prog_6_method_30_code 111 = .ok (.if_icmp .eq 6, 3) := by decide +kernel
theorem d_MD_restore_114 : decode prog_6_method_30_code 114 = .ok (.bipush (-4), 2) := by decide +kernel
theorem d_MD_restore_116 : decode prog_6_method_30_code 116 = .ok (.ireturn, 1) := by decide +kernel
theorem d_MD_restore_117 : decode prog_6_method_30_code 117 = .ok (.aload_n 0, 1) := by decide +kernel
theorem d_MD_restore_118 : decode prog_6_method_30_code 118 = .ok (.iload_n 3, 1) := by decide +kernel
theorem d_MD_restore_119 : decode prog_6_method_30_code 119 = .ok (.putfield 90, 3) := by decide +kernel
theorem d_MD_restore_122 : decode prog_6_method_30_code 122 = .ok (.aload_n 0, 1) := by decide +kernel
theorem d_MD_restore_123 : decode prog_6_method_30_code 123 = .ok (.iload_n 3, 1) := by decide +kernel
theorem d_MD_restore_124 : decode prog_6_method_30_code 124 = .ok (.ifCond .ne 13, 3) := by decide +kernel
theorem d_MD_restore_127 : decode prog_6_method_30_code 127 = .ok (.aload_n 0, 1) := by decide +kernel
theorem d_MD_restore_128 : decode prog_6_method_30_code 128 = .ok (.iload_n 2, 1) := by decide +kernel
theorem d_MD_restore_129 : decode prog_6_method_30_code 129 = .ok (.iconst 1, 1) := by decide +kernel
theorem d_MD_restore_130 : decode prog_6_method_30_code 130 = .ok (.iadd, 1) := by decide +kernel
theorem d_MD_restore_131 : decode prog_6_method_30_code 131 = .ok (.invokevirtual 141, 3) := by decide +kernel
theorem d_MD_restore_134 : decode prog_6_method_30_code 134 = .ok (.goto 12, 3) := by decide +kernel
theorem d_MD_restore_137 : decode prog_6_method_30_code 137 = .ok (.aload_n 0, 1) := by decide +kernel
theorem d_MD_restore_138 : decode prog_6_method_30_code 138 = .ok (.getfield 23, 3) := by decide +kernel
theorem d_MD_restore_141 : decode prog_6_method_30_code 141 = .ok (.iload_n 2, 1) := by decide +kernel
theorem d_MD_restore_142 : decode prog_6_method_30_code 142 = .ok (.iconst 1, 1) := by decide +kernel
theorem d_MD_restore_143 : decode prog_6_method_30_code 143 = .ok (.iadd, 1) := by decide +kernel
theorem d_MD_restore_144 : decode prog_6_method_30_code 144 = .ok (.iaload, 1) := by decide +kernel
theorem d_MD_restore_145 : decode prog_6_method_30_code 145 = .ok (.i2l, 1) := by decide +kernel
theorem d_MD_restore_146 : decode prog_6_method_30_code 146 = .ok (.putfield 84, 3) := by decide +kernel
theorem d_MD_restore_149 : decode prog_6_method_30_code 149 = .ok (.aload_n 0, 1) := by decide +kernel
theorem d_MD_restore_150 : decode prog_6_method_30_code 150 = .ok (.iload_n 3, 1) := by decide +kernel
theorem d_MD_restore_151 : decode prog_6_method_30_code 151 = .ok (.ifCond .ne 13, 3) := by decide +kernel
theorem d_MD_restore_154 : decode prog_6_method_30_code 154 = .ok (.aload_n 0, 1) := by decide +kernel
theorem d_MD_restore_155 : decode prog_6_method_30_code 155 = .ok (.iload_n 2, 1) := by decide +kernel
theorem d_MD_restore_156 : decode prog_6_method_30_code 156 = .ok (.iconst 3, 1) := by decide +kernel
theorem d_MD_restore_157 : decode prog_6_method_30_code 157 = .ok (.iadd, 1) := by decide +kernel
theorem d_MD_restore_158 : decode prog_6_method_30_code 158 = .ok (.invokevirtual 141, 3) := by decide +kernel
theorem d_MD_restore_161 : decode prog_6_method_30_code 161 = .ok (.goto 27, 3) := by decide +kernel
theorem d_MD_restore_164 : decode prog_6_method_30_code 164 = .ok (.iload_n 3, 1) := by decide +kernel
theorem d_MD_restore_165 : decode prog_6_method_30_code 165 = .ok (.iconst 2, 1) := by decide +kernel
theorem d_MD_restore_166 : decode prog_6_method_30_code 166 = .ok (.if_icmp .ne 13, 3) := by decide +kernel
theorem d_MD_restore_169 : decode prog_6_method_30_code 169 = .ok (.aload_n 0, 1) := by decide +kernel
theorem d_MD_restore_170 : decode prog_6_method_30_code 170 = .ok (.iload_n 2, 1) := by decide +kernel
theorem d_MD_restore_171 : decode prog_6_method_30_code 171 = .ok (.iconst 2, 1) := by decide +kernel
theorem d_MD_restore_172 : decode prog_6_method_30_code 172 = .ok (.iadd, 1) := by decide +kernel
theorem d_MD_restore_173 : decode prog_6_method_30_code 173 = .ok (.invokevirtual 141, 3) := by decide +kernel
theorem d_MD_restore_176 : decode prog_6_method_30_code 176 = .ok (.goto 12, 3) := by decide +kernel
theorem d_MD_restore_179 : decode prog_6_method_30_code 179 = .ok (.aload_n 0, 1) := by decide +kernel
theorem d_MD_restore_180 : decode prog_6_method_30_code 180 = .ok (.getfield 23, 3) := by decide +kernel
theorem d_MD_restore_183 : decode prog_6_method_30_code 183 = .ok (.iload_n 2, 1) := by decide +kernel
theorem d_MD_restore_184 : decode prog_6_method_30_code 184 = .ok (.iconst 2, 1) := by decide +kernel
theorem d_MD_restore_185 : decode prog_6_method_30_code 185 = .ok (.iadd, 1) := by decide +kernel
theorem d_MD_restore_186 : decode prog_6_method_30_code 186 = .ok (.iaload, 1) := by decide +kernel
theorem d_MD_restore_187 : decode prog_6_method_30_code 187 = .ok (.i2l, 1) := by decide +kernel
theorem d_MD_restore_188 : decode prog_6_method_30_code 188 = .ok (.putfield 87, 3) := by decide +kernel
theorem d_MD_restore_191 : decode prog_6_method_30_code 191 = .ok (.aload_n 0, 1) := by decide +kernel
theorem d_MD_restore_192 : decode prog_6_method_30_code 192 = .ok (.invokevirtual 101, 3) := by decide +kernel
theorem d_MD_restore_195 : decode prog_6_method_30_code 195 = .ok (.ifCond .ne 6, 3) := by decide +kernel
theorem d_MD_restore_198 : decode prog_6_method_30_code 198 = .ok (.bipush (-5), 2) := by decide +kernel
theorem d_MD_restore_200 : decode prog_6_method_30_code 200 = .ok (.ireturn, 1) := by decide +kernel
theorem d_MD_restore_201 : decode prog_6_method_30_code 201 = .ok (.aload_n 0, 1) := by decide +kernel
theorem d_MD_restore_202 : decode prog_6_method_30_code 202 = .ok (.invokevirtual 97, 3) := by decide +kernel
theorem d_MD_restore_205 : decode prog_6_method_30_code 205 = .ok (.istore 5, 2) := by decide +kernel
theorem d_MD_restore_207 : decode prog_6_method_30_code 207 = .ok (.iload 5, 2) := by decide +kernel
theorem d_MD_restore_209 : decode prog_6_method_30_code 209 = .ok (.ifCond .ge 8, 3) := by decide +kernel
theorem d_MD_restore_212 : decode prog_6_method_30_code 212 = .ok (.bipush (-6), 2) := by decide +kernel
theorem d_MD_restore_214 : decode prog_6_method_30_code 214 = .ok (.goto 9, 3) := by decide +kernel
theorem d_MD_restore_217 : decode prog_6_method_30_code 217 = .ok (.aload_n 0, 1) := by decide +kernel
theorem d_MD_restore_218 : decode prog_6_method_30_code 218 = .ok (.iload 5, 2) := by decide +kernel
theorem d_MD_restore_220 : decode prog_6_method_30_code 220 = .ok (.invokevirtual 105, 3) := by decide +kernel
theorem d_MD_restore_223 : decode prog_6_method_30_code 223 = .ok (.ireturn, 1) := by decide +kernel
theorem d_MD_twoWords_0 : decode prog_6_method_29_code 0 = .ok (.aload_n 0, 1) := by decide +kernel
theorem d_MD_twoWords_1 : decode prog_6_method_29_code 1 = .ok (.getfield 23, 3) := by decide +kernel
theorem d_MD_twoWords_4 : decode prog_6_method_29_code 4 = .ok (.iload_n 1, 1) := by decide +kernel
theorem d_MD_twoWords_5 : decode prog_6_method_29_code 5 = .ok (.iaload, 1) := by decide +kernel
theorem d_MD_twoWords_6 : decode prog_6_method_29_code 6 = .ok (.i2l, 1) := by decide +kernel
theorem d_MD_twoWords_7 : decode prog_6_method_29_code 7 = .ok (.ldc2_w 35, 3) := by decide +kernel
theorem d_MD_twoWords_10 : decode prog_6_method_29_code 10 = .ok (.lmul, 1) := by decide +kernel
theorem d_MD_twoWords_11 : decode prog_6_method_29_code 11 = .ok (.aload_n 0, 1) := by decide +kernel
theorem d_MD_twoWords_12 : decode prog_6_method_29_code 12 = .ok (.getfield 23, 3) := by decide +kernel
theorem d_MD_twoWords_15 : decode prog_6_method_29_code 15 = .ok (.iload_n 1, 1) := by decide +kernel
theorem d_MD_twoWords_16 : decode prog_6_method_29_code 16 = .ok (.iconst 1, 1) := by decide +kernel
theorem d_MD_twoWords_17 : decode prog_6_method_29_code 17 = .ok (.iadd, 1) := by decide +kernel
theorem d_MD_twoWords_18 : decode prog_6_method_29_code 18 = .ok (.iaload, 1) := by decide +kernel
theorem d_MD_twoWords_19 : decode prog_6_method_29_code 19 = .ok (.invokestatic 71, 3) := by decide +kernel
theorem d_MD_twoWords_22 : decode prog_6_method_29_code 22 = .ok (.ladd, 1) := by decide +kernel
theorem d_MD_twoWords_23 : decode prog_6_method_29_code 23 = .ok (.lreturn, 1) := by decide +kernel
theorem d_MD_seek_0 : decode prog_6_method_31_code 0 = .ok (.iload_n 1, 1) := by decide +kernel
theorem d_MD_seek_1 : decode prog_6_method_31_code 1 = .ok (.ifCond .lt 9, 3) := by decide +kernel
theorem d_MD_seek_4 : decode prog_6_method_31_code 4 = .ok (.iload_n 1, 1) := by decide +kernel
theorem d_MD_seek_5 : decode prog_6_method_31_code 5 = .ok (.ldc 144, 2) := by decide +kernel
theorem d_MD_seek_7 : decode prog_6_method_31_code 7 = .ok (.if_icmp .le 5, 3) := by decide +kernel
theorem d_MD_seek_10 : decode prog_6_method_31_code 10 = .ok (.iconst 0, 1) := by decide +kernel
theorem d_MD_seek_11 : decode prog_6_method_31_code 11 = .ok (.ireturn, 1) := by decide +kernel
theorem d_MD_seek_12 : decode prog_6_method_31_code 12 = .ok (.aload_n 0, 1) := by decide +kernel
theorem d_MD_seek_13 : decode prog_6_method_31_code 13 = .ok (.iload_n 1, 1) := by decide +kernel
theorem d_MD_seek_14 : decode prog_6_method_31_code 14 = .ok (.putfield 145, 3) := by decide +kernel
theorem d_MD_seek_17 : decode prog_6_method_31_code 17 = .ok (.iconst 1, 1) := by decide +kernel
theorem d_MD_seek_18 : decode prog_6_method_31_code 18 = .ok (.ireturn, 1) := by decide +kernel
theorem d_MD_advance_0 : decode prog_6_method_32_code 0 = .ok (.aload_n 0, 1) := by decide +kernel
theorem d_MD_advance_1 : decode prog_6_method_32_code 1 = .ok (.aload_n 0, 1) := by decide +kernel
theorem d_MD_advance_2 : decode prog_6_method_32_code 2 = .ok (.getfield 145, 3) := by decide +kernel
theorem d_MD_advance_5 : decode prog_6_method_32_code 5 = .ok (.ldc 144, 2) := by decide +kernel
theorem d_MD_advance_7 : decode prog_6_method_32_code 7 = .ok (.if_icmp .ne 7, 3) := by decide +kernel
theorem d_MD_advance_10 : decode prog_6_method_32_code 10 = .ok (.iconst 0, 1) := by decide +kernel
theorem d_MD_advance_11 : decode prog_6_method_32_code 11 = .ok (.goto 9, 3) := by decide +kernel
theorem d_MD_advance_14 : decode prog_6_method_32_code 14 = .ok (.aload_n 0, 1) := by decide +kernel
theorem d_MD_advance_15 : decode prog_6_method_32_code 15 = .ok (.getfield 145, 3) := by decide +kernel
theorem d_MD_advance_18 : decode prog_6_method_32_code 18 = .ok (.iconst 1, 1) := by decide +kernel
theorem d_MD_advance_19 : decode prog_6_method_32_code 19 = .ok (.iadd, 1) := by decide +kernel
theorem d_MD_advance_20 : decode prog_6_method_32_code 20 = .ok (.putfield 145, 3) := by decide +kernel
theorem d_MD_advance_23 : decode prog_6_method_32_code 23 = .ok (.aload_n 0, 1) := by decide +kernel
theorem d_MD_advance_24 : decode prog_6_method_32_code 24 = .ok (.getfield 145, 3) := by decide +kernel
theorem d_MD_advance_27 : decode prog_6_method_32_code 27 = .ok (.ireturn, 1) := by decide +kernel
theorem d_MD_coordinate_0 : decode prog_6_method_35_code 0 = .ok (.iload_n 1, 1) := by decide +kernel
theorem d_MD_coordinate_1 : decode prog_6_method_35_code 1 = .ok (.ifCond .lt 8, 3) := by decide +kernel
theorem d_MD_coordinate_4 : decode prog_6_method_35_code 4 = .ok (.iload_n 1, 1) := by decide +kernel
theorem d_MD_coordinate_5 : decode prog_6_method_35_code 5 = .ok (.iconst 5, 1) := by decide +kernel
theorem d_MD_coordinate_6 : decode prog_6_method_35_code 6 = .ok (.if_icmp .le 7, 3) := by decide +kernel
theorem d_MD_coordinate_9 : decode prog_6_method_35_code 9 = .ok (.ldc2_w 113, 3) := by decide +kernel
theorem d_MD_coordinate_12 : decode prog_6_method_35_code 12 = .ok (.lreturn, 1) := by decide +kernel
theorem d_MD_coordinate_13 : decode prog_6_method_35_code 13 = .ok (.iload_n 1, 1) := by decide +kernel
theorem d_MD_coordinate_14 : decode prog_6_method_35_code 14 = .ok (.iconst 3, 1) := by decide +kernel
theorem d_MD_coordinate_15 : decode prog_6_method_35_code 15 = .ok (.if_icmp .le 26, 3) := by decide +kernel
theorem d_MD_coordinate_18 : decode prog_6_method_35_code 18 = .ok (.iload_n 1, 1) := by decide +kernel
theorem d_MD_coordinate_19 : decode prog_6_method_35_code 19 = .ok (.iconst 4, 1) := by decide +kernel
theorem d_MD_coordinate_20 : decode prog_6_method_35_code 20 = .ok (.if_icmp .ne 13, 3) := by decide +kernel
theorem d_MD_coordinate_23 : decode prog_6_method_35_code 23 = .ok (.aload_n 0, 1) := by decide +kernel
theorem d_MD_coordinate_24 : decode prog_6_method_35_code 24 = .ok (.iconst 3, 1) := by decide +kernel
theorem d_MD_coordinate_25 : decode prog_6_method_35_code 25 = .ok (.bipush 13, 2) := by decide +kernel
theorem d_MD_coordinate_27 : decode prog_6_method_35_code 27 = .ok (.invokevirtual 148, 3) := by decide +kernel
theorem d_MD_coordinate_30 : decode prog_6_method_35_code 30 = .ok (.goto 10, 3) := by decide +kernel
theorem d_MD_coordinate_33 : decode prog_6_method_35_code 33 = .ok (.aload_n 0, 1) := by decide +kernel
theorem d_MD_coordinate_34 : decode prog_6_method_35_code 34 = .ok (.iconst 5, 1) := by decide +kernel
theorem d_MD_coordinate_35 : decode prog_6_method_35_code 35 = .ok (.bipush 9, 2) := by decide +kernel
theorem d_MD_coordinate_37 : decode prog_6_method_35_code 37 = .ok (.invokevirtual 148, 3) := by decide +kernel
theorem d_MD_coordinate_40 : decode prog_6_method_35_code 40 = .ok (.lreturn, 1) := by decide +kernel
theorem d_MD_coordinate_41 : decode prog_6_method_35_code 41 = .ok (.iload_n 1, 1) := by decide +kernel
theorem d_MD_coordinate_42 : decode prog_6_method_35_code 42 = .ok (.ifCond .ne 27, 3) := by decide +kernel
theorem d_MD_coordinate_45 : decode prog_6_method_35_code 45 = .ok (.iconst 1, 1) := by decide +kernel
theorem d_MD_coordinate_46 : decode prog_6_method_35_code 46 = .ok (.istore_n 2, 1) := by decide +kernel
theorem d_MD_coordinate_47 : decode prog_6_method_35_code 47 = .ok (.iload_n 2, 1) := by decide +kernel
theorem d_MD_coordinate_48 : decode prog_6_method_35_code 48 = .ok (.bipush 20, 2) := by decide +kernel
theorem d_MD_coordinate_50 : decode prog_6_method_35_code 50 = .ok (.if_icmp .gt 16, 3) := by decide +kernel
theorem d_MD_coordinate_53 : decode prog_6_method_35_code 53 = .ok (.aload_n 0, 1) := by decide +kernel
theorem d_MD_coordinate_54 : decode prog_6_method_35_code 54 = .ok (.getfield 26, 3) := by decide +kernel
theorem d_MD_coordinate_57 : decode prog_6_method_35_code 57 = .ok (.iload_n 2, 1) := by decide +kernel
theorem d_MD_coordinate_58 : decode prog_6_method_35_code 58 = .ok (.iconst 1, 1) := by decide +kernel
theorem d_MD_coordinate_59 : decode prog_6_method_35_code 59 = .ok (.iastore, 1) := by decide +kernel
theorem d_MD_coordinate_60 : decode prog_6_method_35_code 60 = .ok (.iinc 2 1, 3) := by decide +kernel
theorem d_MD_coordinate_63 : decode prog_6_method_35_code 63 = .ok (.goto (-16), 3) := by decide +kernel
theorem d_MD_coordinate_66 : decode prog_6_method_35_code 66 = .ok (.goto 8, 3) := by decide +kernel
theorem d_MD_coordinate_69 : decode prog_6_method_35_code 69 = .ok (.aload_n 0, 1) := by decide +kernel
theorem d_MD_coordinate_70 : decode prog_6_method_35_code 70 = .ok (.iload_n 1, 1) := by decide +kernel
theorem d_MD_coordinate_71 : decode prog_6_method_35_code 71 = .ok (.invokevirtual 152, 3) := by decide +kernel
theorem d_MD_coordinate_74 : decode prog_6_method_35_code 74 = .ok (.aload_n 0, 1) := by decide +kernel
theorem d_MD_coordinate_75 : decode prog_6_method_35_code 75 = .ok (.getfield 145, 3) := by decide +kernel
theorem d_MD_coordinate_78 : decode prog_6_method_35_code 78 = .ok (.aload_n 0, 1) := by decide +kernel
theorem d_MD_coordinate_79 : decode prog_6_method_35_code 79 = .ok (.getfield 145, 3) := by decide +kernel
theorem d_MD_coordinate_82 : decode prog_6_method_35_code 82 = .ok (.iconst 1, 1) := by decide +kernel
theorem d_MD_coordinate_83 : decode prog_6_method_35_code 83 = .ok (.ishr, 1) := by decide +kernel
theorem d_MD_coordinate_84 : decode prog_6_method_35_code 84 = .ok (.ixor, 1) := by decide +kernel
theorem d_MD_coordinate_85 : decode prog_6_method_35_code 85 = .ok (.istore_n 2, 1) := by decide +kernel
theorem d_MD_coordinate_86 : decode prog_6_method_35_code 86 = .ok (.iconst 0, 1) := by decide +kernel
theorem d_MD_coordinate_87 : decode prog_6_method_35_code 87 = .ok (.istore_n 3, 1) := by decide +kernel
theorem d_MD_coordinate_88 : decode prog_6_method_35_code 88 = .ok (.iconst 1, 1) := by decide +kernel
theorem d_MD_coordinate_89 : decode prog_6_method_35_code 89 = .ok (.istore 4, 2) := by decide +kernel
theorem d_MD_coordinate_91 : decode prog_6_method_35_code 91 = .ok (.iload 4, 2) := by decide +kernel
theorem d_MD_coordinate_93 : decode prog_6_method_35_code 93 = .ok (.bipush 20, 2) := by decide +kernel
theorem d_MD_coordinate_95 : decode prog_6_method_35_code 95 = .ok (.if_icmp .gt 41, 3) := by decide +kernel
theorem d_MD_coordinate_98 : decode prog_6_method_35_code 98 = .ok (.iload_n 2, 1) := by decide +kernel
theorem d_MD_coordinate_99 : decode prog_6_method_35_code 99 = .ok (.iload 4, 2) := by decide +kernel
theorem d_MD_coordinate_101 : decode prog_6_method_35_code 101 = .ok (.iconst 1, 1) := by decide +kernel
theorem d_MD_coordinate_102 : decode prog_6_method_35_code 102 = .ok (.isub, 1) := by decide +kernel
theorem d_MD_coordinate_103 : decode prog_6_method_35_code 103 = .ok (.ishr, 1) := by decide +kernel
theorem d_MD_coordinate_104 : decode prog_6_method_35_code 104 = .ok (.iconst 1, 1) := by decide +kernel
theorem d_MD_coordinate_105 : decode prog_6_method_35_code 105 = .ok (.iand, 1) := by decide +kernel
theorem d_MD_coordinate_106 : decode prog_6_method_35_code 106 = .ok (.iconst 1, 1) := by decide +kernel
theorem d_MD_coordinate_107 : decode prog_6_method_35_code 107 = .ok (.if_icmp .ne 21, 3) := by decide +kernel
theorem d_MD_coordinate_110 : decode prog_6_method_35_code 110 = .ok (.iload_n 3, 1) := by decide +kernel
theorem d_MD_coordinate_111 : decode prog_6_method_35_code 111 = .ok (.aload_n 0, 1) := by decide +kernel
theorem d_MD_coordinate_112 : decode prog_6_method_35_code 112 = .ok (.getfield 26, 3) := by decide +kernel
theorem d_MD_coordinate_115 : decode prog_6_method_35_code 115 = .ok (.iload 4, 2) := by decide +kernel
theorem d_MD_coordinate_117 : decode prog_6_method_35_code 117 = .ok (.iaload, 1) := by decide +kernel
theorem d_MD_coordinate_118 : decode prog_6_method_35_code 118 = .ok (.bipush 32, 2) := by decide +kernel
theorem d_MD_coordinate_120 : decode prog_6_method_35_code 120 = .ok (.iload 4, 2) := by decide +kernel
theorem d_MD_coordinate_122 : decode prog_6_method_35_code 122 = .ok (.isub, 1) := by decide +kernel
theorem d_MD_coordinate_123 : decode prog_6_method_35_code 123 = .ok (.ishl, 1) := by decide +kernel
theorem d_MD_coordinate_124 : decode prog_6_method_35_code 124 = .ok (.ixor, 1) := by decide +kernel
theorem d_MD_coordinate_125 : decode prog_6_method_35_code 125 = .ok (.goto 4, 3) := by decide +kernel
theorem d_MD_coordinate_128 : decode prog_6_method_35_code 128 = .ok (.iload_n 3, 1) := by decide +kernel
theorem d_MD_coordinate_129 : decode prog_6_method_35_code 129 = .ok (.istore_n 3, 1) := by decide +kernel
theorem d_MD_coordinate_130 : decode prog_6_method_35_code 130 = .ok (.iinc 4 1, 3) := by decide +kernel
theorem d_MD_coordinate_133 : decode prog_6_method_35_code 133 = .ok (.goto (-42), 3) := by decide +kernel
theorem d_MD_coordinate_136 : decode prog_6_method_35_code 136 = .ok (.iload_n 3, 1) := by decide +kernel
theorem d_MD_coordinate_137 : decode prog_6_method_35_code 137 = .ok (.invokestatic 71, 3) := by decide +kernel
theorem d_MD_coordinate_140 : decode prog_6_method_35_code 140 = .ok (.lreturn, 1) := by decide +kernel
theorem d_MD_turned_0 : decode prog_6_method_34_code 0 = .ok (.lconst 0, 1) := by decide +kernel
theorem d_MD_turned_1 : decode prog_6_method_34_code 1 = .ok (.lstore_n 3, 1) := by decide +kernel
theorem d_MD_turned_2 : decode prog_6_method_34_code 2 = .ok (.aload_n 0, 1) := by decide +kernel
theorem d_MD_turned_3 : decode prog_6_method_34_code 3 = .ok (.getfield 145, 3) := by decide +kernel
theorem d_MD_turned_6 : decode prog_6_method_34_code 6 = .ok (.istore 5, 2) := by decide +kernel
theorem d_MD_turned_8 : decode prog_6_method_34_code 8 = .ok (.iconst 0, 1) := by decide +kernel
theorem d_MD_turned_9 : decode prog_6_method_34_code 9 = .ok (.istore 6, 2) := by decide +kernel
theorem d_MD_turned_11 : decode prog_6_method_34_code 11 = .ok (.iload 6, 2) := by decide +kernel
theorem d_MD_turned_13 : decode prog_6_method_34_code 13 = .ok (.iload_n 2, 1) := by decide +kernel
theorem d_MD_turned_14 : decode prog_6_method_34_code 14 = .ok (.if_icmp .ge 26, 3) := by decide +kernel
theorem d_MD_turned_17 : decode prog_6_method_34_code 17 = .ok (.lload_n 3, 1) := by decide +kernel
theorem d_MD_turned_18 : decode prog_6_method_34_code 18 = .ok (.iload_n 1, 1) := by decide +kernel
theorem d_MD_turned_19 : decode prog_6_method_34_code 19 = .ok (.i2l, 1) := by decide +kernel
theorem d_MD_turned_20 : decode prog_6_method_34_code 20 = .ok (.lmul, 1) := by decide +kernel
theorem d_MD_turned_21 : decode prog_6_method_34_code 21 = .ok (.iload 5, 2) := by decide +kernel
theorem d_MD_turned_23 : decode prog_6_method_34_code 23 = .ok (.iload_n 1, 1) := by decide +kernel
theorem d_MD_turned_24 : decode prog_6_method_34_code 24 = .ok (.irem, 1) := by decide +kernel
theorem d_MD_turned_25 : decode prog_6_method_34_code 25 = .ok (.i2l, 1) := by decide +kernel
theorem d_MD_turned_26 : decode prog_6_method_34_code 26 = .ok (.ladd, 1) := by decide +kernel
theorem d_MD_turned_27 : decode prog_6_method_34_code 27 = .ok (.lstore_n 3, 1) := by decide +kernel
theorem d_MD_turned_28 : decode prog_6_method_34_code 28 = .ok (.iload 5, 2) := by decide +kernel
theorem d_MD_turned_30 : decode prog_6_method_34_code 30 = .ok (.iload_n 1, 1) := by decide +kernel
theorem d_MD_turned_31 : decode prog_6_method_34_code 31 = .ok (.idiv, 1) := by decide +kernel
theorem d_MD_turned_32 : decode prog_6_method_34_code 32 = .ok (.istore 5, 2) := by decide +kernel
theorem d_MD_turned_34 : decode prog_6_method_34_code 34 = .ok (.iinc 6 1, 3) := by decide +kernel
theorem d_MD_turned_37 : decode prog_6_method_34_code 37 = .ok (.goto (-26), 3) := by decide +kernel
theorem d_MD_turned_40 : decode prog_6_method_34_code 40 = .ok (.lload_n 3, 1) := by decide +kernel
theorem d_MD_turned_41 : decode prog_6_method_34_code 41 = .ok (.lreturn, 1) := by decide +kernel
theorem d_MD_inner_0 : decode prog_6_method_33_code 0 = .ok (.iload_n 1, 1) := by decide +kernel
theorem d_MD_inner_1 : decode prog_6_method_33_code 1 = .ok (.iconst 1, 1) := by decide +kernel
theorem d_MD_inner_2 : decode prog_6_method_33_code 2 = .ok (.if_icmp .ne 7, 3) := by decide +kernel
theorem d_MD_inner_5 : decode prog_6_method_33_code 5 = .ok (.iconst 0, 1) := by decide +kernel
theorem d_MD_inner_6 : decode prog_6_method_33_code 6 = .ok (.goto 4, 3) := by decide +kernel
theorem d_MD_inner_9 : decode prog_6_method_33_code 9 = .ok (.iconst 1, 1) := by decide +kernel
theorem d_MD_inner_10 : decode prog_6_method_33_code 10 = .ok (.istore_n 2, 1) := by decide +kernel
theorem d_MD_inner_11 : decode prog_6_method_33_code 11 = .ok (.iconst 1, 1) := by decide +kernel
theorem d_MD_inner_12 : decode prog_6_method_33_code 12 = .ok (.istore_n 3, 1) := by decide +kernel
theorem d_MD_inner_13 : decode prog_6_method_33_code 13 = .ok (.iload_n 3, 1) := by decide +kernel
theorem d_MD_inner_14 : decode prog_6_method_33_code 14 = .ok (.bipush 20, 2) := by decide +kernel
theorem d_MD_inner_16 : decode prog_6_method_33_code 16 = .ok (.if_icmp .gt 125, 3) := by decide +kernel
theorem d_MD_inner_19 : decode prog_6_method_33_code 19 = .ok (.iload_n 3, 1) := by decide +kernel
theorem d_MD_inner_20 : decode prog_6_method_33_code 20 = .ok (.iload_n 1, 1) := by decide +kernel
theorem d_MD_inner_21 : decode prog_6_method_33_code 21 = .ok (.if_icmp .gt 22, 3) := by decide +kernel
theorem d_MD_inner_24 : decode prog_6_method_33_code 24 = .ok (.aload_n 0, 1) := by decide +kernel
theorem d_MD_inner_25 : decode prog_6_method_33_code 25 = .ok (.getfield 26, 3) := by decide +kernel
theorem d_MD_inner_28 : decode prog_6_method_33_code 28 = .ok (.iload_n 3, 1) := by decide +kernel
theorem d_MD_inner_29 : decode prog_6_method_33_code 29 = .ok (.iload_n 3, 1) := by decide +kernel
theorem d_MD_inner_30 : decode prog_6_method_33_code 30 = .ok (.iconst 2, 1) := by decide +kernel
theorem d_MD_inner_31 : decode prog_6_method_33_code 31 = .ok (.if_icmp .ne 7, 3) := by decide +kernel
theorem d_MD_inner_34 : decode prog_6_method_33_code 34 = .ok (.iconst 3, 1) := by decide +kernel
theorem d_MD_inner_35 : decode prog_6_method_33_code 35 = .ok (.goto 4, 3) := by decide +kernel
theorem d_MD_inner_38 : decode prog_6_method_33_code 38 = .ok (.iconst 1, 1) := by decide +kernel
theorem d_MD_inner_39 : decode prog_6_method_33_code 39 = .ok (.iastore, 1) := by decide +kernel
theorem d_MD_inner_40 : decode prog_6_method_33_code 40 = .ok (.goto 95, 3) := by decide +kernel
theorem d_MD_inner_43 : decode prog_6_method_33_code 43 = .ok (.aload_n 0, 1) := by decide +kernel
theorem d_MD_inner_44 : decode prog_6_method_33_code 44 = .ok (.getfield 26, 3) := by decide +kernel
theorem d_MD_inner_47 : decode prog_6_method_33_code 47 = .ok (.iload_n 3, 1) := by decide +kernel
theorem d_MD_inner_48 : decode prog_6_method_33_code 48 = .ok (.aload_n 0, 1) := by decide +kernel
theorem d_MD_inner_49 : decode prog_6_method_33_code 49 = .ok (.getfield 26, 3) := by decide +kernel
theorem d_MD_inner_52 : decode prog_6_method_33_code 52 = .ok (.iload_n 3, 1) := by decide +kernel
theorem d_MD_inner_53 : decode prog_6_method_33_code 53 = .ok (.iload_n 1, 1) := by decide +kernel
theorem d_MD_inner_54 : decode prog_6_method_33_code 54 = .ok (.isub, 1) := by decide +kernel
theorem d_MD_inner_55 : decode prog_6_method_33_code 55 = .ok (.iaload, 1) := by decide +kernel
theorem d_MD_inner_56 : decode prog_6_method_33_code 56 = .ok (.aload_n 0, 1) := by decide +kernel
theorem d_MD_inner_57 : decode prog_6_method_33_code 57 = .ok (.getfield 26, 3) := by decide +kernel
theorem d_MD_inner_60 : decode prog_6_method_33_code 60 = .ok (.iload_n 3, 1) := by decide +kernel
theorem d_MD_inner_61 : decode prog_6_method_33_code 61 = .ok (.iload_n 1, 1) := by decide +kernel
theorem d_MD_inner_62 : decode prog_6_method_33_code 62 = .ok (.isub, 1) := by decide +kernel
theorem d_MD_inner_63 : decode prog_6_method_33_code 63 = .ok (.iaload, 1) := by decide +kernel
theorem d_MD_inner_64 : decode prog_6_method_33_code 64 = .ok (.iload_n 1, 1) := by decide +kernel
theorem d_MD_inner_65 : decode prog_6_method_33_code 65 = .ok (.ishl, 1) := by decide +kernel
theorem d_MD_inner_66 : decode prog_6_method_33_code 66 = .ok (.ixor, 1) := by decide +kernel
theorem d_MD_inner_67 : decode prog_6_method_33_code 67 = .ok (.iastore, 1) := by decide +kernel
theorem d_MD_inner_68 : decode prog_6_method_33_code 68 = .ok (.iconst 1, 1) := by decide +kernel
theorem d_MD_inner_69 : decode prog_6_method_33_code 69 = .ok (.istore 4, 2) := by decide +kernel
theorem d_MD_inner_71 : decode prog_6_method_33_code 71 = .ok (.iload 4, 2) := by decide +kernel
theorem d_MD_inner_73 : decode prog_6_method_33_code 73 = .ok (.iload_n 1, 1) := by decide +kernel
theorem d_MD_inner_74 : decode prog_6_method_33_code 74 = .ok (.if_icmp .ge 61, 3) := by decide +kernel
theorem d_MD_inner_77 : decode prog_6_method_33_code 77 = .ok (.iload_n 2, 1) := by decide +kernel
theorem d_MD_inner_78 : decode prog_6_method_33_code 78 = .ok (.iload_n 1, 1) := by decide +kernel
theorem d_MD_inner_79 : decode prog_6_method_33_code 79 = .ok (.iconst 1, 1) := by decide +kernel
theorem d_MD_inner_80 : decode prog_6_method_33_code 80 = .ok (.isub, 1) := by decide +kernel
theorem d_MD_inner_81 : decode prog_6_method_33_code 81 = .ok (.iload 4, 2) := by decide +kernel
theorem d_MD_inner_83 : decode prog_6_method_33_code 83 = .ok (.isub, 1) := by decide +kernel
theorem d_MD_inner_84 : decode prog_6_method_33_code 84 = .ok (.ishr, 1) := by decide +kernel
theorem d_MD_inner_85 : decode prog_6_method_33_code 85 = .ok (.iconst 1, 1) := by decide +kernel
theorem d_MD_inner_86 : decode prog_6_method_33_code 86 = .ok (.iand, 1) := by decide +kernel
theorem d_MD_inner_87 : decode prog_6_method_33_code 87 = .ok (.istore 5, 2) := by decide +kernel
theorem d_MD_inner_89 : decode prog_6_method_33_code 89 = .ok (.aload_n 0, 1) := by decide +kernel
theorem d_MD_inner_90 : decode prog_6_method_33_code 90 = .ok (.getfield 26, 3) := by decide +kernel
theorem d_MD_inner_93 : decode prog_6_method_33_code 93 = .ok (.iload_n 3, 1) := by decide +kernel
theorem d_MD_inner_94 : decode prog_6_method_33_code 94 = .ok (.iload 5, 2) := by decide +kernel
theorem d_MD_inner_96 : decode prog_6_method_33_code 96 = .ok (.iconst 1, 1) := by decide +kernel
theorem d_MD_inner_97 : decode prog_6_method_33_code 97 = .ok (.if_icmp .ne 25, 3) := by decide +kernel
theorem d_MD_inner_100 : decode prog_6_method_33_code 100 = .ok (.aload_n 0, 1) := by decide +kernel
theorem d_MD_inner_101 : decode prog_6_method_33_code 101 = .ok (.getfield 26, 3) := by decide +kernel
theorem d_MD_inner_104 : decode prog_6_method_33_code 104 = .ok (.iload_n 3, 1) := by decide +kernel
theorem d_MD_inner_105 : decode prog_6_method_33_code 105 = .ok (.iaload, 1) := by decide +kernel
theorem d_MD_inner_106 : decode prog_6_method_33_code 106 = .ok (.aload_n 0, 1) := by decide +kernel
theorem d_MD_inner_107 : decode prog_6_method_33_code 107 = .ok (.getfield 26, 3) := by decide +kernel
theorem d_MD_inner_110 : decode prog_6_method_33_code 110 = .ok (.iload_n 3, 1) := by decide +kernel
theorem d_MD_inner_111 : decode prog_6_method_33_code 111 = .ok (.iload 4, 2) := by decide +kernel
theorem d_MD_inner_113 : decode prog_6_method_33_code 113 = .ok (.isub, 1) := by decide +kernel
theorem d_MD_inner_114 : decode prog_6_method_33_code 114 = .ok (.iaload, 1) := by decide +kernel
theorem d_MD_inner_115 : decode prog_6_method_33_code 115 = .ok (.iload 4, 2) := by decide +kernel
theorem d_MD_inner_117 : decode prog_6_method_33_code 117 = .ok (.ishl, 1) := by decide +kernel
theorem d_MD_inner_118 : decode prog_6_method_33_code 118 = .ok (.ixor, 1) := by decide +kernel
theorem d_MD_inner_119 : decode prog_6_method_33_code 119 = .ok (.goto 9, 3) := by decide +kernel
theorem d_MD_inner_122 : decode prog_6_method_33_code 122 = .ok (.aload_n 0, 1) := by decide +kernel
theorem d_MD_inner_123 : decode prog_6_method_33_code 123 = .ok (.getfield 26, 3) := by decide +kernel
theorem d_MD_inner_126 : decode prog_6_method_33_code 126 = .ok (.iload_n 3, 1) := by decide +kernel
theorem d_MD_inner_127 : decode prog_6_method_33_code 127 = .ok (.iaload, 1) := by decide +kernel
theorem d_MD_inner_128 : decode prog_6_method_33_code 128 = .ok (.iastore, 1) := by decide +kernel
theorem d_MD_inner_129 : decode prog_6_method_33_code 129 = .ok (.iinc 4 1, 3) := by decide +kernel
theorem d_MD_inner_132 : decode prog_6_method_33_code 132 = .ok (.goto (-61), 3) := by decide +kernel
theorem d_MD_inner_135 : decode prog_6_method_33_code 135 = .ok (.iinc 3 1, 3) := by decide +kernel
theorem d_MD_inner_138 : decode prog_6_method_33_code 138 = .ok (.goto (-125), 3) := by decide +kernel
theorem d_MD_inner_141 : decode prog_6_method_33_code 141 = .ok (.return_, 1) := by decide +kernel
theorem d_MD_weigh_0 : decode prog_6_method_36_code 0 = .ok (.iload_n 1, 1) := by decide +kernel
theorem d_MD_weigh_1 : decode prog_6_method_36_code 1 = .ok (.ifCond .lt 19, 3) := by decide +kernel
theorem d_MD_weigh_4 : decode prog_6_method_36_code 4 = .ok (.iload_n 1, 1) := by decide +kernel
theorem d_MD_weigh_5 : decode prog_6_method_36_code 5 = .ok (.bipush 15, 2) := by decide +kernel
theorem d_MD_weigh_7 : decode prog_6_method_36_code 7 = .ok (.if_icmp .gt 13, 3) := by decide +kernel
theorem d_MD_weigh_10 : decode prog_6_method_36_code 10 = .ok (.iload_n 2, 1) := by decide +kernel
theorem d_MD_weigh_11 : decode prog_6_method_36_code 11 = .ok (.ifCond .lt 9, 3) := by decide +kernel
theorem d_MD_weigh_14 : decode prog_6_method_36_code 14 = .ok (.iload_n 2, 1) := by decide +kernel
theorem d_MD_weigh_15 : decode prog_6_method_36_code 15 = .ok (.ldc 155, 2) := by decide +kernel
theorem d_MD_weigh_17 : decode prog_6_method_36_code 17 = .ok (.if_icmp .le 5, 3) := by decide +kernel
theorem d_MD_weigh_20 : decode prog_6_method_36_code 20 = .ok (.iconst 0, 1) := by decide +kernel
theorem d_MD_weigh_21 : decode prog_6_method_36_code 21 = .ok (.ireturn, 1) := by decide +kernel
theorem d_MD_weigh_22 : decode prog_6_method_36_code 22 = .ok (.aload_n 0, 1) := by decide +kernel
theorem d_MD_weigh_23 : decode prog_6_method_36_code 23 = .ok (.getfield 29, 3) := by decide +kernel
theorem d_MD_weigh_26 : decode prog_6_method_36_code 26 = .ok (.iload_n 1, 1) := by decide +kernel
theorem d_MD_weigh_27 : decode prog_6_method_36_code 27 = .ok (.iload_n 2, 1) := by decide +kernel
theorem d_MD_weigh_28 : decode prog_6_method_36_code 28 = .ok (.iastore, 1) := by decide +kernel
theorem d_MD_weigh_29 : decode prog_6_method_36_code 29 = .ok (.iconst 1, 1) := by decide +kernel
theorem d_MD_weigh_30 : decode prog_6_method_36_code 30 = .ok (.ireturn, 1) := by decide +kernel
theorem d_MD_pick_0 : decode prog_6_method_37_code 0 = .ok (.iconst 0, 1) := by decide +kernel
theorem d_MD_pick_1 : decode prog_6_method_37_code 1 = .ok (.istore_n 2, 1) := by decide +kernel
theorem d_MD_pick_2 : decode prog_6_method_37_code 2 = .ok (.iconst 0, 1) := by decide +kernel
theorem d_MD_pick_3 : decode prog_6_method_37_code 3 = .ok (.istore_n 3, 1) := by decide +kernel
theorem d_MD_pick_4 : decode prog_6_method_37_code 4 = .ok (.iload_n 3, 1) := by decide +kernel
theorem d_MD_pick_5 : decode prog_6_method_37_code 5 = .ok (.bipush 16, 2) := by decide +kernel
theorem d_MD_pick_7 : decode prog_6_method_37_code 7 = .ok (.if_icmp .ge 18, 3) := by decide +kernel
theorem d_MD_pick_10 : decode prog_6_method_37_code 10 = .ok (.iload_n 2, 1) := by decide +kernel
theorem d_MD_pick_11 : decode prog_6_method_37_code 11 = .ok (.aload_n 0, 1) := by decide +kernel
theorem d_MD_pick_12 : decode prog_6_method_37_code 12 = .ok (.getfield 29, 3) := by decide +kernel
theorem d_MD_pick_15 : decode prog_6_method_37_code 15 = .ok (.iload_n 3, 1) := by decide +kernel
theorem d_MD_pick_16 : decode prog_6_method_37_code 16 = .ok (.iaload, 1) := by decide +kernel
theorem d_MD_pick_17 : decode prog_6_method_37_code 17 = .ok (.iadd, 1) := by decide +kernel
theorem d_MD_pick_18 : decode prog_6_method_37_code 18 = .ok (.istore_n 2, 1) := by decide +kernel
theorem d_MD_pick_19 : decode prog_6_method_37_code 19 = .ok (.iinc 3 1, 3) := by decide +kernel
theorem d_MD_pick_22 : decode prog_6_method_37_code 22 = .ok (.goto (-18), 3) := by decide +kernel
theorem d_MD_pick_25 : decode prog_6_method_37_code 25 = .ok (.aload_n 0, 1) := by decide +kernel
theorem d_MD_pick_26 : decode prog_6_method_37_code 26 = .ok (.iload_n 1, 1) := by decide +kernel
theorem d_MD_pick_27 : decode prog_6_method_37_code 27 = .ok (.invokevirtual 109, 3) := by decide +kernel
theorem d_MD_pick_30 : decode prog_6_method_37_code 30 = .ok (.ifCond .eq 7, 3) := by decide +kernel
theorem d_MD_pick_33 : decode prog_6_method_37_code 33 = .ok (.iload_n 2, 1) := by decide +kernel
theorem d_MD_pick_34 : decode prog_6_method_37_code 34 = .ok (.ifCond .ne 5, 3) := by decide +kernel
theorem d_MD_pick_37 : decode prog_6_method_37_code 37 = .ok (.iconst (-1), 1) := by decide +kernel
theorem d_MD_pick_38 : decode prog_6_method_37_code 38 = .ok (.ireturn, 1) := by decide +kernel
theorem d_MD_pick_39 : decode prog_6_method_37_code 39 = .ok (.aload_n 0, 1) := by decide +kernel
theorem d_MD_pick_40 : decode prog_6_method_37_code 40 = .ok (.iload_n 1, 1) := by decide +kernel
theorem d_MD_pick_41 : decode prog_6_method_37_code 41 = .ok (.iload_n 2, 1) := by decide +kernel
theorem d_MD_pick_42 : decode prog_6_method_37_code 42 = .ok (.invokevirtual 120, 3) := by decide +kernel
theorem d_MD_pick_45 : decode prog_6_method_37_code 45 = .ok (.istore_n 3, 1) := by decide +kernel
theorem d_MD_pick_46 : decode prog_6_method_37_code 46 = .ok (.iconst 0, 1) := by decide +kernel
theorem d_MD_pick_47 : decode prog_6_method_37_code 47 = .ok (.istore 4, 2) := by decide +kernel
theorem d_MD_pick_49 : decode prog_6_method_37_code 49 = .ok (.iload 4, 2) := by decide +kernel
theorem d_MD_pick_51 : decode prog_6_method_37_code 51 = .ok (.bipush 16, 2) := by decide +kernel
theorem d_MD_pick_53 : decode prog_6_method_37_code 53 = .ok (.if_icmp .ge 33, 3) := by decide +kernel
theorem d_MD_pick_56 : decode prog_6_method_37_code 56 = .ok (.iload_n 3, 1) := by decide +kernel
theorem d_MD_pick_57 : decode prog_6_method_37_code 57 = .ok (.aload_n 0, 1) := by decide +kernel
theorem d_MD_pick_58 : decode prog_6_method_37_code 58 = .ok (.getfield 29, 3) := by decide +kernel
theorem d_MD_pick_61 : decode prog_6_method_37_code 61 = .ok (.iload 4, 2) := by decide +kernel
theorem d_MD_pick_63 : decode prog_6_method_37_code 63 = .ok (.iaload, 1) := by decide +kernel
theorem d_MD_pick_64 : decode prog_6_method_37_code 64 = .ok (.if_icmp .ge 6, 3) := by decide +kernel
theorem d_MD_pick_67 : decode prog_6_method_37_code 67 = .ok (.iload 4, 2) := by decide +kernel
theorem d_MD_pick_69 : decode prog_6_method_37_code 69 = .ok (.ireturn, 1) := by decide +kernel
theorem d_MD_pick_70 : decode prog_6_method_37_code 70 = .ok (.iload_n 3, 1) := by decide +kernel
theorem d_MD_pick_71 : decode prog_6_method_37_code 71 = .ok (.aload_n 0, 1) := by decide +kernel
theorem d_MD_pick_72 : decode prog_6_method_37_code 72 = .ok (.getfield 29, 3) := by decide +kernel
theorem d_MD_pick_75 : decode prog_6_method_37_code 75 = .ok (.iload 4, 2) := by decide +kernel
theorem d_MD_pick_77 : decode prog_6_method_37_code 77 = .ok (.iaload, 1) := by decide +kernel
theorem d_MD_pick_78 : decode prog_6_method_37_code 78 = .ok (.isub, 1) := by decide +kernel
theorem d_MD_pick_79 : decode prog_6_method_37_code 79 = .ok (.istore_n 3, 1) := by decide +kernel
theorem d_MD_pick_80 : decode prog_6_method_37_code 80 = .ok (.iinc 4 1, 3) := by decide +kernel
theorem d_MD_pick_83 : decode prog_6_method_37_code 83 = .ok (.goto (-34), 3) := by decide +kernel
theorem d_MD_pick_86 : decode prog_6_method_37_code 86 = .ok (.iconst (-1), 1) := by decide +kernel
theorem d_MD_pick_87 : decode prog_6_method_37_code 87 = .ok (.ireturn, 1) := by decide +kernel
theorem d_MD_shuffle_0 : decode prog_6_method_38_code 0 = .ok (.aload_n 0, 1) := by decide +kernel
theorem d_MD_shuffle_1 : decode prog_6_method_38_code 1 = .ok (.iload_n 1, 1) := by decide +kernel
theorem d_MD_shuffle_2 : decode prog_6_method_38_code 2 = .ok (.invokevirtual 109, 3) := by decide +kernel
theorem d_MD_shuffle_5 : decode prog_6_method_38_code 5 = .ok (.ifCond .ne 5, 3) := by decide +kernel
theorem d_MD_shuffle_8 : decode prog_6_method_38_code 8 = .ok (.iconst 0, 1) := by decide +kernel
theorem d_MD_shuffle_9 : decode prog_6_method_38_code 9 = .ok (.ireturn, 1) := by decide +kernel
theorem d_MD_shuffle_10 : decode prog_6_method_38_code 10 = .ok (.bipush 15, 2) := by decide +kernel
theorem d_MD_shuffle_12 : decode prog_6_method_38_code 12 = .ok (.istore_n 2, 1) := by decide +kernel
theorem d_MD_shuffle_13 : decode prog_6_method_38_code 13 = .ok (.iload_n 2, 1) := by decide +kernel
theorem d_MD_shuffle_14 : decode prog_6_method_38_code 14 = .ok (.iconst 1, 1) := by decide +kernel
theorem d_MD_shuffle_15 : decode prog_6_method_38_code 15 = .ok (.if_icmp .lt 46, 3) := by decide +kernel
theorem d_MD_shuffle_18 : decode prog_6_method_38_code 18 = .ok (.aload_n 0, 1) := by decide +kernel
theorem d_MD_shuffle_19 : decode prog_6_method_38_code 19 = .ok (.iload_n 1, 1) := by decide +kernel
theorem d_MD_shuffle_20 : decode prog_6_method_38_code 20 = .ok (.iload_n 2, 1) := by decide +kernel
theorem d_MD_shuffle_21 : decode prog_6_method_38_code 21 = .ok (.iconst 1, 1) := by decide +kernel
theorem d_MD_shuffle_22 : decode prog_6_method_38_code 22 = .ok (.iadd, 1) := by decide +kernel
theorem d_MD_shuffle_23 : decode prog_6_method_38_code 23 = .ok (.invokevirtual 120, 3) := by decide +kernel
theorem d_MD_shuffle_26 : decode prog_6_method_38_code 26 = .ok (.istore_n 3, 1) := by decide +kernel
theorem d_MD_shuffle_27 : decode prog_6_method_38_code 27 = .ok (.aload_n 0, 1) := by decide +kernel
theorem d_MD_shuffle_28 : decode prog_6_method_38_code 28 = .ok (.getfield 32, 3) := by decide +kernel
theorem d_MD_shuffle_31 : decode prog_6_method_38_code 31 = .ok (.iload_n 2, 1) := by decide +kernel
theorem d_MD_shuffle_32 : decode prog_6_method_38_code 32 = .ok (.iaload, 1) := by decide +kernel
theorem d_MD_shuffle_33 : decode prog_6_method_38_code 33 = .ok (.istore 4, 2) := by decide +kernel
theorem d_MD_shuffle_35 : decode prog_6_method_38_code 35 = .ok (.aload_n 0, 1) := by decide +kernel
theorem d_MD_shuffle_36 : decode prog_6_method_38_code 36 = .ok (.getfield 32, 3) := by decide +kernel
theorem d_MD_shuffle_39 : decode prog_6_method_38_code 39 = .ok (.iload_n 2, 1) := by decide +kernel
theorem d_MD_shuffle_40 : decode prog_6_method_38_code 40 = .ok (.aload_n 0, 1) := by decide +kernel
theorem d_MD_shuffle_41 : decode prog_6_method_38_code 41 = .ok (.getfield 32, 3) := by decide +kernel
theorem d_MD_shuffle_44 : decode prog_6_method_38_code 44 = .ok (.iload_n 3, 1) := by decide +kernel
theorem d_MD_shuffle_45 : decode prog_6_method_38_code 45 = .ok (.iaload, 1) := by decide +kernel
theorem d_MD_shuffle_46 : decode prog_6_method_38_code 46 = .ok (.iastore, 1) := by decide +kernel
theorem d_MD_shuffle_47 : decode prog_6_method_38_code 47 = .ok (.aload_n 0, 1) := by decide +kernel
theorem d_MD_shuffle_48 : decode prog_6_method_38_code 48 = .ok (.getfield 32, 3) := by decide +kernel
theorem d_MD_shuffle_51 : decode prog_6_method_38_code 51 = .ok (.iload_n 3, 1) := by decide +kernel
theorem d_MD_shuffle_52 : decode prog_6_method_38_code 52 = .ok (.iload 4, 2) := by decide +kernel
theorem d_MD_shuffle_54 : decode prog_6_method_38_code 54 = .ok (.iastore, 1) := by decide +kernel
theorem d_MD_shuffle_55 : decode prog_6_method_38_code 55 = .ok (.iinc 2 (-1), 3) := by decide +kernel
theorem d_MD_shuffle_58 : decode prog_6_method_38_code 58 = .ok (.goto (-45), 3) := by decide +kernel
theorem d_MD_shuffle_61 : decode prog_6_method_38_code 61 = .ok (.iconst 1, 1) := by decide +kernel
theorem d_MD_shuffle_62 : decode prog_6_method_38_code 62 = .ok (.ireturn, 1) := by decide +kernel
theorem d_MD_card_0 : decode prog_6_method_39_code 0 = .ok (.iload_n 1, 1) := by decide +kernel
theorem d_MD_card_1 : decode prog_6_method_39_code 1 = .ok (.ifCond .lt 9, 3) := by decide +kernel
theorem d_MD_card_4 : decode prog_6_method_39_code 4 = .ok (.iload_n 1, 1) := by decide +kernel
theorem d_MD_card_5 : decode prog_6_method_39_code 5 = .ok (.bipush 15, 2) := by decide +kernel
theorem d_MD_card_7 : decode prog_6_method_39_code 7 = .ok (.if_icmp .le 7, 3) := by decide +kernel
theorem d_MD_card_10 : decode prog_6_method_39_code 10 = .ok (.iconst (-1), 1) := by decide +kernel
theorem d_MD_card_11 : decode prog_6_method_39_code 11 = .ok (.goto 9, 3) := by decide +kernel
theorem d_MD_card_14 : decode prog_6_method_39_code 14 = .ok (.aload_n 0, 1) := by decide +kernel
theorem d_MD_card_15 : decode prog_6_method_39_code 15 = .ok (.getfield 32, 3) := by decide +kernel
theorem d_MD_card_18 : decode prog_6_method_39_code 18 = .ok (.iload_n 1, 1) := by decide +kernel
theorem d_MD_card_19 : decode prog_6_method_39_code 19 = .ok (.iaload, 1) := by decide +kernel
theorem d_MD_card_20 : decode prog_6_method_39_code 20 = .ok (.ireturn, 1) := by decide +kernel
end
section
/-! My own rows over the kit: one list of words for every method, one picture of the world that is handed whole to every callee and comes back whole, calls and ends in one row each. -/
abbrev wC (y : MethodName) (bytes : ByteArray) (maxL : Nat) (ret : Option FieldType) : List Cond := Cond.code y bytes maxL ret :: tsW
theorem gi_tsW {y : MethodName} {bytes : ByteArray} {maxL : Nat} {ret : Option FieldType} (h : Cond.code y bytes maxL ret ∈ tsW) : GoodIn tsW (wC y bytes maxL ret) := by
  intro w hw
  rcases List.mem_cons.mp hw with rfl | hw
  · exact ⟨h, good_of_word (ts_good h)⟩
  · exact ⟨hw, good_of_word (ts_good hw)⟩
/-- nest mates' words, and arrays over the two classes: kept by hand -/
def nwB : Cond → Bool
  | .fieldLinkNest .. => true
  | .methodLinkNest .. => true
  | _ => false
def nwOk (U : State) : Prop := (∀ w ∈ lw_tbl, nwB w = true → va_Nw w U) ∧ va_AO "NumberStreams$Stream" U ∧ va_AO "NumberStreams$Saved" U
theorem nwOk.warm {s U : State} (h : nwOk s) (hW : s.WarmedH U.vm) : nwOk U := by
  refine ⟨fun w hw hb => ?_, h.2.1.moved hW.alike, h.2.2.moved hW.alike⟩
  have hz := h.1 w hw hb
  cases w <;> first | (simp [nwB] at hb; done) | exact va_Nw.warmF hW hz | exact va_Nw.warmM hW hz
theorem nwOk.calling {U : State} (h : nwOk U) (g : JFrame) (mk : MethodId) (a : Array Value) : nwOk (U.calling g mk a) := by
  refine ⟨fun w hw hb => ?_, h.2.1.moved (u := U) (U := U.calling g mk a) (Vm.Alike.refl U.vm), h.2.2.moved (u := U) (U := U.calling g mk a) (Vm.Alike.refl U.vm)⟩
  have hz := h.1 w hw hb
  cases w <;> first | (simp [nwB] at hb; done) | exact va_Nw.same rfl rfl hz
/-- the array classes: int, long, Stream, Saved, int[] -/
abbrev tyA (K : Nat → ClassId) : List (ClassId × FieldType) := [(K 0, .int), (K 1, .long), (K 2, .object "NumberStreams$Stream"), (K 3, .object "NumberStreams$Saved"), (K 4, .array .int)]
/-- the start of every contract, its end, a method's fixed surroundings, the world as it stands -/
def pW (D : va_G) (K : Nat → ClassId) (A : Nat → Prop) (wl : va_W) (U : State) : Prop := va_P D vwCl wl U.heap ∧ va_K D vwCl (tyA K) U ∧ nwOk U ∧ va_D A wl ∧ ∀ q : Nat, U.heap.size ≤ q → A q
def pE (D : va_G) (A : Nat → Prop) (wl : va_W) (t : State) : Prop := va_P D vwCl wl t.heap ∧ va_D A wl
def cX (p : Program) (s : State) (m : MethodId) (args : Array Value) (meth : Method) (c : Code) (cc : ByteArray) (nL : Nat) (own nm : String) (ret : Option FieldType) (D : va_G) (K : Nat → ClassId) (A : Nat → Prop) : Prop :=
  p.tables.exec = Jvm.exec ∧ c.code = cc ∧ c.maxLocals = nL ∧ s.vm.findClass own = some m.cls ∧ (∀ w ∈ tsW, w.before args s = true) ∧ meth.sig.returnType = ret ∧ meth.locks = false ∧ meth.name = nm ∧ va_K D vwCl (tyA K) s ∧ nwOk s ∧ ∀ q : Nat, s.heap.size ≤ q → A q
def wd (D : va_G) (A : Nat → Prop) (wl : va_W) (s : State) (H : Heap) (locs : List Loc) : Prop := va_P D vwCl wl H ∧ va_D A wl ∧ va_S A s.heap H locs
theorem pW_blind {vs : List Value} {D : va_G} {K : Nat → ClassId} {A : Nat → Prop} {wl : va_W} : FrameBlind (va_Pc vs (pW D K A wl)) := fun a U g mk q => by
  obtain ⟨q0, qP, qK, qN, qD, qA⟩ := q
  exact ⟨q0, qP, va_K.moved (u := U) (U := U.calling g mk a) (Vm.Alike.refl U.vm) qK, qN.calling g mk a, qD, qA⟩
/-- a room: d frames below, mc cells of ms slots -/
abbrev rmk (d mc ms : Nat) : Room := { frames := d, cells := mc, slots := ms, locals := 40 * d }
/-- the contracts' forms: int (and boolean), long, void, a reference or null -/
abbrev ctI (l : Launch) (y : MethodName) (bytes : ByteArray) (maxL : Nat) (ret : Option FieldType) (d mc ms : Nat) (vs : List Value) (D : va_G) (K : Nat → ClassId) (A : Nat → Prop) (wl : va_W) (post : Int32 → va_W → Prop) : Prop :=
  Met l y (wC y bytes maxL ret) (rmk d mc ms) (va_Pc vs (pW D K A wl)) (va_Qi post (pE D A) A) mc ms A
abbrev ctL (l : Launch) (y : MethodName) (bytes : ByteArray) (maxL : Nat) (d mc ms : Nat) (vs : List Value) (D : va_G) (K : Nat → ClassId) (A : Nat → Prop) (wl : va_W) (post : Int64 → va_W → Prop) : Prop :=
  Met l y (wC y bytes maxL (some .long)) (rmk d mc ms) (va_Pc vs (pW D K A wl)) (va_Ql post (pE D A) A) mc ms A
abbrev ctV (l : Launch) (y : MethodName) (bytes : ByteArray) (maxL : Nat) (d mc ms : Nat) (vs : List Value) (D : va_G) (K : Nat → ClassId) (A : Nat → Prop) (wl : va_W) (post : va_W → Prop) : Prop :=
  Met l y (wC y bytes maxL none) (rmk d mc ms) (va_Pc vs (pW D K A wl)) (va_Qv post (pE D A) A) mc ms A
abbrev ctQ (l : Launch) (y : MethodName) (bytes : ByteArray) (maxL : Nat) (ret : Option FieldType) (d mc ms : Nat) (vs : List Value) (D : va_G) (K : Nat → ClassId) (A : Nat → Prop) (wl : va_W) (post : Option Nat → va_W → Prop) : Prop :=
  Met l y (wC y bytes maxL ret) (rmk d mc ms) (va_Pc vs (pW D K A wl)) (va_Qq post (pE D A) A) mc ms A
/-- a contract out of a walk -/
theorem mt_of {l : Launch} {y : MethodName} {cc : ByteArray} {maxL : Nat} {ret : Option FieldType} {rm : Room} {vs : List Value} {D : va_G} {K : Nat → ClassId} {A : Nat → Prop} {wl : va_W} {Qc : Array Value → State → Outcome → State → Prop} {mc ms : Nat} (hy : plainName y.cls = true) (hlen : (lg_sl vs).length ≤ maxL)
    (body : ∀ (p : Program) (e : Env) (s : State) (m : MethodId) (below : List Frame) (meth : Method) (c : Code) (ls : Array Slot), cX p s m vs.toArray meth c cc maxL y.cls y.name ret D K A → wd D A wl s s.heap [] → lv_has ls maxL (lv_args 0 vs) →
      W p l e rm s m vs.toArray below meth c s.heap [] 0 0 (MQ below Qc vs.toArray s mc ms A) (F0 m 0 ls [])) :
    Met l y (wC y cc maxL ret) rm (va_Pc vs (pW D K A wl)) Qc mc ms A := by
  refine Met.ofW (cc := cc) (maxL := maxL) (ret := ret) hy rfl ?_
  intro p e s m args below meth c s₁ B hml hv
  obtain ⟨rfl, hP, hK, hN, hD, hA⟩ := hv
  have hts := atoms_spec (ws := wC y cc maxL ret) B.pre
  rw [lg_entry_eq]
  exact body p e s m below meth c _ ⟨B.exec, B.bytes, hml, findClass_of_methodNamed B.named, fun w h => hts w (List.mem_cons_of_mem _ h), B.returns, B.notSynchronized, (name_of_methodNamed B.named B.method).1, hK, hN, hA⟩ ⟨hP, hD, va_S.rf⟩ (lv_entry vs hlen)
/-- a call's words -/
abbrev cfB (y : MethodName) (bytes : ByteArray) (maxL : Nat) (ret : Option FieldType) (n : Nat) : Prop := Cond.code y bytes maxL ret ∈ tsW ∧ Cond.initialized y.cls ∈ tsW ∧ y.cls ≠ "java/lang/invoke/MethodHandle" ∧ y.cls ≠ "java/lang/invoke/VarHandle" ∧ (parseMethodDescriptor y.desc).map (fun d => d.parameters.length) = some n
abbrev cfS (own : String) (index : Nat) (y : MethodName) (bytes : ByteArray) (maxL : Nat) (ret : Option FieldType) (n : Nat) : Prop := cfB y bytes maxL ret n ∧ Cond.methodLink own index y ∈ tsW ∧ Cond.static y ∈ tsW
abbrev cfN (own : String) (index : Nat) (y : MethodName) (host : String) (bytes : ByteArray) (maxL : Nat) (ret : Option FieldType) (n : Nat) : Prop := cfB y bytes maxL ret n ∧ Cond.methodLinkNest own index y host ∈ lw_tbl ∧ Cond.static y ∈ tsW
abbrev cfV (own : String) (index : Nat) (y : MethodName) (bytes : ByteArray) (maxL : Nat) (ret : Option FieldType) (n : Nat) : Prop := cfB y bytes maxL ret n ∧ Cond.methodLink own index y ∈ tsW ∧ Cond.instanceMethod y ∈ tsW ∧ Cond.selects y.cls y y ∈ tsW
abbrev cfI (own : String) (index : Nat) (y : MethodName) (bytes : ByteArray) (maxL : Nat) (n : Nat) : Prop := cfB y bytes maxL none n ∧ Cond.methodLink own index y ∈ tsW ∧ Cond.instanceMethod y ∈ tsW ∧ y.name = "<init>"
section WALK
variable {p : Program} {l : Launch} {e : Env} {R : Room} {s : State} {m : MethodId} {args : Array Value} {below : List Frame} {meth : Method} {c : Code} {H : Heap} {locs : List Loc} {cells slots : Nat} {Q : State → Prop}
variable {cc : ByteArray} {nL pc index : Nat} {own nm : String} {ret0 : Option FieldType} {D : va_G} {K : Nat → ClassId} {A : Nat → Prop} {wl : va_W} {ls : Array Slot} {rest st : List Value}
variable {y : MethodName} {bytes : ByteArray} {maxL n mc ms : Nat} {ret : Option FieldType} {rm : Room} {As : List Value} {Qc : Array Value → State → Outcome → State → Prop}
theorem k_pre (B : cX p s m args meth c cc nL own nm ret0 D K A) (hw : wd D A wl s H locs) : PreS s H (va_Pc As (pW D K A wl)) As := ⟨pW_blind, fun U hU hW => ⟨rfl, by rw [hU]; exact hw.1, va_K.moved hW.alike B.2.2.2.2.2.2.2.2.1, B.2.2.2.2.2.2.2.2.2.1.warm hW, hw.2.1, fun q h => B.2.2.2.2.2.2.2.2.2.2 q (Nat.le_trans hw.2.2.1 (by rw [← hU]; exact h))⟩⟩
theorem k_runS (B : cX p s m args meth c cc nL own nm ret0 D K A) (hw : wd D A wl s H locs) (hM : Met l y (wC y bytes maxL ret) rm (va_Pc As (pW D K A wl)) Qc mc ms A) (hrc : rm.cells = mc) (hrs : rm.slots = ms) (cf : cfS own index y bytes maxL ret n) (hR : rm.frames + 1 ≤ R.frames ∧ 8 + (maxL + 11) + rm.locals ≤ R.locals) (hn : As.length = n) (hl : ls.size = nL) (hst : st = As.reverse ++ rest) (hW : (rest.map fun v => v.category).sum ≤ 8) (hdg : decode cc pc = .ok (.invokestatic index, 3)) (hf : cells + mc ≤ R.cells ∧ slots + ms ≤ R.slots) :
    va_Run p l e R s m args below meth c H locs cells slots mc ms (F0 m pc ls st) rest (Qc As.toArray) A :=
  va_runS (Ts := tsW) ⟨B.1, B.2.1, B.2.2.1, B.2.2.2.1, B.2.2.2.2.1⟩ hM ⟨callB_of n B.2.2.2.2.1 (gi_tsW cf.1.1) rfl hrc hrs (B.2.2.2.2.1 _ cf.1.2.1) (B.2.2.2.2.1 _ cf.2.1) cf.1.2.2 hR, B.2.2.2.2.1 _ cf.2.2⟩ (k_pre B hw) rfl hn hl hst (lv_room hW) hdg hf
theorem k_runN {host : String} (B : cX p s m args meth c cc nL own nm ret0 D K A) (hw : wd D A wl s H locs) (hM : Met l y (wC y bytes maxL ret) rm (va_Pc As (pW D K A wl)) Qc mc ms A) (hrc : rm.cells = mc) (hrs : rm.slots = ms) (cf : cfN own index y host bytes maxL ret n) (hR : rm.frames + 1 ≤ R.frames ∧ 8 + (maxL + 11) + rm.locals ≤ R.locals) (hn : As.length = n) (hl : ls.size = nL) (hst : st = As.reverse ++ rest) (hW : (rest.map fun v => v.category).sum ≤ 8) (hdg : decode cc pc = .ok (.invokestatic index, 3)) (hf : cells + mc ≤ R.cells ∧ slots + ms ≤ R.slots) :
    va_Run p l e R s m args below meth c H locs cells slots mc ms (F0 m pc ls st) rest (Qc As.toArray) A :=
  va_runSN (Ts := tsW) ⟨B.1, B.2.1, B.2.2.1, B.2.2.2.1, B.2.2.2.2.1⟩ hM ⟨va_cnB n B.2.2.2.2.1 (gi_tsW cf.1.1) rfl hrc hrs (B.2.2.2.2.2.2.2.2.2.1.1 _ cf.2.1 rfl) (B.2.2.2.2.1 _ cf.1.2.1) cf.1.2.2 hR, B.2.2.2.2.1 _ cf.2.2, trivial⟩ (k_pre B hw) rfl hn hl hst (lv_room hW) hdg hf
theorem k_runV {a q0 ci : Nat} {fs : List Value} {r : vw_C} (B : cX p s m args meth c cc nL own nm ret0 D K A) (hw : wd D A wl s H locs) (hM : Met l y (wC y bytes maxL ret) rm (va_Pc (.ref a :: As) (pW D K A wl)) Qc mc ms A) (hrc : rm.cells = mc) (hrs : rm.slots = ms) (cf : cfV own index y bytes maxL ret n) (he : wl[q0]? = some (a, .inr (ci, fs))) (hc : vwCl[ci]? = some r) (hrn : r.1 = y.cls) (hR : rm.frames + 1 ≤ R.frames ∧ 8 + (maxL + 11) + rm.locals ≤ R.locals) (hn : As.length = n) (hl : ls.size = nL) (hst : st = As.reverse ++ .ref a :: rest) (hW : (rest.map fun v => v.category).sum ≤ 8) (hdg : decode cc pc = .ok (.invokevirtual index, 3)) (hf : cells + mc ≤ R.cells ∧ slots + ms ≤ R.slots) :
    va_Run p l e R s m args below meth c H locs cells slots mc ms (F0 m pc ls st) rest (Qc (.ref a :: As).toArray) A := by
  have hp := k_pre (As := .ref a :: As) B hw
  exact va_runV (Ts := tsW) (C := y.cls) ⟨B.1, B.2.1, B.2.2.1, B.2.2.2.1, B.2.2.2.2.1⟩ hM ⟨callB_of n B.2.2.2.2.1 (gi_tsW cf.1.1) rfl hrc hrs (B.2.2.2.2.1 _ cf.1.2.1) (B.2.2.2.2.1 _ cf.2.1) cf.1.2.2 hR, B.2.2.2.2.1 _ cf.2.2.1, B.2.2.2.2.1 _ cf.2.2.2⟩ ⟨hp.1, hrn ▸ va_recv B.2.2.2.2.2.2.2.2.1 hw.1 hc he, hp.2⟩ rfl hn hl hst (lv_room hW) hdg hf
theorem k_runI {a : Nat} (B : cX p s m args meth c cc nL own nm ret0 D K A) (hw : wd D A wl s H locs) (hM : Met l y (wC y bytes maxL none) rm (va_Pc (.ref a :: As) (pW D K A wl)) Qc mc ms A) (hrc : rm.cells = mc) (hrs : rm.slots = ms) (cf : cfI own index y bytes maxL n) (hR : rm.frames + 1 ≤ R.frames ∧ 8 + (maxL + 11) + rm.locals ≤ R.locals) (hn : As.length = n) (hl : ls.size = nL) (hst : st = As.reverse ++ .ref a :: rest) (hW : (rest.map fun v => v.category).sum ≤ 8) (hdg : decode cc pc = .ok (.invokespecial index, 3)) (hf : cells + mc ≤ R.cells ∧ slots + ms ≤ R.slots) :
    va_Run p l e R s m args below meth c H locs cells slots mc ms (F0 m pc ls st) rest (Qc (.ref a :: As).toArray) A :=
  va_runI (Ts := tsW) ⟨B.1, B.2.1, B.2.2.1, B.2.2.2.1, B.2.2.2.2.1⟩ hM ⟨callB_of n B.2.2.2.2.1 (gi_tsW cf.1.1) rfl hrc hrs (B.2.2.2.2.1 _ cf.1.2.1) (B.2.2.2.2.1 _ cf.2.1) cf.1.2.2 hR, cf.2.2.2, B.2.2.2.2.1 _ cf.2.2.1⟩ (k_pre B hw) rfl hn hl hst (lv_room hW) hdg hf
/-- behind a call: the answer, and the world that came back -/
theorem k_i {post : Int32 → va_W → Prop} {a : Array Value} (hr : va_Run p l e R s m args below meth c H locs cells slots mc ms (F0 m pc ls st) rest (va_Qi post (pE D A) A a) A) (hw : wd D A wl s H locs)
    (kk : ∀ (r : Int32) (w1 : va_W) (H1 : Heap) (locs1 : List Loc), post r w1 → wd D A w1 s H1 locs1 → W p l e R s m args below meth c H1 locs1 (cells + mc) (slots + ms) Q (F0 m (pc + 3) ls (.int r :: rest))) : W p l e R s m args below meth c H locs cells slots Q (F0 m pc ls st) :=
  va_calli hr hw.2.2 (fun _ _ h => h) (fun _ h => h) (fun r u t H1 locs1 ht _ hp hb _ _ hS => kk r u H1 locs1 hp ⟨by rw [← ht]; exact hb.1, hb.2, hS⟩)
theorem k_l {post : Int64 → va_W → Prop} {a : Array Value} (hr : va_Run p l e R s m args below meth c H locs cells slots mc ms (F0 m pc ls st) rest (va_Ql post (pE D A) A a) A) (hw : wd D A wl s H locs)
    (kk : ∀ (r : Int64) (w1 : va_W) (H1 : Heap) (locs1 : List Loc), post r w1 → wd D A w1 s H1 locs1 → W p l e R s m args below meth c H1 locs1 (cells + mc) (slots + ms) Q (F0 m (pc + 3) ls (.long r :: rest))) : W p l e R s m args below meth c H locs cells slots Q (F0 m pc ls st) :=
  va_calll hr hw.2.2 (fun _ _ h => h) (fun _ h => h) (fun r u t H1 locs1 ht _ hp hb _ _ hS => kk r u H1 locs1 hp ⟨by rw [← ht]; exact hb.1, hb.2, hS⟩)
theorem k_v {post : va_W → Prop} {a : Array Value} (hr : va_Run p l e R s m args below meth c H locs cells slots mc ms (F0 m pc ls st) rest (va_Qv post (pE D A) A a) A) (hw : wd D A wl s H locs)
    (kk : ∀ (w1 : va_W) (H1 : Heap) (locs1 : List Loc), post w1 → wd D A w1 s H1 locs1 → W p l e R s m args below meth c H1 locs1 (cells + mc) (slots + ms) Q (F0 m (pc + 3) ls rest)) : W p l e R s m args below meth c H locs cells slots Q (F0 m pc ls st) :=
  va_callv hr hw.2.2 (fun _ _ h => h) (fun _ h => h) (fun u t H1 locs1 ht _ hp hb _ _ hS => kk u H1 locs1 hp ⟨by rw [← ht]; exact hb.1, hb.2, hS⟩)
theorem k_q {post : Option Nat → va_W → Prop} {a : Array Value} (hr : va_Run p l e R s m args below meth c H locs cells slots mc ms (F0 m pc ls st) rest (va_Qq post (pE D A) A a) A) (hw : wd D A wl s H locs)
    (kk : ∀ (r : Option Nat) (w1 : va_W) (H1 : Heap) (locs1 : List Loc), post r w1 → wd D A w1 s H1 locs1 → W p l e R s m args below meth c H1 locs1 (cells + mc) (slots + ms) Q (F0 m (pc + 3) ls (va_rf r :: rest))) : W p l e R s m args below meth c H locs cells slots Q (F0 m pc ls st) :=
  va_callq hr hw.2.2 (fun _ _ h => h) (fun _ h => h) (fun r u t H1 locs1 ht _ hp hb _ _ hS => kk r u H1 locs1 hp ⟨by rw [← ht]; exact hb.1, hb.2, hS⟩)
/-- the ends -/
theorem r_i {post : Int32 → va_W → Prop} {v : Int32} (B : cX p s m args meth c cc nL own nm (some .int) D K A) (hw : wd D A wl s H locs) (hdg : decode cc pc = .ok (.ireturn, 1)) (hq : post v wl) : W p l e R s m args below meth c H locs cells slots (MQ below (va_Qi post (pE D A) A) args s cells slots A) (F0 m pc ls [.int v]) :=
  W.iret B.1 B.2.1 B.2.2.2.2.2.1 (fun t ht _ => ⟨⟨v, wl, rfl, hq, by rw [ht]; exact hw.1, hw.2.1⟩, hw.2.2.F ht⟩) hw.2.2.2.2 hdg B.2.2.2.2.2.2.1
theorem r_z {post : Int32 → va_W → Prop} {v : Int32} (B : cX p s m args meth c cc nL own nm (some .boolean) D K A) (hw : wd D A wl s H locs) (hv : v = 0 ∨ v = 1) (hdg : decode cc pc = .ok (.ireturn, 1)) (hq : post v wl) : W p l e R s m args below meth c H locs cells slots (MQ below (va_Qi post (pE D A) A) args s cells slots A) (F0 m pc ls [.int v]) :=
  W.zret B.1 B.2.1 B.2.2.2.2.2.1 (by rcases hv with rfl | rfl <;> rfl) (fun t ht _ => ⟨⟨v, wl, rfl, hq, by rw [ht]; exact hw.1, hw.2.1⟩, hw.2.2.F ht⟩) hw.2.2.2.2 hdg B.2.2.2.2.2.2.1
theorem r_l {post : Int64 → va_W → Prop} {v : Int64} (B : cX p s m args meth c cc nL own nm (some .long) D K A) (hw : wd D A wl s H locs) (hdg : decode cc pc = .ok (.lreturn, 1)) (hq : post v wl) : W p l e R s m args below meth c H locs cells slots (MQ below (va_Ql post (pE D A) A) args s cells slots A) (F0 m pc ls [.long v]) :=
  W.lret B.1 B.2.1 B.2.2.2.2.2.1 (fun t ht _ => ⟨⟨v, wl, rfl, hq, by rw [ht]; exact hw.1, hw.2.1⟩, hw.2.2.F ht⟩) hw.2.2.2.2 hdg B.2.2.2.2.2.2.1
theorem r_v {post : va_W → Prop} (B : cX p s m args meth c cc nL own nm none D K A) (hw : wd D A wl s H locs) (hdg : decode cc pc = .ok (.return_, 1)) (hq : post wl) : W p l e R s m args below meth c H locs cells slots (MQ below (va_Qv post (pE D A) A) args s cells slots A) (F0 m pc ls []) :=
  W.vret B.1 B.2.1 B.2.2.2.2.2.1 (fun t ht _ => ⟨⟨wl, rfl, hq, by rw [ht]; exact hw.1, hw.2.1⟩, hw.2.2.F ht⟩) hw.2.2.2.2 hdg B.2.2.2.2.2.2.1
theorem r_q {post : Option Nat → va_W → Prop} {v : Option Nat} {C : String} (B : cX p s m args meth c cc nL own nm (some (.object C)) D K A) (hw : wd D A wl s H locs) (hdg : decode cc pc = .ok (.areturn, 1)) (hq : post v wl) : W p l e R s m args below meth c H locs cells slots (MQ below (va_Qq post (pE D A) A) args s cells slots A) (F0 m pc ls [va_rf v]) :=
  W.aret B.1 B.2.1 B.2.2.2.2.2.1 (Or.inl ⟨C, rfl⟩) (va_rf_or v) (fun t ht _ => ⟨⟨v, wl, rfl, hq, by rw [ht]; exact hw.1, hw.2.1⟩, hw.2.2.F ht⟩) hw.2.2.2.2 hdg B.2.2.2.2.2.2.1
/-- a field's words -/
abbrev fOk (own : String) (index ci : Nat) (C : String) (T : u_T) (N k : Nat) : Prop := vwCl[ci]? = some (C, T, N) ∧ (∀ w ∈ u_ws C T N, w ∈ tsW) ∧ k < N ∧ Cond.fieldLink own index C (T k).2.1 (T k).2.2.1 ∈ tsW ∧ (T k).1 = C
abbrev cOk (T : u_T) (N : Nat) (ty0 : Nat → FieldType) : Prop := (∀ k, k < N → parseFieldDescriptor (T k).2.2.1 = some (ty0 k)) ∧ ∀ a, a < N → ∀ b, b < N → a ≠ b → (T a).2.1 ≠ (T b).2.1
variable {a q0 ci k N : Nat} {C : String} {T : u_T} {fs : List Value} {v : Value} {ty0 : Nat → FieldType}
theorem g_get (B : cX p s m args meth c cc nL own nm ret0 D K A) (hw : wd D A wl s H locs) (hf : fOk own index ci C T N k) (he : wl[q0]? = some (a, .inr (ci, fs))) (hv : fs[k]? = some v) (hdg : decode cc pc = .ok (.getfield index, 3)) (kk : W p l e R s m args below meth c H locs cells slots Q (F0 m (pc + 3) ls (v :: rest))) : W p l e R s m args below meth c H locs cells slots Q (F0 m pc ls (.ref a :: rest)) :=
  va_get B.1 B.2.1 B.2.2.2.2.1 hf.2.1 B.2.2.2.1 B.2.2.2.2.2.2.2.2.1 hw.1 q0 he hf.1 k hf.2.2.1 (B.2.2.2.2.1 _ hf.2.2.2.1) (fun x h => by rw [hf.2.2.2.2] at h; exact h) hv hdg kk
theorem g_put (B : cX p s m args meth c cc nL own nm ret0 D K A) (hw : wd D A wl s H locs) (hf : fOk own index ci C T N k) (hc : cOk T N ty0) (he : wl[q0]? = some (a, .inr (ci, fs))) (hfin : (T k).2.2.2 = false) (hn : narrow (ty0 k) v = v) (hfit : fits (ty0 k) v = true) (hl : k < fs.length) (hdg : decode cc pc = .ok (.putfield index, 3))
    (kk : ∀ (H1 : Heap) (locs1 : List Loc), wd D A (wl.set q0 (a, .inr (ci, fs.set k v))) s H1 locs1 → W p l e R s m args below meth c H1 locs1 cells slots Q (F0 m (pc + 3) ls rest)) : W p l e R s m args below meth c H locs cells slots Q (F0 m pc ls (v :: .ref a :: rest)) :=
  va_put B.1 B.2.1 B.2.2.2.2.1 hf.2.1 ty0 hc.1 hc.2 B.2.2.2.1 B.2.2.2.2.2.2.2.2.1 hw.1 hw.2.1 hw.2.2 q0 he hf.1 k hf.2.2.1 (B.2.2.2.2.1 _ hf.2.2.2.1) (fun x h => by rw [hf.2.2.2.2] at h; exact h) hfin (hc.1 k hf.2.2.1) hn hfit hl hdg (fun H1 locs1 h1 h2 h3 => kk H1 locs1 ⟨h1, h2, h3⟩)
theorem g_putF (B : cX p s m args meth c cc nL own "<init>" ret0 D K A) (hw : wd D A wl s H locs) (hf : fOk own index ci C T N k) (hc : cOk T N ty0) (he : wl[q0]? = some (a, .inr (ci, fs))) (hfin : (T k).2.2.2 = true) (ho : C = own) (hn : narrow (ty0 k) v = v) (hfit : fits (ty0 k) v = true) (hl : k < fs.length) (hdg : decode cc pc = .ok (.putfield index, 3))
    (kk : ∀ (H1 : Heap) (locs1 : List Loc), wd D A (wl.set q0 (a, .inr (ci, fs.set k v))) s H1 locs1 → W p l e R s m args below meth c H1 locs1 cells slots Q (F0 m (pc + 3) ls rest)) : W p l e R s m args below meth c H locs cells slots Q (F0 m pc ls (v :: .ref a :: rest)) :=
  va_putF B.1 B.2.1 B.2.2.2.2.1 hf.2.1 ty0 hc.1 hc.2 B.2.2.2.1 B.2.2.2.2.2.2.2.2.1 hw.1 hw.2.1 hw.2.2 q0 he hf.1 k hf.2.2.1 (B.2.2.2.2.1 _ hf.2.2.2.1) (fun x h => by rw [hf.2.2.2.2] at h; exact h) hfin B.2.2.2.2.2.2.2.1 (hf.2.2.2.2.trans ho) (hc.1 k hf.2.2.1) hn hfit hl hdg (fun H1 locs1 h1 h2 h3 => kk H1 locs1 ⟨h1, h2, h3⟩)
variable {f : Nat → Int32} {fl : Nat → Int64} {fq : Nat → Option Nat} {i x : Int32} {xl : Int64} {n0 : Nat}
theorem g_iald (B : cX p s m args meth c cc nL own nm ret0 D K A) (hw : wd D A wl s H locs) (he : wl[q0]? = some (a, .inl (K 0, n0, .inl f))) (hin : vp_in i n0) (hdg : decode cc pc = .ok (.iaload, 1))
    (kk : W p l e R s m args below meth c H locs cells slots Q (F0 m (pc + 1) ls (.int (f i.toNatClampNeg) :: rest))) : W p l e R s m args below meth c H locs cells slots Q (F0 m pc ls (.int i :: .ref a :: rest)) :=
  va_iald B.1 B.2.1 B.2.2.2.2.2.2.2.2.1 hw.1 q0 0 he rfl hin hdg kk
theorem g_iast (B : cX p s m args meth c cc nL own nm ret0 D K A) (hw : wd D A wl s H locs) (he : wl[q0]? = some (a, .inl (K 0, n0, .inl f))) (hin : vp_in i n0) (hdg : decode cc pc = .ok (.iastore, 1))
    (kk : ∀ (H1 : Heap) (locs1 : List Loc), wd D A (wl.set q0 (a, .inl (K 0, n0, .inl (upd f i.toNatClampNeg x)))) s H1 locs1 → W p l e R s m args below meth c H1 locs1 cells slots Q (F0 m (pc + 1) ls rest)) : W p l e R s m args below meth c H locs cells slots Q (F0 m pc ls (.int x :: .int i :: .ref a :: rest)) :=
  va_iast B.1 B.2.1 B.2.2.2.2.2.2.2.2.1 hw.1 hw.2.1 hw.2.2 q0 0 he rfl hin hdg (fun H1 locs1 h1 h2 h3 => kk H1 locs1 ⟨h1, h2, h3⟩)
theorem g_lald (B : cX p s m args meth c cc nL own nm ret0 D K A) (hw : wd D A wl s H locs) (he : wl[q0]? = some (a, .inl (K 1, n0, .inr (.inl fl)))) (hin : vp_in i n0) (hdg : decode cc pc = .ok (.laload, 1))
    (kk : W p l e R s m args below meth c H locs cells slots Q (F0 m (pc + 1) ls (.long (fl i.toNatClampNeg) :: rest))) : W p l e R s m args below meth c H locs cells slots Q (F0 m pc ls (.int i :: .ref a :: rest)) :=
  va_lald B.1 B.2.1 B.2.2.2.2.2.2.2.2.1 hw.1 q0 1 he rfl hin hdg kk
theorem g_last (B : cX p s m args meth c cc nL own nm ret0 D K A) (hw : wd D A wl s H locs) (he : wl[q0]? = some (a, .inl (K 1, n0, .inr (.inl fl)))) (hin : vp_in i n0) (hdg : decode cc pc = .ok (.lastore, 1))
    (kk : ∀ (H1 : Heap) (locs1 : List Loc), wd D A (wl.set q0 (a, .inl (K 1, n0, .inr (.inl (vp_updL fl i.toNatClampNeg xl))))) s H1 locs1 → W p l e R s m args below meth c H1 locs1 cells slots Q (F0 m (pc + 1) ls rest)) : W p l e R s m args below meth c H locs cells slots Q (F0 m pc ls (.long xl :: .int i :: .ref a :: rest)) :=
  va_last B.1 B.2.1 B.2.2.2.2.2.2.2.2.1 hw.1 hw.2.1 hw.2.2 q0 1 he rfl hin hdg (fun H1 locs1 h1 h2 h3 => kk H1 locs1 ⟨h1, h2, h3⟩)
theorem g_aald (t0 : Nat) {C : String} (B : cX p s m args meth c cc nL own nm ret0 D K A) (hw : wd D A wl s H locs) (he : wl[q0]? = some (a, .inl (K t0, n0, .inr (.inr (.inr (.inr fq)))))) (ht : (tyA K)[t0]? = some (K t0, .object C)) (hin : vp_in i n0) (hdg : decode cc pc = .ok (.aaload, 1))
    (kk : W p l e R s m args below meth c H locs cells slots Q (F0 m (pc + 1) ls (va_rf (fq i.toNatClampNeg) :: rest))) : W p l e R s m args below meth c H locs cells slots Q (F0 m pc ls (.int i :: .ref a :: rest)) :=
  va_aldq B.1 B.2.1 B.2.2.2.2.2.2.2.2.1 hw.1 q0 t0 he ht hin hdg kk
theorem g_gald (B : cX p s m args meth c cc nL own nm ret0 D K A) (hw : wd D A wl s H locs) (he : wl[q0]? = some (a, .inl (K 4, n0, .inr (.inr (.inr (.inr fq)))))) (hin : vp_in i n0) (hdg : decode cc pc = .ok (.aaload, 1))
    (kk : W p l e R s m args below meth c H locs cells slots Q (F0 m (pc + 1) ls (va_rf (fq i.toNatClampNeg) :: rest))) : W p l e R s m args below meth c H locs cells slots Q (F0 m pc ls (.int i :: .ref a :: rest)) := by
  have hlt : i.toNatClampNeg < n0 := Nat.not_le.mp fun q => hin (Or.inr q)
  exact W.aald (v := va_rf (fq i.toNatClampNeg)) (ty := .array .int) B.1 B.2.1 (hw.1 q0 _ he) ((B.2.2.2.2.2.2.2.2.1.2 4 (K 4, .array .int) rfl).1 n0 (fun j => va_rf (fq j))) rfl (fun q => by cases q) (by show ¬ (i < 0 ∨ (arrV _ _ _).slots.size ≤ _); rw [arrV_size]; exact hin) (by show (arrV _ _ _).slots[_]? = _; rw [arrV_read _ _ hlt]) rfl rfl hdg kk
theorem g_aast (t0 : Nat) {r : vw_C} {q1 v1 c1 : Nat} {vs : List Value} (B : cX p s m args meth c cc nL own nm ret0 D K A) (hw : wd D A wl s H locs) (he : wl[q0]? = some (a, .inl (K t0, n0, .inr (.inr (.inr (.inr fq)))))) (ht : (tyA K)[t0]? = some (K t0, .object r.1)) (hv : wl[q1]? = some (v1, .inr (c1, vs))) (hc : vwCl[c1]? = some r) (hin : vp_in i n0) (hdg : decode cc pc = .ok (.aastore, 1))
    (kk : ∀ (H1 : Heap) (locs1 : List Loc), wd D A (wl.set q0 (a, .inl (K t0, n0, .inr (.inr (.inr (.inr (va_up fq i.toNatClampNeg (some v1)))))))) s H1 locs1 → W p l e R s m args below meth c H1 locs1 cells slots Q (F0 m (pc + 1) ls rest)) : W p l e R s m args below meth c H locs cells slots Q (F0 m pc ls (.ref v1 :: .int i :: .ref a :: rest)) :=
  va_astq B.1 B.2.1 B.2.2.2.2.2.2.2.2.1 hw.1 hw.2.1 hw.2.2 q0 t0 q1 c1 he ht hv hc hin hdg (fun H1 locs1 h1 h2 h3 => kk H1 locs1 ⟨h1, h2, h3⟩)
theorem g_aastN (t0 : Nat) {C : String} (B : cX p s m args meth c cc nL own nm ret0 D K A) (hw : wd D A wl s H locs) (he : wl[q0]? = some (a, .inl (K t0, n0, .inr (.inr (.inr (.inr fq)))))) (ht : (tyA K)[t0]? = some (K t0, .object C)) (hin : vp_in i n0) (hdg : decode cc pc = .ok (.aastore, 1))
    (kk : ∀ (H1 : Heap) (locs1 : List Loc), wd D A (wl.set q0 (a, .inl (K t0, n0, .inr (.inr (.inr (.inr (va_up fq i.toNatClampNeg none))))))) s H1 locs1 → W p l e R s m args below meth c H1 locs1 cells slots Q (F0 m (pc + 1) ls rest)) : W p l e R s m args below meth c H locs cells slots Q (F0 m pc ls (.null :: .int i :: .ref a :: rest)) :=
  va_astqN B.1 B.2.1 B.2.2.2.2.2.2.2.2.1 hw.1 hw.2.1 hw.2.2 q0 t0 he ht hin hdg (fun H1 locs1 h1 h2 h3 => kk H1 locs1 ⟨h1, h2, h3⟩)
/-- constants of the pool -/
theorem g_ldc {z : Int32} (B : cX p s m args meth c cc nL own nm ret0 D K A) (hc : Cond.constant own index z ∈ tsW) (hdg : decode cc pc = .ok (.ldc index, 2)) (kk : W p l e R s m args below meth c H locs cells slots Q (F0 m (pc + 2) ls (.int z :: rest))) : W p l e R s m args below meth c H locs cells slots Q (F0 m pc ls rest) :=
  lv_ldc B.1 B.2.1 B.2.2.2.1 (B.2.2.2.2.1 _ hc) hdg kk
theorem g_ldc2 {z : Int64} (B : cX p s m args meth c cc nL own nm ret0 D K A) (hc : Cond.constantLong own index z ∈ tsW) (hdg : decode cc pc = .ok (.ldc2_w index, 3)) (kk : W p l e R s m args below meth c H locs cells slots Q (F0 m (pc + 3) ls (.long z :: rest))) : W p l e R s m args below meth c H locs cells slots Q (F0 m pc ls rest) :=
  lv_ldc2 B.1 B.2.1 B.2.2.2.1 (B.2.2.2.2.1 _ hc) hdg kk
/-- a loop: what holds at its head, and what falls -/
theorem lp_w {σ : Type} (μ : σ → Nat) (I : σ → Heap → List Loc → Array Slot → Prop) (step : ∀ (x : σ) (H : Heap) (locs : List Loc) (ls : Array Slot), I x H locs ls → (∀ (x' : σ) (H' : Heap) (locs' : List Loc) (ls' : Array Slot), μ x' < μ x → I x' H' locs' ls' → W p l e R s m args below meth c H' locs' cells slots Q (F0 m pc ls' st)) → W p l e R s m args below meth c H locs cells slots Q (F0 m pc ls st)) :
    ∀ (x : σ) (H : Heap) (locs : List Loc) (ls : Array Slot), I x H locs ls → W p l e R s m args below meth c H locs cells slots Q (F0 m pc ls st) := by
  intro x
  induction hn : μ x using Nat.strongRecOn generalizing x with
  | ind n ih =>
    intro H locs ls h
    exact step x H locs ls h (fun x' H' locs' ls' hlt h' => ih (μ x') (by omega) x' rfl H' locs' ls' h')
end WALK
/-- places of a list of cells -/
theorem gs_eq {w : va_W} {j : Nat} {x y : Nat × va_E} (h : w[j]? = some x) : (w.set j y)[j]? = some y := by
  have hl : j < w.length := (List.getElem?_eq_some_iff.mp h).1
  rw [List.getElem?_set_self hl]
theorem gs_ne {w : va_W} {i j : Nat} {x y : Nat × va_E} (hn : j ≠ i) (h : w[i]? = some x) : (w.set j y)[i]? = some x := by
  rw [List.getElem?_set_ne hn]; exact h
theorem ga_old {w v : va_W} {i : Nat} {x : Nat × va_E} (h : w[i]? = some x) : (w ++ v)[i]? = some x := by
  have hl : i < w.length := (List.getElem?_eq_some_iff.mp h).1
  rw [List.getElem?_append_left hl]; exact h
theorem ga_new {w : va_W} {x : Nat × va_E} : (w ++ [x])[w.length]? = some x := by
  rw [List.getElem?_append_right (Nat.le_refl _), Nat.sub_self]; rfl
end
section
/-! Sites: fields and calls with their words. Printed by wip/whole/sites.py. -/
theorem ck_NS : cOk T_NS 6 t_NS := ⟨tt_NS, tn_NS⟩
theorem ck_PT : cOk T_PT 2 t_PT := ⟨tt_PT, tn_PT⟩
theorem ck_SV : cOk T_SV 2 t_SV := ⟨tt_SV, tn_SV⟩
theorem ck_ST : cOk T_ST 3 t_ST := ⟨tt_ST, tn_ST⟩
theorem ck_MD : cOk T_MD 16 t_MD := ⟨tt_MD, tn_MD⟩
theorem cf_LW_9 : cfI "NumberStreamsLaw" 9 y_NS_init prog_1_method_1_code 2 0 := ⟨⟨co_NS_init, in_NS, by decide, by decide, by decide +kernel⟩, ml_LW_9, im_NS_init, rfl⟩
theorem cf_NS_27 : cfI "NumberStreams" 27 y_PT_init prog_2_method_1_code 2 0 := ⟨⟨co_PT_init, in_PT, by decide, by decide, by decide +kernel⟩, ml_NS_27, im_PT_init, rfl⟩
theorem cf_PT_18 : cfV "NumberStreams$Points" 18 y_PT_startRow prog_2_method_2_code 5 none 4 := ⟨⟨co_PT_startRow, in_PT, by decide, by decide, by decide +kernel⟩, ml_PT_18, im_PT_startRow, se_PT_startRow⟩
theorem cf_PT_22 : cfV "NumberStreams$Points" 22 y_PT_growRow prog_2_method_3_code 8 none 3 := ⟨⟨co_PT_growRow, in_PT, by decide, by decide, by decide +kernel⟩, ml_PT_22, im_PT_growRow, se_PT_growRow⟩
theorem cf_PT_26 : cfV "NumberStreams$Points" 26 y_PT_alignRow prog_2_method_4_code 3 none 1 := ⟨⟨co_PT_alignRow, in_PT, by decide, by decide, by decide +kernel⟩, ml_PT_26, im_PT_alignRow, se_PT_alignRow⟩
theorem cf_LW_13 : cfV "NumberStreamsLaw" 13 y_NS_make prog_1_method_2_code 9 (some .int) 3 := ⟨⟨co_NS_make, in_NS, by decide, by decide, by decide +kernel⟩, ml_LW_13, im_NS_make, se_NS_make⟩
theorem cf_NS_39 : cfV "NumberStreams" 39 y_NS_leastFreeSlot prog_1_method_23_code 2 (some .int) 0 := ⟨⟨co_NS_leastFreeSlot, in_NS, by decide, by decide, by decide +kernel⟩, ml_NS_39, im_NS_leastFreeSlot, se_NS_leastFreeSlot⟩
theorem cf_NS_43 : cfS "NumberStreams" 43 y_ST_isKind prog_4_method_2_code 1 (some .boolean) 1 := ⟨⟨co_ST_isKind, in_ST, by decide, by decide, by decide +kernel⟩, ml_NS_43, sa_ST_isKind⟩
theorem cf_NS_47 : cfS "NumberStreams" 47 y_ST_firstOfSeed prog_4_method_5_code 3 (some .long) 3 := ⟨⟨co_ST_firstOfSeed, in_ST, by decide, by decide, by decide +kernel⟩, ml_NS_47, sa_ST_firstOfSeed⟩
theorem cf_NS_80 : cfS "NumberStreams" 80 y_NS_asNumber prog_1_method_27_code 1 (some .long) 1 := ⟨⟨co_NS_asNumber, in_NS, by decide, by decide, by decide +kernel⟩, ml_NS_80, sa_NS_asNumber⟩
theorem cf_NS_51 : cfS "NumberStreams" 51 y_ST_secondOfSeed prog_4_method_6_code 3 (some .long) 3 := ⟨⟨co_ST_secondOfSeed, in_ST, by decide, by decide, by decide +kernel⟩, ml_NS_51, sa_ST_secondOfSeed⟩
theorem cf_NS_54 : cfS "NumberStreams" 54 y_ST_isState prog_4_method_7_code 5 (some .boolean) 3 := ⟨⟨co_ST_isState, in_ST, by decide, by decide, by decide +kernel⟩, ml_NS_54, sa_ST_isState⟩
theorem cf_ST_32 : cfS "NumberStreams$Stream" 32 y_ST_isRemainder prog_4_method_8_code 2 (some .boolean) 1 := ⟨⟨co_ST_isRemainder, in_ST, by decide, by decide, by decide +kernel⟩, ml_ST_32, sa_ST_isRemainder⟩
theorem cf_NS_58 : cfI "NumberStreams" 58 y_ST_init prog_4_method_1_code 6 3 := ⟨⟨co_ST_init, in_ST, by decide, by decide, by decide +kernel⟩, ml_NS_58, im_ST_init, rfl⟩
theorem cf_LW_18 : cfV "NumberStreamsLaw" 18 y_NS_twin prog_1_method_3_code 4 (some .int) 1 := ⟨⟨co_NS_twin, in_NS, by decide, by decide, by decide +kernel⟩, ml_LW_18, im_NS_twin, se_NS_twin⟩
theorem cf_NS_61 : cfV "NumberStreams" 61 y_NS_streamAt prog_1_method_22_code 2 (some (.object "NumberStreams$Stream")) 1 := ⟨⟨co_NS_streamAt, in_NS, by decide, by decide, by decide +kernel⟩, ml_NS_61, im_NS_streamAt, se_NS_streamAt⟩
theorem cf_LW_23 : cfV "NumberStreamsLaw" 23 y_NS_release prog_1_method_4_code 2 (some .boolean) 1 := ⟨⟨co_NS_release, in_NS, by decide, by decide, by decide +kernel⟩, ml_LW_23, im_NS_release, se_NS_release⟩
theorem cf_LW_28 : cfV "NumberStreamsLaw" 28 y_NS_next prog_1_method_5_code 3 (some .long) 1 := ⟨⟨co_NS_next, in_NS, by decide, by decide, by decide +kernel⟩, ml_LW_28, im_NS_next, se_NS_next⟩
theorem cf_NS_77 : cfV "NumberStreams" 77 y_ST_step prog_4_method_9_code 2 (some .int) 0 := ⟨⟨co_ST_step, in_ST, by decide, by decide, by decide +kernel⟩, ml_NS_77, im_ST_step, se_ST_step⟩
theorem cf_ST_38 : cfV "NumberStreams$Stream" 38 y_ST_output prog_4_method_12_code 1 (some .int) 0 := ⟨⟨co_ST_output, in_ST, by decide, by decide, by decide +kernel⟩, ml_ST_38, im_ST_output, se_ST_output⟩
theorem cf_ST_61 : cfS "NumberStreams$Stream" 61 y_JI_rotateRight prog_7_method_51_code 2 (some .int) 2 := ⟨⟨co_JI_rotateRight, in_JI, by decide, by decide, by decide +kernel⟩, ml_ST_61, sa_JI_rotateRight⟩
theorem cf_ST_68 : cfS "NumberStreams$Stream" 68 y_JI_rotateLeft prog_7_method_50_code 2 (some .int) 2 := ⟨⟨co_JI_rotateLeft, in_JI, by decide, by decide, by decide +kernel⟩, ml_ST_68, sa_JI_rotateLeft⟩
theorem cf_ST_71 : cfV "NumberStreams$Stream" 71 y_ST_mixedCounter prog_4_method_14_code 7 (some .int) 0 := ⟨⟨co_ST_mixedCounter, in_ST, by decide, by decide, by decide +kernel⟩, ml_ST_71, im_ST_mixedCounter, se_ST_mixedCounter⟩
theorem cf_ST_57 : cfV "NumberStreams$Stream" 57 y_ST_nextRemainder prog_4_method_15_code 1 (some .long) 0 := ⟨⟨co_ST_nextRemainder, in_ST, by decide, by decide, by decide +kernel⟩, ml_ST_57, im_ST_nextRemainder, se_ST_nextRemainder⟩
theorem cf_ST_42 : cfV "NumberStreams$Stream" 42 y_ST_move prog_4_method_11_code 3 none 0 := ⟨⟨co_ST_move, in_ST, by decide, by decide, by decide +kernel⟩, ml_ST_42, im_ST_move, se_ST_move⟩
theorem cf_ST_52 : cfV "NumberStreams$Stream" 52 y_ST_moveRotations prog_4_method_13_code 3 none 0 := ⟨⟨co_ST_moveRotations, in_ST, by decide, by decide, by decide +kernel⟩, ml_ST_52, im_ST_moveRotations, se_ST_moveRotations⟩
theorem cf_LW_33 : cfV "NumberStreamsLaw" 33 y_NS_jump prog_1_method_6_code 5 (some .boolean) 2 := ⟨⟨co_NS_jump, in_NS, by decide, by decide, by decide +kernel⟩, ml_LW_33, im_NS_jump, se_NS_jump⟩
theorem cf_NS_85 : cfV "NumberStreams" 85 y_ST_move prog_4_method_11_code 3 none 0 := ⟨⟨co_ST_move, in_ST, by decide, by decide, by decide +kernel⟩, ml_NS_85, im_ST_move, se_ST_move⟩
theorem cf_LW_38 : cfV "NumberStreamsLaw" 38 y_NS_draw prog_1_method_7_code 4 (some .int) 2 := ⟨⟨co_NS_draw, in_NS, by decide, by decide, by decide +kernel⟩, ml_LW_38, im_NS_draw, se_NS_draw⟩
theorem cf_NS_88 : cfV "NumberStreams" 88 y_ST_drawnBelow prog_4_method_10_code 7 (some .int) 1 := ⟨⟨co_ST_drawnBelow, in_ST, by decide, by decide, by decide +kernel⟩, ml_NS_88, im_ST_drawnBelow, se_ST_drawnBelow⟩
theorem cf_ST_47 : cfV "NumberStreams$Stream" 47 y_ST_step prog_4_method_9_code 2 (some .int) 0 := ⟨⟨co_ST_step, in_ST, by decide, by decide, by decide +kernel⟩, ml_ST_47, im_ST_step, se_ST_step⟩
theorem cf_LW_43 : cfV "NumberStreamsLaw" 43 y_NS_same prog_1_method_8_code 5 (some .boolean) 2 := ⟨⟨co_NS_same, in_NS, by decide, by decide, by decide +kernel⟩, ml_LW_43, im_NS_same, se_NS_same⟩
theorem cf_LW_47 : cfV "NumberStreamsLaw" 47 y_NS_save prog_1_method_9_code 4 (some .int) 1 := ⟨⟨co_NS_save, in_NS, by decide, by decide, by decide +kernel⟩, ml_LW_47, im_NS_save, se_NS_save⟩
theorem cf_NS_92 : cfI "NumberStreams" 92 y_SV_init prog_3_method_1_code 2 1 := ⟨⟨co_SV_init, in_SV, by decide, by decide, by decide +kernel⟩, ml_NS_92, im_SV_init, rfl⟩
theorem cf_SV_23 : cfV "NumberStreams$Saved" 23 y_SV_append prog_3_method_2_code 2 none 1 := ⟨⟨co_SV_append, in_SV, by decide, by decide, by decide +kernel⟩, ml_SV_23, im_SV_append, se_SV_append⟩
theorem cf_SV_31 : cfS "NumberStreams$Saved" 31 y_ST_isFirstLong prog_4_method_3_code 1 (some .boolean) 1 := ⟨⟨co_ST_isFirstLong, in_ST, by decide, by decide, by decide +kernel⟩, ml_SV_31, sa_ST_isFirstLong⟩
theorem cf_SV_35 : cfV "NumberStreams$Saved" 35 y_SV_appendPart prog_3_method_3_code 4 none 2 := ⟨⟨co_SV_appendPart, in_SV, by decide, by decide, by decide +kernel⟩, ml_SV_35, im_SV_appendPart, se_SV_appendPart⟩
theorem cf_SV_42 : cfS "NumberStreams$Saved" 42 y_ST_isSecondLong prog_4_method_4_code 1 (some .boolean) 1 := ⟨⟨co_ST_isSecondLong, in_ST, by decide, by decide, by decide +kernel⟩, ml_SV_42, sa_ST_isSecondLong⟩
theorem cf_SV_45 : cfV "NumberStreams$Saved" 45 y_SV_checkOfFirst prog_3_method_4_code 4 (some .int) 1 := ⟨⟨co_SV_checkOfFirst, in_SV, by decide, by decide, by decide +kernel⟩, ml_SV_45, im_SV_checkOfFirst, se_SV_checkOfFirst⟩
theorem cf_LW_51 : cfV "NumberStreamsLaw" 51 y_NS_length prog_1_method_10_code 3 (some .int) 1 := ⟨⟨co_NS_length, in_NS, by decide, by decide, by decide +kernel⟩, ml_LW_51, im_NS_length, se_NS_length⟩
theorem cf_NS_95 : cfV "NumberStreams" 95 y_NS_recordAt prog_1_method_24_code 2 (some (.object "NumberStreams$Saved")) 1 := ⟨⟨co_NS_recordAt, in_NS, by decide, by decide, by decide +kernel⟩, ml_NS_95, im_NS_recordAt, se_NS_recordAt⟩
theorem cf_LW_55 : cfV "NumberStreamsLaw" 55 y_NS_word prog_1_method_11_code 4 (some .int) 2 := ⟨⟨co_NS_word, in_NS, by decide, by decide, by decide +kernel⟩, ml_LW_55, im_NS_word, se_NS_word⟩
theorem cf_NS_102 : cfV "NumberStreams" 102 y_SV_hasWord prog_3_method_5_code 2 (some .boolean) 1 := ⟨⟨co_SV_hasWord, in_SV, by decide, by decide, by decide +kernel⟩, ml_NS_102, im_SV_hasWord, se_SV_hasWord⟩
theorem cf_LW_59 : cfV "NumberStreamsLaw" 59 y_NS_spoil prog_1_method_12_code 5 (some .boolean) 3 := ⟨⟨co_NS_spoil, in_NS, by decide, by decide, by decide +kernel⟩, ml_LW_59, im_NS_spoil, se_NS_spoil⟩
theorem cf_LW_64 : cfV "NumberStreamsLaw" 64 y_NS_cut prog_1_method_13_code 3 (some .boolean) 1 := ⟨⟨co_NS_cut, in_NS, by decide, by decide, by decide +kernel⟩, ml_LW_64, im_NS_cut, se_NS_cut⟩
theorem cf_LW_68 : cfV "NumberStreamsLaw" 68 y_NS_restore prog_1_method_14_code 5 (some .int) 1 := ⟨⟨co_NS_restore, in_NS, by decide, by decide, by decide +kernel⟩, ml_LW_68, im_NS_restore, se_NS_restore⟩
theorem cf_NS_108 : cfV "NumberStreams" 108 y_SV_fault prog_3_method_6_code 1 (some .int) 0 := ⟨⟨co_SV_fault, in_SV, by decide, by decide, by decide +kernel⟩, ml_NS_108, im_SV_fault, se_SV_fault⟩
theorem cf_SV_49 : cfV "NumberStreams$Saved" 49 y_SV_kind prog_3_method_9_code 1 (some .int) 0 := ⟨⟨co_SV_kind, in_SV, by decide, by decide, by decide +kernel⟩, ml_SV_49, im_SV_kind, se_SV_kind⟩
theorem cf_SV_52 : cfS "NumberStreams$Saved" 52 y_ST_isKind prog_4_method_2_code 1 (some .boolean) 1 := ⟨⟨co_ST_isKind, in_ST, by decide, by decide, by decide +kernel⟩, ml_SV_52, sa_ST_isKind⟩
theorem cf_SV_55 : cfS "NumberStreams$Saved" 55 y_SV_wordsOfKind prog_3_method_7_code 1 (some .int) 1 := ⟨⟨co_SV_wordsOfKind, in_SV, by decide, by decide, by decide +kernel⟩, ml_SV_55, sa_SV_wordsOfKind⟩
theorem cf_SV_67 : cfS "NumberStreams$Saved" 67 y_SV_wordsOfPart prog_3_method_8_code 1 (some .int) 1 := ⟨⟨co_SV_wordsOfPart, in_SV, by decide, by decide, by decide +kernel⟩, ml_SV_67, sa_SV_wordsOfPart⟩
theorem cf_SV_58 : cfV "NumberStreams$Saved" 58 y_SV_first prog_3_method_10_code 1 (some .long) 0 := ⟨⟨co_SV_first, in_SV, by decide, by decide, by decide +kernel⟩, ml_SV_58, im_SV_first, se_SV_first⟩
theorem cf_SV_71 : cfV "NumberStreams$Saved" 71 y_SV_partAt prog_3_method_12_code 3 (some .long) 2 := ⟨⟨co_SV_partAt, in_SV, by decide, by decide, by decide +kernel⟩, ml_SV_71, im_SV_partAt, se_SV_partAt⟩
theorem cf_SV_61 : cfV "NumberStreams$Saved" 61 y_SV_second prog_3_method_11_code 2 (some .long) 0 := ⟨⟨co_SV_second, in_SV, by decide, by decide, by decide +kernel⟩, ml_SV_61, im_SV_second, se_SV_second⟩
theorem cf_SV_63 : cfS "NumberStreams$Saved" 63 y_ST_isState prog_4_method_7_code 5 (some .boolean) 3 := ⟨⟨co_ST_isState, in_ST, by decide, by decide, by decide +kernel⟩, ml_SV_63, sa_ST_isState⟩
theorem cf_NS_111 : cfV "NumberStreams" 111 y_SV_kind prog_3_method_9_code 1 (some .int) 0 := ⟨⟨co_SV_kind, in_SV, by decide, by decide, by decide +kernel⟩, ml_NS_111, im_SV_kind, se_SV_kind⟩
theorem cf_NS_113 : cfV "NumberStreams" 113 y_SV_first prog_3_method_10_code 1 (some .long) 0 := ⟨⟨co_SV_first, in_SV, by decide, by decide, by decide +kernel⟩, ml_NS_113, im_SV_first, se_SV_first⟩
theorem cf_NS_116 : cfV "NumberStreams" 116 y_SV_second prog_3_method_11_code 2 (some .long) 0 := ⟨⟨co_SV_second, in_SV, by decide, by decide, by decide +kernel⟩, ml_NS_116, im_SV_second, se_SV_second⟩
theorem cf_LW_72 : cfV "NumberStreamsLaw" 72 y_NS_seek prog_1_method_15_code 2 (some .boolean) 1 := ⟨⟨co_NS_seek, in_NS, by decide, by decide, by decide +kernel⟩, ml_LW_72, im_NS_seek, se_NS_seek⟩
theorem cf_LW_76 : cfV "NumberStreamsLaw" 76 y_NS_advance prog_1_method_16_code 1 (some .int) 0 := ⟨⟨co_NS_advance, in_NS, by decide, by decide, by decide +kernel⟩, ml_LW_76, im_NS_advance, se_NS_advance⟩
theorem cf_LW_81 : cfV "NumberStreamsLaw" 81 y_NS_coordinate prog_1_method_17_code 2 (some .long) 1 := ⟨⟨co_NS_coordinate, in_NS, by decide, by decide, by decide +kernel⟩, ml_LW_81, im_NS_coordinate, se_NS_coordinate⟩
theorem cf_NS_122 : cfV "NumberStreams" 122 y_PT_joinedDirections prog_2_method_5_code 5 (some .int) 1 := ⟨⟨co_PT_joinedDirections, in_PT, by decide, by decide, by decide +kernel⟩, ml_NS_122, im_PT_joinedDirections, se_PT_joinedDirections⟩
theorem cf_NS_125 : cfV "NumberStreams" 125 y_PT_turnedDigits prog_2_method_6_code 6 (some .int) 2 := ⟨⟨co_PT_turnedDigits, in_PT, by decide, by decide, by decide +kernel⟩, ml_NS_125, im_PT_turnedDigits, se_PT_turnedDigits⟩
theorem cf_LW_85 : cfV "NumberStreamsLaw" 85 y_NS_weigh prog_1_method_18_code 3 (some .boolean) 2 := ⟨⟨co_NS_weigh, in_NS, by decide, by decide, by decide +kernel⟩, ml_LW_85, im_NS_weigh, se_NS_weigh⟩
theorem cf_LW_89 : cfV "NumberStreamsLaw" 89 y_NS_pick prog_1_method_19_code 4 (some .int) 1 := ⟨⟨co_NS_pick, in_NS, by decide, by decide, by decide +kernel⟩, ml_LW_89, im_NS_pick, se_NS_pick⟩
theorem cf_NS_130 : cfV "NumberStreams" 130 y_NS_totalWeight prog_1_method_25_code 3 (some .int) 0 := ⟨⟨co_NS_totalWeight, in_NS, by decide, by decide, by decide +kernel⟩, ml_NS_130, im_NS_totalWeight, se_NS_totalWeight⟩
theorem cf_NS_133 : cfV "NumberStreams" 133 y_NS_outcomeAt prog_1_method_26_code 4 (some .int) 1 := ⟨⟨co_NS_outcomeAt, in_NS, by decide, by decide, by decide +kernel⟩, ml_NS_133, im_NS_outcomeAt, se_NS_outcomeAt⟩
theorem cf_LW_93 : cfV "NumberStreamsLaw" 93 y_NS_shuffle prog_1_method_20_code 6 (some .boolean) 1 := ⟨⟨co_NS_shuffle, in_NS, by decide, by decide, by decide +kernel⟩, ml_LW_93, im_NS_shuffle, se_NS_shuffle⟩
theorem cf_LW_97 : cfV "NumberStreamsLaw" 97 y_NS_card prog_1_method_21_code 2 (some .int) 1 := ⟨⟨co_NS_card, in_NS, by decide, by decide, by decide +kernel⟩, ml_LW_97, im_NS_card, se_NS_card⟩
theorem cf_LW_12 : cfI "NumberStreamsLaw" 12 y_MD_init prog_6_method_1_code 2 0 := ⟨⟨co_MD_init, in_MD, by decide, by decide, by decide +kernel⟩, ml_LW_12, im_MD_init, rfl⟩
theorem cf_LW_17 : cfV "NumberStreamsLaw" 17 y_MD_make prog_6_method_12_code 5 (some .int) 3 := ⟨⟨co_MD_make, in_MD, by decide, by decide, by decide +kernel⟩, ml_LW_17, im_MD_make, se_MD_make⟩
theorem cf_MD_97 : cfV "NumberStreamsModel" 97 y_MD_freeSlot prog_6_method_8_code 2 (some .int) 0 := ⟨⟨co_MD_freeSlot, in_MD, by decide, by decide, by decide +kernel⟩, ml_MD_97, im_MD_freeSlot, se_MD_freeSlot⟩
theorem cf_MD_71 : cfS "NumberStreamsModel" 71 y_MD_number prog_6_method_2_code 3 (some .long) 1 := ⟨⟨co_MD_number, in_MD, by decide, by decide, by decide +kernel⟩, ml_MD_71, sa_MD_number⟩
theorem cf_MD_101 : cfV "NumberStreamsModel" 101 y_MD_sound prog_6_method_10_code 2 (some .boolean) 0 := ⟨⟨co_MD_sound, in_MD, by decide, by decide, by decide +kernel⟩, ml_MD_101, im_MD_sound, se_MD_sound⟩
theorem cf_MD_93 : cfS "NumberStreamsModel" 93 y_MD_residue prog_6_method_9_code 2 (some .boolean) 1 := ⟨⟨co_MD_residue, in_MD, by decide, by decide, by decide +kernel⟩, ml_MD_93, sa_MD_residue⟩
theorem cf_MD_105 : cfV "NumberStreamsModel" 105 y_MD_settle prog_6_method_11_code 2 (some .int) 1 := ⟨⟨co_MD_settle, in_MD, by decide, by decide, by decide +kernel⟩, ml_MD_105, im_MD_settle, se_MD_settle⟩
theorem cf_LW_22 : cfV "NumberStreamsLaw" 22 y_MD_twin prog_6_method_13_code 3 (some .int) 1 := ⟨⟨co_MD_twin, in_MD, by decide, by decide, by decide +kernel⟩, ml_LW_22, im_MD_twin, se_MD_twin⟩
theorem cf_MD_109 : cfV "NumberStreamsModel" 109 y_MD_holds prog_6_method_7_code 2 (some .boolean) 1 := ⟨⟨co_MD_holds, in_MD, by decide, by decide, by decide +kernel⟩, ml_MD_109, im_MD_holds, se_MD_holds⟩
theorem cf_LW_27 : cfV "NumberStreamsLaw" 27 y_MD_release prog_6_method_14_code 2 (some .boolean) 1 := ⟨⟨co_MD_release, in_MD, by decide, by decide, by decide +kernel⟩, ml_LW_27, im_MD_release, se_MD_release⟩
theorem cf_LW_32 : cfV "NumberStreamsLaw" 32 y_MD_next prog_6_method_15_code 2 (some .long) 1 := ⟨⟨co_MD_next, in_MD, by decide, by decide, by decide +kernel⟩, ml_LW_32, im_MD_next, se_MD_next⟩
theorem cf_MD_115 : cfV "NumberStreamsModel" 115 y_MD_step prog_6_method_5_code 8 none 1 := ⟨⟨co_MD_step, in_MD, by decide, by decide, by decide +kernel⟩, ml_MD_115, im_MD_step, se_MD_step⟩
theorem cf_MD_46 : cfS "NumberStreamsModel" 46 y_MD_rotl prog_6_method_3_code 4 (some .int) 2 := ⟨⟨co_MD_rotl, in_MD, by decide, by decide, by decide +kernel⟩, ml_MD_46, sa_MD_rotl⟩
theorem cf_MD_57 : cfV "NumberStreamsModel" 57 y_MD_rounds prog_6_method_6_code 8 none 2 := ⟨⟨co_MD_rounds, in_MD, by decide, by decide, by decide +kernel⟩, ml_MD_57, im_MD_rounds, se_MD_rounds⟩
theorem cf_MD_77 : cfV "NumberStreamsModel" 77 y_MD_multiply prog_6_method_4_code 19 none 2 := ⟨⟨co_MD_multiply, in_MD, by decide, by decide, by decide +kernel⟩, ml_MD_77, im_MD_multiply, se_MD_multiply⟩
theorem cf_LW_37 : cfV "NumberStreamsLaw" 37 y_MD_jump prog_6_method_16_code 4 (some .boolean) 2 := ⟨⟨co_MD_jump, in_MD, by decide, by decide, by decide +kernel⟩, ml_LW_37, im_MD_jump, se_MD_jump⟩
theorem cf_LW_42 : cfV "NumberStreamsLaw" 42 y_MD_draw prog_6_method_18_code 3 (some .int) 2 := ⟨⟨co_MD_draw, in_MD, by decide, by decide, by decide +kernel⟩, ml_LW_42, im_MD_draw, se_MD_draw⟩
theorem cf_MD_120 : cfV "NumberStreamsModel" 120 y_MD_below prog_6_method_17_code 6 (some .int) 2 := ⟨⟨co_MD_below, in_MD, by decide, by decide, by decide +kernel⟩, ml_MD_120, im_MD_below, se_MD_below⟩
theorem cf_LW_46 : cfV "NumberStreamsLaw" 46 y_MD_same prog_6_method_19_code 3 (some .boolean) 2 := ⟨⟨co_MD_same, in_MD, by decide, by decide, by decide +kernel⟩, ml_LW_46, im_MD_same, se_MD_same⟩
theorem cf_LW_50 : cfV "NumberStreamsLaw" 50 y_MD_save prog_6_method_23_code 3 (some .int) 1 := ⟨⟨co_MD_save, in_MD, by decide, by decide, by decide +kernel⟩, ml_LW_50, im_MD_save, se_MD_save⟩
theorem cf_MD_126 : cfV "NumberStreamsModel" 126 y_MD_append prog_6_method_20_code 2 none 1 := ⟨⟨co_MD_append, in_MD, by decide, by decide, by decide +kernel⟩, ml_MD_126, im_MD_append, se_MD_append⟩
theorem cf_MD_130 : cfV "NumberStreamsModel" 130 y_MD_appendLong prog_6_method_21_code 3 none 1 := ⟨⟨co_MD_appendLong, in_MD, by decide, by decide, by decide +kernel⟩, ml_MD_130, im_MD_appendLong, se_MD_appendLong⟩
theorem cf_MD_134 : cfV "NumberStreamsModel" 134 y_MD_check prog_6_method_22_code 5 (some .int) 2 := ⟨⟨co_MD_check, in_MD, by decide, by decide, by decide +kernel⟩, ml_MD_134, im_MD_check, se_MD_check⟩
theorem cf_LW_54 : cfV "NumberStreamsLaw" 54 y_MD_length prog_6_method_25_code 2 (some .int) 1 := ⟨⟨co_MD_length, in_MD, by decide, by decide, by decide +kernel⟩, ml_LW_54, im_MD_length, se_MD_length⟩
theorem cf_LW_58 : cfV "NumberStreamsLaw" 58 y_MD_word prog_6_method_26_code 3 (some .int) 2 := ⟨⟨co_MD_word, in_MD, by decide, by decide, by decide +kernel⟩, ml_LW_58, im_MD_word, se_MD_word⟩
theorem cf_MD_137 : cfV "NumberStreamsModel" 137 y_MD_isWord prog_6_method_24_code 3 (some .boolean) 2 := ⟨⟨co_MD_isWord, in_MD, by decide, by decide, by decide +kernel⟩, ml_MD_137, im_MD_isWord, se_MD_isWord⟩
theorem cf_LW_63 : cfV "NumberStreamsLaw" 63 y_MD_spoil prog_6_method_27_code 4 (some .boolean) 3 := ⟨⟨co_MD_spoil, in_MD, by decide, by decide, by decide +kernel⟩, ml_LW_63, im_MD_spoil, se_MD_spoil⟩
theorem cf_LW_67 : cfV "NumberStreamsLaw" 67 y_MD_cut prog_6_method_28_code 2 (some .boolean) 1 := ⟨⟨co_MD_cut, in_MD, by decide, by decide, by decide +kernel⟩, ml_LW_67, im_MD_cut, se_MD_cut⟩
theorem cf_LW_71 : cfV "NumberStreamsLaw" 71 y_MD_restore prog_6_method_30_code 6 (some .int) 1 := ⟨⟨co_MD_restore, in_MD, by decide, by decide, by decide +kernel⟩, ml_LW_71, im_MD_restore, se_MD_restore⟩
theorem cf_MD_141 : cfV "NumberStreamsModel" 141 y_MD_twoWords prog_6_method_29_code 2 (some .long) 1 := ⟨⟨co_MD_twoWords, in_MD, by decide, by decide, by decide +kernel⟩, ml_MD_141, im_MD_twoWords, se_MD_twoWords⟩
theorem cf_LW_75 : cfV "NumberStreamsLaw" 75 y_MD_seek prog_6_method_31_code 2 (some .boolean) 1 := ⟨⟨co_MD_seek, in_MD, by decide, by decide, by decide +kernel⟩, ml_LW_75, im_MD_seek, se_MD_seek⟩
theorem cf_LW_80 : cfV "NumberStreamsLaw" 80 y_MD_advance prog_6_method_32_code 1 (some .int) 0 := ⟨⟨co_MD_advance, in_MD, by decide, by decide, by decide +kernel⟩, ml_LW_80, im_MD_advance, se_MD_advance⟩
theorem cf_LW_84 : cfV "NumberStreamsLaw" 84 y_MD_coordinate prog_6_method_35_code 5 (some .long) 1 := ⟨⟨co_MD_coordinate, in_MD, by decide, by decide, by decide +kernel⟩, ml_LW_84, im_MD_coordinate, se_MD_coordinate⟩
theorem cf_MD_148 : cfV "NumberStreamsModel" 148 y_MD_turned prog_6_method_34_code 7 (some .long) 2 := ⟨⟨co_MD_turned, in_MD, by decide, by decide, by decide +kernel⟩, ml_MD_148, im_MD_turned, se_MD_turned⟩
theorem cf_MD_152 : cfV "NumberStreamsModel" 152 y_MD_inner prog_6_method_33_code 6 none 1 := ⟨⟨co_MD_inner, in_MD, by decide, by decide, by decide +kernel⟩, ml_MD_152, im_MD_inner, se_MD_inner⟩
theorem cf_LW_88 : cfV "NumberStreamsLaw" 88 y_MD_weigh prog_6_method_36_code 3 (some .boolean) 2 := ⟨⟨co_MD_weigh, in_MD, by decide, by decide, by decide +kernel⟩, ml_LW_88, im_MD_weigh, se_MD_weigh⟩
theorem cf_LW_92 : cfV "NumberStreamsLaw" 92 y_MD_pick prog_6_method_37_code 5 (some .int) 1 := ⟨⟨co_MD_pick, in_MD, by decide, by decide, by decide +kernel⟩, ml_LW_92, im_MD_pick, se_MD_pick⟩
theorem cf_LW_96 : cfV "NumberStreamsLaw" 96 y_MD_shuffle prog_6_method_38_code 5 (some .boolean) 1 := ⟨⟨co_MD_shuffle, in_MD, by decide, by decide, by decide +kernel⟩, ml_LW_96, im_MD_shuffle, se_MD_shuffle⟩
theorem cf_LW_100 : cfV "NumberStreamsLaw" 100 y_MD_card prog_6_method_39_code 2 (some .int) 1 := ⟨⟨co_MD_card, in_MD, by decide, by decide, by decide +kernel⟩, ml_LW_100, im_MD_card, se_MD_card⟩
theorem fl_PT_11 : fOk "NumberStreams$Points" 11 1 "NumberStreams$Points" T_PT 2 0 := ⟨rfl, li_PT, by decide, fk_PT_11, rfl⟩
theorem fl_PT_14 : fOk "NumberStreams$Points" 14 1 "NumberStreams$Points" T_PT 2 1 := ⟨rfl, li_PT, by decide, fk_PT_14, rfl⟩
theorem fl_NS_119 : fOk "NumberStreams" 119 1 "NumberStreams$Points" T_PT 2 1 := ⟨rfl, li_PT, by decide, fk_NS_119, rfl⟩
theorem fl_NS_11 : fOk "NumberStreams" 11 0 "NumberStreams" T_NS 6 0 := ⟨rfl, li_NS, by decide, fk_NS_11, rfl⟩
theorem fl_NS_17 : fOk "NumberStreams" 17 0 "NumberStreams" T_NS 6 1 := ⟨rfl, li_NS, by decide, fk_NS_17, rfl⟩
theorem fl_NS_21 : fOk "NumberStreams" 21 0 "NumberStreams" T_NS 6 2 := ⟨rfl, li_NS, by decide, fk_NS_21, rfl⟩
theorem fl_NS_28 : fOk "NumberStreams" 28 0 "NumberStreams" T_NS 6 3 := ⟨rfl, li_NS, by decide, fk_NS_28, rfl⟩
theorem fl_NS_32 : fOk "NumberStreams" 32 0 "NumberStreams" T_NS 6 4 := ⟨rfl, li_NS, by decide, fk_NS_32, rfl⟩
theorem fl_NS_36 : fOk "NumberStreams" 36 0 "NumberStreams" T_NS 6 5 := ⟨rfl, li_NS, by decide, fk_NS_36, rfl⟩
theorem fl_ST_7 : fOk "NumberStreams$Stream" 7 3 "NumberStreams$Stream" T_ST 3 0 := ⟨rfl, li_ST, by decide, fk_ST_7, rfl⟩
theorem fl_SV_18 : fOk "NumberStreams$Saved" 18 3 "NumberStreams$Stream" T_ST 3 0 := ⟨rfl, li_ST, by decide, fk_SV_18, rfl⟩
theorem fl_NS_65 : fOk "NumberStreams" 65 3 "NumberStreams$Stream" T_ST 3 0 := ⟨rfl, li_ST, by decide, fk_NS_65, rfl⟩
theorem fl_ST_13 : fOk "NumberStreams$Stream" 13 3 "NumberStreams$Stream" T_ST 3 1 := ⟨rfl, li_ST, by decide, fk_ST_13, rfl⟩
theorem fl_SV_27 : fOk "NumberStreams$Saved" 27 3 "NumberStreams$Stream" T_ST 3 1 := ⟨rfl, li_ST, by decide, fk_SV_27, rfl⟩
theorem fl_NS_68 : fOk "NumberStreams" 68 3 "NumberStreams$Stream" T_ST 3 1 := ⟨rfl, li_ST, by decide, fk_NS_68, rfl⟩
theorem fl_ST_17 : fOk "NumberStreams$Stream" 17 3 "NumberStreams$Stream" T_ST 3 2 := ⟨rfl, li_ST, by decide, fk_ST_17, rfl⟩
theorem fl_SV_39 : fOk "NumberStreams$Saved" 39 3 "NumberStreams$Stream" T_ST 3 2 := ⟨rfl, li_ST, by decide, fk_SV_39, rfl⟩
theorem fl_NS_72 : fOk "NumberStreams" 72 3 "NumberStreams$Stream" T_ST 3 2 := ⟨rfl, li_ST, by decide, fk_NS_72, rfl⟩
theorem fl_SV_9 : fOk "NumberStreams$Saved" 9 2 "NumberStreams$Saved" T_SV 2 0 := ⟨rfl, li_SV, by decide, fk_SV_9, rfl⟩
theorem fl_NS_105 : fOk "NumberStreams" 105 2 "NumberStreams$Saved" T_SV 2 0 := ⟨rfl, li_SV, by decide, fk_NS_105, rfl⟩
theorem fl_SV_13 : fOk "NumberStreams$Saved" 13 2 "NumberStreams$Saved" T_SV 2 1 := ⟨rfl, li_SV, by decide, fk_SV_13, rfl⟩
theorem fl_NS_99 : fOk "NumberStreams" 99 2 "NumberStreams$Saved" T_SV 2 1 := ⟨rfl, li_SV, by decide, fk_NS_99, rfl⟩
theorem fl_MD_7 : fOk "NumberStreamsModel" 7 4 "NumberStreamsModel" T_MD 16 0 := ⟨rfl, li_MD, by decide, fk_MD_7, rfl⟩
theorem fl_MD_13 : fOk "NumberStreamsModel" 13 4 "NumberStreamsModel" T_MD 16 1 := ⟨rfl, li_MD, by decide, fk_MD_13, rfl⟩
theorem fl_MD_17 : fOk "NumberStreamsModel" 17 4 "NumberStreamsModel" T_MD 16 2 := ⟨rfl, li_MD, by decide, fk_MD_17, rfl⟩
theorem fl_MD_50 : fOk "NumberStreamsModel" 50 4 "NumberStreamsModel" T_MD 16 3 := ⟨rfl, li_MD, by decide, fk_MD_50, rfl⟩
theorem fl_MD_90 : fOk "NumberStreamsModel" 90 4 "NumberStreamsModel" T_MD 16 4 := ⟨rfl, li_MD, by decide, fk_MD_90, rfl⟩
theorem fl_MD_84 : fOk "NumberStreamsModel" 84 4 "NumberStreamsModel" T_MD 16 5 := ⟨rfl, li_MD, by decide, fk_MD_84, rfl⟩
theorem fl_MD_87 : fOk "NumberStreamsModel" 87 4 "NumberStreamsModel" T_MD 16 6 := ⟨rfl, li_MD, by decide, fk_MD_87, rfl⟩
theorem fl_MD_43 : fOk "NumberStreamsModel" 43 4 "NumberStreamsModel" T_MD 16 7 := ⟨rfl, li_MD, by decide, fk_MD_43, rfl⟩
theorem fl_MD_39 : fOk "NumberStreamsModel" 39 4 "NumberStreamsModel" T_MD 16 8 := ⟨rfl, li_MD, by decide, fk_MD_39, rfl⟩
theorem fl_MD_123 : fOk "NumberStreamsModel" 123 4 "NumberStreamsModel" T_MD 16 9 := ⟨rfl, li_MD, by decide, fk_MD_123, rfl⟩
theorem fl_MD_20 : fOk "NumberStreamsModel" 20 4 "NumberStreamsModel" T_MD 16 10 := ⟨rfl, li_MD, by decide, fk_MD_20, rfl⟩
theorem fl_MD_23 : fOk "NumberStreamsModel" 23 4 "NumberStreamsModel" T_MD 16 11 := ⟨rfl, li_MD, by decide, fk_MD_23, rfl⟩
theorem fl_MD_145 : fOk "NumberStreamsModel" 145 4 "NumberStreamsModel" T_MD 16 12 := ⟨rfl, li_MD, by decide, fk_MD_145, rfl⟩
theorem fl_MD_26 : fOk "NumberStreamsModel" 26 4 "NumberStreamsModel" T_MD 16 13 := ⟨rfl, li_MD, by decide, fk_MD_26, rfl⟩
theorem fl_MD_29 : fOk "NumberStreamsModel" 29 4 "NumberStreamsModel" T_MD 16 14 := ⟨rfl, li_MD, by decide, fk_MD_29, rfl⟩
theorem fl_MD_32 : fOk "NumberStreamsModel" 32 4 "NumberStreamsModel" T_MD 16 15 := ⟨rfl, li_MD, by decide, fk_MD_32, rfl⟩
theorem cf_ST_20 : cfN "NumberStreams$Stream" 20 y_NS_joined "NumberStreams" prog_1_method_28_code 2 (some .long) 2 := ⟨⟨co_NS_joined, in_NS, by decide, by decide, by decide +kernel⟩, mn_ST_20, sa_NS_joined⟩
theorem cf_ST_28 : cfN "NumberStreams$Stream" 28 y_NS_asNumber "NumberStreams" prog_1_method_27_code 1 (some .long) 1 := ⟨⟨co_NS_asNumber, in_NS, by decide, by decide, by decide +kernel⟩, mn_ST_28, sa_NS_asNumber⟩
theorem cf_SV_75 : cfN "NumberStreams$Saved" 75 y_NS_joined "NumberStreams" prog_1_method_28_code 2 (some .long) 2 := ⟨⟨co_NS_joined, in_NS, by decide, by decide, by decide +kernel⟩, mn_SV_75, sa_NS_joined⟩
end
section
/-! Rows that make cells: arrays and objects, at the end of the list of cells. -/
section MAKE
variable {p : Program} {l : Launch} {e : Env} {R : Room} {s : State} {m : MethodId} {args : Array Value} {below : List Frame} {meth : Method} {c : Code} {H : Heap} {locs : List Loc} {cells slots : Nat} {Q : State → Prop}
variable {cc : ByteArray} {nL pc index : Nat} {own nm : String} {ret0 : Option FieldType} {D : va_G} {K : Nat → ClassId} {A : Nat → Prop} {wl : va_W} {ls : Array Slot} {rest : List Value}
theorem g_newI {n : Int32} {N' : Nat} (B : cX p s m args meth c cc nL own nm ret0 D K A) (hw : wd D A wl s H locs) (hn : ¬ n < 0) (hN : n.toNatClampNeg = N') (hbytes : N' * componentBytes .int ≤ 536870912) (hcells : cells + 1 ≤ R.cells) (hslots : slots + N' ≤ R.slots) (hdg : decode cc pc = .ok (.newarray .int, 2))
    (kk : ∀ (q : Nat) (H1 : Heap), wd D A (wl ++ [(q, .inl (K 0, N', .inl (fun _ => 0)))]) s H1 locs → W p l e R s m args below meth c H1 locs (cells + 1) (slots + N') Q (F0 m (pc + 2) ls (.ref q :: rest))) : W p l e R s m args below meth c H locs cells slots Q (F0 m pc ls (.int n :: rest)) := by
  refine va_newa (atype := .int) (a0 := (N', .inl (fun _ => 0))) B.1 B.2.1 (B.2.2.2.2.1 _ ac_int) rfl B.2.2.2.2.2.2.2.2.1 hw.1 hw.2.1 hw.2.2 B.2.2.2.2.2.2.2.2.2.2 (fun _ => rfl) hn hN hbytes hcells hslots hdg (fun q cA H1 hK hP hD hS => ?_)
  have e1 : s.vm.findClass ("[" ++ FieldType.int.toString) = some cA := (hK.2 5 (cA, .int) rfl).2
  have e2 : s.vm.findClass ("[" ++ FieldType.int.toString) = some (K 0) := (B.2.2.2.2.2.2.2.2.1.2 0 (K 0, .int) rfl).2
  obtain rfl : cA = K 0 := Option.some.inj (e1.symm.trans e2)
  exact kk q H1 ⟨hP, hD, hS⟩
theorem g_newJ {n : Int32} {N' : Nat} (B : cX p s m args meth c cc nL own nm ret0 D K A) (hw : wd D A wl s H locs) (hn : ¬ n < 0) (hN : n.toNatClampNeg = N') (hbytes : N' * componentBytes .long ≤ 536870912) (hcells : cells + 1 ≤ R.cells) (hslots : slots + N' ≤ R.slots) (hdg : decode cc pc = .ok (.newarray .long, 2))
    (kk : ∀ (q : Nat) (H1 : Heap), wd D A (wl ++ [(q, .inl (K 1, N', .inr (.inl (fun _ => 0))))]) s H1 locs → W p l e R s m args below meth c H1 locs (cells + 1) (slots + N') Q (F0 m (pc + 2) ls (.ref q :: rest))) : W p l e R s m args below meth c H locs cells slots Q (F0 m pc ls (.int n :: rest)) := by
  refine va_newa (atype := .long) (a0 := (N', .inr (.inl (fun _ => 0)))) B.1 B.2.1 (B.2.2.2.2.1 _ ac_long) rfl B.2.2.2.2.2.2.2.2.1 hw.1 hw.2.1 hw.2.2 B.2.2.2.2.2.2.2.2.2.2 (fun _ => rfl) hn hN hbytes hcells hslots hdg (fun q cA H1 hK hP hD hS => ?_)
  have e1 : s.vm.findClass ("[" ++ FieldType.long.toString) = some cA := (hK.2 5 (cA, .long) rfl).2
  have e2 : s.vm.findClass ("[" ++ FieldType.long.toString) = some (K 1) := (B.2.2.2.2.2.2.2.2.1.2 1 (K 1, .long) rfl).2
  obtain rfl : cA = K 1 := Option.some.inj (e1.symm.trans e2)
  exact kk q H1 ⟨hP, hD, hS⟩
theorem g_newQ (t0 : Nat) {C : String} {n : Int32} {N' : Nat} (B : cX p s m args meth c cc nL own nm ret0 D K A) (hw : wd D A wl s H locs) (ht : (tyA K)[t0]? = some (K t0, .object C)) (hlink : Cond.classLink own index C ∈ tsW) (hover : nwOk s → va_AO C s) (hn : ¬ n < 0) (hN : n.toNatClampNeg = N') (hbytes : N' * 4 ≤ 536870912) (hcells : cells + 1 ≤ R.cells) (hslots : slots + N' ≤ R.slots) (hdg : decode cc pc = .ok (.anewarray index, 3))
    (kk : ∀ (q : Nat) (H1 : Heap), wd D A (wl ++ [(q, .inl (K t0, N', .inr (.inr (.inr (.inr (fun _ => none))))))]) s H1 locs → W p l e R s m args below meth c H1 locs (cells + 1) (slots + N') Q (F0 m (pc + 3) ls (.ref q :: rest))) : W p l e R s m args below meth c H locs cells slots Q (F0 m pc ls (.int n :: rest)) := by
  refine va_newq B.1 B.2.1 B.2.2.2.1 (B.2.2.2.2.1 _ hlink) (hover B.2.2.2.2.2.2.2.2.2.1) B.2.2.2.2.2.2.2.2.1 hw.1 hw.2.1 hw.2.2 B.2.2.2.2.2.2.2.2.2.2 hn hN hbytes hcells hslots hdg (fun q cA H1 hK hP hD hS => ?_)
  obtain ⟨k1, c1, -, -, -, e1⟩ := (hK.2 5 (cA, .object C) rfl).2
  obtain ⟨k2, c2, -, -, -, e2⟩ := (B.2.2.2.2.2.2.2.2.1.2 t0 (K t0, .object C) ht).2
  obtain rfl : cA = K t0 := Option.some.inj (e1.symm.trans e2)
  exact kk q H1 ⟨hP, hD, hS⟩
theorem g_new {ci N : Nat} {C : String} {T : u_T} {ty0 : Nat → FieldType} (fs : List Value) (B : cX p s m args meth c cc nL own nm ret0 D K A) (hw : wd D A wl s H locs) (hc : vwCl[ci]? = some (C, T, N)) (hin : ∀ w ∈ u_ws C T N, w ∈ tsW) (hty : ∀ k, k < N → parseFieldDescriptor (T k).2.2.1 = some (ty0 k)) (hlink : Cond.classLink own index C ∈ tsW) (hib : Cond.instantiable C N ∈ tsW) (hini : Cond.initialized C ∈ tsW) (hfs : ∀ j, j < N → defaultValue (ty0 j) = vp_V fs j) (hcells : cells + 1 ≤ R.cells) (hslots : slots + N ≤ R.slots) (hdg : decode cc pc = .ok (.new index, 3))
    (kk : ∀ (q : Nat) (H1 : Heap), wd D A (wl ++ [(q, .inr (ci, fs))]) s H1 locs → W p l e R s m args below meth c H1 locs (cells + 1) (slots + N) Q (F0 m (pc + 3) ls (.ref q :: rest))) : W p l e R s m args below meth c H locs cells slots Q (F0 m pc ls rest) :=
  va_new B.1 B.2.1 B.2.2.2.2.1 hin ty0 hty B.2.2.2.1 (B.2.2.2.2.1 _ hlink) (B.2.2.2.2.1 _ hib) (B.2.2.2.2.1 _ hini) B.2.2.2.2.2.2.2.2.1 hw.1 hw.2.1 hw.2.2 B.2.2.2.2.2.2.2.2.2.2 hc hfs hcells hslots hdg (fun q H1 hP hD hS => kk q H1 ⟨hP, hD, hS⟩)
end MAKE
/-- an object's place isn't an array's -/
theorem ne_oa {w : va_W} {i j a b : Nat} {x : ClassId × vp_A} {y : Nat × List Value} (h1 : w[i]? = some (a, .inr y)) (h2 : w[j]? = some (b, .inl x)) : i ≠ j := by
  rintro rfl
  rw [h1] at h2
  cases h2
theorem ne_oo {w : va_W} {i j a b c1 c2 : Nat} {x y : List Value} (h1 : w[i]? = some (a, .inr (c1, x))) (h2 : w[j]? = some (b, .inr (c2, y))) (hc : c1 ≠ c2) : i ≠ j := by
  rintro rfl
  rw [h1] at h2
  cases h2
  exact hc rfl
theorem ne_aa {w : va_W} {i j a b : Nat} {x y : va_E} (h1 : w[i]? = some (a, x)) (h2 : w[j]? = some (b, y)) (hn : a ≠ b) : i ≠ j := by
  rintro rfl
  rw [h1] at h2
  cases h2
  exact hn rfl
end
section
/-! Numbers: the words of both sides, no machine. -/
abbrev lus (x : Int64) (k : Int32) : Int64 := (x.toUInt64 >>> (k.toInt64.toUInt64 &&& Int64.toUInt64 63)).toInt64
abbrev ius (x k : Int32) : Int32 := (x.toUInt32 >>> (k.toUInt32 &&& Int32.toUInt32 31)).toInt32
/-- an int read unsigned -/
def uB (x : Int32) : Nat := x.toBitVec.toNat
theorem uB_lt (x : Int32) : uB x < 4294967296 := x.toBitVec.isLt
theorem nI_uB (x : Int32) : nI (uB x) = x := by
  apply Int32.toBitVec_inj.1
  show BitVec.ofNat 32 x.toBitVec.toNat = x.toBitVec
  simp
theorem uB_nI (n : Nat) : uB (nI n) = n % 4294967296 := by
  show (BitVec.ofNat 32 n).toNat = _
  simp
theorem uB_pos {x : Int32} (h : ¬ x < 0) : x.toInt = (uB x : Int) := by
  obtain ⟨j, hj, rfl⟩ := nI_of h
  rw [nI_toInt hj, uB_nI, Nat.mod_eq_of_lt (by omega)]
theorem toInt_uB (x : Int32) : x.toInt = if 2 * uB x < 4294967296 then (uB x : Int) else (uB x : Int) - 4294967296 := by
  show x.toBitVec.toInt = _
  rw [BitVec.toInt_eq_toNat_cond]
  rfl
def uL (x : Int64) : Nat := x.toBitVec.toNat
theorem uL_lt (x : Int64) : uL x < 18446744073709551616 := x.toBitVec.isLt
theorem lN_uL (x : Int64) : lN (uL x) = x := by
  apply Int64.toBitVec_inj.1
  show BitVec.ofNat 64 x.toBitVec.toNat = x.toBitVec
  simp
theorem uL_lN (n : Nat) : uL (lN n) = n % 18446744073709551616 := by
  show (BitVec.ofNat 64 n).toNat = _
  simp
theorem uL_inj {x y : Int64} (h : uL x = uL y) : x = y := by rw [← lN_uL x, ← lN_uL y, h]
theorem uB_inj {x y : Int32} (h : uB x = uB y) : x = y := by rw [← nI_uB x, ← nI_uB y, h]
theorem toInt_uL (x : Int64) : x.toInt = if 2 * uL x < 18446744073709551616 then (uL x : Int) else (uL x : Int) - 18446744073709551616 := by
  show x.toBitVec.toInt = _
  rw [BitVec.toInt_eq_toNat_cond]
  rfl
theorem uL_add (x y : Int64) : uL (x + y) = (uL x + uL y) % 18446744073709551616 := by
  show (x + y).toBitVec.toNat = _
  rw [Int64.toBitVec_add, BitVec.toNat_add]; rfl
theorem uL_mul (x y : Int64) : uL (x * y) = (uL x * uL y) % 18446744073709551616 := by
  show (x * y).toBitVec.toNat = _
  rw [Int64.toBitVec_mul, BitVec.toNat_mul]; rfl
theorem uB_l2i (x : Int64) : uB x.toInt32 = uL x % 4294967296 := by
  show x.toInt32.toBitVec.toNat = _
  rw [Int64.toBitVec_toInt32, BitVec.signExtend_eq_setWidth_of_le _ (by omega), BitVec.toNat_setWidth]; rfl
theorem uL_i2l (x : Int32) : uL x.toInt64 = if 2 * uB x < 4294967296 then uB x else uB x + 18446744069414584320 := by
  show x.toInt64.toBitVec.toNat = _
  rw [Int32.toBitVec_toInt64]
  have h := toInt_uB x
  have h2 : (x.toBitVec.signExtend 64).toInt = x.toInt := by
    show _ = x.toBitVec.toInt
    rw [BitVec.toInt_signExtend_of_le (by omega)]
  have h3 := BitVec.toInt_eq_toNat_cond (x.toBitVec.signExtend 64)
  have h4 := (x.toBitVec.signExtend 64).isLt
  have h5 := uB_lt x
  rw [h2] at h3
  split at h <;> split at h3 <;> split <;> omega
/-- asNumber -/
def nU (x : Int32) : Int64 := x.toInt64 &&& 4294967295
theorem uL_and32 (x : Int64) : uL (x &&& 4294967295) = uL x % 4294967296 := by
  show (x &&& 4294967295).toBitVec.toNat = _
  rw [Int64.toBitVec_and, BitVec.toNat_and]
  show uL x &&& (2 ^ 32 - 1) = _
  rw [Nat.and_two_pow_sub_one_eq_mod]
theorem uL_nU (x : Int32) : uL (nU x) = uB x := by
  have h := uB_lt x
  unfold nU
  rw [uL_and32, uL_i2l]
  split <;> omega
theorem nU_lN (x : Int32) : nU x = lN (uB x) := uL_inj (by rw [uL_nU, uL_lN, Nat.mod_eq_of_lt (by have := uB_lt x; omega)])
theorem nU_nI (n : Nat) : nU (nI n) = lN (n % 4294967296) := by rw [nU_lN, uB_nI]
/-- number, as the reference has it -/
theorem num_nU (x : Int32) : (if x.toInt64 < 0 then x.toInt64 + 4294967296 else x.toInt64) = nU x := by
  have h := uB_lt x
  have h1 := uL_i2l x
  have h2 := toInt_uL x.toInt64
  have h0 : (0 : Int64).toInt = 0 := by decide
  have h3 : uL (4294967296 : Int64) = 4294967296 := by decide
  apply uL_inj
  rw [uL_nU]
  split
  · rename_i hn
    rw [Int64.lt_iff_toInt_lt, h0] at hn
    rw [uL_add, h3]
    split at h1 <;> split at h2 <;> omega
  · rename_i hn
    rw [Int64.lt_iff_toInt_lt, h0] at hn
    split at h1 <;> split at h2 <;> omega
theorem uL_lus (x : Int64) {k : Int32} {n : Nat} (h : (k.toInt64.toUInt64 &&& Int64.toUInt64 63).toNat % 64 = n) : uL (lus x k) = uL x / 2 ^ n := by
  show (x.toUInt64 >>> (k.toInt64.toUInt64 &&& Int64.toUInt64 63)).toNat = x.toUInt64.toNat / 2 ^ n
  rw [UInt64.toNat_shiftRight, h, Nat.shiftRight_eq_div_pow]
theorem lus32 (x : Int64) : uL (lus x 32) = uL x / 4294967296 := uL_lus x (n := 32) (by decide)
/-- the two halves of a product of two words -/
theorem prod_hi {a b : Nat} (ha : a < 4294967296) (hb : b < 4294967296) : (lus (lN a * lN b) 32).toInt32 = nI (a * b / 4294967296) := by
  have h : a * b < 18446744073709551616 := by
    calc a * b ≤ 4294967295 * 4294967295 := Nat.mul_le_mul (by omega) (by omega)
      _ < _ := by decide
  apply uB_inj
  rw [uB_l2i, lus32, lN_mul, uL_lN, Nat.mod_eq_of_lt h, uB_nI]
theorem prod_lo (a b : Nat) : (lN a * lN b).toInt32 = nI (a * b) := by rw [lN_mul, lN_i]
/-- the reference's product of halves -/
def mLo (x y : Int64) : Int64 :=
  ((x - x / 65536 * 65536) * (y / 65536) + ((x / 65536) * (y - y / 65536 * 65536) + ((x - x / 65536 * 65536) * (y - y / 65536 * 65536)) / 65536 - ((x / 65536) * (y - y / 65536 * 65536) + ((x - x / 65536 * 65536) * (y - y / 65536 * 65536)) / 65536) / 65536 * 65536) - ((x - x / 65536 * 65536) * (y / 65536) + ((x / 65536) * (y - y / 65536 * 65536) + ((x - x / 65536 * 65536) * (y - y / 65536 * 65536)) / 65536 - ((x / 65536) * (y - y / 65536 * 65536) + ((x - x / 65536 * 65536) * (y - y / 65536 * 65536)) / 65536) / 65536 * 65536)) / 65536 * 65536) * 65536 + ((x - x / 65536 * 65536) * (y - y / 65536 * 65536) - ((x - x / 65536 * 65536) * (y - y / 65536 * 65536)) / 65536 * 65536)
def mHi (x y : Int64) : Int64 :=
  (x / 65536) * (y / 65536) + ((x / 65536) * (y - y / 65536 * 65536) + ((x - x / 65536 * 65536) * (y - y / 65536 * 65536)) / 65536) / 65536 + ((x - x / 65536 * 65536) * (y / 65536) + ((x / 65536) * (y - y / 65536 * 65536) + ((x - x / 65536 * 65536) * (y - y / 65536 * 65536)) / 65536 - ((x / 65536) * (y - y / 65536 * 65536) + ((x - x / 65536 * 65536) * (y - y / 65536 * 65536)) / 65536) / 65536 * 65536)) / 65536
theorem nat_mul_split (A B C E : Nat) : (65536 * A + B) * (65536 * C + E) = 4294967296 * (A * C) + 65536 * (A * E) + 65536 * (B * C) + B * E := by
  grind
theorem mul_lN {a b : Nat} (ha : a < 4294967296) (hb : b < 4294967296) : mLo (lN a) (lN b) = lN (a * b % 4294967296) ∧ mHi (lN a) (lN b) = lN (a * b / 4294967296) := by
  have dv : ∀ n : Nat, n < 2 ^ 63 → lN n / 65536 = lN (n / 65536) := fun n h => pk_lDiv (b := 65536) h (by omega) (by omega)
  have rm : ∀ n : Nat, n < 2 ^ 63 → lN n - lN n / 65536 * 65536 = lN (n % 65536) := fun n h => pk_lRem (b := 65536) h (by omega) (by omega)
  have e1 := Nat.div_add_mod a 65536
  have e2 := Nat.div_add_mod b 65536
  have hs := nat_mul_split (a / 65536) (a % 65536) (b / 65536) (b % 65536)
  rw [e1, e2] at hs
  have hA : a / 65536 ≤ 65535 := by omega
  have hC : b / 65536 ≤ 65535 := by omega
  have hB : a % 65536 ≤ 65535 := by omega
  have hE : b % 65536 ≤ 65535 := by omega
  unfold mLo mHi
  rw [rm a (by omega), rm b (by omega), dv a (by omega), dv b (by omega)]
  generalize a / 65536 = A at *
  generalize a % 65536 = B at *
  generalize b / 65536 = C at *
  generalize b % 65536 = E at *
  have p1 := Nat.mul_le_mul hA hC
  have p2 := Nat.mul_le_mul hA hE
  have p3 := Nat.mul_le_mul hB hC
  have p4 := Nat.mul_le_mul hB hE
  rw [lN_mul B E, lN_mul A E, lN_mul B C, lN_mul A C]
  generalize A * C = P1 at *
  generalize A * E = P2 at *
  generalize B * C = P3 at *
  generalize B * E = P4 at *
  rw [rm P4 (by omega), dv P4 (by omega), lN_add P2, rm (P2 + P4 / 65536) (by omega), dv (P2 + P4 / 65536) (by omega), lN_add P3, rm (P3 + (P2 + P4 / 65536) % 65536) (by omega), dv (P3 + (P2 + P4 / 65536) % 65536) (by omega), lN_add P1, lN_add]
  have h65 : (65536 : Int64) = lN 65536 := by decide
  rw [h65, lN_mul, lN_add]
  constructor <;> congr 1 <;> omega
end
section
/-! Turns, steps, draws: the words of both sides, no machine. -/
/-- Integer.rotateLeft, Integer.rotateRight; the reference's turns by one -/
def rol (x d : Int32) : Int32 := (x <<< (d &&& 31)) ||| ius x (-d)
def ror (x d : Int32) : Int32 := ius x d ||| (x <<< (-d &&& 31))
def rt1 (y : Int32) : Int32 := (y <<< ((1 : Int32) &&& 31)) + (if y < 0 then 1 else 0)
def rtN : Nat → Int32 → Int32
  | 0, y => y
  | n + 1, y => rt1 (rtN n y)
theorem uB_add (x y : Int32) : uB (x + y) = (uB x + uB y) % 4294967296 := by
  show (x + y).toBitVec.toNat = _
  rw [Int32.toBitVec_add, BitVec.toNat_add]; rfl
theorem uB_neg {x : Int32} : x < 0 ↔ 2147483648 ≤ uB x := by
  have h := toInt_uB x
  have h1 := uB_lt x
  have h0 : (0 : Int32).toInt = 0 := by decide
  rw [Int32.lt_iff_toInt_lt, h0]
  split at h <;> omega
theorem uB_rt1 (y : Int32) : uB (rt1 y) = (2 * uB y) % 4294967296 + uB y / 2147483648 := by
  have h1 : uB (y <<< ((1 : Int32) &&& 31)) = uB y * 2 ^ 1 % 2 ^ 32 := pk_shl y ((1 : Int32) &&& 31) 1 (by decide)
  have h2 := uB_lt y
  have e1 : uB (1 : Int32) = 1 := by decide
  have e0 : uB (0 : Int32) = 0 := by decide
  unfold rt1
  rw [uB_add, h1]
  by_cases h : y < 0
  · rw [if_pos h, e1]
    rw [uB_neg] at h
    omega
  · rw [if_neg h, e0]
    rw [uB_neg] at h
    omega
theorem rot_gen {t p u : Nat} (htp : t * p = 2147483648) (hp : 0 < p) (ht : 0 < t) (hu : u < 4294967296) : (2 * (u * t % 4294967296 + u / (2 * p))) % 4294967296 + (u * t % 4294967296 + u / (2 * p)) / 2147483648 = u * (2 * t) % 4294967296 + u / p := by
  obtain ⟨h, b, r, hb, hr, e⟩ : ∃ h b r, b ≤ 1 ∧ r < p ∧ u = p * (2 * h + b) + r := by
    refine ⟨u / p / 2, u / p % 2, u % p, by omega, Nat.mod_lt _ hp, ?_⟩
    rw [Nat.div_add_mod (u / p) 2, Nat.div_add_mod]
  have e1 : u * t = 4294967296 * h + (2147483648 * b + t * r) := by
    rw [e]
    have : (p * (2 * h + b) + r) * t = t * p * (2 * h + b) + t * r := by grind
    rw [this, htp]
    omega
  have e2 : u * (2 * t) = 2 * (u * t) := by grind
  have hX : t * r + t ≤ 2147483648 := by
    rw [← htp, ← Nat.mul_succ]
    exact Nat.mul_le_mul_left t hr
  have e3 : u / p = 2 * h + b := by
    rw [e, Nat.mul_add_div hp, Nat.div_eq_of_lt hr, Nat.add_zero]
  have e4 : u / (2 * p) = h := by
    rw [Nat.mul_comm 2 p, ← Nat.div_div_eq_div_mul, e3]
    omega
  have hh : h < t := by
    apply Nat.lt_of_not_le
    intro q
    have h1 := Nat.mul_le_mul_left p q
    have h2 : p * t = 2147483648 := by rw [Nat.mul_comm]; exact htp
    have h3 : p * (2 * h + b) = 2 * (p * h) + p * b := by grind
    omega
  rw [e2, e1, e3, e4]
  generalize t * r = X at *
  clear e e1 e2 e3 e4 htp hu
  rcases (by omega : b = 0 ∨ b = 1) with rfl | rfl <;> omega
theorem rot_step (u n : Nat) (hn : n < 32) (hu : u < 4294967296) : (2 * (u * 2 ^ n % 4294967296 + u / 2 ^ (32 - n))) % 4294967296 + (u * 2 ^ n % 4294967296 + u / 2 ^ (32 - n)) / 2147483648 = u * 2 ^ (n + 1) % 4294967296 + u / 2 ^ (32 - (n + 1)) := by
  have h1 : 2 ^ (32 - n) = 2 * 2 ^ (31 - n) := by rw [show 32 - n = (31 - n) + 1 by omega, Nat.pow_succ, Nat.mul_comm]
  have h2 : 2 ^ (n + 1) = 2 * 2 ^ n := by rw [Nat.pow_succ, Nat.mul_comm]
  have h3 : 32 - (n + 1) = 31 - n := by omega
  have h4 : 2 ^ n * 2 ^ (31 - n) = 2147483648 := by rw [← Nat.pow_add, show n + (31 - n) = 31 by omega]
  rw [h1, h2, h3]
  exact rot_gen h4 (Nat.two_pow_pos _) (Nat.two_pow_pos _) hu
theorem uB_rtN (y : Int32) : ∀ n, n ≤ 32 → uB (rtN n y) = uB y * 2 ^ n % 4294967296 + uB y / 2 ^ (32 - n)
  | 0, _ => by
    have h := uB_lt y
    show uB y = _
    simp only [Nat.pow_zero, Nat.mul_one, Nat.sub_zero, Nat.reducePow]
    omega
  | n + 1, h => by
    show uB (rt1 (rtN n y)) = _
    rw [uB_rt1, uB_rtN y n (by omega)]
    exact rot_step (uB y) n (by omega) (uB_lt y)
/-- a word's two pieces side by side -/
theorem or_add (u n : Nat) (hn : n ≤ 32) (hu : u < 4294967296) : (u * 2 ^ n % 4294967296) ||| (u / 2 ^ (32 - n)) = u * 2 ^ n % 4294967296 + u / 2 ^ (32 - n) := by
  have hp : 2 ^ n * 2 ^ (32 - n) = 4294967296 := by rw [← Nat.pow_add, show n + (32 - n) = 32 by omega]
  have h1 : u * 2 ^ n % 4294967296 = 2 ^ n * (u % 2 ^ (32 - n)) := by rw [← hp, Nat.mul_comm u, Nat.mul_mod_mul_left]
  have h2 : u / 2 ^ (32 - n) < 2 ^ n := by
    rw [Nat.div_lt_iff_lt_mul (Nat.two_pow_pos _), hp]; exact hu
  rw [h1, Nat.two_pow_add_eq_or_of_lt h2]
theorem uB_or (x y : Int32) : uB (x ||| y) = uB x ||| uB y := by
  show (x ||| y).toBitVec.toNat = _
  rw [Int32.toBitVec_or, BitVec.toNat_or]; rfl
theorem rol_amt : ∀ n, n < 32 → 0 < n → ((nI n &&& 31).toBitVec.smod 32).toNat = n ∧ (((-(nI n)).toUInt32 &&& Int32.toUInt32 31).toBitVec % 32).toNat = 32 - n := by decide +kernel
theorem ror_amt : ∀ n, n < 32 → 0 < n → (((-(nI n)) &&& 31).toBitVec.smod 32).toNat = 32 - n ∧ (((nI n).toUInt32 &&& Int32.toUInt32 31).toBitVec % 32).toNat = n := by decide +kernel
theorem rol_rtN {n : Nat} (h : n < 32) (h0 : 0 < n) (x : Int32) : rol x (nI n) = rtN n x := by
  apply uB_inj
  have a1 : uB (x <<< (nI n &&& 31)) = uB x * 2 ^ n % 2 ^ 32 := pk_shl x (nI n &&& 31) n (rol_amt n h h0).1
  have a2 : uB (ius x (-(nI n))) = uB x / 2 ^ (32 - n) := pk_ushr x (-(nI n)) (32 - n) (rol_amt n h h0).2
  unfold rol
  rw [uB_or, a1, a2, uB_rtN x n (by omega)]
  exact or_add (uB x) n (by omega) (uB_lt x)
theorem ror_rtN {n : Nat} (h : n < 32) (x : Int32) : ror x (nI n) = rtN (32 - n) x := by
  apply uB_inj
  rcases Nat.eq_zero_or_pos n with rfl | h0
  · have e : ror x (nI 0) = x ||| x := by
      have a1 : ius x (nI 0) = x := by
        apply uB_inj
        have := pk_ushr x (nI 0) 0 (by decide)
        show (ius x (nI 0)).toBitVec.toNat = _
        rw [this]; simp [uB]
      have a2 : x <<< (-(nI 0) &&& 31) = x := by
        apply uB_inj
        have := pk_shl x (-(nI 0) &&& 31) 0 (by decide)
        show (x <<< (-(nI 0) &&& 31)).toBitVec.toNat = _
        rw [this]
        have := uB_lt x
        unfold uB at *
        simp only [Nat.pow_zero, Nat.mul_one, Nat.reducePow]
        omega
      unfold ror
      rw [a1, a2]
    rw [e, uB_or, Nat.or_self, uB_rtN x (32 - 0) (by omega)]
    have := uB_lt x
    simp only [Nat.sub_zero, Nat.reducePow, Nat.sub_self, Nat.pow_zero, Nat.div_one]
    omega
  · have a1 : uB (x <<< (-(nI n) &&& 31)) = uB x * 2 ^ (32 - n) % 2 ^ 32 := pk_shl x (-(nI n) &&& 31) (32 - n) (ror_amt n h h0).1
    have a2 : uB (ius x (nI n)) = uB x / 2 ^ n := pk_ushr x (nI n) n (ror_amt n h h0).2
    unfold ror
    rw [uB_or, a1, a2, uB_rtN x (32 - n) (by omega), Nat.or_comm]
    have := or_add (uB x) (32 - n) (by omega) (uB_lt x)
    rw [show 32 - (32 - n) = n by omega] at this ⊢
    exact this
/-- the remainder's step, the counter's rounds -/
def nxR (f s : Int64) : Int64 := (1403580 * f + 810728 * s) - (1403580 * f + 810728 * s) / 2147483647 * 2147483647
def mxR (t : Int32 × Int32 × Int32) : Int32 × Int32 × Int32 := ((lus (nU t.1 * 3528905107) 32).toInt32 ^^^ t.2.2 ^^^ t.2.1, (nU t.1 * 3528905107).toInt32, t.2.2 + (-1640531527))
def mxN : Nat → Int32 × Int32 × Int32 → Int32 × Int32 × Int32
  | 0, t => t
  | n + 1, t => mxR (mxN n t)
def mx0 (f s : Int64) : Int32 × Int32 × Int32 := ((lus s 1).toInt32, (lus s 33).toInt32, f.toInt32)
def mxO (f s : Int64) : Int32 := if s &&& 1 = 0 then (mxN 10 (mx0 f s)).1 else (mxN 10 (mx0 f s)).2.1
/-- a step: the state behind it, and its word -/
def mvF (k : Int32) (f s : Int64) : Int64 := if k = 0 then f * 6364136223846793005 + s else if k = 1 then (rol f.toInt32 26 ^^^ (s.toInt32 ^^^ f.toInt32) ^^^ ((s.toInt32 ^^^ f.toInt32) <<< ((9 : Int32) &&& 31))).toInt64 else if k = 2 then f else nxR f s
def mvS (k : Int32) (f s : Int64) : Int64 := if k = 0 then s else if k = 1 then (rol (s.toInt32 ^^^ f.toInt32) 13).toInt64 else if k = 2 then (if s = 9223372036854775807 then 0 else s + 1) else f
def otp (k : Int32) (f s : Int64) : Int32 := if k = 0 then ror (lus (lus f 18 ^^^ f) 27).toInt32 (lus f 59).toInt32 else if k = 1 then rol (f.toInt32 * (-1640531525)) 5 * 5 else if k = 2 then mxO f s else (2 * nxR f s + (f &&& 1)).toInt32
/-- n steps -/
def mvN (k : Int32) : Nat → Int64 × Int64 → Int64 × Int64
  | 0, t => t
  | n + 1, t => mvN k n (mvF k t.1 t.2, mvS k t.1 t.2)
/-- a draw below n: t words are left -/
def lst (n : Int32) : Int64 := 4294967296 - 4294967296 / n.toInt64 * n.toInt64
def prd (n k : Int32) (f s : Int64) : Int64 := nU (otp k f s) * n.toInt64
def bel (n k : Int32) : Nat → Int64 × Int64 → Int32 × Int64 × Int64
  | 0, t => (0, t)
  | j + 1, t => if j = 0 ∨ ¬ nU (prd n k t.1 t.2).toInt32 < lst n then ((lus (prd n k t.1 t.2) 32).toInt32, mvF k t.1 t.2, mvS k t.1 t.2) else bel n k j (mvF k t.1 t.2, mvS k t.1 t.2)
/-- what a state of a kind keeps -/
def okS (k : Int32) (f s : Int64) : Prop := (k = 2 → 0 ≤ s) ∧ (k = 3 → (0 ≤ f ∧ f < 2147483647) ∧ (0 ≤ s ∧ s < 2147483647))
theorem nxR_lN {a b : Nat} (ha : a < 2147483647) (hb : b < 2147483647) : nxR (lN a) (lN b) = lN ((1403580 * a + 810728 * b) % 2147483647) := by
  have e1 : (1403580 : Int64) = lN 1403580 := by decide
  have e2 : (810728 : Int64) = lN 810728 := by decide
  have e3 : (2147483647 : Int64) = lN 2147483647 := by decide
  unfold nxR
  rw [e1, e2, e3, lN_mul, lN_mul, lN_add]
  exact pk_lRem (by omega) (by omega) (by omega)
theorem rem_of {x : Int64} (h0 : 0 ≤ x) (h : x < 2147483647) : ∃ a : Nat, a < 2147483647 ∧ x = lN a := by
  obtain ⟨a, ha, rfl⟩ := pk_lOf (x := x) (by
    intro q
    have h3 : (0 : Int64).toInt = 0 := by decide
    rw [Int64.lt_iff_toInt_lt] at q
    rw [Int64.le_iff_toInt_le] at h0
    omega)
  refine ⟨a, ?_, rfl⟩
  have e3 : (2147483647 : Int64) = lN 2147483647 := by decide
  rw [e3, pk_lLT ha (by omega)] at h
  exact h
theorem lN_nn {a : Nat} (h : a < 2 ^ 63) : (0 : Int64) ≤ lN a := by
  have e : (0 : Int64) = lN 0 := by decide
  rw [e, pk_lLE (by omega) h]
  omega
theorem lN_ltM {a : Nat} (h : a < 2147483647) : lN a < 2147483647 := by
  have e : (2147483647 : Int64) = lN 2147483647 := by decide
  rw [e, pk_lLT (by omega) (by omega)]
  exact h
theorem okS_mv {k : Int32} {f s : Int64} (h : okS k f s) : okS k (mvF k f s) (mvS k f s) := by
  refine ⟨fun hk => ?_, fun hk => ?_⟩
  · subst hk
    have h1 := h.1 rfl
    show 0 ≤ (if s = 9223372036854775807 then 0 else s + 1)
    split
    · decide
    · rename_i hne
      obtain ⟨a, ha, rfl⟩ := pk_lOf (x := s) (by
        intro q
        rw [Int64.lt_iff_toInt_lt] at q
        rw [Int64.le_iff_toInt_le] at h1
        omega)
      have e : (9223372036854775807 : Int64) = lN 9223372036854775807 := by decide
      rw [e, pk_lEQ ha (by omega)] at hne
      rw [lN_1]
      exact lN_nn (by omega)
  · subst hk
    obtain ⟨⟨h1, h2⟩, h3, h4⟩ := h.2 rfl
    obtain ⟨a, ha, rfl⟩ := rem_of h1 h2
    obtain ⟨b, hb, rfl⟩ := rem_of h3 h4
    have hm : (1403580 * a + 810728 * b) % 2147483647 < 2147483647 := Nat.mod_lt _ (by omega)
    show (0 ≤ nxR (lN a) (lN b) ∧ nxR (lN a) (lN b) < 2147483647) ∧ (0 ≤ lN a ∧ lN a < 2147483647)
    rw [nxR_lN ha hb]
    exact ⟨⟨lN_nn (by omega), lN_ltM hm⟩, h1, h2⟩
theorem nn_of {s : Int64} (h : 0 ≤ s) : ∃ a : Nat, a < 2 ^ 63 ∧ s = lN a := pk_lOf (x := s) (by
  intro q
  have h3 : (0 : Int64).toInt = 0 := by decide
  rw [Int64.lt_iff_toInt_lt] at q
  rw [Int64.le_iff_toInt_le] at h
  omega)
theorem uL_and1 (x : Int64) : uL (x &&& 1) = uL x % 2 := by
  show (x &&& 1).toBitVec.toNat = _
  rw [Int64.toBitVec_and, BitVec.toNat_and]
  show uL x &&& (2 ^ 1 - 1) = _
  rw [Nat.and_two_pow_sub_one_eq_mod]
theorem half_nn {s : Int64} (h : 0 ≤ s) : s / 2 = lus s 1 := by
  obtain ⟨a, ha, rfl⟩ := nn_of h
  have e : (2 : Int64) = lN 2 := by decide
  rw [e, pk_lDiv ha (by omega) (by omega)]
  apply uL_inj
  rw [uL_lus (lN a) (k := 1) (n := 1) (by decide), uL_lN, uL_lN]
  omega
theorem odd_nn {s : Int64} (h : 0 ≤ s) : s - s / 2 * 2 = s &&& 1 := by
  obtain ⟨a, ha, rfl⟩ := nn_of h
  have e : (2 : Int64) = lN 2 := by decide
  rw [e, pk_lRem ha (by omega) (by omega)]
  apply uL_inj
  rw [uL_and1, uL_lN, uL_lN]
  omega
theorem mx_mul (x : Int32) : (mHi (nU x) 3528905107).toInt32 = (lus (nU x * 3528905107) 32).toInt32 ∧ (mLo (nU x) 3528905107).toInt32 = (nU x * 3528905107).toInt32 := by
  have e : (3528905107 : Int64) = lN 3528905107 := by decide
  have h := mul_lN (uB_lt x) (show 3528905107 < 4294967296 by decide)
  rw [nU_lN, e, h.1, h.2, prod_hi (uB_lt x) (by decide), prod_lo, lN_i, lN_i]
  refine ⟨rfl, uB_inj ?_⟩
  rw [uB_nI, uB_nI, Nat.mod_mod]
theorem i64_nI {n : Nat} (h : n < 2 ^ 31) : (nI n).toInt64 = lN n := nI_l h
theorem dr_mul (o : Int32) {N : Nat} (hN : N < 2 ^ 31) : (mHi (nU o) (nI N).toInt64).toInt32 = (lus (nU o * (nI N).toInt64) 32).toInt32 ∧ mLo (nU o) (nI N).toInt64 = nU (nU o * (nI N).toInt64).toInt32 := by
  have h := mul_lN (uB_lt o) (show N < 4294967296 by omega)
  rw [i64_nI hN, nU_lN o, h.1, h.2, prod_hi (uB_lt o) (by omega), prod_lo, lN_i, nU_nI]
  exact ⟨rfl, rfl⟩
/-- what is drawn lies below -/
theorem bel_lt {N : Nat} (h0 : 0 < N) (hN : N < 2 ^ 31) (k : Int32) : ∀ (j : Nat) (t : Int64 × Int64), ∃ r : Nat, r < N ∧ (bel (nI N) k j t).1 = nI r
  | 0, t => ⟨0, h0, nI_0.symm⟩
  | j + 1, t => by
    unfold bel
    split
    · refine ⟨uB (otp k t.1 t.2) * N / 4294967296, ?_, ?_⟩
      · rw [Nat.div_lt_iff_lt_mul (by omega)]
        have := uB_lt (otp k t.1 t.2)
        rw [Nat.mul_comm N]
        exact (Nat.mul_lt_mul_right h0).mpr this
      · show (lus (nU (otp k t.1 t.2) * (nI N).toInt64) 32).toInt32 = _
        rw [i64_nI hN, nU_lN, prod_hi (uB_lt _) (by omega)]
    · exact bel_lt h0 hN k j _
theorem bel_ok {n k : Int32} : ∀ (j : Nat) (t : Int64 × Int64), okS k t.1 t.2 → okS k (bel n k j t).2.1 (bel n k j t).2.2
  | 0, t, h => h
  | j + 1, t, h => by
    unfold bel
    split
    · exact okS_mv h
    · exact bel_ok j _ (okS_mv h)
theorem mvN_ok {k : Int32} : ∀ (j : Nat) (t : Int64 × Int64), okS k t.1 t.2 → okS k (mvN k j t).1 (mvN k j t).2
  | 0, t, h => h
  | j + 1, t, h => mvN_ok j _ (okS_mv h)
/-- the reference's word of kind 0 -/
theorem r59 (x : Int64) : ∃ j : Nat, j < 32 ∧ (lus x 59).toInt32 = nI j := by
  have h := uL_lus x (k := 59) (n := 59) (by decide)
  have h2 := uL_lt x
  refine ⟨uL x / 2 ^ 59, ?_, ?_⟩
  · rw [Nat.div_lt_iff_lt_mul (Nat.two_pow_pos _)]
    exact h2
  · apply uB_inj
    rw [uB_l2i, h, uB_nI]
theorem rot0 (v : Int32) (x : Int64) : rtN (32 - (lus x 59).toInt32).toNatClampNeg v = ror v (lus x 59).toInt32 := by
  obtain ⟨j, hj, e⟩ := r59 x
  have e2 : (32 : Int32) - nI j = nI (32 - j) := pk_sub (a := 32) (b := j) (by omega)
  rw [e, e2, nI_clamp (by omega), ror_rtN hj]
/-- joined, twoWords, make -/
def jnd (a b : Int32) : Int64 := (a.toInt64 <<< ((32 : Int32).toInt64 &&& 63)) ||| nU b
theorem jnd_eq (a b : Int32) : a.toInt64 * 4294967296 + nU b = jnd a b := by
  apply uL_inj
  have h1 : uL (a.toInt64 <<< ((32 : Int32).toInt64 &&& 63)) = uL a.toInt64 * 4294967296 % 18446744073709551616 := by
    show (a.toInt64 <<< ((32 : Int32).toInt64 &&& 63)).toBitVec.toNat = _
    rw [Int64.toBitVec_shiftLeft]
    show (a.toInt64.toBitVec <<< (((32 : Int32).toInt64 &&& 63).toBitVec.smod 64).toNat).toNat = _
    rw [show (((32 : Int32).toInt64 &&& 63).toBitVec.smod 64).toNat = 32 by decide, BitVec.toNat_shiftLeft, Nat.shiftLeft_eq]
    rfl
  have h2 := uB_lt b
  have h3 : uL a.toInt64 * 4294967296 % 18446744073709551616 = 2 ^ 32 * (uL a.toInt64 % 4294967296) := by omega
  have e : uL (4294967296 : Int64) = 4294967296 := by decide
  show _ = (a.toInt64 <<< ((32 : Int32).toInt64 &&& 63) ||| nU b).toBitVec.toNat
  rw [Int64.toBitVec_or, BitVec.toNat_or]
  show _ = uL (a.toInt64 <<< ((32 : Int32).toInt64 &&& 63)) ||| uL (nU b)
  rw [h1, uL_nU, h3, ← Nat.two_pow_add_eq_or_of_lt (i := 32) (by omega), ← h3, uL_add, uL_mul, uL_nU, e]
  omega
end
section
/-! The direction words: the document's m, row by row, and aligned. -/
def mTab : List (List Nat) := [[1, 1, 1, 1, 1, 1, 1, 1, 1, 1, 1, 1, 1, 1, 1, 1, 1, 1, 1, 1], [1, 3, 5, 15, 17, 51, 85, 255, 257, 771, 1285, 3855, 4369, 13107, 21845, 65535, 65537, 196611, 327685, 983055], [1, 3, 3, 9, 29, 23, 71, 197, 209, 627, 1907, 1369, 4109, 12327, 12407, 36949, 119041, 94979, 291587, 809225], [1, 3, 1, 5, 31, 29, 81, 147, 433, 149, 719, 3693, 3841, 11523, 16641, 49925, 16671, 83229, 515921, 482707]]
def mT (r j : Nat) : Int32 := nI ((mTab.getD r []).getD j 0)
def dirT (r j : Nat) : Int32 := mT r j <<< ((31 - nI j) &&& 31)
theorem mT_0 : ∀ j, j < 20 → mT 0 j = 1 := by decide +kernel
theorem mT_1 : ∀ j, j < 20 → 1 ≤ j → mT 1 j = mT 1 (j - 1) ^^^ (mT 1 (j - 1) <<< ((1 : Int32) &&& 31)) := by decide +kernel
theorem mT_2 : ∀ j, j < 20 → 2 ≤ j → mT 2 j = mT 2 (j - 2) ^^^ (mT 2 (j - 2) <<< ((2 : Int32) &&& 31)) ^^^ (mT 2 (j - 1) <<< ((1 : Int32) &&& 31)) := by decide +kernel
theorem mT_3 : ∀ j, j < 20 → 3 ≤ j → mT 3 j = mT 3 (j - 3) ^^^ (mT 3 (j - 3) <<< ((3 : Int32) &&& 31)) ^^^ (mT 3 (j - 2) <<< ((2 : Int32) &&& 31)) := by decide +kernel
theorem mT_b : mT 1 0 = 1 ∧ mT 2 0 = 1 ∧ mT 2 1 = 3 ∧ mT 3 0 = 1 ∧ mT 3 1 = 3 ∧ mT 3 2 = 1 := by decide +kernel
/-- the coordinates 0 to 3: the words of the set bits of the Gray number, joined -/
def grC (ix : Int32) : Int32 := ix ^^^ ius ix 1
def joN (r : Nat) (g : Int32) : Nat → Int32
  | 0 => 0
  | j + 1 => if ius g (nI j) &&& 1 = 1 then joN r g j ^^^ dirT r j else joN r g j
/-- the coordinates 4 and 5: the digits turned -/
def tuN (b : Nat) : Nat → Nat × Nat → Nat × Nat
  | 0, t => t
  | n + 1, t => let u := tuN b n t; (u.1 * b + u.2 % b, u.2 / b)
end
section
/-! Static methods: their answers, no world touched. -/
def isK (k : Int32) : Int32 := if k < 0 then 0 else if 3 < k then 0 else 1
def isFL (k : Int32) : Int32 := if k = 0 then 1 else 0
def isSL (k : Int32) : Int32 := if k = 0 then 1 else if k = 2 then 1 else 0
def fsd (k a b : Int32) : Int64 := if k = 0 then jnd a b else a.toInt64
def ssd (k a b : Int32) : Int64 := if k = 0 then 2 * jnd a b + 1 else if k = 2 then nU b else b.toInt64
def isR (x : Int64) : Int32 := if x < 0 then 0 else if 2147483647 ≤ x then 0 else 1
def isSt (k : Int32) (f s : Int64) : Int32 := if k = 0 then (if s &&& 1 = 1 then 1 else 0) else if k = 1 then (if f = 0 ∧ s = 0 then 0 else 1) else if k = 2 then (if s < 0 then 0 else 1) else if k = 3 then (if isR f = 0 then 0 else if isR s = 0 then 0 else if f = 0 ∧ s = 0 then 0 else 1) else 0
def wOP (b : Int32) : Int32 := if b = 0 then 1 else 2
def wOK (k : Int32) : Int32 := 2 + wOP (isFL k) + wOP (isSL k)
theorem sw3 (x : Int32) : x = 0 ∨ x = 1 ∨ x = 2 ∨ ((x.toInt < 0 ∨ 2 < x.toInt) ∧ ¬ x = 0 ∧ ¬ x = 1 ∧ ¬ x = 2) := by
  rcases Classical.em (x = 0) with h | h0
  · exact Or.inl h
  rcases Classical.em (x = 1) with h | h1
  · exact Or.inr (Or.inl h)
  rcases Classical.em (x = 2) with h | h2
  · exact Or.inr (Or.inr (Or.inl h))
  have a0 := lv_neT h0 (show (0 : Int32).toInt = 0 by decide)
  have a1 := lv_neT h1 (show (1 : Int32).toInt = 1 by decide)
  have a2 := lv_neT h2 (show (2 : Int32).toInt = 2 by decide)
  exact Or.inr (Or.inr (Or.inr ⟨by omega, h0, h1, h2⟩))
theorem sw4 (x : Int32) : x = 0 ∨ x = 1 ∨ x = 2 ∨ x = 3 ∨ ((x.toInt < 0 ∨ 3 < x.toInt) ∧ ¬ x = 0 ∧ ¬ x = 1 ∧ ¬ x = 2 ∧ ¬ x = 3) := by
  rcases sw3 x with h | h | h | ⟨h, h0, h1, h2⟩
  · exact Or.inl h
  · exact Or.inr (Or.inl h)
  · exact Or.inr (Or.inr (Or.inl h))
  rcases Classical.em (x = 3) with h3 | h3
  · exact Or.inr (Or.inr (Or.inr (Or.inl h3)))
  have a3 := lv_neT h3 (show (3 : Int32).toInt = 3 by decide)
  exact Or.inr (Or.inr (Or.inr (Or.inr ⟨by omega, h0, h1, h2, h3⟩)))
set_option maxRecDepth 100000 in
set_option maxHeartbeats 4000000 in
theorem c_JI_rotateLeft {l : Launch} {D : va_G} {K : Nat → ClassId} {A : Nat → Prop} {wl : va_W} {x d : Int32} : ctI l y_JI_rotateLeft prog_7_method_50_code 2 (some .int) 0 0 0 [.int x, .int d] D K A (wl) (fun r w => r = rol x d ∧ w = wl) := by
  refine mt_of (by decide) (Nat.le_of_ble_eq_true rfl) ?_
  intro p e s m below meth c ls B hw hl
  have hx := B.1
  have hb := B.2.1
  have hl : lv_has ls 2 [(0, .int x), (1, .int d)] := hl
  refine lv_iload_n hx hb d_JI_rotateLeft_0 rfl (lv_at hl 0 rfl) ?_
  refine lv_iload_n hx hb d_JI_rotateLeft_1 rfl (lv_at hl 1 rfl) ?_
  refine lv_ishl hx hb d_JI_rotateLeft_2 ?_
  refine lv_iload_n hx hb d_JI_rotateLeft_3 rfl (lv_at hl 0 rfl) ?_
  refine lv_iload_n hx hb d_JI_rotateLeft_4 rfl (lv_at hl 1 rfl) ?_
  refine lv_ineg hx hb d_JI_rotateLeft_5 ?_
  refine lv_iushr hx hb d_JI_rotateLeft_6 rfl ?_
  refine lv_ior hx hb d_JI_rotateLeft_7 ?_
  exact r_i B hw d_JI_rotateLeft_8 ⟨rfl, rfl⟩
set_option maxRecDepth 100000 in
set_option maxHeartbeats 4000000 in
theorem c_JI_rotateRight {l : Launch} {D : va_G} {K : Nat → ClassId} {A : Nat → Prop} {wl : va_W} {x d : Int32} : ctI l y_JI_rotateRight prog_7_method_51_code 2 (some .int) 0 0 0 [.int x, .int d] D K A (wl) (fun r w => r = ror x d ∧ w = wl) := by
  refine mt_of (by decide) (Nat.le_of_ble_eq_true rfl) ?_
  intro p e s m below meth c ls B hw hl
  have hx := B.1
  have hb := B.2.1
  have hl : lv_has ls 2 [(0, .int x), (1, .int d)] := hl
  refine lv_iload_n hx hb d_JI_rotateRight_0 rfl (lv_at hl 0 rfl) ?_
  refine lv_iload_n hx hb d_JI_rotateRight_1 rfl (lv_at hl 1 rfl) ?_
  refine lv_iushr hx hb d_JI_rotateRight_2 rfl ?_
  refine lv_iload_n hx hb d_JI_rotateRight_3 rfl (lv_at hl 0 rfl) ?_
  refine lv_iload_n hx hb d_JI_rotateRight_4 rfl (lv_at hl 1 rfl) ?_
  refine lv_ineg hx hb d_JI_rotateRight_5 ?_
  refine lv_ishl hx hb d_JI_rotateRight_6 ?_
  refine lv_ior hx hb d_JI_rotateRight_7 ?_
  exact r_i B hw d_JI_rotateRight_8 ⟨rfl, rfl⟩
set_option maxRecDepth 100000 in
set_option maxHeartbeats 4000000 in
theorem c_NS_asNumber {l : Launch} {D : va_G} {K : Nat → ClassId} {A : Nat → Prop} {wl : va_W} {x : Int32} : ctL l y_NS_asNumber prog_1_method_27_code 1 0 0 0 [.int x] D K A (wl) (fun r w => r = nU x ∧ w = wl) := by
  refine mt_of (by decide) (Nat.le_of_ble_eq_true rfl) ?_
  intro p e s m below meth c ls B hw hl
  have hx := B.1
  have hb := B.2.1
  have hl : lv_has ls 1 [(0, .int x)] := hl
  refine lv_iload_n hx hb d_NS_asNumber_0 rfl (lv_at hl 0 rfl) ?_
  refine lv_i2l hx hb d_NS_asNumber_1 rfl ?_
  refine g_ldc2 B kc_NS_136 d_NS_asNumber_2 ?_
  refine lv_land hx hb d_NS_asNumber_5 ?_
  exact r_l B hw d_NS_asNumber_6 ⟨rfl, rfl⟩
set_option maxRecDepth 100000 in
set_option maxHeartbeats 4000000 in
theorem c_NS_joined {l : Launch} {D : va_G} {K : Nat → ClassId} {A : Nat → Prop} {wl : va_W} {a b : Int32} : ctL l y_NS_joined prog_1_method_28_code 2 1 0 0 [.int a, .int b] D K A (wl) (fun r w => r = jnd a b ∧ w = wl) := by
  refine mt_of (by decide) (Nat.le_of_ble_eq_true rfl) ?_
  intro p e s m below meth c ls B hw hl
  have hx := B.1
  have hb := B.2.1
  have hl : lv_has ls 2 [(0, .int a), (1, .int b)] := hl
  refine lv_iload_n hx hb d_NS_joined_0 rfl (lv_at hl 0 rfl) ?_
  refine lv_i2l hx hb d_NS_joined_1 rfl ?_
  refine lv_bipush (v := 32) hx hb d_NS_joined_2 (by decide) ?_
  refine lv_lshl hx hb d_NS_joined_4 rfl ?_
  refine lv_iload_n hx hb d_NS_joined_5 rfl (lv_at hl 1 rfl) ?_
  refine k_l (k_runS B hw c_NS_asNumber rfl rfl cf_NS_80 ⟨Nat.le_of_ble_eq_true rfl, Nat.le_of_ble_eq_true rfl⟩ rfl hl.1 rfl (Nat.le_of_ble_eq_true rfl) d_NS_joined_6 ⟨Nat.le_of_ble_eq_true rfl, Nat.le_of_ble_eq_true rfl⟩) hw (fun r6 w1 H locs hq hw => ?_)
  obtain ⟨rfl, ew⟩ := hq
  rw [ew] at hw
  refine lv_lor hx hb d_NS_joined_9 ?_
  exact r_l B hw d_NS_joined_10 ⟨rfl, rfl⟩
set_option maxRecDepth 100000 in
set_option maxHeartbeats 4000000 in
theorem c_ST_isKind {l : Launch} {D : va_G} {K : Nat → ClassId} {A : Nat → Prop} {wl : va_W} {k : Int32} : ctI l y_ST_isKind prog_4_method_2_code 1 (some .boolean) 0 0 0 [.int k] D K A (wl) (fun r w => r = isK k ∧ w = wl) := by
  refine mt_of (by decide) (Nat.le_of_ble_eq_true rfl) ?_
  intro p e s m below meth c ls B hw hl
  have hx := B.1
  have hb := B.2.1
  have hl : lv_has ls 1 [(0, .int k)] := hl
  refine lv_iload_n hx hb d_ST_isKind_0 rfl (lv_at hl 0 rfl) ?_
  refine lv_if_lt (tgt := 13) hx hb d_ST_isKind_1 rfl (fun h1 => ?_) (fun h1 => ?_)
  · refine lv_iconst (v := 0) hx hb d_ST_isKind_13 (by decide) ?_
    exact r_z B hw (by decide) d_ST_isKind_14 ⟨by simp [isK, *], rfl⟩
  · refine lv_iload_n hx hb d_ST_isKind_4 rfl (lv_at hl 0 rfl) ?_
    refine lv_iconst (v := 3) hx hb d_ST_isKind_5 (by decide) ?_
    refine lv_icmp_gt (tgt := 13) hx hb d_ST_isKind_6 rfl (fun h6 => ?_) (fun h6 => ?_)
    · refine lv_iconst (v := 0) hx hb d_ST_isKind_13 (by decide) ?_
      exact r_z B hw (by decide) d_ST_isKind_14 ⟨by simp [isK, *], rfl⟩
    · refine lv_iconst (v := 1) hx hb d_ST_isKind_9 (by decide) ?_
      refine lv_goto (tgt := 14) hx hb d_ST_isKind_10 rfl ?_
      exact r_z B hw (by decide) d_ST_isKind_14 ⟨by simp [isK, *], rfl⟩
set_option maxRecDepth 100000 in
set_option maxHeartbeats 4000000 in
theorem c_ST_isFirstLong {l : Launch} {D : va_G} {K : Nat → ClassId} {A : Nat → Prop} {wl : va_W} {k : Int32} : ctI l y_ST_isFirstLong prog_4_method_3_code 1 (some .boolean) 0 0 0 [.int k] D K A (wl) (fun r w => r = isFL k ∧ w = wl) := by
  refine mt_of (by decide) (Nat.le_of_ble_eq_true rfl) ?_
  intro p e s m below meth c ls B hw hl
  have hx := B.1
  have hb := B.2.1
  have hl : lv_has ls 1 [(0, .int k)] := hl
  refine lv_iload_n hx hb d_ST_isFirstLong_0 rfl (lv_at hl 0 rfl) ?_
  refine lv_if_ne (tgt := 8) hx hb d_ST_isFirstLong_1 rfl (fun h1 => ?_) (fun h1 => ?_)
  · refine lv_iconst (v := 0) hx hb d_ST_isFirstLong_8 (by decide) ?_
    exact r_z B hw (by decide) d_ST_isFirstLong_9 ⟨by simp [isFL, *], rfl⟩
  · refine lv_iconst (v := 1) hx hb d_ST_isFirstLong_4 (by decide) ?_
    refine lv_goto (tgt := 9) hx hb d_ST_isFirstLong_5 rfl ?_
    exact r_z B hw (by decide) d_ST_isFirstLong_9 ⟨by simp [isFL, *], rfl⟩
set_option maxRecDepth 100000 in
set_option maxHeartbeats 4000000 in
theorem c_ST_isSecondLong {l : Launch} {D : va_G} {K : Nat → ClassId} {A : Nat → Prop} {wl : va_W} {k : Int32} : ctI l y_ST_isSecondLong prog_4_method_4_code 1 (some .boolean) 0 0 0 [.int k] D K A (wl) (fun r w => r = isSL k ∧ w = wl) := by
  refine mt_of (by decide) (Nat.le_of_ble_eq_true rfl) ?_
  intro p e s m below meth c ls B hw hl
  have hx := B.1
  have hb := B.2.1
  have hl : lv_has ls 1 [(0, .int k)] := hl
  refine lv_iload_n hx hb d_ST_isSecondLong_0 rfl (lv_at hl 0 rfl) ?_
  refine lv_if_eq (tgt := 9) hx hb d_ST_isSecondLong_1 rfl (fun h1 => ?_) (fun h1 => ?_)
  · refine lv_iconst (v := 1) hx hb d_ST_isSecondLong_9 (by decide) ?_
    refine lv_goto (tgt := 14) hx hb d_ST_isSecondLong_10 rfl ?_
    exact r_z B hw (by decide) d_ST_isSecondLong_14 ⟨by simp [isSL, *], rfl⟩
  · refine lv_iload_n hx hb d_ST_isSecondLong_4 rfl (lv_at hl 0 rfl) ?_
    refine lv_iconst (v := 2) hx hb d_ST_isSecondLong_5 (by decide) ?_
    refine lv_icmp_ne (tgt := 13) hx hb d_ST_isSecondLong_6 rfl (fun h6 => ?_) (fun h6 => ?_)
    · refine lv_iconst (v := 0) hx hb d_ST_isSecondLong_13 (by decide) ?_
      exact r_z B hw (by decide) d_ST_isSecondLong_14 ⟨by simp [isSL, *], rfl⟩
    · refine lv_iconst (v := 1) hx hb d_ST_isSecondLong_9 (by decide) ?_
      refine lv_goto (tgt := 14) hx hb d_ST_isSecondLong_10 rfl ?_
      exact r_z B hw (by decide) d_ST_isSecondLong_14 ⟨by simp [isSL, *], rfl⟩
set_option maxRecDepth 100000 in
set_option maxHeartbeats 4000000 in
theorem c_ST_firstOfSeed {l : Launch} {D : va_G} {K : Nat → ClassId} {A : Nat → Prop} {wl : va_W} {k a b : Int32} : ctL l y_ST_firstOfSeed prog_4_method_5_code 3 2 0 0 [.int k, .int a, .int b] D K A (wl) (fun r w => r = fsd k a b ∧ w = wl) := by
  refine mt_of (by decide) (Nat.le_of_ble_eq_true rfl) ?_
  intro p e s m below meth c ls B hw hl
  have hx := B.1
  have hb := B.2.1
  have hl : lv_has ls 3 [(0, .int k), (1, .int a), (2, .int b)] := hl
  refine lv_iload_n hx hb d_ST_firstOfSeed_0 rfl (lv_at hl 0 rfl) ?_
  refine lv_if_ne (tgt := 12) hx hb d_ST_firstOfSeed_1 rfl (fun h1 => ?_) (fun h1 => ?_)
  · refine lv_iload_n hx hb d_ST_firstOfSeed_12 rfl (lv_at hl 1 rfl) ?_
    refine lv_i2l hx hb d_ST_firstOfSeed_13 rfl ?_
    exact r_l B hw d_ST_firstOfSeed_14 ⟨by simp [fsd, *], rfl⟩
  · refine lv_iload_n hx hb d_ST_firstOfSeed_4 rfl (lv_at hl 1 rfl) ?_
    refine lv_iload_n hx hb d_ST_firstOfSeed_5 rfl (lv_at hl 2 rfl) ?_
    refine k_l (k_runN B hw c_NS_joined rfl rfl cf_ST_20 ⟨Nat.le_of_ble_eq_true rfl, Nat.le_of_ble_eq_true rfl⟩ rfl hl.1 rfl (Nat.le_of_ble_eq_true rfl) d_ST_firstOfSeed_6 ⟨Nat.le_of_ble_eq_true rfl, Nat.le_of_ble_eq_true rfl⟩) hw (fun r6 w1 H locs hq hw => ?_)
    obtain ⟨rfl, ew⟩ := hq
    rw [ew] at hw
    refine lv_goto (tgt := 14) hx hb d_ST_firstOfSeed_9 rfl ?_
    exact r_l B hw d_ST_firstOfSeed_14 ⟨by simp [fsd, *], rfl⟩
set_option maxRecDepth 100000 in
set_option maxHeartbeats 4000000 in
theorem c_ST_secondOfSeed {l : Launch} {D : va_G} {K : Nat → ClassId} {A : Nat → Prop} {wl : va_W} {k a b : Int32} : ctL l y_ST_secondOfSeed prog_4_method_6_code 3 2 0 0 [.int k, .int a, .int b] D K A (wl) (fun r w => r = ssd k a b ∧ w = wl) := by
  refine mt_of (by decide) (Nat.le_of_ble_eq_true rfl) ?_
  intro p e s m below meth c ls B hw hl
  have hx := B.1
  have hb := B.2.1
  have hl : lv_has ls 3 [(0, .int k), (1, .int a), (2, .int b)] := hl
  refine lv_iload_n hx hb d_ST_secondOfSeed_0 rfl (lv_at hl 0 rfl) ?_
  rcases Classical.em (k = 0) with rfl | n0
  · refine lv_lookup (tgt := 28) hx hb d_ST_secondOfSeed_1 (by decide) (by decide : _ = (27 : Int)) rfl ?_
    refine g_ldc2 B kc_ST_26 d_ST_secondOfSeed_28 ?_
    refine lv_iload_n hx hb d_ST_secondOfSeed_31 rfl (lv_at hl 1 rfl) ?_
    refine lv_iload_n hx hb d_ST_secondOfSeed_32 rfl (lv_at hl 2 rfl) ?_
    refine k_l (k_runN B hw c_NS_joined rfl rfl cf_ST_20 ⟨Nat.le_of_ble_eq_true rfl, Nat.le_of_ble_eq_true rfl⟩ rfl hl.1 rfl (Nat.le_of_ble_eq_true rfl) d_ST_secondOfSeed_33 ⟨Nat.le_of_ble_eq_true rfl, Nat.le_of_ble_eq_true rfl⟩) hw (fun r33 w1 H locs hq hw => ?_)
    obtain ⟨rfl, ew⟩ := hq
    rw [ew] at hw
    refine lv_lmul hx hb d_ST_secondOfSeed_36 ?_
    refine lv_lconst (v := 1) hx hb d_ST_secondOfSeed_37 (by decide) ?_
    refine lv_ladd hx hb d_ST_secondOfSeed_38 ?_
    exact r_l B hw d_ST_secondOfSeed_39 ⟨by simp [ssd, *], rfl⟩
  rcases Classical.em (k = 2) with rfl | n2
  · refine lv_lookup (tgt := 40) hx hb d_ST_secondOfSeed_1 (by decide) (by decide : _ = (39 : Int)) rfl ?_
    refine lv_iload_n hx hb d_ST_secondOfSeed_40 rfl (lv_at hl 2 rfl) ?_
    refine k_l (k_runN B hw c_NS_asNumber rfl rfl cf_ST_28 ⟨Nat.le_of_ble_eq_true rfl, Nat.le_of_ble_eq_true rfl⟩ rfl hl.1 rfl (Nat.le_of_ble_eq_true rfl) d_ST_secondOfSeed_41 ⟨Nat.le_of_ble_eq_true rfl, Nat.le_of_ble_eq_true rfl⟩) hw (fun r41 w1 H locs hq hw => ?_)
    obtain ⟨rfl, ew⟩ := hq
    rw [ew] at hw
    exact r_l B hw d_ST_secondOfSeed_44 ⟨by simp [ssd, *], rfl⟩
  refine lv_lookup (tgt := 45) (off := 44) hx hb d_ST_secondOfSeed_1 (by decide) (by show Op.lookupswitch.offset [(0, 27), (2, 39)] 44 k.toInt = 44; rw [lv_osw n0 (by decide), lv_osw n2 (by decide)]; rfl) rfl ?_
  refine lv_iload_n hx hb d_ST_secondOfSeed_45 rfl (lv_at hl 2 rfl) ?_
  refine lv_i2l hx hb d_ST_secondOfSeed_46 rfl ?_
  exact r_l B hw d_ST_secondOfSeed_47 ⟨by simp [ssd, *], rfl⟩
set_option maxRecDepth 100000 in
set_option maxHeartbeats 4000000 in
theorem c_ST_isRemainder {l : Launch} {D : va_G} {K : Nat → ClassId} {A : Nat → Prop} {wl : va_W} {x : Int64} : ctI l y_ST_isRemainder prog_4_method_8_code 2 (some .boolean) 0 0 0 [.long x] D K A (wl) (fun r w => r = isR x ∧ w = wl) := by
  refine mt_of (by decide) (Nat.le_of_ble_eq_true rfl) ?_
  intro p e s m below meth c ls B hw hl
  have hx := B.1
  have hb := B.2.1
  have hl : lv_has ls 2 [(0, .long x)] := hl
  refine lv_lload_n hx hb d_ST_isRemainder_0 rfl (lv_at hl 0 rfl) ?_
  refine lv_lconst (v := 0) hx hb d_ST_isRemainder_1 (by decide) ?_
  refine W.lcmp hx hb d_ST_isRemainder_2 ?_
  refine lv_if_lt (tgt := 18) hx hb d_ST_isRemainder_3 rfl (fun h3 => ?_) (fun h3 => ?_)
  · rw [lg_cmp_lt] at h3
    refine lv_iconst (v := 0) hx hb d_ST_isRemainder_18 (by decide) ?_
    exact r_z B hw (by decide) d_ST_isRemainder_19 ⟨by simp [isR, *], rfl⟩
  · rw [lg_cmp_lt] at h3
    refine lv_lload_n hx hb d_ST_isRemainder_6 rfl (lv_at hl 0 rfl) ?_
    refine g_ldc2 B kc_ST_36 d_ST_isRemainder_7 ?_
    refine W.lcmp hx hb d_ST_isRemainder_10 ?_
    refine lv_if_ge (tgt := 18) hx hb d_ST_isRemainder_11 rfl (fun h11 => ?_) (fun h11 => ?_)
    · rw [lg_cmp_ge] at h11
      refine lv_iconst (v := 0) hx hb d_ST_isRemainder_18 (by decide) ?_
      exact r_z B hw (by decide) d_ST_isRemainder_19 ⟨by simp [isR, *], rfl⟩
    · rw [lg_cmp_ge] at h11
      refine lv_iconst (v := 1) hx hb d_ST_isRemainder_14 (by decide) ?_
      refine lv_goto (tgt := 19) hx hb d_ST_isRemainder_15 rfl ?_
      exact r_z B hw (by decide) d_ST_isRemainder_19 ⟨by simp [isR, *], rfl⟩
set_option maxRecDepth 100000 in
set_option maxHeartbeats 4000000 in
theorem c_ST_isState {l : Launch} {D : va_G} {K : Nat → ClassId} {A : Nat → Prop} {wl : va_W} {k : Int32} {f g : Int64} : ctI l y_ST_isState prog_4_method_7_code 5 (some .boolean) 1 0 0 [.int k, .long f, .long g] D K A (wl) (fun r w => r = isSt k f g ∧ w = wl) := by
  refine mt_of (by decide) (Nat.le_of_ble_eq_true rfl) ?_
  intro p e s m below meth c ls B hw hl
  have hx := B.1
  have hb := B.2.1
  have hl : lv_has ls 5 [(0, .int k), (1, .long f), (3, .long g)] := hl
  refine lv_iload_n hx hb d_ST_isState_0 rfl (lv_at hl 0 rfl) ?_
  rcases sw4 k with rfl | rfl | rfl | rfl | ⟨hd1, n0, n1, n2, n3⟩
  · refine lv_tableIn (tgt := 32) hx hb d_ST_isState_1 (by decide) (by decide) rfl rfl ?_
    refine lv_lload_n hx hb d_ST_isState_32 rfl (lv_at hl 2 rfl) ?_
    refine lv_lconst (v := 1) hx hb d_ST_isState_33 (by decide) ?_
    refine lv_land hx hb d_ST_isState_34 ?_
    refine lv_lconst (v := 1) hx hb d_ST_isState_35 (by decide) ?_
    refine W.lcmp hx hb d_ST_isState_36 ?_
    refine lv_if_ne (tgt := 44) hx hb d_ST_isState_37 rfl (fun h37 => ?_) (fun h37 => ?_)
    · rw [lg_cmp_eq] at h37
      refine lv_iconst (v := 0) hx hb d_ST_isState_44 (by decide) ?_
      exact r_z B hw (by decide) d_ST_isState_45 ⟨by simp [isSt, *], rfl⟩
    · rw [lg_cmp_eq] at h37
      refine lv_iconst (v := 1) hx hb d_ST_isState_40 (by decide) ?_
      refine lv_goto (tgt := 45) hx hb d_ST_isState_41 rfl ?_
      exact r_z B hw (by decide) d_ST_isState_45 ⟨by simp [isSt, *], rfl⟩
  · refine lv_tableIn (tgt := 46) hx hb d_ST_isState_1 (by decide) (by decide) rfl rfl ?_
    refine lv_lload_n hx hb d_ST_isState_46 rfl (lv_at hl 1 rfl) ?_
    refine lv_lconst (v := 0) hx hb d_ST_isState_47 (by decide) ?_
    refine W.lcmp hx hb d_ST_isState_48 ?_
    refine lv_if_ne (tgt := 58) hx hb d_ST_isState_49 rfl (fun h49 => ?_) (fun h49 => ?_)
    · rw [lg_cmp_eq] at h49
      refine lv_iconst (v := 1) hx hb d_ST_isState_58 (by decide) ?_
      refine lv_goto (tgt := 63) hx hb d_ST_isState_59 rfl ?_
      exact r_z B hw (by decide) d_ST_isState_63 ⟨by simp [isSt, *], rfl⟩
    · rw [lg_cmp_eq] at h49
      refine lv_lload_n hx hb d_ST_isState_52 rfl (lv_at hl 2 rfl) ?_
      refine lv_lconst (v := 0) hx hb d_ST_isState_53 (by decide) ?_
      refine W.lcmp hx hb d_ST_isState_54 ?_
      refine lv_if_eq (tgt := 62) hx hb d_ST_isState_55 rfl (fun h55 => ?_) (fun h55 => ?_)
      · rw [lg_cmp_eq] at h55
        refine lv_iconst (v := 0) hx hb d_ST_isState_62 (by decide) ?_
        exact r_z B hw (by decide) d_ST_isState_63 ⟨by simp [isSt, *], rfl⟩
      · rw [lg_cmp_eq] at h55
        refine lv_iconst (v := 1) hx hb d_ST_isState_58 (by decide) ?_
        refine lv_goto (tgt := 63) hx hb d_ST_isState_59 rfl ?_
        exact r_z B hw (by decide) d_ST_isState_63 ⟨by simp [isSt, *], rfl⟩
  · refine lv_tableIn (tgt := 64) hx hb d_ST_isState_1 (by decide) (by decide) rfl rfl ?_
    refine lv_lload_n hx hb d_ST_isState_64 rfl (lv_at hl 2 rfl) ?_
    refine lv_lconst (v := 0) hx hb d_ST_isState_65 (by decide) ?_
    refine W.lcmp hx hb d_ST_isState_66 ?_
    refine lv_if_lt (tgt := 74) hx hb d_ST_isState_67 rfl (fun h67 => ?_) (fun h67 => ?_)
    · rw [lg_cmp_lt] at h67
      refine lv_iconst (v := 0) hx hb d_ST_isState_74 (by decide) ?_
      exact r_z B hw (by decide) d_ST_isState_75 ⟨by simp [isSt, *], rfl⟩
    · rw [lg_cmp_lt] at h67
      refine lv_iconst (v := 1) hx hb d_ST_isState_70 (by decide) ?_
      refine lv_goto (tgt := 75) hx hb d_ST_isState_71 rfl ?_
      exact r_z B hw (by decide) d_ST_isState_75 ⟨by simp [isSt, *], rfl⟩
  · refine lv_tableIn (tgt := 76) hx hb d_ST_isState_1 (by decide) (by decide) rfl rfl ?_
    refine lv_lload_n hx hb d_ST_isState_76 rfl (lv_at hl 1 rfl) ?_
    refine k_i (k_runS B hw c_ST_isRemainder rfl rfl cf_ST_32 ⟨Nat.le_of_ble_eq_true rfl, Nat.le_of_ble_eq_true rfl⟩ rfl hl.1 rfl (Nat.le_of_ble_eq_true rfl) d_ST_isState_77 ⟨Nat.le_of_ble_eq_true rfl, Nat.le_of_ble_eq_true rfl⟩) hw (fun r77 w1 H locs hq hw => ?_)
    obtain ⟨rfl, ew⟩ := hq
    rw [ew] at hw
    refine lv_if_eq (tgt := 106) hx hb d_ST_isState_80 rfl (fun h80 => ?_) (fun h80 => ?_)
    · refine lv_iconst (v := 0) hx hb d_ST_isState_106 (by decide) ?_
      exact r_z B hw (by decide) d_ST_isState_107 ⟨by simp [isSt, *], rfl⟩
    · refine lv_lload_n hx hb d_ST_isState_83 rfl (lv_at hl 2 rfl) ?_
      refine k_i (k_runS B hw c_ST_isRemainder rfl rfl cf_ST_32 ⟨Nat.le_of_ble_eq_true rfl, Nat.le_of_ble_eq_true rfl⟩ rfl hl.1 rfl (Nat.le_of_ble_eq_true rfl) d_ST_isState_84 ⟨Nat.le_of_ble_eq_true rfl, Nat.le_of_ble_eq_true rfl⟩) hw (fun r84 w1 H locs hq hw => ?_)
      obtain ⟨rfl, ew⟩ := hq
      rw [ew] at hw
      refine lv_if_eq (tgt := 106) hx hb d_ST_isState_87 rfl (fun h87 => ?_) (fun h87 => ?_)
      · refine lv_iconst (v := 0) hx hb d_ST_isState_106 (by decide) ?_
        exact r_z B hw (by decide) d_ST_isState_107 ⟨by simp [isSt, *], rfl⟩
      · refine lv_lload_n hx hb d_ST_isState_90 rfl (lv_at hl 1 rfl) ?_
        refine lv_lconst (v := 0) hx hb d_ST_isState_91 (by decide) ?_
        refine W.lcmp hx hb d_ST_isState_92 ?_
        refine lv_if_ne (tgt := 102) hx hb d_ST_isState_93 rfl (fun h93 => ?_) (fun h93 => ?_)
        · rw [lg_cmp_eq] at h93
          refine lv_iconst (v := 1) hx hb d_ST_isState_102 (by decide) ?_
          refine lv_goto (tgt := 107) hx hb d_ST_isState_103 rfl ?_
          exact r_z B hw (by decide) d_ST_isState_107 ⟨by simp [isSt, *], rfl⟩
        · rw [lg_cmp_eq] at h93
          subst h93
          refine lv_lload_n hx hb d_ST_isState_96 rfl (lv_at hl 2 rfl) ?_
          refine lv_lconst (v := 0) hx hb d_ST_isState_97 (by decide) ?_
          refine W.lcmp hx hb d_ST_isState_98 ?_
          refine lv_if_eq (tgt := 106) hx hb d_ST_isState_99 rfl (fun h99 => ?_) (fun h99 => ?_)
          · rw [lg_cmp_eq] at h99
            refine lv_iconst (v := 0) hx hb d_ST_isState_106 (by decide) ?_
            exact r_z B hw (by decide) d_ST_isState_107 ⟨by simp [isSt, *], rfl⟩
          · rw [lg_cmp_eq] at h99
            refine lv_iconst (v := 1) hx hb d_ST_isState_102 (by decide) ?_
            refine lv_goto (tgt := 107) hx hb d_ST_isState_103 rfl ?_
            exact r_z B hw (by decide) d_ST_isState_107 ⟨by simp [isSt, *], rfl⟩
  · refine lv_tableOut (tgt := 108) hx hb d_ST_isState_1 hd1 rfl ?_
    refine lv_iconst (v := 0) hx hb d_ST_isState_108 (by decide) ?_
    exact r_z B hw (by decide) d_ST_isState_109 ⟨by simp [isSt, *], rfl⟩
set_option maxRecDepth 100000 in
set_option maxHeartbeats 4000000 in
theorem c_SV_wordsOfPart {l : Launch} {D : va_G} {K : Nat → ClassId} {A : Nat → Prop} {wl : va_W} {b : Int32} : ctI l y_SV_wordsOfPart prog_3_method_8_code 1 (some .int) 0 0 0 [.int b] D K A (wl) (fun r w => r = wOP b ∧ w = wl) := by
  refine mt_of (by decide) (Nat.le_of_ble_eq_true rfl) ?_
  intro p e s m below meth c ls B hw hl
  have hx := B.1
  have hb := B.2.1
  have hl : lv_has ls 1 [(0, .int b)] := hl
  refine lv_iload_n hx hb d_SV_wordsOfPart_0 rfl (lv_at hl 0 rfl) ?_
  refine lv_if_eq (tgt := 8) hx hb d_SV_wordsOfPart_1 rfl (fun h1 => ?_) (fun h1 => ?_)
  · refine lv_iconst (v := 1) hx hb d_SV_wordsOfPart_8 (by decide) ?_
    exact r_i B hw d_SV_wordsOfPart_9 ⟨by simp [wOP, *], rfl⟩
  · refine lv_iconst (v := 2) hx hb d_SV_wordsOfPart_4 (by decide) ?_
    refine lv_goto (tgt := 9) hx hb d_SV_wordsOfPart_5 rfl ?_
    exact r_i B hw d_SV_wordsOfPart_9 ⟨by simp [wOP, *], rfl⟩
set_option maxRecDepth 100000 in
set_option maxHeartbeats 4000000 in
theorem c_SV_wordsOfKind {l : Launch} {D : va_G} {K : Nat → ClassId} {A : Nat → Prop} {wl : va_W} {k : Int32} : ctI l y_SV_wordsOfKind prog_3_method_7_code 1 (some .int) 1 0 0 [.int k] D K A (wl) (fun r w => r = wOK k ∧ w = wl) := by
  refine mt_of (by decide) (Nat.le_of_ble_eq_true rfl) ?_
  intro p e s m below meth c ls B hw hl
  have hx := B.1
  have hb := B.2.1
  have hl : lv_has ls 1 [(0, .int k)] := hl
  refine lv_iconst (v := 2) hx hb d_SV_wordsOfKind_0 (by decide) ?_
  refine lv_iload_n hx hb d_SV_wordsOfKind_1 rfl (lv_at hl 0 rfl) ?_
  refine k_i (k_runS B hw c_ST_isFirstLong rfl rfl cf_SV_31 ⟨Nat.le_of_ble_eq_true rfl, Nat.le_of_ble_eq_true rfl⟩ rfl hl.1 rfl (Nat.le_of_ble_eq_true rfl) d_SV_wordsOfKind_2 ⟨Nat.le_of_ble_eq_true rfl, Nat.le_of_ble_eq_true rfl⟩) hw (fun r2 w1 H locs hq hw => ?_)
  obtain ⟨rfl, ew⟩ := hq
  rw [ew] at hw
  refine k_i (k_runS B hw c_SV_wordsOfPart rfl rfl cf_SV_67 ⟨Nat.le_of_ble_eq_true rfl, Nat.le_of_ble_eq_true rfl⟩ rfl hl.1 rfl (Nat.le_of_ble_eq_true rfl) d_SV_wordsOfKind_5 ⟨Nat.le_of_ble_eq_true rfl, Nat.le_of_ble_eq_true rfl⟩) hw (fun r5 w1 H locs hq hw => ?_)
  obtain ⟨rfl, ew⟩ := hq
  rw [ew] at hw
  refine lv_iadd hx hb d_SV_wordsOfKind_8 ?_
  refine lv_iload_n hx hb d_SV_wordsOfKind_9 rfl (lv_at hl 0 rfl) ?_
  refine k_i (k_runS B hw c_ST_isSecondLong rfl rfl cf_SV_42 ⟨Nat.le_of_ble_eq_true rfl, Nat.le_of_ble_eq_true rfl⟩ rfl hl.1 rfl (Nat.le_of_ble_eq_true rfl) d_SV_wordsOfKind_10 ⟨Nat.le_of_ble_eq_true rfl, Nat.le_of_ble_eq_true rfl⟩) hw (fun r10 w1 H locs hq hw => ?_)
  obtain ⟨rfl, ew⟩ := hq
  rw [ew] at hw
  refine k_i (k_runS B hw c_SV_wordsOfPart rfl rfl cf_SV_67 ⟨Nat.le_of_ble_eq_true rfl, Nat.le_of_ble_eq_true rfl⟩ rfl hl.1 rfl (Nat.le_of_ble_eq_true rfl) d_SV_wordsOfKind_13 ⟨Nat.le_of_ble_eq_true rfl, Nat.le_of_ble_eq_true rfl⟩) hw (fun r13 w1 H locs hq hw => ?_)
  obtain ⟨rfl, ew⟩ := hq
  rw [ew] at hw
  refine lv_iadd hx hb d_SV_wordsOfKind_16 ?_
  exact r_i B hw d_SV_wordsOfKind_17 ⟨rfl, rfl⟩
end
section
/-! Stream: its cell is (kind, first, second). -/
abbrev oSt (k : Int32) (f g : Int64) : va_E := .inr (3, [.int k, .long f, .long g])
theorem mxR_sub (x : Int32) : x - 1640531527 = x + (-1640531527) := Int32.sub_eq_add_neg ..
theorem mxO_ev {f g : Int64} (h : g &&& 1 = 0) : mxO f g = (mxN 10 (mx0 f g)).1 := if_pos h
theorem mxO_od {f g : Int64} (h : ¬ g &&& 1 = 0) : mxO f g = (mxN 10 (mx0 f g)).2.1 := if_neg h
theorem mvF_0 (f g : Int64) : mvF 0 f g = f * 6364136223846793005 + g := if_pos rfl
theorem mvF_1 (f g : Int64) : mvF 1 f g = (rol f.toInt32 26 ^^^ (g.toInt32 ^^^ f.toInt32) ^^^ ((g.toInt32 ^^^ f.toInt32) <<< ((9 : Int32) &&& 31))).toInt64 := by
  unfold mvF; rw [if_neg (by decide), if_pos rfl]
theorem mvF_2 (f g : Int64) : mvF 2 f g = f := by
  unfold mvF; rw [if_neg (by decide), if_neg (by decide), if_pos rfl]
theorem mvF_n {k : Int32} (h0 : ¬ k = 0) (h1 : ¬ k = 1) (h2 : ¬ k = 2) (f g : Int64) : mvF k f g = nxR f g := by
  unfold mvF; rw [if_neg h0, if_neg h1, if_neg h2]
theorem mvS_0 (f g : Int64) : mvS 0 f g = g := if_pos rfl
theorem mvS_1 (f g : Int64) : mvS 1 f g = (rol (g.toInt32 ^^^ f.toInt32) 13).toInt64 := by
  unfold mvS; rw [if_neg (by decide), if_pos rfl]
theorem mvS_2 (f g : Int64) : mvS 2 f g = if g = 9223372036854775807 then 0 else g + 1 := by
  unfold mvS; rw [if_neg (by decide), if_neg (by decide), if_pos rfl]
theorem mvS_n {k : Int32} (h0 : ¬ k = 0) (h1 : ¬ k = 1) (h2 : ¬ k = 2) (f g : Int64) : mvS k f g = f := by
  unfold mvS; rw [if_neg h0, if_neg h1, if_neg h2]
theorem otp_0 (f g : Int64) : otp 0 f g = ror (lus (lus f 18 ^^^ f) 27).toInt32 (lus f 59).toInt32 := if_pos rfl
theorem otp_1 (f g : Int64) : otp 1 f g = rol (f.toInt32 * (-1640531525)) 5 * 5 := by
  unfold otp; rw [if_neg (by decide), if_pos rfl]
theorem otp_2 (f g : Int64) : otp 2 f g = mxO f g := by
  unfold otp; rw [if_neg (by decide), if_neg (by decide), if_pos rfl]
theorem otp_n {k : Int32} (h0 : ¬ k = 0) (h1 : ¬ k = 1) (h2 : ¬ k = 2) (f g : Int64) : otp k f g = (2 * nxR f g + (f &&& 1)).toInt32 := by
  unfold otp; rw [if_neg h0, if_neg h1, if_neg h2]
set_option maxRecDepth 100000 in
set_option maxHeartbeats 4000000 in
theorem c_ST_nextRemainder {l : Launch} {D : va_G} {K : Nat → ClassId} {A : Nat → Prop} {wl : va_W} {ix h : Nat} {k : Int32} {f g : Int64} (he : wl[ix]? = some (h, oSt k f g)) : ctL l y_ST_nextRemainder prog_4_method_15_code 1 0 0 0 [.ref h] D K A (wl) (fun r w => r = nxR f g ∧ w = wl) := by
  refine mt_of (by decide) (Nat.le_of_ble_eq_true rfl) ?_
  intro p e s m below meth c ls B hw hl
  have hx := B.1
  have hb := B.2.1
  have hl : lv_has ls 1 [(0, .ref h)] := hl
  refine g_ldc2 B kc_ST_77 d_ST_nextRemainder_0 ?_
  refine lv_aload_n hx hb d_ST_nextRemainder_3 rfl (lv_at hl 0 rfl) ?_
  refine g_get B hw fl_ST_13 he rfl d_ST_nextRemainder_4 ?_
  refine lv_lmul hx hb d_ST_nextRemainder_7 ?_
  refine g_ldc2 B kc_ST_79 d_ST_nextRemainder_8 ?_
  refine lv_aload_n hx hb d_ST_nextRemainder_11 rfl (lv_at hl 0 rfl) ?_
  refine g_get B hw fl_ST_17 he rfl d_ST_nextRemainder_12 ?_
  refine lv_lmul hx hb d_ST_nextRemainder_15 ?_
  refine lv_ladd hx hb d_ST_nextRemainder_16 ?_
  refine g_ldc2 B kc_ST_36 d_ST_nextRemainder_17 ?_
  refine lv_lrem hx hb d_ST_nextRemainder_20 (by decide) ?_
  exact r_l B hw d_ST_nextRemainder_21 ⟨rfl, rfl⟩
set_option maxRecDepth 100000 in
set_option maxHeartbeats 4000000 in
theorem c_ST_mixedCounter {l : Launch} {D : va_G} {K : Nat → ClassId} {A : Nat → Prop} {wl : va_W} {ix h : Nat} {k : Int32} {f g : Int64} (he : wl[ix]? = some (h, oSt k f g)) : ctI l y_ST_mixedCounter prog_4_method_14_code 7 (some .int) 1 0 0 [.ref h] D K A (wl) (fun r w => r = mxO f g ∧ w = wl) := by
  refine mt_of (by decide) (Nat.le_of_ble_eq_true rfl) ?_
  intro p e s m below meth c ls B hw hl
  have hx := B.1
  have hb := B.2.1
  have hl : lv_has ls 7 [(0, .ref h)] := hl
  refine lv_aload_n hx hb d_ST_mixedCounter_0 rfl (lv_at hl 0 rfl) ?_
  refine g_get B hw fl_ST_17 he rfl d_ST_mixedCounter_1 ?_
  refine lv_iconst (v := 1) hx hb d_ST_mixedCounter_4 (by decide) ?_
  refine lv_lushr hx hb d_ST_mixedCounter_5 rfl ?_
  refine lv_l2i hx hb d_ST_mixedCounter_6 rfl ?_
  refine lv_istore_n hx hb d_ST_mixedCounter_7 rfl hl (by decide) rfl (fun ls (hl : lv_has ls 7 [(1, .int _), (0, .ref _)]) => ?_)
  refine lv_aload_n hx hb d_ST_mixedCounter_8 rfl (lv_at hl 1 rfl) ?_
  refine g_get B hw fl_ST_17 he rfl d_ST_mixedCounter_9 ?_
  refine lv_bipush (v := 33) hx hb d_ST_mixedCounter_12 (by decide) ?_
  refine lv_lushr hx hb d_ST_mixedCounter_14 rfl ?_
  refine lv_l2i hx hb d_ST_mixedCounter_15 rfl ?_
  refine lv_istore_n hx hb d_ST_mixedCounter_16 rfl hl (by decide) rfl (fun ls (hl : lv_has ls 7 [(2, .int _), (1, .int _), (0, .ref _)]) => ?_)
  refine lv_aload_n hx hb d_ST_mixedCounter_17 rfl (lv_at hl 2 rfl) ?_
  refine g_get B hw fl_ST_13 he rfl d_ST_mixedCounter_18 ?_
  refine lv_l2i hx hb d_ST_mixedCounter_21 rfl ?_
  refine lv_istore_n hx hb d_ST_mixedCounter_22 rfl hl (by decide) rfl (fun ls (hl : lv_has ls 7 [(3, .int _), (2, .int _), (1, .int _), (0, .ref _)]) => ?_)
  refine lv_iconst (v := 0) hx hb d_ST_mixedCounter_23 (by decide) ?_
  refine lv_istore hx hb d_ST_mixedCounter_24 hl (by decide) rfl (fun ls (hl : lv_has ls 7 [(4, .int _), (3, .int _), (2, .int _), (1, .int _), (0, .ref _)]) => ?_)
  refine lp_w (σ := Nat) (fun i => 10 - i) (fun i H locs ls => i ≤ 10 ∧ lv_has ls 7 [(4, .int (nI i)), (3, .int (mxN i (mx0 f g)).2.2), (2, .int (mxN i (mx0 f g)).2.1), (1, .int (mxN i (mx0 f g)).1), (0, .ref h)] ∧ wd D A wl s H locs) ?_ 0 _ _ _ ⟨by omega, lv_sub hl [0, 1, 2, 3, 4] rfl, hw⟩
  rintro i H locs ls ⟨hi, hl, hw⟩ ih
  refine lv_iload hx hb d_ST_mixedCounter_26 (lv_at hl 0 rfl) ?_
  refine lv_bipush (v := 10) hx hb d_ST_mixedCounter_28 (by decide) ?_
  refine lv_icmp_ge (tgt := 69) hx hb d_ST_mixedCounter_30 rfl (fun h30 => ?_) (fun h30 => ?_)
  · have h30 : 10 ≤ i := (nI_leI (a := 10) (by omega) (by omega)).mp h30
    have hi10 : i = 10 := by omega
    refine lv_aload_n hx hb d_ST_mixedCounter_69 rfl (lv_at hl 4 rfl) ?_
    refine g_get B hw fl_ST_17 he rfl d_ST_mixedCounter_70 ?_
    refine lv_lconst (v := 1) hx hb d_ST_mixedCounter_73 (by decide) ?_
    refine lv_land hx hb d_ST_mixedCounter_74 ?_
    refine lv_lconst (v := 0) hx hb d_ST_mixedCounter_75 (by decide) ?_
    refine W.lcmp hx hb d_ST_mixedCounter_76 ?_
    refine lv_if_ne (tgt := 84) hx hb d_ST_mixedCounter_77 rfl (fun h77 => ?_) (fun h77 => ?_)
    · rw [lg_cmp_eq] at h77
      have hz := mxO_od (f := f) h77
      refine lv_iload_n hx hb d_ST_mixedCounter_84 rfl (lv_at hl 2 rfl) ?_
      exact r_i B hw d_ST_mixedCounter_85 ⟨by rw [hz, hi10], rfl⟩
    · rw [lg_cmp_eq] at h77
      have hz := mxO_ev (f := f) h77
      refine lv_iload_n hx hb d_ST_mixedCounter_80 rfl (lv_at hl 3 rfl) ?_
      refine lv_goto (tgt := 85) hx hb d_ST_mixedCounter_81 rfl ?_
      exact r_i B hw d_ST_mixedCounter_85 ⟨by rw [hz, hi10], rfl⟩
  · have h30 : i < 10 := Nat.lt_of_not_le (fun q => h30 ((nI_leI (a := 10) (by omega) (by omega)).mpr q))
    refine lv_iload_n hx hb d_ST_mixedCounter_33 rfl (lv_at hl 3 rfl) ?_
    refine k_l (k_runN B hw c_NS_asNumber rfl rfl cf_ST_28 ⟨Nat.le_of_ble_eq_true rfl, Nat.le_of_ble_eq_true rfl⟩ rfl hl.1 rfl (Nat.le_of_ble_eq_true rfl) d_ST_mixedCounter_34 ⟨Nat.le_of_ble_eq_true rfl, Nat.le_of_ble_eq_true rfl⟩) hw (fun r34 w1 H locs hq hw => ?_)
    obtain ⟨rfl, ew⟩ := hq
    rw [ew] at hw
    refine g_ldc2 B kc_ST_74 d_ST_mixedCounter_37 ?_
    refine lv_lmul hx hb d_ST_mixedCounter_40 ?_
    refine lv_lstore hx hb d_ST_mixedCounter_41 hl (by decide) rfl (fun ls (hl : lv_has ls 7 [(5, .long _), (4, .int _), (3, .int _), (2, .int _), (1, .int _), (0, .ref _)]) => ?_)
    refine lv_lload hx hb d_ST_mixedCounter_43 (lv_at hl 0 rfl) ?_
    refine lv_bipush (v := 32) hx hb d_ST_mixedCounter_45 (by decide) ?_
    refine lv_lushr hx hb d_ST_mixedCounter_47 rfl ?_
    refine lv_l2i hx hb d_ST_mixedCounter_48 rfl ?_
    refine lv_iload_n hx hb d_ST_mixedCounter_49 rfl (lv_at hl 2 rfl) ?_
    refine lv_ixor hx hb d_ST_mixedCounter_50 ?_
    refine lv_iload_n hx hb d_ST_mixedCounter_51 rfl (lv_at hl 3 rfl) ?_
    refine lv_ixor hx hb d_ST_mixedCounter_52 ?_
    refine lv_istore_n hx hb d_ST_mixedCounter_53 rfl hl (by decide) rfl (fun ls (hl : lv_has ls 7 [(1, .int _), (5, .long _), (4, .int _), (3, .int _), (2, .int _), (0, .ref _)]) => ?_)
    refine lv_lload hx hb d_ST_mixedCounter_54 (lv_at hl 1 rfl) ?_
    refine lv_l2i hx hb d_ST_mixedCounter_56 rfl ?_
    refine lv_istore_n hx hb d_ST_mixedCounter_57 rfl hl (by decide) rfl (fun ls (hl : lv_has ls 7 [(2, .int _), (1, .int _), (5, .long _), (4, .int _), (3, .int _), (0, .ref _)]) => ?_)
    refine lv_iload_n hx hb d_ST_mixedCounter_58 rfl (lv_at hl 4 rfl) ?_
    refine g_ldc B kc_ST_76 d_ST_mixedCounter_59 ?_
    refine lv_isub hx hb d_ST_mixedCounter_61 ?_
    rw [mxR_sub]
    refine lv_istore_n hx hb d_ST_mixedCounter_62 rfl hl (by decide) rfl (fun ls (hl : lv_has ls 7 [(3, .int _), (2, .int _), (1, .int _), (5, .long _), (4, .int _), (0, .ref _)]) => ?_)
    refine lv_iinc (k := 4) hx hb d_ST_mixedCounter_63 hl rfl (show nI i + Int32.ofInt 1 = nI (i + 1) from (nI_succ i).symm) (by decide) rfl (fun ls (hl : lv_has ls 7 [(4, .int (nI (i + 1))), (3, .int _), (2, .int _), (1, .int _), (5, .long _), (0, .ref _)]) => ?_)
    refine lv_goto (tgt := 26) hx hb d_ST_mixedCounter_66 rfl ?_
    exact ih (i + 1) _ _ _ (by omega) ⟨by omega, lv_sub hl [0, 1, 2, 3, 5] rfl, hw⟩
set_option maxRecDepth 100000 in
set_option maxHeartbeats 4000000 in
theorem c_ST_moveRotations {l : Launch} {D : va_G} {K : Nat → ClassId} {A : Nat → Prop} {wl : va_W} {ix h : Nat} {k : Int32} {f g : Int64} (he : wl[ix]? = some (h, oSt k f g)) : ctV l y_ST_moveRotations prog_4_method_13_code 3 1 0 0 [.ref h] D K A (wl) (fun w => w = wl.set ix (h, oSt k (rol f.toInt32 26 ^^^ (g.toInt32 ^^^ f.toInt32) ^^^ ((g.toInt32 ^^^ f.toInt32) <<< ((9 : Int32) &&& 31))).toInt64 (rol (g.toInt32 ^^^ f.toInt32) 13).toInt64)) := by
  refine mt_of (by decide) (Nat.le_of_ble_eq_true rfl) ?_
  intro p e s m below meth c ls B hw hl
  have hx := B.1
  have hb := B.2.1
  have hl : lv_has ls 3 [(0, .ref h)] := hl
  refine lv_aload_n hx hb d_ST_moveRotations_0 rfl (lv_at hl 0 rfl) ?_
  refine g_get B hw fl_ST_13 he rfl d_ST_moveRotations_1 ?_
  refine lv_l2i hx hb d_ST_moveRotations_4 rfl ?_
  refine lv_istore_n hx hb d_ST_moveRotations_5 rfl hl (by decide) rfl (fun ls (hl : lv_has ls 3 [(1, .int _), (0, .ref _)]) => ?_)
  refine lv_aload_n hx hb d_ST_moveRotations_6 rfl (lv_at hl 1 rfl) ?_
  refine g_get B hw fl_ST_17 he rfl d_ST_moveRotations_7 ?_
  refine lv_l2i hx hb d_ST_moveRotations_10 rfl ?_
  refine lv_iload_n hx hb d_ST_moveRotations_11 rfl (lv_at hl 0 rfl) ?_
  refine lv_ixor hx hb d_ST_moveRotations_12 ?_
  refine lv_istore_n hx hb d_ST_moveRotations_13 rfl hl (by decide) rfl (fun ls (hl : lv_has ls 3 [(2, .int _), (1, .int _), (0, .ref _)]) => ?_)
  refine lv_aload_n hx hb d_ST_moveRotations_14 rfl (lv_at hl 2 rfl) ?_
  refine lv_iload_n hx hb d_ST_moveRotations_15 rfl (lv_at hl 1 rfl) ?_
  refine lv_bipush (v := 26) hx hb d_ST_moveRotations_16 (by decide) ?_
  refine k_i (k_runS B hw c_JI_rotateLeft rfl rfl cf_ST_68 ⟨Nat.le_of_ble_eq_true rfl, Nat.le_of_ble_eq_true rfl⟩ rfl hl.1 rfl (Nat.le_of_ble_eq_true rfl) d_ST_moveRotations_18 ⟨Nat.le_of_ble_eq_true rfl, Nat.le_of_ble_eq_true rfl⟩) hw (fun r18 w1 H locs hq hw => ?_)
  obtain ⟨rfl, ew⟩ := hq
  rw [ew] at hw
  refine lv_iload_n hx hb d_ST_moveRotations_21 rfl (lv_at hl 0 rfl) ?_
  refine lv_ixor hx hb d_ST_moveRotations_22 ?_
  refine lv_iload_n hx hb d_ST_moveRotations_23 rfl (lv_at hl 0 rfl) ?_
  refine lv_bipush (v := 9) hx hb d_ST_moveRotations_24 (by decide) ?_
  refine lv_ishl hx hb d_ST_moveRotations_26 ?_
  refine lv_ixor hx hb d_ST_moveRotations_27 ?_
  refine lv_i2l hx hb d_ST_moveRotations_28 rfl ?_
  refine g_put B hw fl_ST_13 ck_ST he rfl rfl rfl (Nat.le_of_ble_eq_true rfl) d_ST_moveRotations_29 (fun H locs hw => ?_)
  have hw : wd D A (wl.set ix (h, oSt _ _ _)) s H locs := hw
  refine lv_aload_n hx hb d_ST_moveRotations_32 rfl (lv_at hl 2 rfl) ?_
  refine lv_iload_n hx hb d_ST_moveRotations_33 rfl (lv_at hl 0 rfl) ?_
  refine lv_bipush (v := 13) hx hb d_ST_moveRotations_34 (by decide) ?_
  refine k_i (k_runS B hw c_JI_rotateLeft rfl rfl cf_ST_68 ⟨Nat.le_of_ble_eq_true rfl, Nat.le_of_ble_eq_true rfl⟩ rfl hl.1 rfl (Nat.le_of_ble_eq_true rfl) d_ST_moveRotations_36 ⟨Nat.le_of_ble_eq_true rfl, Nat.le_of_ble_eq_true rfl⟩) hw (fun r36 w1 H locs hq hw => ?_)
  obtain ⟨rfl, ew⟩ := hq
  rw [ew] at hw
  refine lv_i2l hx hb d_ST_moveRotations_39 rfl ?_
  refine g_put B hw fl_ST_17 ck_ST (gs_eq he) rfl rfl rfl (Nat.le_of_ble_eq_true rfl) d_ST_moveRotations_40 (fun H locs hw => ?_)
  rw [List.set_set] at hw
  have hw : wd D A (wl.set ix (h, oSt _ _ _)) s H locs := hw
  exact r_v B hw d_ST_moveRotations_43 rfl
set_option maxRecDepth 100000 in
set_option maxHeartbeats 4000000 in
theorem c_ST_move {l : Launch} {D : va_G} {K : Nat → ClassId} {A : Nat → Prop} {wl : va_W} {ix h : Nat} {k : Int32} {f g : Int64} (he : wl[ix]? = some (h, oSt k f g)) : ctV l y_ST_move prog_4_method_11_code 3 2 0 0 [.ref h] D K A (wl) (fun w => w = wl.set ix (h, oSt k (mvF k f g) (mvS k f g))) := by
  refine mt_of (by decide) (Nat.le_of_ble_eq_true rfl) ?_
  intro p e s m below meth c ls B hw hl
  have hx := B.1
  have hb := B.2.1
  have hl : lv_has ls 3 [(0, .ref h)] := hl
  refine lv_aload_n hx hb d_ST_move_0 rfl (lv_at hl 0 rfl) ?_
  refine g_get B hw fl_ST_7 he rfl d_ST_move_1 ?_
  rcases sw3 k with rfl | rfl | rfl | ⟨hd4, n0, n1, n2⟩
  · refine lv_tableIn (tgt := 32) hx hb d_ST_move_4 (by decide) (by decide) rfl rfl ?_
    have m1 := mvF_0 f g
    have m2 := mvS_0 f g
    refine lv_aload_n hx hb d_ST_move_32 rfl (lv_at hl 0 rfl) ?_
    refine lv_aload_n hx hb d_ST_move_33 rfl (lv_at hl 0 rfl) ?_
    refine g_get B hw fl_ST_13 he rfl d_ST_move_34 ?_
    refine g_ldc2 B kc_ST_50 d_ST_move_37 ?_
    refine lv_lmul hx hb d_ST_move_40 ?_
    refine lv_aload_n hx hb d_ST_move_41 rfl (lv_at hl 0 rfl) ?_
    refine g_get B hw fl_ST_17 he rfl d_ST_move_42 ?_
    refine lv_ladd hx hb d_ST_move_45 ?_
    refine g_put B hw fl_ST_13 ck_ST he rfl rfl rfl (Nat.le_of_ble_eq_true rfl) d_ST_move_46 (fun H locs hw => ?_)
    have hw : wd D A (wl.set ix (h, oSt _ _ _)) s H locs := hw
    refine lv_goto (tgt := 105) hx hb d_ST_move_49 rfl ?_
    exact r_v B hw d_ST_move_105 (by rw [m1, m2])
  · refine lv_tableIn (tgt := 52) hx hb d_ST_move_4 (by decide) (by decide) rfl rfl ?_
    have m1 := mvF_1 f g
    have m2 := mvS_1 f g
    refine lv_aload_n hx hb d_ST_move_52 rfl (lv_at hl 0 rfl) ?_
    refine k_v (k_runV B hw (c_ST_moveRotations he) rfl rfl cf_ST_52 he rfl rfl ⟨Nat.le_of_ble_eq_true rfl, Nat.le_of_ble_eq_true rfl⟩ rfl hl.1 rfl (Nat.le_of_ble_eq_true rfl) d_ST_move_53 ⟨Nat.le_of_ble_eq_true rfl, Nat.le_of_ble_eq_true rfl⟩) hw (fun w1 H locs hq hw => ?_)
    rw [hq] at hw
    refine lv_goto (tgt := 105) hx hb d_ST_move_56 rfl ?_
    exact r_v B hw d_ST_move_105 (by rw [m1, m2])
  · refine lv_tableIn (tgt := 59) hx hb d_ST_move_4 (by decide) (by decide) rfl rfl ?_
    have m1 := mvF_2 f g
    have m2 := mvS_2 f g
    refine lv_aload_n hx hb d_ST_move_59 rfl (lv_at hl 0 rfl) ?_
    refine lv_aload_n hx hb d_ST_move_60 rfl (lv_at hl 0 rfl) ?_
    refine g_get B hw fl_ST_17 he rfl d_ST_move_61 ?_
    refine g_ldc2 B kc_ST_55 d_ST_move_64 ?_
    refine W.lcmp hx hb d_ST_move_67 ?_
    refine lv_if_ne (tgt := 75) hx hb d_ST_move_68 rfl (fun h68 => ?_) (fun h68 => ?_)
    · rw [lg_cmp_eq] at h68
      rw [if_neg h68] at m2
      refine lv_aload_n hx hb d_ST_move_75 rfl (lv_at hl 0 rfl) ?_
      refine g_get B hw fl_ST_17 he rfl d_ST_move_76 ?_
      refine lv_lconst (v := 1) hx hb d_ST_move_79 (by decide) ?_
      refine lv_ladd hx hb d_ST_move_80 ?_
      refine g_put B hw fl_ST_17 ck_ST he rfl rfl rfl (Nat.le_of_ble_eq_true rfl) d_ST_move_81 (fun H locs hw => ?_)
      have hw : wd D A (wl.set ix (h, oSt _ _ _)) s H locs := hw
      refine lv_goto (tgt := 105) hx hb d_ST_move_84 rfl ?_
      exact r_v B hw d_ST_move_105 (by rw [m1, m2])
    · rw [lg_cmp_eq] at h68
      rw [if_pos h68] at m2
      refine lv_lconst (v := 0) hx hb d_ST_move_71 (by decide) ?_
      refine lv_goto (tgt := 81) hx hb d_ST_move_72 rfl ?_
      refine g_put B hw fl_ST_17 ck_ST he rfl rfl rfl (Nat.le_of_ble_eq_true rfl) d_ST_move_81 (fun H locs hw => ?_)
      have hw : wd D A (wl.set ix (h, oSt _ _ _)) s H locs := hw
      refine lv_goto (tgt := 105) hx hb d_ST_move_84 rfl ?_
      exact r_v B hw d_ST_move_105 (by rw [m1, m2])
  · refine lv_tableOut (tgt := 87) hx hb d_ST_move_4 hd4 rfl ?_
    have m1 := mvF_n n0 n1 n2 f g
    have m2 := mvS_n n0 n1 n2 f g
    refine lv_aload_n hx hb d_ST_move_87 rfl (lv_at hl 0 rfl) ?_
    refine k_l (k_runV B hw (c_ST_nextRemainder he) rfl rfl cf_ST_57 he rfl rfl ⟨Nat.le_of_ble_eq_true rfl, Nat.le_of_ble_eq_true rfl⟩ rfl hl.1 rfl (Nat.le_of_ble_eq_true rfl) d_ST_move_88 ⟨Nat.le_of_ble_eq_true rfl, Nat.le_of_ble_eq_true rfl⟩) hw (fun r88 w1 H locs hq hw => ?_)
    obtain ⟨rfl, ew⟩ := hq
    rw [ew] at hw
    refine lv_lstore_n hx hb d_ST_move_91 rfl hl (by decide) rfl (fun ls (hl : lv_has ls 3 [(1, .long _), (0, .ref _)]) => ?_)
    refine lv_aload_n hx hb d_ST_move_92 rfl (lv_at hl 1 rfl) ?_
    refine lv_aload_n hx hb d_ST_move_93 rfl (lv_at hl 1 rfl) ?_
    refine g_get B hw fl_ST_13 he rfl d_ST_move_94 ?_
    refine g_put B hw fl_ST_17 ck_ST he rfl rfl rfl (Nat.le_of_ble_eq_true rfl) d_ST_move_97 (fun H locs hw => ?_)
    have hw : wd D A (wl.set ix (h, oSt _ _ _)) s H locs := hw
    refine lv_aload_n hx hb d_ST_move_100 rfl (lv_at hl 1 rfl) ?_
    refine lv_lload_n hx hb d_ST_move_101 rfl (lv_at hl 0 rfl) ?_
    refine g_put B hw fl_ST_13 ck_ST (gs_eq he) rfl rfl rfl (Nat.le_of_ble_eq_true rfl) d_ST_move_102 (fun H locs hw => ?_)
    rw [List.set_set] at hw
    have hw : wd D A (wl.set ix (h, oSt _ _ _)) s H locs := hw
    exact r_v B hw d_ST_move_105 (by rw [m1, m2])
set_option maxRecDepth 100000 in
set_option maxHeartbeats 4000000 in
theorem c_ST_output {l : Launch} {D : va_G} {K : Nat → ClassId} {A : Nat → Prop} {wl : va_W} {ix h : Nat} {k : Int32} {f g : Int64} (he : wl[ix]? = some (h, oSt k f g)) : ctI l y_ST_output prog_4_method_12_code 1 (some .int) 2 0 0 [.ref h] D K A (wl) (fun r w => r = otp k f g ∧ w = wl) := by
  refine mt_of (by decide) (Nat.le_of_ble_eq_true rfl) ?_
  intro p e s m below meth c ls B hw hl
  have hx := B.1
  have hb := B.2.1
  have hl : lv_has ls 1 [(0, .ref h)] := hl
  refine lv_aload_n hx hb d_ST_output_0 rfl (lv_at hl 0 rfl) ?_
  refine g_get B hw fl_ST_7 he rfl d_ST_output_1 ?_
  rcases sw3 k with rfl | rfl | rfl | ⟨hd4, n0, n1, n2⟩
  · refine lv_tableIn (tgt := 32) hx hb d_ST_output_4 (by decide) (by decide) rfl rfl ?_
    have m1 := otp_0 f g
    refine lv_aload_n hx hb d_ST_output_32 rfl (lv_at hl 0 rfl) ?_
    refine g_get B hw fl_ST_13 he rfl d_ST_output_33 ?_
    refine lv_bipush (v := 18) hx hb d_ST_output_36 (by decide) ?_
    refine lv_lushr hx hb d_ST_output_38 rfl ?_
    refine lv_aload_n hx hb d_ST_output_39 rfl (lv_at hl 0 rfl) ?_
    refine g_get B hw fl_ST_13 he rfl d_ST_output_40 ?_
    refine lv_lxor hx hb d_ST_output_43 ?_
    refine lv_bipush (v := 27) hx hb d_ST_output_44 (by decide) ?_
    refine lv_lushr hx hb d_ST_output_46 rfl ?_
    refine lv_l2i hx hb d_ST_output_47 rfl ?_
    refine lv_aload_n hx hb d_ST_output_48 rfl (lv_at hl 0 rfl) ?_
    refine g_get B hw fl_ST_13 he rfl d_ST_output_49 ?_
    refine lv_bipush (v := 59) hx hb d_ST_output_52 (by decide) ?_
    refine lv_lushr hx hb d_ST_output_54 rfl ?_
    refine lv_l2i hx hb d_ST_output_55 rfl ?_
    refine k_i (k_runS B hw c_JI_rotateRight rfl rfl cf_ST_61 ⟨Nat.le_of_ble_eq_true rfl, Nat.le_of_ble_eq_true rfl⟩ rfl hl.1 rfl (Nat.le_of_ble_eq_true rfl) d_ST_output_56 ⟨Nat.le_of_ble_eq_true rfl, Nat.le_of_ble_eq_true rfl⟩) hw (fun r56 w1 H locs hq hw => ?_)
    obtain ⟨rfl, ew⟩ := hq
    rw [ew] at hw
    exact r_i B hw d_ST_output_59 ⟨by rw [m1], rfl⟩
  · refine lv_tableIn (tgt := 60) hx hb d_ST_output_4 (by decide) (by decide) rfl rfl ?_
    have m1 := otp_1 f g
    refine lv_aload_n hx hb d_ST_output_60 rfl (lv_at hl 0 rfl) ?_
    refine g_get B hw fl_ST_13 he rfl d_ST_output_61 ?_
    refine lv_l2i hx hb d_ST_output_64 rfl ?_
    refine g_ldc B kc_ST_67 d_ST_output_65 ?_
    refine lv_imul hx hb d_ST_output_67 ?_
    refine lv_iconst (v := 5) hx hb d_ST_output_68 (by decide) ?_
    refine k_i (k_runS B hw c_JI_rotateLeft rfl rfl cf_ST_68 ⟨Nat.le_of_ble_eq_true rfl, Nat.le_of_ble_eq_true rfl⟩ rfl hl.1 rfl (Nat.le_of_ble_eq_true rfl) d_ST_output_69 ⟨Nat.le_of_ble_eq_true rfl, Nat.le_of_ble_eq_true rfl⟩) hw (fun r69 w1 H locs hq hw => ?_)
    obtain ⟨rfl, ew⟩ := hq
    rw [ew] at hw
    refine lv_iconst (v := 5) hx hb d_ST_output_72 (by decide) ?_
    refine lv_imul hx hb d_ST_output_73 ?_
    exact r_i B hw d_ST_output_74 ⟨by rw [m1], rfl⟩
  · refine lv_tableIn (tgt := 75) hx hb d_ST_output_4 (by decide) (by decide) rfl rfl ?_
    have m1 := otp_2 f g
    refine lv_aload_n hx hb d_ST_output_75 rfl (lv_at hl 0 rfl) ?_
    refine k_i (k_runV B hw (c_ST_mixedCounter he) rfl rfl cf_ST_71 he rfl rfl ⟨Nat.le_of_ble_eq_true rfl, Nat.le_of_ble_eq_true rfl⟩ rfl hl.1 rfl (Nat.le_of_ble_eq_true rfl) d_ST_output_76 ⟨Nat.le_of_ble_eq_true rfl, Nat.le_of_ble_eq_true rfl⟩) hw (fun r76 w1 H locs hq hw => ?_)
    obtain ⟨rfl, ew⟩ := hq
    rw [ew] at hw
    exact r_i B hw d_ST_output_79 ⟨by rw [m1], rfl⟩
  · refine lv_tableOut (tgt := 80) hx hb d_ST_output_4 hd4 rfl ?_
    have m1 := otp_n n0 n1 n2 f g
    refine g_ldc2 B kc_ST_26 d_ST_output_80 ?_
    refine lv_aload_n hx hb d_ST_output_83 rfl (lv_at hl 0 rfl) ?_
    refine k_l (k_runV B hw (c_ST_nextRemainder he) rfl rfl cf_ST_57 he rfl rfl ⟨Nat.le_of_ble_eq_true rfl, Nat.le_of_ble_eq_true rfl⟩ rfl hl.1 rfl (Nat.le_of_ble_eq_true rfl) d_ST_output_84 ⟨Nat.le_of_ble_eq_true rfl, Nat.le_of_ble_eq_true rfl⟩) hw (fun r84 w1 H locs hq hw => ?_)
    obtain ⟨rfl, ew⟩ := hq
    rw [ew] at hw
    refine lv_lmul hx hb d_ST_output_87 ?_
    refine lv_aload_n hx hb d_ST_output_88 rfl (lv_at hl 0 rfl) ?_
    refine g_get B hw fl_ST_13 he rfl d_ST_output_89 ?_
    refine lv_lconst (v := 1) hx hb d_ST_output_92 (by decide) ?_
    refine lv_land hx hb d_ST_output_93 ?_
    refine lv_ladd hx hb d_ST_output_94 ?_
    refine lv_l2i hx hb d_ST_output_95 rfl ?_
    exact r_i B hw d_ST_output_96 ⟨by rw [m1], rfl⟩
set_option maxRecDepth 100000 in
set_option maxHeartbeats 4000000 in
theorem c_ST_step {l : Launch} {D : va_G} {K : Nat → ClassId} {A : Nat → Prop} {wl : va_W} {ix h : Nat} {k : Int32} {f g : Int64} (he : wl[ix]? = some (h, oSt k f g)) : ctI l y_ST_step prog_4_method_9_code 2 (some .int) 3 0 0 [.ref h] D K A (wl) (fun r w => r = otp k f g ∧ w = wl.set ix (h, oSt k (mvF k f g) (mvS k f g))) := by
  refine mt_of (by decide) (Nat.le_of_ble_eq_true rfl) ?_
  intro p e s m below meth c ls B hw hl
  have hx := B.1
  have hb := B.2.1
  have hl : lv_has ls 2 [(0, .ref h)] := hl
  refine lv_aload_n hx hb d_ST_step_0 rfl (lv_at hl 0 rfl) ?_
  refine k_i (k_runV B hw (c_ST_output he) rfl rfl cf_ST_38 he rfl rfl ⟨Nat.le_of_ble_eq_true rfl, Nat.le_of_ble_eq_true rfl⟩ rfl hl.1 rfl (Nat.le_of_ble_eq_true rfl) d_ST_step_1 ⟨Nat.le_of_ble_eq_true rfl, Nat.le_of_ble_eq_true rfl⟩) hw (fun r1 w1 H locs hq hw => ?_)
  obtain ⟨rfl, ew⟩ := hq
  rw [ew] at hw
  refine lv_istore_n hx hb d_ST_step_4 rfl hl (by decide) rfl (fun ls (hl : lv_has ls 2 [(1, .int _), (0, .ref _)]) => ?_)
  refine lv_aload_n hx hb d_ST_step_5 rfl (lv_at hl 1 rfl) ?_
  refine k_v (k_runV B hw (c_ST_move he) rfl rfl cf_ST_42 he rfl rfl ⟨Nat.le_of_ble_eq_true rfl, Nat.le_of_ble_eq_true rfl⟩ rfl hl.1 rfl (Nat.le_of_ble_eq_true rfl) d_ST_step_6 ⟨Nat.le_of_ble_eq_true rfl, Nat.le_of_ble_eq_true rfl⟩) hw (fun w1 H locs hq hw => ?_)
  rw [hq] at hw
  refine lv_iload_n hx hb d_ST_step_9 rfl (lv_at hl 0 rfl) ?_
  exact r_i B hw d_ST_step_10 ⟨rfl, rfl⟩
end
section
/-! Stream.drawnBelow, and its constructor. -/
theorem ne64 {N : Nat} (h0 : 0 < N) (hN : N < 2 ^ 31) : ¬ (nI N).toInt64 = 0 := by
  rw [i64_nI hN, show (0 : Int64) = lN 0 by decide, pk_lEQ (by omega) (by omega)]
  omega
theorem bel_stop {n k : Int32} {j : Nat} {t : Int64 × Int64} (hj : 0 < j) (h : j = 1 ∨ ¬ nU (prd n k t.1 t.2).toInt32 < lst n) : bel n k j t = ((lus (prd n k t.1 t.2) 32).toInt32, mvF k t.1 t.2, mvS k t.1 t.2) := by
  obtain ⟨i, rfl⟩ : ∃ i, j = i + 1 := ⟨j - 1, by omega⟩
  unfold bel
  exact if_pos (h.imp (fun e => by omega) id)
theorem bel_go {n k : Int32} {j : Nat} {t : Int64 × Int64} (hj : 1 < j) (h : nU (prd n k t.1 t.2).toInt32 < lst n) : bel n k j t = bel n k (j - 1) (mvF k t.1 t.2, mvS k t.1 t.2) := by
  obtain ⟨i, rfl⟩ : ∃ i, j = i + 1 := ⟨j - 1, by omega⟩
  show (if i = 0 ∨ _ then _ else _) = _
  rw [if_neg (fun q => q.elim (fun e => by omega) (fun e => e h))]
  rfl
set_option maxRecDepth 100000 in
set_option maxHeartbeats 4000000 in
theorem c_ST_drawnBelow {l : Launch} {D : va_G} {K : Nat → ClassId} {A : Nat → Prop} {wl : va_W} {ix h : Nat} {k : Int32} {f g : Int64} (he : wl[ix]? = some (h, oSt k f g)) {N : Nat} (h0 : 0 < N) (hN : N < 2 ^ 31) : ctI l y_ST_drawnBelow prog_4_method_10_code 7 (some .int) 4 0 0 [.ref h, .int (nI N)] D K A (wl) (fun r w => r = (bel (nI N) k 8 (f, g)).1 ∧ w = wl.set ix (h, oSt k (bel (nI N) k 8 (f, g)).2.1 (bel (nI N) k 8 (f, g)).2.2)) := by
  refine mt_of (by decide) (Nat.le_of_ble_eq_true rfl) ?_
  intro p e s m below meth c ls B hw hl
  have hx := B.1
  have hb := B.2.1
  have hl : lv_has ls 7 [(0, .ref h), (1, .int (nI N))] := hl
  refine lv_iload_n hx hb d_ST_drawnBelow_0 rfl (lv_at hl 1 rfl) ?_
  refine lv_iconst (v := 1) hx hb d_ST_drawnBelow_1 (by decide) ?_
  refine lv_icmp_ge (tgt := 9) hx hb d_ST_drawnBelow_2 rfl (fun h2 => ?_) (fun h2 => ?_)
  · refine g_ldc2 B kc_ST_45 d_ST_drawnBelow_9 ?_
    refine lv_iload_n hx hb d_ST_drawnBelow_12 rfl (lv_at hl 1 rfl) ?_
    refine lv_i2l hx hb d_ST_drawnBelow_13 rfl ?_
    refine lv_lrem hx hb d_ST_drawnBelow_14 (ne64 h0 hN) ?_
    refine lv_lstore_n hx hb d_ST_drawnBelow_15 rfl hl (by decide) rfl (fun ls (hl : lv_has ls 7 [(2, .long (lst (nI N))), (0, .ref _), (1, .int _)]) => ?_)
    refine lv_aload_n hx hb d_ST_drawnBelow_16 rfl (lv_at hl 1 rfl) ?_
    refine k_i (k_runV B hw (c_ST_step he) rfl rfl cf_ST_47 he rfl rfl ⟨Nat.le_of_ble_eq_true rfl, Nat.le_of_ble_eq_true rfl⟩ rfl hl.1 rfl (Nat.le_of_ble_eq_true rfl) d_ST_drawnBelow_17 ⟨Nat.le_of_ble_eq_true rfl, Nat.le_of_ble_eq_true rfl⟩) hw (fun r17 w1 H locs hq hw => ?_)
    obtain ⟨rfl, ew⟩ := hq
    rw [ew] at hw
    refine k_l (k_runN B hw c_NS_asNumber rfl rfl cf_ST_28 ⟨Nat.le_of_ble_eq_true rfl, Nat.le_of_ble_eq_true rfl⟩ rfl hl.1 rfl (Nat.le_of_ble_eq_true rfl) d_ST_drawnBelow_20 ⟨Nat.le_of_ble_eq_true rfl, Nat.le_of_ble_eq_true rfl⟩) hw (fun r20 w1 H locs hq hw => ?_)
    obtain ⟨rfl, ew⟩ := hq
    rw [ew] at hw
    refine lv_iload_n hx hb d_ST_drawnBelow_23 rfl (lv_at hl 2 rfl) ?_
    refine lv_i2l hx hb d_ST_drawnBelow_24 rfl ?_
    refine lv_lmul hx hb d_ST_drawnBelow_25 ?_
    refine lv_lstore hx hb d_ST_drawnBelow_26 hl (by decide) rfl (fun ls (hl : lv_has ls 7 [(4, .long (prd (nI N) k f g)), (2, .long _), (0, .ref _), (1, .int _)]) => ?_)
    refine lv_iconst (v := 1) hx hb d_ST_drawnBelow_28 (by decide) ?_
    refine lv_istore hx hb d_ST_drawnBelow_29 hl (by decide) rfl (fun ls (hl : lv_has ls 7 [(6, .int _), (4, .long _), (2, .long _), (0, .ref _), (1, .int _)]) => ?_)
    refine lp_w (σ := Nat × Int64 × Int64) (fun x => x.1) (fun x H locs ls => 0 < x.1 ∧ x.1 ≤ 8 ∧ bel (nI N) k 8 (f, g) = bel (nI N) k x.1 x.2 ∧ lv_has ls 7 [(6, .int (nI (9 - x.1))), (4, .long (prd (nI N) k x.2.1 x.2.2)), (2, .long (lst (nI N))), (1, .int (nI N)), (0, .ref h)] ∧ wd D A (wl.set ix (h, oSt k (mvF k x.2.1 x.2.2) (mvS k x.2.1 x.2.2))) s H locs) ?_ (8, f, g) _ _ _ ⟨by show 0 < 8; omega, by show 8 ≤ 8; omega, rfl, lv_sub hl [0, 1, 2, 4, 3] rfl, hw⟩
    rintro ⟨j, f1, g1⟩ H locs ls ⟨hj, hj8, hbel, hl, hw⟩ ih
    dsimp only at hj hj8 hbel hl hw
    refine lv_iload hx hb d_ST_drawnBelow_31 (lv_at hl 0 rfl) ?_
    refine lv_bipush (v := 8) hx hb d_ST_drawnBelow_33 (by decide) ?_
    refine lv_icmp_ge (tgt := 67) hx hb d_ST_drawnBelow_35 rfl (fun h35 => ?_) (fun h35 => ?_)
    · have h35 : 8 ≤ 9 - j := (nI_leI (a := 8) (by omega) (by omega)).mp h35
      have hs := bel_stop (n := nI N) (k := k) (t := (f1, g1)) hj (Or.inl (by omega))
      refine lv_lload hx hb d_ST_drawnBelow_67 (lv_at hl 1 rfl) ?_
      refine lv_bipush (v := 32) hx hb d_ST_drawnBelow_69 (by decide) ?_
      refine lv_lushr hx hb d_ST_drawnBelow_71 rfl ?_
      refine lv_l2i hx hb d_ST_drawnBelow_72 rfl ?_
      exact r_i B hw d_ST_drawnBelow_73 ⟨by rw [hbel, hs], by rw [hbel, hs]⟩
    · have h35 : 1 < j := Nat.lt_of_not_le (fun q => h35 ((nI_leI (a := 8) (by omega) (by omega)).mpr (by omega)))
      refine lv_lload hx hb d_ST_drawnBelow_38 (lv_at hl 1 rfl) ?_
      refine lv_l2i hx hb d_ST_drawnBelow_40 rfl ?_
      refine k_l (k_runN B hw c_NS_asNumber rfl rfl cf_ST_28 ⟨Nat.le_of_ble_eq_true rfl, Nat.le_of_ble_eq_true rfl⟩ rfl hl.1 rfl (Nat.le_of_ble_eq_true rfl) d_ST_drawnBelow_41 ⟨Nat.le_of_ble_eq_true rfl, Nat.le_of_ble_eq_true rfl⟩) hw (fun r41 w1 H locs hq hw => ?_)
      obtain ⟨rfl, ew⟩ := hq
      rw [ew] at hw
      refine lv_lload_n hx hb d_ST_drawnBelow_44 rfl (lv_at hl 2 rfl) ?_
      refine W.lcmp hx hb d_ST_drawnBelow_45 ?_
      refine lv_if_ge (tgt := 67) hx hb d_ST_drawnBelow_46 rfl (fun h46 => ?_) (fun h46 => ?_)
      · rw [lg_cmp_ge] at h46
        have hs := bel_stop (n := nI N) (k := k) (t := (f1, g1)) hj (Or.inr (Int64.not_lt.mpr h46))
        refine lv_lload hx hb d_ST_drawnBelow_67 (lv_at hl 1 rfl) ?_
        refine lv_bipush (v := 32) hx hb d_ST_drawnBelow_69 (by decide) ?_
        refine lv_lushr hx hb d_ST_drawnBelow_71 rfl ?_
        refine lv_l2i hx hb d_ST_drawnBelow_72 rfl ?_
        exact r_i B hw d_ST_drawnBelow_73 ⟨by rw [hbel, hs], by rw [hbel, hs]⟩
      · rw [lg_cmp_ge] at h46
        have h46 := Int64.not_le.mp h46
        refine lv_aload_n hx hb d_ST_drawnBelow_49 rfl (lv_at hl 4 rfl) ?_
        refine k_i (k_runV B hw (c_ST_step (gs_eq he)) rfl rfl cf_ST_47 (gs_eq he) rfl rfl ⟨Nat.le_of_ble_eq_true rfl, Nat.le_of_ble_eq_true rfl⟩ rfl hl.1 rfl (Nat.le_of_ble_eq_true rfl) d_ST_drawnBelow_50 ⟨Nat.le_of_ble_eq_true rfl, Nat.le_of_ble_eq_true rfl⟩) hw (fun r50 w1 H locs hq hw => ?_)
        obtain ⟨rfl, ew⟩ := hq
        rw [ew, List.set_set] at hw
        refine k_l (k_runN B hw c_NS_asNumber rfl rfl cf_ST_28 ⟨Nat.le_of_ble_eq_true rfl, Nat.le_of_ble_eq_true rfl⟩ rfl hl.1 rfl (Nat.le_of_ble_eq_true rfl) d_ST_drawnBelow_53 ⟨Nat.le_of_ble_eq_true rfl, Nat.le_of_ble_eq_true rfl⟩) hw (fun r53 w1 H locs hq hw => ?_)
        obtain ⟨rfl, ew⟩ := hq
        rw [ew] at hw
        refine lv_iload_n hx hb d_ST_drawnBelow_56 rfl (lv_at hl 3 rfl) ?_
        refine lv_i2l hx hb d_ST_drawnBelow_57 rfl ?_
        refine lv_lmul hx hb d_ST_drawnBelow_58 ?_
        refine lv_lstore hx hb d_ST_drawnBelow_59 hl (by decide) rfl (fun ls (hl : lv_has ls 7 [(4, .long (prd (nI N) k (mvF k f1 g1) (mvS k f1 g1))), (6, .int _), (2, .long _), (1, .int _), (0, .ref _)]) => ?_)
        refine lv_iinc (k := 1) hx hb d_ST_drawnBelow_61 hl rfl (show nI (9 - j) + Int32.ofInt 1 = nI (9 - (j - 1)) from by rw [show 9 - (j - 1) = (9 - j) + 1 by omega]; exact (nI_succ _).symm) (by decide) rfl (fun ls (hl : lv_has ls 7 [(6, .int (nI (9 - (j - 1)))), (4, .long _), (2, .long _), (1, .int _), (0, .ref _)]) => ?_)
        refine lv_goto (tgt := 31) hx hb d_ST_drawnBelow_64 rfl ?_
        exact ih (j - 1, mvF k f1 g1, mvS k f1 g1) _ _ _ (by show j - 1 < j; omega) ⟨by show 0 < j - 1; omega, by show j - 1 ≤ 8; omega, hbel.trans (bel_go h35 h46), lv_sub hl [0, 1, 2, 3, 4] rfl, hw⟩
  · exact absurd (nI_le (a := 1) (b := N) (by omega) hN) h2
set_option maxRecDepth 100000 in
set_option maxHeartbeats 4000000 in
theorem c_ST_init {l : Launch} {D : va_G} {K : Nat → ClassId} {A : Nat → Prop} {wl : va_W} {ix h : Nat} {k : Int32} {f g : Int64} (he : wl[ix]? = some (h, oSt 0 0 0)) : ctV l y_ST_init prog_4_method_1_code 6 1 0 0 [.ref h, .int k, .long f, .long g] D K A (wl) (fun w => w = wl.set ix (h, oSt k f g)) := by
  refine mt_of (by decide) (Nat.le_of_ble_eq_true rfl) ?_
  intro p e s m below meth c ls B hw hl
  have hx := B.1
  have hb := B.2.1
  have hl : lv_has ls 6 [(0, .ref h), (1, .int k), (2, .long f), (4, .long g)] := hl
  refine lv_aload_n hx hb d_ST_init_0 rfl (lv_at hl 0 rfl) ?_
  refine W.objInit hx hb B.2.2.2.1 (B.2.2.2.2.1 _ ml_ST_1) (B.2.2.2.2.1 _ im_OB_init) (B.2.2.2.2.1 _ co_OB_init) rfl (by rw [B.2.2.1]; exact hl.1) rfl d_ST_init_1 (Nat.le_of_ble_eq_true rfl) (Nat.le_of_ble_eq_true rfl) ?_
  refine W.eq (g2 := F0 m 4 ls []) rfl ?_
  refine lv_aload_n hx hb d_ST_init_4 rfl (lv_at hl 0 rfl) ?_
  refine lv_iload_n hx hb d_ST_init_5 rfl (lv_at hl 1 rfl) ?_
  refine g_putF B hw fl_ST_7 ck_ST he rfl rfl rfl rfl (Nat.le_of_ble_eq_true rfl) d_ST_init_6 (fun H locs hw => ?_)
  have hw : wd D A (wl.set ix (h, oSt _ _ _)) s H locs := hw
  refine lv_aload_n hx hb d_ST_init_9 rfl (lv_at hl 0 rfl) ?_
  refine lv_lload_n hx hb d_ST_init_10 rfl (lv_at hl 2 rfl) ?_
  refine g_put B hw fl_ST_13 ck_ST (gs_eq he) rfl rfl rfl (Nat.le_of_ble_eq_true rfl) d_ST_init_11 (fun H locs hw => ?_)
  rw [List.set_set] at hw
  have hw : wd D A (wl.set ix (h, oSt _ _ _)) s H locs := hw
  refine lv_aload_n hx hb d_ST_init_14 rfl (lv_at hl 0 rfl) ?_
  refine lv_lload hx hb d_ST_init_15 (lv_at hl 3 rfl) ?_
  refine g_put B hw fl_ST_17 ck_ST (gs_eq he) rfl rfl rfl (Nat.le_of_ble_eq_true rfl) d_ST_init_17 (fun H locs hw => ?_)
  rw [List.set_set] at hw
  have hw : wd D A (wl.set ix (h, oSt _ _ _)) s H locs := hw
  exact r_v B hw d_ST_init_20 rfl
end
section
/-! Saved: its cell (the words' array, the count n), the array of six words w. -/
abbrev arI (K : Nat → ClassId) (n : Nat) (f : Nat → Int32) : va_E := .inl (K 0, n, .inl f)
abbrev arJ (K : Nat → ClassId) (n : Nat) (f : Nat → Int64) : va_E := .inl (K 1, n, .inr (.inl f))
abbrev arQ (K : Nat → ClassId) (t n : Nat) (f : Nat → Option Nat) : va_E := .inl (K t, n, .inr (.inr (.inr (.inr f))))
abbrev oSv (wa : Nat) (n : Nat) : va_E := .inr (2, [.ref wa, .int (nI n)])
/-- the list of cells with a record's two cells written anew -/
def svW (K : Nat → ClassId) (wl : va_W) (ix iy h wa n : Nat) (w : Nat → Int32) : va_W := (wl.set iy (wa, arI K 6 w)).set ix (h, oSv wa n)
theorem sv_x {K : Nat → ClassId} {wl : va_W} {ix iy h wa n0 n : Nat} {w0 w : Nat → Int32} (he : wl[ix]? = some (h, oSv wa n0)) (ha : wl[iy]? = some (wa, arI K 6 w0)) : (svW K wl ix iy h wa n w)[ix]? = some (h, oSv wa n) := gs_eq (gs_ne (ne_oa he ha).symm he)
theorem sv_y {K : Nat → ClassId} {wl : va_W} {ix iy h wa n0 n : Nat} {w0 w : Nat → Int32} (he : wl[ix]? = some (h, oSv wa n0)) (ha : wl[iy]? = some (wa, arI K 6 w0)) : (svW K wl ix iy h wa n w)[iy]? = some (wa, arI K 6 w) := gs_ne (ne_oa he ha) (gs_eq ha)
theorem sv_sv {K : Nat → ClassId} {wl : va_W} {ix iy h wa n n' : Nat} {w w' : Nat → Int32} (hn : ix ≠ iy) : svW K (svW K wl ix iy h wa n w) ix iy h wa n' w' = svW K wl ix iy h wa n' w' := by
  unfold svW
  rw [List.set_comm _ _ hn, List.set_set, List.set_set]
theorem sv_o {K : Nat → ClassId} {wl : va_W} {ix iy h wa n j : Nat} {w : Nat → Int32} {x : Nat × va_E} (h1 : ix ≠ j) (h2 : iy ≠ j) (hj : wl[j]? = some x) : (svW K wl ix iy h wa n w)[j]? = some x := gs_ne h1 (gs_ne h2 hj)
/-- the check of the first n words -/
def ckN (w : Nat → Int32) : Nat → Int32
  | 0 => 1
  | n + 1 => 31 * ckN w n + w n
def ckF (w : Nat → Int32) (n : Nat) : Int32 := ckN w n ^^^ ius (ckN w n) 15
def apN (b : Int32) : Nat := if b = 0 then 1 else 2
def apW (w : Nat → Int32) (n : Nat) (x : Int64) (b : Int32) : Nat → Int32 := if b = 0 then upd w n x.toInt32 else upd (upd w n (lus x 32).toInt32) (n + 1) x.toInt32
def ptA (w : Nat → Int32) (a : Nat) (b : Int32) : Int64 := if b = 0 then (w a).toInt64 else jnd (w a) (w (a + 1))
def wkd (w : Nat → Int32) : Int32 := w 0 - 24301824
def wF1 (w : Nat → Int32) : Int64 := ptA w 1 (isFL (wkd w))
def wF2 (w : Nat → Int32) : Int64 := ptA w (1 + apN (isFL (wkd w))) (isSL (wkd w))
def flt (n : Nat) (w : Nat → Int32) : Int32 := if n = 0 then -2 else if isK (wkd w) = 0 then -2 else if nI n = wOK (wkd w) then (if w (n - 1) = ckF w (n - 1) then (if isSt (wkd w) (wF1 w) (wF2 w) = 0 then -5 else 0) else -4) else -3
theorem wOP_nI (b : Int32) : wOP b = nI (apN b) := by unfold wOP apN; split <;> rfl
theorem apN_12 (b : Int32) : apN b = 1 ∨ apN b = 2 := by unfold apN; split <;> simp
theorem wOK_nI (k : Int32) : wOK k = nI (2 + apN (isFL k) + apN (isSL k)) := by unfold wOK; rw [wOP_nI, wOP_nI, ← nI_add, ← nI_add]; rfl
theorem apN_fs {k : Int32} (h : apN (isFL k) = 2) : apN (isSL k) = 2 := by
  unfold apN isFL at h
  unfold apN isSL
  by_cases h0 : k = 0
  · subst h0; rfl
  · simp [h0] at h
theorem apN_2 {b : Int32} (h : ¬ b = 0) : apN b = 2 := if_neg h
theorem apN_1 {b : Int32} (h : b = 0) : apN b = 1 := if_pos h
set_option maxRecDepth 100000 in
set_option maxHeartbeats 4000000 in
theorem c_SV_append {l : Launch} {D : va_G} {K : Nat → ClassId} {A : Nat → Prop} {wl : va_W} {ix iy h wa n : Nat} {w : Nat → Int32} (he : wl[ix]? = some (h, oSv wa n)) (ha : wl[iy]? = some (wa, arI K 6 w)) (hn : n < 6) {x : Int32} : ctV l y_SV_append prog_3_method_2_code 2 0 0 0 [.ref h, .int x] D K A (wl) (fun v => v = svW K wl ix iy h wa (n + 1) (upd w n x)) := by
  refine mt_of (by decide) (Nat.le_of_ble_eq_true rfl) ?_
  intro p e s m below meth c ls B hw hl
  have hx := B.1
  have hb := B.2.1
  have hl : lv_has ls 2 [(0, .ref h), (1, .int x)] := hl
  refine lv_aload_n hx hb d_SV_append_0 rfl (lv_at hl 0 rfl) ?_
  refine g_get B hw fl_SV_9 he rfl d_SV_append_1 ?_
  refine lv_aload_n hx hb d_SV_append_4 rfl (lv_at hl 0 rfl) ?_
  refine g_get B hw fl_SV_13 he rfl d_SV_append_5 ?_
  refine lv_iload_n hx hb d_SV_append_8 rfl (lv_at hl 1 rfl) ?_
  refine g_iast B hw ha (vp_in_nI hn (by omega)) d_SV_append_9 (fun H locs hw => ?_)
  rw [nI_clamp (by omega)] at hw
  refine lv_aload_n hx hb d_SV_append_10 rfl (lv_at hl 0 rfl) ?_
  refine lv_dup hx hb d_SV_append_11 rfl ?_
  refine g_get B hw fl_SV_13 (gs_ne (ne_oa he ha).symm he) rfl d_SV_append_12 ?_
  refine lv_iconst (v := 1) hx hb d_SV_append_15 (by decide) ?_
  refine lv_iadd hx hb d_SV_append_16 ?_
  rw [← nI_succ n]
  refine g_put B hw fl_SV_13 ck_SV (gs_ne (ne_oa he ha).symm he) rfl rfl rfl (Nat.le_of_ble_eq_true rfl) d_SV_append_17 (fun H locs hw => ?_)
  exact r_v B hw d_SV_append_20 rfl
set_option maxRecDepth 100000 in
set_option maxHeartbeats 4000000 in
theorem c_SV_appendPart {l : Launch} {D : va_G} {K : Nat → ClassId} {A : Nat → Prop} {wl : va_W} {ix iy h wa n : Nat} {w : Nat → Int32} (he : wl[ix]? = some (h, oSv wa n)) (ha : wl[iy]? = some (wa, arI K 6 w)) {x : Int64} {b : Int32} (hn : n + apN b ≤ 6) : ctV l y_SV_appendPart prog_3_method_3_code 4 1 0 0 [.ref h, .long x, .int b] D K A (wl) (fun v => v = svW K wl ix iy h wa (n + apN b) (apW w n x b)) := by
  refine mt_of (by decide) (Nat.le_of_ble_eq_true rfl) ?_
  intro p e s m below meth c ls B hw hl
  have hx := B.1
  have hb := B.2.1
  have hl : lv_has ls 4 [(0, .ref h), (1, .long x), (3, .int b)] := hl
  refine lv_iload_n hx hb d_SV_appendPart_0 rfl (lv_at hl 2 rfl) ?_
  refine lv_if_eq (tgt := 13) hx hb d_SV_appendPart_1 rfl (fun h1 => ?_) (fun h1 => ?_)
  · have e1 := apN_1 h1
    have e2 : apW w n x b = upd w n x.toInt32 := if_pos h1
    refine lv_aload_n hx hb d_SV_appendPart_13 rfl (lv_at hl 0 rfl) ?_
    refine lv_lload_n hx hb d_SV_appendPart_14 rfl (lv_at hl 1 rfl) ?_
    refine lv_l2i hx hb d_SV_appendPart_15 rfl ?_
    refine k_v (k_runV B hw (c_SV_append he ha (by omega)) rfl rfl cf_SV_23 he rfl rfl ⟨Nat.le_of_ble_eq_true rfl, Nat.le_of_ble_eq_true rfl⟩ rfl hl.1 rfl (Nat.le_of_ble_eq_true rfl) d_SV_appendPart_16 ⟨Nat.le_of_ble_eq_true rfl, Nat.le_of_ble_eq_true rfl⟩) hw (fun w1 H locs hq hw => ?_)
    rw [hq] at hw
    exact r_v B hw d_SV_appendPart_19 (by rw [e1, e2])
  · have e1 := apN_2 h1
    have e2 : apW w n x b = upd (upd w n (lus x 32).toInt32) (n + 1) x.toInt32 := if_neg h1
    refine lv_aload_n hx hb d_SV_appendPart_4 rfl (lv_at hl 0 rfl) ?_
    refine lv_lload_n hx hb d_SV_appendPart_5 rfl (lv_at hl 1 rfl) ?_
    refine lv_bipush (v := 32) hx hb d_SV_appendPart_6 (by decide) ?_
    refine lv_lushr hx hb d_SV_appendPart_8 rfl ?_
    refine lv_l2i hx hb d_SV_appendPart_9 rfl ?_
    refine k_v (k_runV B hw (c_SV_append he ha (by omega)) rfl rfl cf_SV_23 he rfl rfl ⟨Nat.le_of_ble_eq_true rfl, Nat.le_of_ble_eq_true rfl⟩ rfl hl.1 rfl (Nat.le_of_ble_eq_true rfl) d_SV_appendPart_10 ⟨Nat.le_of_ble_eq_true rfl, Nat.le_of_ble_eq_true rfl⟩) hw (fun w1 H locs hq hw => ?_)
    rw [hq] at hw
    refine lv_aload_n hx hb d_SV_appendPart_13 rfl (lv_at hl 0 rfl) ?_
    refine lv_lload_n hx hb d_SV_appendPart_14 rfl (lv_at hl 1 rfl) ?_
    refine lv_l2i hx hb d_SV_appendPart_15 rfl ?_
    refine k_v (k_runV B hw (c_SV_append (sv_x he ha) (sv_y he ha) (by omega)) rfl rfl cf_SV_23 (sv_x he ha) rfl rfl ⟨Nat.le_of_ble_eq_true rfl, Nat.le_of_ble_eq_true rfl⟩ rfl hl.1 rfl (Nat.le_of_ble_eq_true rfl) d_SV_appendPart_16 ⟨Nat.le_of_ble_eq_true rfl, Nat.le_of_ble_eq_true rfl⟩) hw (fun w1 H locs hq hw => ?_)
    rw [hq] at hw
    rw [sv_sv (ne_oa he ha)] at hw
    exact r_v B hw d_SV_appendPart_19 (by rw [e1, e2])
set_option maxRecDepth 100000 in
set_option maxHeartbeats 4000000 in
theorem c_SV_checkOfFirst {l : Launch} {D : va_G} {K : Nat → ClassId} {A : Nat → Prop} {wl : va_W} {ix iy h wa n : Nat} {w : Nat → Int32} (he : wl[ix]? = some (h, oSv wa n)) (ha : wl[iy]? = some (wa, arI K 6 w)) {z : Nat} (hz : z ≤ 6) : ctI l y_SV_checkOfFirst prog_3_method_4_code 4 (some .int) 0 0 0 [.ref h, .int (nI z)] D K A (wl) (fun r v => r = ckF w z ∧ v = wl) := by
  refine mt_of (by decide) (Nat.le_of_ble_eq_true rfl) ?_
  intro p e s m below meth c ls B hw hl
  have hx := B.1
  have hb := B.2.1
  have hl : lv_has ls 4 [(0, .ref h), (1, .int (nI z))] := hl
  refine lv_iconst (v := 1) hx hb d_SV_checkOfFirst_0 (by decide) ?_
  refine lv_istore_n hx hb d_SV_checkOfFirst_1 rfl hl (by decide) rfl (fun ls (hl : lv_has ls 4 [(2, .int _), (0, .ref _), (1, .int _)]) => ?_)
  refine lv_iconst (v := 0) hx hb d_SV_checkOfFirst_2 (by decide) ?_
  refine lv_istore_n hx hb d_SV_checkOfFirst_3 rfl hl (by decide) rfl (fun ls (hl : lv_has ls 4 [(3, .int _), (2, .int _), (0, .ref _), (1, .int _)]) => ?_)
  refine lp_w (σ := Nat) (fun i => z - i) (fun i H locs ls => i ≤ z ∧ lv_has ls 4 [(3, .int (nI i)), (2, .int (ckN w i)), (0, .ref h), (1, .int (nI z))] ∧ wd D A wl s H locs) ?_ 0 _ _ _ ⟨by omega, lv_sub hl [0, 1, 2, 3] rfl, hw⟩
  rintro i H locs ls ⟨hi, hl, hw⟩ ih
  refine lv_iload_n hx hb d_SV_checkOfFirst_4 rfl (lv_at hl 0 rfl) ?_
  refine lv_iload_n hx hb d_SV_checkOfFirst_5 rfl (lv_at hl 3 rfl) ?_
  refine lv_icmp_ge (tgt := 27) hx hb d_SV_checkOfFirst_6 rfl (fun h6 => ?_) (fun h6 => ?_)
  · have h6 : z ≤ i := (nI_leI (by omega) (by omega)).mp h6
    have hiz : i = z := by omega
    refine lv_iload_n hx hb d_SV_checkOfFirst_27 rfl (lv_at hl 1 rfl) ?_
    refine lv_iload_n hx hb d_SV_checkOfFirst_28 rfl (lv_at hl 1 rfl) ?_
    refine lv_bipush (v := 15) hx hb d_SV_checkOfFirst_29 (by decide) ?_
    refine lv_iushr hx hb d_SV_checkOfFirst_31 rfl ?_
    refine lv_ixor hx hb d_SV_checkOfFirst_32 ?_
    exact r_i B hw d_SV_checkOfFirst_33 ⟨by rw [hiz]; rfl, rfl⟩
  · have h6 : i < z := Nat.lt_of_not_le (fun q => h6 ((nI_leI (by omega) (by omega)).mpr q))
    refine lv_bipush (v := 31) hx hb d_SV_checkOfFirst_9 (by decide) ?_
    refine lv_iload_n hx hb d_SV_checkOfFirst_11 rfl (lv_at hl 1 rfl) ?_
    refine lv_imul hx hb d_SV_checkOfFirst_12 ?_
    refine lv_aload_n hx hb d_SV_checkOfFirst_13 rfl (lv_at hl 2 rfl) ?_
    refine g_get B hw fl_SV_9 he rfl d_SV_checkOfFirst_14 ?_
    refine lv_iload_n hx hb d_SV_checkOfFirst_17 rfl (lv_at hl 0 rfl) ?_
    refine g_iald B hw ha (vp_in_nI (by omega) (by omega)) d_SV_checkOfFirst_18 ?_
    rw [nI_clamp (by omega)]
    refine lv_iadd hx hb d_SV_checkOfFirst_19 ?_
    refine lv_istore_n hx hb d_SV_checkOfFirst_20 rfl hl (by decide) rfl (fun ls (hl : lv_has ls 4 [(2, .int _), (3, .int _), (0, .ref _), (1, .int _)]) => ?_)
    refine lv_iinc (k := 1) hx hb d_SV_checkOfFirst_21 hl rfl (show nI i + Int32.ofInt 1 = nI (i + 1) from (nI_succ i).symm) (by decide) rfl (fun ls (hl : lv_has ls 4 [(3, .int (nI (i + 1))), (2, .int _), (0, .ref _), (1, .int _)]) => ?_)
    refine lv_goto (tgt := 4) hx hb d_SV_checkOfFirst_24 rfl ?_
    exact ih (i + 1) _ _ _ (by omega) ⟨by omega, lv_sub hl [0, 1, 2, 3] rfl, hw⟩
set_option maxRecDepth 100000 in
set_option maxHeartbeats 4000000 in
theorem c_SV_hasWord {l : Launch} {D : va_G} {K : Nat → ClassId} {A : Nat → Prop} {wl : va_W} {ix iy h wa n : Nat} {w : Nat → Int32} (he : wl[ix]? = some (h, oSv wa n)) (ha : wl[iy]? = some (wa, arI K 6 w)) {i : Int32} : ctI l y_SV_hasWord prog_3_method_5_code 2 (some .boolean) 0 0 0 [.ref h, .int i] D K A (wl) (fun r v => r = (if i < 0 then 0 else if nI n ≤ i then 0 else 1) ∧ v = wl) := by
  refine mt_of (by decide) (Nat.le_of_ble_eq_true rfl) ?_
  intro p e s m below meth c ls B hw hl
  have hx := B.1
  have hb := B.2.1
  have hl : lv_has ls 2 [(0, .ref h), (1, .int i)] := hl
  refine lv_iload_n hx hb d_SV_hasWord_0 rfl (lv_at hl 1 rfl) ?_
  refine lv_if_lt (tgt := 16) hx hb d_SV_hasWord_1 rfl (fun h1 => ?_) (fun h1 => ?_)
  · refine lv_iconst (v := 0) hx hb d_SV_hasWord_16 (by decide) ?_
    exact r_z B hw (by decide) d_SV_hasWord_17 ⟨by simp [*], rfl⟩
  · refine lv_iload_n hx hb d_SV_hasWord_4 rfl (lv_at hl 1 rfl) ?_
    refine lv_aload_n hx hb d_SV_hasWord_5 rfl (lv_at hl 0 rfl) ?_
    refine g_get B hw fl_SV_13 he rfl d_SV_hasWord_6 ?_
    refine lv_icmp_ge (tgt := 16) hx hb d_SV_hasWord_9 rfl (fun h9 => ?_) (fun h9 => ?_)
    · refine lv_iconst (v := 0) hx hb d_SV_hasWord_16 (by decide) ?_
      exact r_z B hw (by decide) d_SV_hasWord_17 ⟨by simp [*], rfl⟩
    · refine lv_iconst (v := 1) hx hb d_SV_hasWord_12 (by decide) ?_
      refine lv_goto (tgt := 17) hx hb d_SV_hasWord_13 rfl ?_
      exact r_z B hw (by decide) d_SV_hasWord_17 ⟨by simp [*], rfl⟩
set_option maxRecDepth 100000 in
set_option maxHeartbeats 4000000 in
theorem c_SV_kind {l : Launch} {D : va_G} {K : Nat → ClassId} {A : Nat → Prop} {wl : va_W} {ix iy h wa n : Nat} {w : Nat → Int32} (he : wl[ix]? = some (h, oSv wa n)) (ha : wl[iy]? = some (wa, arI K 6 w)) : ctI l y_SV_kind prog_3_method_9_code 1 (some .int) 0 0 0 [.ref h] D K A (wl) (fun r v => r = wkd w ∧ v = wl) := by
  refine mt_of (by decide) (Nat.le_of_ble_eq_true rfl) ?_
  intro p e s m below meth c ls B hw hl
  have hx := B.1
  have hb := B.2.1
  have hl : lv_has ls 1 [(0, .ref h)] := hl
  refine lv_aload_n hx hb d_SV_kind_0 rfl (lv_at hl 0 rfl) ?_
  refine g_get B hw fl_SV_9 he rfl d_SV_kind_1 ?_
  refine lv_iconst (v := 0) hx hb d_SV_kind_4 (by decide) ?_
  refine g_iald B hw ha (vp_in_nI (n := 0) (by omega) (by omega)) d_SV_kind_5 ?_
  refine g_ldc B kc_SV_17 d_SV_kind_6 ?_
  refine lv_isub hx hb d_SV_kind_8 ?_
  exact r_i B hw d_SV_kind_9 ⟨rfl, rfl⟩
set_option maxRecDepth 100000 in
set_option maxHeartbeats 4000000 in
theorem c_SV_partAt {l : Launch} {D : va_G} {K : Nat → ClassId} {A : Nat → Prop} {wl : va_W} {ix iy h wa n : Nat} {w : Nat → Int32} (he : wl[ix]? = some (h, oSv wa n)) (ha : wl[iy]? = some (wa, arI K 6 w)) {a : Nat} {b : Int32} (hab : a + apN b ≤ 6) : ctL l y_SV_partAt prog_3_method_12_code 3 2 0 0 [.ref h, .int (nI a), .int b] D K A (wl) (fun r v => r = ptA w a b ∧ v = wl) := by
  refine mt_of (by decide) (Nat.le_of_ble_eq_true rfl) ?_
  intro p e s m below meth c ls B hw hl
  have hx := B.1
  have hb := B.2.1
  have hl : lv_has ls 3 [(0, .ref h), (1, .int (nI a)), (2, .int b)] := hl
  refine lv_iload_n hx hb d_SV_partAt_0 rfl (lv_at hl 2 rfl) ?_
  refine lv_if_eq (tgt := 24) hx hb d_SV_partAt_1 rfl (fun h1 => ?_) (fun h1 => ?_)
  · have e1 := apN_1 h1
    have e2 : ptA w a b = (w a).toInt64 := if_pos h1
    refine lv_aload_n hx hb d_SV_partAt_24 rfl (lv_at hl 0 rfl) ?_
    refine g_get B hw fl_SV_9 he rfl d_SV_partAt_25 ?_
    refine lv_iload_n hx hb d_SV_partAt_28 rfl (lv_at hl 1 rfl) ?_
    refine g_iald B hw ha (vp_in_nI (by omega) (by omega)) d_SV_partAt_29 ?_
    rw [nI_clamp (by omega)]
    refine lv_i2l hx hb d_SV_partAt_30 rfl ?_
    exact r_l B hw d_SV_partAt_31 ⟨by rw [e2], rfl⟩
  · have e1 := apN_2 h1
    have e2 : ptA w a b = jnd (w a) (w (a + 1)) := if_neg h1
    refine lv_aload_n hx hb d_SV_partAt_4 rfl (lv_at hl 0 rfl) ?_
    refine g_get B hw fl_SV_9 he rfl d_SV_partAt_5 ?_
    refine lv_iload_n hx hb d_SV_partAt_8 rfl (lv_at hl 1 rfl) ?_
    refine g_iald B hw ha (vp_in_nI (by omega) (by omega)) d_SV_partAt_9 ?_
    rw [nI_clamp (by omega)]
    refine lv_aload_n hx hb d_SV_partAt_10 rfl (lv_at hl 0 rfl) ?_
    refine g_get B hw fl_SV_9 he rfl d_SV_partAt_11 ?_
    refine lv_iload_n hx hb d_SV_partAt_14 rfl (lv_at hl 1 rfl) ?_
    refine lv_iconst (v := 1) hx hb d_SV_partAt_15 (by decide) ?_
    refine lv_iadd hx hb d_SV_partAt_16 ?_
    rw [← nI_succ a]
    refine g_iald B hw ha (vp_in_nI (by omega) (by omega)) d_SV_partAt_17 ?_
    rw [nI_clamp (by omega)]
    refine k_l (k_runN B hw c_NS_joined rfl rfl cf_SV_75 ⟨Nat.le_of_ble_eq_true rfl, Nat.le_of_ble_eq_true rfl⟩ rfl hl.1 rfl (Nat.le_of_ble_eq_true rfl) d_SV_partAt_18 ⟨Nat.le_of_ble_eq_true rfl, Nat.le_of_ble_eq_true rfl⟩) hw (fun r18 w1 H locs hq hw => ?_)
    obtain ⟨rfl, ew⟩ := hq
    rw [ew] at hw
    refine lv_goto (tgt := 31) hx hb d_SV_partAt_21 rfl ?_
    exact r_l B hw d_SV_partAt_31 ⟨by rw [e2], rfl⟩
set_option maxRecDepth 100000 in
set_option maxHeartbeats 4000000 in
theorem c_SV_first {l : Launch} {D : va_G} {K : Nat → ClassId} {A : Nat → Prop} {wl : va_W} {ix iy h wa n : Nat} {w : Nat → Int32} (he : wl[ix]? = some (h, oSv wa n)) (ha : wl[iy]? = some (wa, arI K 6 w)) : ctL l y_SV_first prog_3_method_10_code 1 3 0 0 [.ref h] D K A (wl) (fun r v => r = wF1 w ∧ v = wl) := by
  refine mt_of (by decide) (Nat.le_of_ble_eq_true rfl) ?_
  intro p e s m below meth c ls B hw hl
  have hx := B.1
  have hb := B.2.1
  have hl : lv_has ls 1 [(0, .ref h)] := hl
  refine lv_aload_n hx hb d_SV_first_0 rfl (lv_at hl 0 rfl) ?_
  refine lv_iconst (v := 1) hx hb d_SV_first_1 (by decide) ?_
  refine lv_aload_n hx hb d_SV_first_2 rfl (lv_at hl 0 rfl) ?_
  refine k_i (k_runV B hw (c_SV_kind he ha) rfl rfl cf_SV_49 he rfl rfl ⟨Nat.le_of_ble_eq_true rfl, Nat.le_of_ble_eq_true rfl⟩ rfl hl.1 rfl (Nat.le_of_ble_eq_true rfl) d_SV_first_3 ⟨Nat.le_of_ble_eq_true rfl, Nat.le_of_ble_eq_true rfl⟩) hw (fun r3 w1 H locs hq hw => ?_)
  obtain ⟨rfl, ew⟩ := hq
  rw [ew] at hw
  refine k_i (k_runS B hw c_ST_isFirstLong rfl rfl cf_SV_31 ⟨Nat.le_of_ble_eq_true rfl, Nat.le_of_ble_eq_true rfl⟩ rfl hl.1 rfl (Nat.le_of_ble_eq_true rfl) d_SV_first_6 ⟨Nat.le_of_ble_eq_true rfl, Nat.le_of_ble_eq_true rfl⟩) hw (fun r6 w1 H locs hq hw => ?_)
  obtain ⟨rfl, ew⟩ := hq
  rw [ew] at hw
  refine k_l (k_runV B hw (c_SV_partAt (a := 1) he ha (by have := apN_12 (isFL (wkd w)); omega)) rfl rfl cf_SV_71 he rfl rfl ⟨Nat.le_of_ble_eq_true rfl, Nat.le_of_ble_eq_true rfl⟩ rfl hl.1 rfl (Nat.le_of_ble_eq_true rfl) d_SV_first_9 ⟨Nat.le_of_ble_eq_true rfl, Nat.le_of_ble_eq_true rfl⟩) hw (fun r9 w1 H locs hq hw => ?_)
  obtain ⟨rfl, ew⟩ := hq
  rw [ew] at hw
  exact r_l B hw d_SV_first_12 ⟨rfl, rfl⟩
set_option maxRecDepth 100000 in
set_option maxHeartbeats 4000000 in
theorem c_SV_second {l : Launch} {D : va_G} {K : Nat → ClassId} {A : Nat → Prop} {wl : va_W} {ix iy h wa n : Nat} {w : Nat → Int32} (he : wl[ix]? = some (h, oSv wa n)) (ha : wl[iy]? = some (wa, arI K 6 w)) : ctL l y_SV_second prog_3_method_11_code 2 3 0 0 [.ref h] D K A (wl) (fun r v => r = wF2 w ∧ v = wl) := by
  refine mt_of (by decide) (Nat.le_of_ble_eq_true rfl) ?_
  intro p e s m below meth c ls B hw hl
  have hx := B.1
  have hb := B.2.1
  have hl : lv_has ls 2 [(0, .ref h)] := hl
  refine lv_iconst (v := 1) hx hb d_SV_second_0 (by decide) ?_
  refine lv_aload_n hx hb d_SV_second_1 rfl (lv_at hl 0 rfl) ?_
  refine k_i (k_runV B hw (c_SV_kind he ha) rfl rfl cf_SV_49 he rfl rfl ⟨Nat.le_of_ble_eq_true rfl, Nat.le_of_ble_eq_true rfl⟩ rfl hl.1 rfl (Nat.le_of_ble_eq_true rfl) d_SV_second_2 ⟨Nat.le_of_ble_eq_true rfl, Nat.le_of_ble_eq_true rfl⟩) hw (fun r2 w1 H locs hq hw => ?_)
  obtain ⟨rfl, ew⟩ := hq
  rw [ew] at hw
  refine k_i (k_runS B hw c_ST_isFirstLong rfl rfl cf_SV_31 ⟨Nat.le_of_ble_eq_true rfl, Nat.le_of_ble_eq_true rfl⟩ rfl hl.1 rfl (Nat.le_of_ble_eq_true rfl) d_SV_second_5 ⟨Nat.le_of_ble_eq_true rfl, Nat.le_of_ble_eq_true rfl⟩) hw (fun r5 w1 H locs hq hw => ?_)
  obtain ⟨rfl, ew⟩ := hq
  rw [ew] at hw
  refine k_i (k_runS B hw c_SV_wordsOfPart rfl rfl cf_SV_67 ⟨Nat.le_of_ble_eq_true rfl, Nat.le_of_ble_eq_true rfl⟩ rfl hl.1 rfl (Nat.le_of_ble_eq_true rfl) d_SV_second_8 ⟨Nat.le_of_ble_eq_true rfl, Nat.le_of_ble_eq_true rfl⟩) hw (fun r8 w1 H locs hq hw => ?_)
  obtain ⟨rfl, ew⟩ := hq
  rw [ew] at hw
  refine lv_iadd hx hb d_SV_second_11 ?_
  rw [wOP_nI, show (1 : Int32) = nI 1 from rfl, nI_add]
  refine lv_istore_n hx hb d_SV_second_12 rfl hl (by decide) rfl (fun ls (hl : lv_has ls 2 [(1, .int _), (0, .ref _)]) => ?_)
  refine lv_aload_n hx hb d_SV_second_13 rfl (lv_at hl 1 rfl) ?_
  refine lv_iload_n hx hb d_SV_second_14 rfl (lv_at hl 0 rfl) ?_
  refine lv_aload_n hx hb d_SV_second_15 rfl (lv_at hl 1 rfl) ?_
  refine k_i (k_runV B hw (c_SV_kind he ha) rfl rfl cf_SV_49 he rfl rfl ⟨Nat.le_of_ble_eq_true rfl, Nat.le_of_ble_eq_true rfl⟩ rfl hl.1 rfl (Nat.le_of_ble_eq_true rfl) d_SV_second_16 ⟨Nat.le_of_ble_eq_true rfl, Nat.le_of_ble_eq_true rfl⟩) hw (fun r16 w1 H locs hq hw => ?_)
  obtain ⟨rfl, ew⟩ := hq
  rw [ew] at hw
  refine k_i (k_runS B hw c_ST_isSecondLong rfl rfl cf_SV_42 ⟨Nat.le_of_ble_eq_true rfl, Nat.le_of_ble_eq_true rfl⟩ rfl hl.1 rfl (Nat.le_of_ble_eq_true rfl) d_SV_second_19 ⟨Nat.le_of_ble_eq_true rfl, Nat.le_of_ble_eq_true rfl⟩) hw (fun r19 w1 H locs hq hw => ?_)
  obtain ⟨rfl, ew⟩ := hq
  rw [ew] at hw
  refine k_l (k_runV B hw (c_SV_partAt he ha (by have := apN_12 (isFL (wkd w)); have := apN_12 (isSL (wkd w)); omega)) rfl rfl cf_SV_71 he rfl rfl ⟨Nat.le_of_ble_eq_true rfl, Nat.le_of_ble_eq_true rfl⟩ rfl hl.1 rfl (Nat.le_of_ble_eq_true rfl) d_SV_second_22 ⟨Nat.le_of_ble_eq_true rfl, Nat.le_of_ble_eq_true rfl⟩) hw (fun r22 w1 H locs hq hw => ?_)
  obtain ⟨rfl, ew⟩ := hq
  rw [ew] at hw
  exact r_l B hw d_SV_second_25 ⟨rfl, rfl⟩
set_option maxRecDepth 100000 in
set_option maxHeartbeats 4000000 in
theorem c_SV_fault {l : Launch} {D : va_G} {K : Nat → ClassId} {A : Nat → Prop} {wl : va_W} {ix iy h wa n : Nat} {w : Nat → Int32} (he : wl[ix]? = some (h, oSv wa n)) (ha : wl[iy]? = some (wa, arI K 6 w)) (hn : n ≤ 6) : ctI l y_SV_fault prog_3_method_6_code 1 (some .int) 4 0 0 [.ref h] D K A (wl) (fun r v => r = flt n w ∧ v = wl) := by
  refine mt_of (by decide) (Nat.le_of_ble_eq_true rfl) ?_
  intro p e s m below meth c ls B hw hl
  have hx := B.1
  have hb := B.2.1
  have hl : lv_has ls 1 [(0, .ref h)] := hl
  refine lv_aload_n hx hb d_SV_fault_0 rfl (lv_at hl 0 rfl) ?_
  refine g_get B hw fl_SV_13 he rfl d_SV_fault_1 ?_
  refine lv_if_eq (tgt := 17) hx hb d_SV_fault_4 rfl (fun h4 => ?_) (fun h4 => ?_)
  · have h4 : n = 0 := (nI_eq (a := n) (b := 0) (by omega) (by omega)).mp h4
    have ez : flt n w = -2 := if_pos h4
    refine lv_bipush (v := (-2)) hx hb d_SV_fault_17 (by decide) ?_
    exact r_i B hw d_SV_fault_19 ⟨by rw [ez], rfl⟩
  · have h4 : ¬ n = 0 := fun q => h4 (by rw [q]; rfl)
    have ez : flt n w = _ := if_neg h4
    refine lv_aload_n hx hb d_SV_fault_7 rfl (lv_at hl 0 rfl) ?_
    refine k_i (k_runV B hw (c_SV_kind he ha) rfl rfl cf_SV_49 he rfl rfl ⟨Nat.le_of_ble_eq_true rfl, Nat.le_of_ble_eq_true rfl⟩ rfl hl.1 rfl (Nat.le_of_ble_eq_true rfl) d_SV_fault_8 ⟨Nat.le_of_ble_eq_true rfl, Nat.le_of_ble_eq_true rfl⟩) hw (fun r8 w1 H locs hq hw => ?_)
    obtain ⟨rfl, ew⟩ := hq
    rw [ew] at hw
    refine k_i (k_runS B hw c_ST_isKind rfl rfl cf_SV_52 ⟨Nat.le_of_ble_eq_true rfl, Nat.le_of_ble_eq_true rfl⟩ rfl hl.1 rfl (Nat.le_of_ble_eq_true rfl) d_SV_fault_11 ⟨Nat.le_of_ble_eq_true rfl, Nat.le_of_ble_eq_true rfl⟩) hw (fun r11 w1 H locs hq hw => ?_)
    obtain ⟨rfl, ew⟩ := hq
    rw [ew] at hw
    refine lv_if_ne (tgt := 20) hx hb d_SV_fault_14 rfl (fun h14 => ?_) (fun h14 => ?_)
    · rw [if_neg h14] at ez
      refine lv_aload_n hx hb d_SV_fault_20 rfl (lv_at hl 0 rfl) ?_
      refine g_get B hw fl_SV_13 he rfl d_SV_fault_21 ?_
      refine lv_aload_n hx hb d_SV_fault_24 rfl (lv_at hl 0 rfl) ?_
      refine k_i (k_runV B hw (c_SV_kind he ha) rfl rfl cf_SV_49 he rfl rfl ⟨Nat.le_of_ble_eq_true rfl, Nat.le_of_ble_eq_true rfl⟩ rfl hl.1 rfl (Nat.le_of_ble_eq_true rfl) d_SV_fault_25 ⟨Nat.le_of_ble_eq_true rfl, Nat.le_of_ble_eq_true rfl⟩) hw (fun r25 w1 H locs hq hw => ?_)
      obtain ⟨rfl, ew⟩ := hq
      rw [ew] at hw
      refine k_i (k_runS B hw c_SV_wordsOfKind rfl rfl cf_SV_55 ⟨Nat.le_of_ble_eq_true rfl, Nat.le_of_ble_eq_true rfl⟩ rfl hl.1 rfl (Nat.le_of_ble_eq_true rfl) d_SV_fault_28 ⟨Nat.le_of_ble_eq_true rfl, Nat.le_of_ble_eq_true rfl⟩) hw (fun r28 w1 H locs hq hw => ?_)
      obtain ⟨rfl, ew⟩ := hq
      rw [ew] at hw
      refine lv_icmp_eq (tgt := 37) hx hb d_SV_fault_31 rfl (fun h31 => ?_) (fun h31 => ?_)
      · rw [if_pos h31] at ez
        refine lv_aload_n hx hb d_SV_fault_37 rfl (lv_at hl 0 rfl) ?_
        refine g_get B hw fl_SV_9 he rfl d_SV_fault_38 ?_
        refine lv_aload_n hx hb d_SV_fault_41 rfl (lv_at hl 0 rfl) ?_
        refine g_get B hw fl_SV_13 he rfl d_SV_fault_42 ?_
        refine lv_iconst (v := 1) hx hb d_SV_fault_45 (by decide) ?_
        refine lv_isub hx hb d_SV_fault_46 ?_
        rw [show nI n - 1 = nI (n - 1) from pk_sub (a := n) (b := 1) (by omega)]
        refine g_iald B hw ha (vp_in_nI (by omega) (by omega)) d_SV_fault_47 ?_
        rw [nI_clamp (by omega)]
        refine lv_aload_n hx hb d_SV_fault_48 rfl (lv_at hl 0 rfl) ?_
        refine lv_aload_n hx hb d_SV_fault_49 rfl (lv_at hl 0 rfl) ?_
        refine g_get B hw fl_SV_13 he rfl d_SV_fault_50 ?_
        refine lv_iconst (v := 1) hx hb d_SV_fault_53 (by decide) ?_
        refine lv_isub hx hb d_SV_fault_54 ?_
        rw [show nI n - 1 = nI (n - 1) from pk_sub (a := n) (b := 1) (by omega)]
        refine k_i (k_runV B hw (c_SV_checkOfFirst he ha (by omega)) rfl rfl cf_SV_45 he rfl rfl ⟨Nat.le_of_ble_eq_true rfl, Nat.le_of_ble_eq_true rfl⟩ rfl hl.1 rfl (Nat.le_of_ble_eq_true rfl) d_SV_fault_55 ⟨Nat.le_of_ble_eq_true rfl, Nat.le_of_ble_eq_true rfl⟩) hw (fun r55 w1 H locs hq hw => ?_)
        obtain ⟨rfl, ew⟩ := hq
        rw [ew] at hw
        refine lv_icmp_eq (tgt := 64) hx hb d_SV_fault_58 rfl (fun h58 => ?_) (fun h58 => ?_)
        · rw [if_pos h58] at ez
          refine lv_aload_n hx hb d_SV_fault_64 rfl (lv_at hl 0 rfl) ?_
          refine k_i (k_runV B hw (c_SV_kind he ha) rfl rfl cf_SV_49 he rfl rfl ⟨Nat.le_of_ble_eq_true rfl, Nat.le_of_ble_eq_true rfl⟩ rfl hl.1 rfl (Nat.le_of_ble_eq_true rfl) d_SV_fault_65 ⟨Nat.le_of_ble_eq_true rfl, Nat.le_of_ble_eq_true rfl⟩) hw (fun r65 w1 H locs hq hw => ?_)
          obtain ⟨rfl, ew⟩ := hq
          rw [ew] at hw
          refine lv_aload_n hx hb d_SV_fault_68 rfl (lv_at hl 0 rfl) ?_
          refine k_l (k_runV B hw (c_SV_first he ha) rfl rfl cf_SV_58 he rfl rfl ⟨Nat.le_of_ble_eq_true rfl, Nat.le_of_ble_eq_true rfl⟩ rfl hl.1 rfl (Nat.le_of_ble_eq_true rfl) d_SV_fault_69 ⟨Nat.le_of_ble_eq_true rfl, Nat.le_of_ble_eq_true rfl⟩) hw (fun r69 w1 H locs hq hw => ?_)
          obtain ⟨rfl, ew⟩ := hq
          rw [ew] at hw
          refine lv_aload_n hx hb d_SV_fault_72 rfl (lv_at hl 0 rfl) ?_
          refine k_l (k_runV B hw (c_SV_second he ha) rfl rfl cf_SV_61 he rfl rfl ⟨Nat.le_of_ble_eq_true rfl, Nat.le_of_ble_eq_true rfl⟩ rfl hl.1 rfl (Nat.le_of_ble_eq_true rfl) d_SV_fault_73 ⟨Nat.le_of_ble_eq_true rfl, Nat.le_of_ble_eq_true rfl⟩) hw (fun r73 w1 H locs hq hw => ?_)
          obtain ⟨rfl, ew⟩ := hq
          rw [ew] at hw
          refine k_i (k_runS B hw c_ST_isState rfl rfl cf_SV_63 ⟨Nat.le_of_ble_eq_true rfl, Nat.le_of_ble_eq_true rfl⟩ rfl hl.1 rfl (Nat.le_of_ble_eq_true rfl) d_SV_fault_76 ⟨Nat.le_of_ble_eq_true rfl, Nat.le_of_ble_eq_true rfl⟩) hw (fun r76 w1 H locs hq hw => ?_)
          obtain ⟨rfl, ew⟩ := hq
          rw [ew] at hw
          refine lv_if_eq (tgt := 86) hx hb d_SV_fault_79 rfl (fun h79 => ?_) (fun h79 => ?_)
          · rw [if_pos h79] at ez
            refine lv_bipush (v := (-5)) hx hb d_SV_fault_86 (by decide) ?_
            exact r_i B hw d_SV_fault_88 ⟨by rw [ez], rfl⟩
          · rw [if_neg h79] at ez
            refine lv_iconst (v := 0) hx hb d_SV_fault_82 (by decide) ?_
            refine lv_goto (tgt := 88) hx hb d_SV_fault_83 rfl ?_
            exact r_i B hw d_SV_fault_88 ⟨by rw [ez], rfl⟩
        · rw [if_neg h58] at ez
          refine lv_bipush (v := (-4)) hx hb d_SV_fault_61 (by decide) ?_
          exact r_i B hw d_SV_fault_63 ⟨by rw [ez], rfl⟩
      · rw [if_neg h31] at ez
        refine lv_bipush (v := (-3)) hx hb d_SV_fault_34 (by decide) ?_
        exact r_i B hw d_SV_fault_36 ⟨by rw [ez], rfl⟩
    · rw [if_pos h14] at ez
      refine lv_bipush (v := (-2)) hx hb d_SV_fault_17 (by decide) ?_
      exact r_i B hw d_SV_fault_19 ⟨by rw [ez], rfl⟩
end
section
/-! Saved's constructor: what a record holds of a stream. -/
theorem sv_set {K : Nat → ClassId} {wl : va_W} {ix iy h wa n : Nat} {w : Nat → Int32} {y : Nat × va_E} (hn : ix ≠ iy) : svW K (wl.set ix y) ix iy h wa n w = svW K wl ix iy h wa n w := by
  unfold svW
  rw [List.set_comm _ _ hn, List.set_set]
def sW1 (k : Int32) : Nat → Int32 := upd (fun _ => 0) 0 (24301824 + k)
def sN2 (k : Int32) : Nat := 1 + apN (isFL k)
def sW2 (k : Int32) (f : Int64) : Nat → Int32 := apW (sW1 k) 1 f (isFL k)
def sN3 (k : Int32) : Nat := sN2 k + apN (isSL k)
def sW3 (k : Int32) (f g : Int64) : Nat → Int32 := apW (sW2 k f) (sN2 k) g (isSL k)
def svN (k : Int32) : Nat := sN3 k + 1
def svF (k : Int32) (f g : Int64) : Nat → Int32 := upd (sW3 k f g) (sN3 k) (ckF (sW3 k f g) (sN3 k))
theorem svN_le (k : Int32) : sN2 k ≤ 3 ∧ sN3 k ≤ 5 ∧ svN k ≤ 6 := by
  have h1 := apN_12 (isFL k)
  have h2 := apN_12 (isSL k)
  unfold svN sN3 sN2
  omega
set_option maxRecDepth 100000 in
set_option maxHeartbeats 4000000 in
theorem c_SV_init {l : Launch} {D : va_G} {K : Nat → ClassId} {A : Nat → Prop} {wl : va_W} {ix js h hS : Nat} {k : Int32} {f g : Int64} (he : wl[ix]? = some (h, .inr (2, [.null, .int 0]))) (hs : wl[js]? = some (hS, oSt k f g)) : ctV l y_SV_init prog_3_method_1_code 2 2 1 6 [.ref h, .ref hS] D K A (wl) (fun v => ∃ q, v = svW K (wl ++ [(q, arI K 6 (fun _ => 0))]) ix wl.length h q (svN k) (svF k f g)) := by
  refine mt_of (by decide) (Nat.le_of_ble_eq_true rfl) ?_
  intro p e s m below meth c ls B hw hl
  have hx := B.1
  have hb := B.2.1
  have hl : lv_has ls 2 [(0, .ref h), (1, .ref hS)] := hl
  refine lv_aload_n hx hb d_SV_init_0 rfl (lv_at hl 0 rfl) ?_
  refine W.objInit hx hb B.2.2.2.1 (B.2.2.2.2.1 _ ml_SV_1) (B.2.2.2.2.1 _ im_OB_init) (B.2.2.2.2.1 _ co_OB_init) rfl (by rw [B.2.2.1]; exact hl.1) rfl d_SV_init_1 (Nat.le_of_ble_eq_true rfl) (Nat.le_of_ble_eq_true rfl) ?_
  refine W.eq (g2 := F0 m 4 ls []) rfl ?_
  refine lv_aload_n hx hb d_SV_init_4 rfl (lv_at hl 0 rfl) ?_
  refine lv_bipush (v := 6) hx hb d_SV_init_5 (by decide) ?_
  refine g_newI (N' := 6) B hw (by decide) (by decide) (by decide) (Nat.le_of_ble_eq_true rfl) (Nat.le_of_ble_eq_true rfl) d_SV_init_7 (fun q H hw => ?_)
  have hlx : ix ≠ wl.length := Nat.ne_of_lt (List.getElem?_eq_some_iff.mp he).1
  have hls : wl.length ≠ js := (Nat.ne_of_lt (List.getElem?_eq_some_iff.mp hs).1).symm
  have hxs : ix ≠ js := ne_oo he hs (by decide)
  refine g_putF B hw fl_SV_9 ck_SV (ga_old he) rfl rfl rfl rfl (Nat.le_of_ble_eq_true rfl) d_SV_init_9 (fun H locs hw => ?_)
  refine lv_aload_n hx hb d_SV_init_12 rfl (lv_at hl 0 rfl) ?_
  refine lv_iconst (v := 0) hx hb d_SV_init_13 (by decide) ?_
  refine g_put B hw fl_SV_13 ck_SV (gs_eq (ga_old he)) rfl rfl rfl (Nat.le_of_ble_eq_true rfl) d_SV_init_14 (fun H locs hw => ?_)
  rw [List.set_set] at hw
  have hw : wd D A ((wl ++ [(q, arI K 6 (fun _ => 0))]).set ix (h, oSv q 0)) s H locs := hw
  have he0 : ((wl ++ [(q, arI K 6 (fun _ => 0))]).set ix (h, oSv q 0))[ix]? = some (h, oSv q 0) := gs_eq (ga_old he)
  have ha0 : ((wl ++ [(q, arI K 6 (fun _ => 0))]).set ix (h, oSv q 0))[wl.length]? = some (q, arI K 6 (fun _ => 0)) := gs_ne hlx ga_new
  have hs0 : ((wl ++ [(q, arI K 6 (fun _ => 0))]).set ix (h, oSv q 0))[js]? = some (hS, oSt k f g) := gs_ne hxs (ga_old hs)
  obtain ⟨c2, c3, c4⟩ := svN_le k
  refine lv_aload_n hx hb d_SV_init_17 rfl (lv_at hl 0 rfl) ?_
  refine g_ldc B kc_SV_17 d_SV_init_18 ?_
  refine lv_aload_n hx hb d_SV_init_20 rfl (lv_at hl 1 rfl) ?_
  refine g_get B hw fl_SV_18 hs0 rfl d_SV_init_21 ?_
  refine lv_iadd hx hb d_SV_init_24 ?_
  refine k_v (k_runV B hw (c_SV_append he0 ha0 (by omega)) rfl rfl cf_SV_23 he0 rfl rfl ⟨Nat.le_of_ble_eq_true rfl, Nat.le_of_ble_eq_true rfl⟩ rfl hl.1 rfl (Nat.le_of_ble_eq_true rfl) d_SV_init_25 ⟨Nat.le_of_ble_eq_true rfl, Nat.le_of_ble_eq_true rfl⟩) hw (fun w1 H locs hq hw => ?_)
  rw [hq] at hw
  have hw : wd D A (svW K ((wl ++ [(q, arI K 6 (fun _ => 0))]).set ix (h, oSv q 0)) ix wl.length h q 1 (sW1 k)) s H locs := hw
  refine lv_aload_n hx hb d_SV_init_28 rfl (lv_at hl 0 rfl) ?_
  refine lv_aload_n hx hb d_SV_init_29 rfl (lv_at hl 1 rfl) ?_
  refine g_get B hw fl_SV_27 (sv_o hxs hls hs0) rfl d_SV_init_30 ?_
  refine lv_aload_n hx hb d_SV_init_33 rfl (lv_at hl 1 rfl) ?_
  refine g_get B hw fl_SV_18 (sv_o hxs hls hs0) rfl d_SV_init_34 ?_
  refine k_i (k_runS B hw c_ST_isFirstLong rfl rfl cf_SV_31 ⟨Nat.le_of_ble_eq_true rfl, Nat.le_of_ble_eq_true rfl⟩ rfl hl.1 rfl (Nat.le_of_ble_eq_true rfl) d_SV_init_37 ⟨Nat.le_of_ble_eq_true rfl, Nat.le_of_ble_eq_true rfl⟩) hw (fun r37 w1 H locs hq hw => ?_)
  obtain ⟨rfl, ew⟩ := hq
  rw [ew] at hw
  refine k_v (k_runV B hw (c_SV_appendPart (sv_x he0 ha0) (sv_y he0 ha0) (by unfold sN2 at c2; omega)) rfl rfl cf_SV_35 (sv_x he0 ha0) rfl rfl ⟨Nat.le_of_ble_eq_true rfl, Nat.le_of_ble_eq_true rfl⟩ rfl hl.1 rfl (Nat.le_of_ble_eq_true rfl) d_SV_init_40 ⟨Nat.le_of_ble_eq_true rfl, Nat.le_of_ble_eq_true rfl⟩) hw (fun w1 H locs hq hw => ?_)
  rw [hq, sv_sv hlx] at hw
  have hw : wd D A (svW K ((wl ++ [(q, arI K 6 (fun _ => 0))]).set ix (h, oSv q 0)) ix wl.length h q (sN2 k) (sW2 k f)) s H locs := hw
  refine lv_aload_n hx hb d_SV_init_43 rfl (lv_at hl 0 rfl) ?_
  refine lv_aload_n hx hb d_SV_init_44 rfl (lv_at hl 1 rfl) ?_
  refine g_get B hw fl_SV_39 (sv_o hxs hls hs0) rfl d_SV_init_45 ?_
  refine lv_aload_n hx hb d_SV_init_48 rfl (lv_at hl 1 rfl) ?_
  refine g_get B hw fl_SV_18 (sv_o hxs hls hs0) rfl d_SV_init_49 ?_
  refine k_i (k_runS B hw c_ST_isSecondLong rfl rfl cf_SV_42 ⟨Nat.le_of_ble_eq_true rfl, Nat.le_of_ble_eq_true rfl⟩ rfl hl.1 rfl (Nat.le_of_ble_eq_true rfl) d_SV_init_52 ⟨Nat.le_of_ble_eq_true rfl, Nat.le_of_ble_eq_true rfl⟩) hw (fun r52 w1 H locs hq hw => ?_)
  obtain ⟨rfl, ew⟩ := hq
  rw [ew] at hw
  refine k_v (k_runV B hw (c_SV_appendPart (sv_x he0 ha0) (sv_y he0 ha0) (by unfold sN3 at c3; omega)) rfl rfl cf_SV_35 (sv_x he0 ha0) rfl rfl ⟨Nat.le_of_ble_eq_true rfl, Nat.le_of_ble_eq_true rfl⟩ rfl hl.1 rfl (Nat.le_of_ble_eq_true rfl) d_SV_init_55 ⟨Nat.le_of_ble_eq_true rfl, Nat.le_of_ble_eq_true rfl⟩) hw (fun w1 H locs hq hw => ?_)
  rw [hq, sv_sv hlx] at hw
  have hw : wd D A (svW K ((wl ++ [(q, arI K 6 (fun _ => 0))]).set ix (h, oSv q 0)) ix wl.length h q (sN3 k) (sW3 k f g)) s H locs := hw
  refine lv_aload_n hx hb d_SV_init_58 rfl (lv_at hl 0 rfl) ?_
  refine lv_aload_n hx hb d_SV_init_59 rfl (lv_at hl 0 rfl) ?_
  refine lv_aload_n hx hb d_SV_init_60 rfl (lv_at hl 0 rfl) ?_
  refine g_get B hw fl_SV_13 (sv_x he0 ha0) rfl d_SV_init_61 ?_
  refine k_i (k_runV B hw (c_SV_checkOfFirst (sv_x he0 ha0) (sv_y he0 ha0) (by omega)) rfl rfl cf_SV_45 (sv_x he0 ha0) rfl rfl ⟨Nat.le_of_ble_eq_true rfl, Nat.le_of_ble_eq_true rfl⟩ rfl hl.1 rfl (Nat.le_of_ble_eq_true rfl) d_SV_init_64 ⟨Nat.le_of_ble_eq_true rfl, Nat.le_of_ble_eq_true rfl⟩) hw (fun r64 w1 H locs hq hw => ?_)
  obtain ⟨rfl, ew⟩ := hq
  rw [ew] at hw
  refine k_v (k_runV B hw (c_SV_append (sv_x he0 ha0) (sv_y he0 ha0) (by omega)) rfl rfl cf_SV_23 (sv_x he0 ha0) rfl rfl ⟨Nat.le_of_ble_eq_true rfl, Nat.le_of_ble_eq_true rfl⟩ rfl hl.1 rfl (Nat.le_of_ble_eq_true rfl) d_SV_init_67 ⟨Nat.le_of_ble_eq_true rfl, Nat.le_of_ble_eq_true rfl⟩) hw (fun w1 H locs hq hw => ?_)
  rw [hq, sv_sv hlx, sv_set hlx] at hw
  exact r_v B hw d_SV_init_70 ⟨q, rfl⟩
end
section
/-! Points: its cell (the rows, the index), the array of four rows, a row of twenty words. -/
abbrev oPt (aD : Nat) (ix : Int32) : va_E := .inr (1, [.ref aD, .int ix])
theorem va_rf_some (a : Nat) : va_rf (some a) = .ref a := rfl
theorem va_rf_none : va_rf none = .null := rfl
theorem ne_iq {K : Nat → ClassId} {w : va_W} {i j a b n m t : Nat} {f : Nat → Int32} {g : Nat → Option Nat} (h1 : w[i]? = some (a, arI K n f)) (h2 : w[j]? = some (b, arQ K t m g)) : i ≠ j := by
  rintro rfl
  rw [h1] at h2
  have h4 := (Prod.mk.inj (Option.some.inj h2)).2
  have h6 := (Prod.mk.inj (Prod.mk.inj (Sum.inl.inj h4)).2).2
  cases h6
theorem set_self {w : va_W} {i : Nat} {x : Nat × va_E} (h : w[i]? = some x) : w.set i x = w := by
  apply List.ext_getElem?
  intro j
  rw [List.getElem?_set]
  by_cases e : i = j
  · subst e
    rw [if_pos rfl, if_pos (List.getElem?_eq_some_iff.mp h).1, h]
  · rw [if_neg e]
/-- a row's next word, q of the inner bits looked at -/
def gwN (dg : Nat) (e : Int32) (F : Nat → Int32) (j : Nat) : Nat → Int32
  | 0 => F (j - dg) ^^^ (F (j - dg) <<< (nI dg &&& 31))
  | q + 1 => if ius e (nI dg - 1 - nI (q + 1)) &&& 1 = 1 then gwN dg e F j q ^^^ (F (j - (q + 1)) <<< (nI (q + 1) &&& 31)) else gwN dg e F j q
def inE (dg : Nat) : Int32 := if dg = 1 then 0 else 1
theorem gw_mT {dg : Nat} (hd : dg = 1 ∨ dg = 2 ∨ dg = 3) {F : Nat → Int32} {j : Nat} (hj : dg ≤ j) (hj2 : j < 20) (hF : ∀ i, i < j → F i = mT dg i) : gwN dg (inE dg) F j (dg - 1) = mT dg j := by
  rcases hd with rfl | rfl | rfl
  · show F (j - 1) ^^^ (F (j - 1) <<< (nI 1 &&& 31)) = _
    rw [hF (j - 1) (by omega), mT_1 j hj2 hj]
    rfl
  · show (if ius 1 (nI 2 - 1 - nI 1) &&& 1 = 1 then (F (j - 2) ^^^ (F (j - 2) <<< (nI 2 &&& 31))) ^^^ (F (j - 1) <<< (nI 1 &&& 31)) else _) = _
    rw [if_pos (by decide), hF (j - 1) (by omega), hF (j - 2) (by omega), mT_2 j hj2 hj]
    rfl
  · show (if ius 1 (nI 3 - 1 - nI 2) &&& 1 = 1 then (if ius 1 (nI 3 - 1 - nI 1) &&& 1 = 1 then _ else (F (j - 3) ^^^ (F (j - 3) <<< (nI 3 &&& 31)))) ^^^ (F (j - 2) <<< (nI 2 &&& 31)) else _) = _
    rw [if_pos (by decide), if_neg (by decide), hF (j - 2) (by omega), hF (j - 3) (by omega), mT_3 j hj2 hj]
    rfl
set_option maxRecDepth 100000 in
set_option maxHeartbeats 4000000 in
theorem c_PT_startRow {l : Launch} {D : va_G} {K : Nat → ClassId} {A : Nat → Prop} {wl : va_W} {ip id ir h aD a r : Nat} {ix : Int32} {gd : Nat → Option Nat} {F : Nat → Int32} (he : wl[ip]? = some (h, oPt aD ix)) (hd : wl[id]? = some (aD, arQ K 4 4 gd)) (hr4 : r < 4) (hg : gd r = some a) (hr : wl[ir]? = some (a, arI K 20 F)) {m1 m2 m3 : Int32} : ctV l y_PT_startRow prog_2_method_2_code 5 0 0 0 [.ref h, .int (nI r), .int m1, .int m2, .int m3] D K A (wl) (fun v => v = wl.set ir (a, arI K 20 (upd (upd (upd F 0 m1) 1 m2) 2 m3))) := by
  refine mt_of (by decide) (Nat.le_of_ble_eq_true rfl) ?_
  intro p e s m below meth c ls B hw hl
  have hx := B.1
  have hb := B.2.1
  have hl : lv_has ls 5 [(0, .ref h), (1, .int (nI r)), (2, .int m1), (3, .int m2), (4, .int m3)] := hl
  refine lv_aload_n hx hb d_PT_startRow_0 rfl (lv_at hl 0 rfl) ?_
  refine g_get B hw fl_PT_11 he rfl d_PT_startRow_1 ?_
  refine lv_iload_n hx hb d_PT_startRow_4 rfl (lv_at hl 1 rfl) ?_
  refine g_gald B hw hd (vp_in_nI hr4 (by omega)) d_PT_startRow_5 ?_
  rw [nI_clamp (by omega), hg, va_rf_some]
  refine lv_iconst (v := 0) hx hb d_PT_startRow_6 (by decide) ?_
  refine lv_iload_n hx hb d_PT_startRow_7 rfl (lv_at hl 2 rfl) ?_
  refine g_iast B hw hr (vp_in_nI (n := 0) (by omega) (by omega)) d_PT_startRow_8 (fun H locs hw => ?_)
  have hw : wd D A (wl.set ir (a, arI K 20 (upd F 0 m1))) s H locs := hw
  refine lv_aload_n hx hb d_PT_startRow_9 rfl (lv_at hl 0 rfl) ?_
  refine g_get B hw fl_PT_11 (gs_ne (ne_oa he hr).symm he) rfl d_PT_startRow_10 ?_
  refine lv_iload_n hx hb d_PT_startRow_13 rfl (lv_at hl 1 rfl) ?_
  refine g_gald B hw (gs_ne (ne_iq hr hd) hd) (vp_in_nI hr4 (by omega)) d_PT_startRow_14 ?_
  rw [nI_clamp (by omega), hg, va_rf_some]
  refine lv_iconst (v := 1) hx hb d_PT_startRow_15 (by decide) ?_
  refine lv_iload_n hx hb d_PT_startRow_16 rfl (lv_at hl 3 rfl) ?_
  refine g_iast B hw (gs_eq hr) (vp_in_nI (n := 1) (by omega) (by omega)) d_PT_startRow_17 (fun H locs hw => ?_)
  rw [List.set_set] at hw
  have hw : wd D A (wl.set ir (a, arI K 20 (upd (upd F 0 m1) 1 m2))) s H locs := hw
  refine lv_aload_n hx hb d_PT_startRow_18 rfl (lv_at hl 0 rfl) ?_
  refine g_get B hw fl_PT_11 (gs_ne (ne_oa he hr).symm he) rfl d_PT_startRow_19 ?_
  refine lv_iload_n hx hb d_PT_startRow_22 rfl (lv_at hl 1 rfl) ?_
  refine g_gald B hw (gs_ne (ne_iq hr hd) hd) (vp_in_nI hr4 (by omega)) d_PT_startRow_23 ?_
  rw [nI_clamp (by omega), hg, va_rf_some]
  refine lv_iconst (v := 2) hx hb d_PT_startRow_24 (by decide) ?_
  refine lv_iload hx hb d_PT_startRow_25 (lv_at hl 4 rfl) ?_
  refine g_iast B hw (gs_eq hr) (vp_in_nI (n := 2) (by omega) (by omega)) d_PT_startRow_27 (fun H locs hw => ?_)
  rw [List.set_set] at hw
  have hw : wd D A (wl.set ir (a, arI K 20 (upd (upd (upd F 0 m1) 1 m2) 2 m3))) s H locs := hw
  exact r_v B hw d_PT_startRow_28 rfl
set_option maxRecDepth 100000 in
set_option maxHeartbeats 4000000 in
theorem c_PT_growRow {l : Launch} {D : va_G} {K : Nat → ClassId} {A : Nat → Prop} {wl : va_W} {ip id ir h aD a r : Nat} {ix : Int32} {gd : Nat → Option Nat} {F : Nat → Int32} (he : wl[ip]? = some (h, oPt aD ix)) (hd : wl[id]? = some (aD, arQ K 4 4 gd)) (hr4 : r < 4) (hg : gd r = some a) (hr : wl[ir]? = some (a, arI K 20 F)) {dg : Nat} (hdg : dg = 1 ∨ dg = 2 ∨ dg = 3) (hF : ∀ i, i < dg → F i = mT dg i) : ctV l y_PT_growRow prog_2_method_3_code 8 0 0 0 [.ref h, .int (nI r), .int (nI dg), .int (inE dg)] D K A (wl) (fun v => ∃ G, v = wl.set ir (a, arI K 20 G) ∧ ∀ i, i < 20 → G i = mT dg i) := by
  refine mt_of (by decide) (Nat.le_of_ble_eq_true rfl) ?_
  intro p e s m below meth c ls B hw hl
  have hx := B.1
  have hb := B.2.1
  have hl : lv_has ls 8 [(0, .ref h), (1, .int (nI r)), (2, .int (nI dg)), (3, .int (inE dg))] := hl
  have hdg4 : 1 ≤ dg ∧ dg ≤ 3 := by omega
  refine lv_aload_n hx hb d_PT_growRow_0 rfl (lv_at hl 0 rfl) ?_
  refine g_get B hw fl_PT_11 he rfl d_PT_growRow_1 ?_
  refine lv_iload_n hx hb d_PT_growRow_4 rfl (lv_at hl 1 rfl) ?_
  refine g_gald B hw hd (vp_in_nI hr4 (by omega)) d_PT_growRow_5 ?_
  rw [nI_clamp (by omega), hg, va_rf_some]
  refine lv_astore hx hb d_PT_growRow_6 hl (by decide) rfl (fun ls (hl : lv_has ls 8 [(4, .ref _), (0, .ref _), (1, .int _), (2, .int _), (3, .int _)]) => ?_)
  refine lv_iload_n hx hb d_PT_growRow_8 rfl (lv_at hl 3 rfl) ?_
  refine lv_istore hx hb d_PT_growRow_9 hl (by decide) rfl (fun ls (hl : lv_has ls 8 [(5, .int _), (4, .ref _), (0, .ref _), (1, .int _), (2, .int _), (3, .int _)]) => ?_)
  refine lp_w (σ := Nat × (Nat → Int32)) (fun x => 20 - x.1) (fun x H locs ls => dg ≤ x.1 ∧ x.1 ≤ 20 ∧ (∀ i, i < x.1 → x.2 i = mT dg i) ∧ lv_has ls 8 [(5, .int (nI x.1)), (4, .ref a), (0, .ref h), (1, .int (nI r)), (2, .int (nI dg)), (3, .int (inE dg))] ∧ wd D A (wl.set ir (a, arI K 20 x.2)) s H locs) ?_ (dg, F) _ _ _ ⟨Nat.le_refl _, by show dg ≤ 20; omega, hF, lv_sub hl [0, 1, 2, 3, 4, 5] rfl, by show wd D A (wl.set ir (a, arI K 20 F)) s _ _; rw [set_self hr]; exact hw⟩
  rintro ⟨j, G⟩ H locs ls ⟨hj, hj2, hG, hl, hw⟩ ih
  dsimp only at hj hj2 hG hl hw
  refine lv_iload hx hb d_PT_growRow_11 (lv_at hl 0 rfl) ?_
  refine lv_bipush (v := 20) hx hb d_PT_growRow_13 (by decide) ?_
  refine lv_icmp_ge (tgt := 95) hx hb d_PT_growRow_15 rfl (fun h15 => ?_) (fun h15 => ?_)
  · have h15 : 20 ≤ j := (nI_leI (a := 20) (by omega) (by omega)).mp h15
    have hj20 : j = 20 := by omega
    exact r_v B hw d_PT_growRow_95 ⟨G, rfl, by rw [hj20] at hG; exact hG⟩
  · have h15 : j < 20 := Nat.lt_of_not_le (fun q => h15 ((nI_leI (a := 20) (by omega) (by omega)).mpr q))
    refine lv_aload hx hb d_PT_growRow_18 (lv_at hl 1 rfl) ?_
    refine lv_iload hx hb d_PT_growRow_20 (lv_at hl 0 rfl) ?_
    refine lv_iload_n hx hb d_PT_growRow_22 rfl (lv_at hl 4 rfl) ?_
    refine lv_isub hx hb d_PT_growRow_23 ?_
    rw [pk_sub (a := j) (b := dg) (by omega)]
    refine g_iald B hw (gs_eq hr) (vp_in_nI (by omega) (by omega)) d_PT_growRow_24 ?_
    rw [nI_clamp (by omega)]
    refine lv_aload hx hb d_PT_growRow_25 (lv_at hl 1 rfl) ?_
    refine lv_iload hx hb d_PT_growRow_27 (lv_at hl 0 rfl) ?_
    refine lv_iload_n hx hb d_PT_growRow_29 rfl (lv_at hl 4 rfl) ?_
    refine lv_isub hx hb d_PT_growRow_30 ?_
    rw [pk_sub (a := j) (b := dg) (by omega)]
    refine g_iald B hw (gs_eq hr) (vp_in_nI (by omega) (by omega)) d_PT_growRow_31 ?_
    rw [nI_clamp (by omega)]
    refine lv_iload_n hx hb d_PT_growRow_32 rfl (lv_at hl 4 rfl) ?_
    refine lv_ishl hx hb d_PT_growRow_33 ?_
    refine lv_ixor hx hb d_PT_growRow_34 ?_
    refine lv_istore hx hb d_PT_growRow_35 hl (by decide) rfl (fun ls (hl : lv_has ls 8 [(6, .int _), (5, .int _), (4, .ref _), (0, .ref _), (1, .int _), (2, .int _), (3, .int _)]) => ?_)
    refine lv_iconst (v := 1) hx hb d_PT_growRow_37 (by decide) ?_
    refine lv_istore hx hb d_PT_growRow_38 hl (by decide) rfl (fun ls (hl : lv_has ls 8 [(7, .int _), (6, .int _), (5, .int _), (4, .ref _), (0, .ref _), (1, .int _), (2, .int _), (3, .int _)]) => ?_)
    refine lp_w (σ := Nat) (fun q => dg - q) (fun q H locs ls => q < dg ∧ lv_has ls 8 [(7, .int (nI (q + 1))), (6, .int (gwN dg (inE dg) G j q)), (5, .int (nI j)), (4, .ref a), (0, .ref h), (1, .int (nI r)), (2, .int (nI dg)), (3, .int (inE dg))] ∧ wd D A (wl.set ir (a, arI K 20 G)) s H locs) ?_ 0 _ _ _ ⟨by omega, lv_sub hl [0, 1, 2, 3, 4, 5, 6, 7] rfl, hw⟩
    rintro q H locs ls ⟨hq, hl, hw⟩ ih2
    refine lv_iload hx hb d_PT_growRow_40 (lv_at hl 0 rfl) ?_
    refine lv_iload_n hx hb d_PT_growRow_42 rfl (lv_at hl 6 rfl) ?_
    refine lv_icmp_ge (tgt := 82) hx hb d_PT_growRow_43 rfl (fun h43 => ?_) (fun h43 => ?_)
    · have h43 : dg ≤ q + 1 := (nI_leI (by omega) (by omega)).mp h43
      have hqd : q = dg - 1 := by omega
      refine lv_aload hx hb d_PT_growRow_82 (lv_at hl 3 rfl) ?_
      refine lv_iload hx hb d_PT_growRow_84 (lv_at hl 2 rfl) ?_
      refine lv_iload hx hb d_PT_growRow_86 (lv_at hl 1 rfl) ?_
      refine g_iast B hw (gs_eq hr) (vp_in_nI h15 (by omega)) d_PT_growRow_88 (fun H locs hw => ?_)
      rw [List.set_set, nI_clamp (by omega), hqd] at hw
      have hG2 : ∀ i, i < j + 1 → upd G j (gwN dg (inE dg) G j (dg - 1)) i = mT dg i := by
        intro i hi
        by_cases e : i = j
        · subst e; rw [pk_us]; exact gw_mT hdg hj h15 hG
        · rw [pk_un e]; exact hG i (by omega)
      refine lv_iinc (k := 2) hx hb d_PT_growRow_89 hl rfl (show nI j + Int32.ofInt 1 = nI (j + 1) from (nI_succ j).symm) (by decide) rfl (fun ls (hl : lv_has ls 8 [(5, .int (nI (j + 1))), (7, .int _), (6, .int _), (4, .ref _), (0, .ref _), (1, .int _), (2, .int _), (3, .int _)]) => ?_)
      refine lv_goto (tgt := 11) hx hb d_PT_growRow_92 rfl ?_
      exact ih (j + 1, upd G j (gwN dg (inE dg) G j (dg - 1))) _ _ _ (by show 20 - (j + 1) < 20 - j; omega) ⟨by show dg ≤ j + 1; omega, by show j + 1 ≤ 20; omega, hG2, lv_sub hl [0, 3, 4, 5, 6, 7] rfl, hw⟩
    · have h43 : q + 1 < dg := Nat.lt_of_not_le (fun z => h43 ((nI_leI (by omega) (by omega)).mpr z))
      refine lv_iload_n hx hb d_PT_growRow_46 rfl (lv_at hl 7 rfl) ?_
      refine lv_iload_n hx hb d_PT_growRow_47 rfl (lv_at hl 6 rfl) ?_
      refine lv_iconst (v := 1) hx hb d_PT_growRow_48 (by decide) ?_
      refine lv_isub hx hb d_PT_growRow_49 ?_
      refine lv_iload hx hb d_PT_growRow_50 (lv_at hl 0 rfl) ?_
      refine lv_isub hx hb d_PT_growRow_52 ?_
      refine lv_iushr hx hb d_PT_growRow_53 rfl ?_
      refine lv_iconst (v := 1) hx hb d_PT_growRow_54 (by decide) ?_
      refine lv_iand hx hb d_PT_growRow_55 ?_
      refine lv_iconst (v := 1) hx hb d_PT_growRow_56 (by decide) ?_
      refine lv_icmp_ne (tgt := 76) hx hb d_PT_growRow_57 rfl (fun h57 => ?_) (fun h57 => ?_)
      · have ew : gwN dg (inE dg) G j (q + 1) = gwN dg (inE dg) G j q := if_neg h57
        refine lv_iinc (k := 0) hx hb d_PT_growRow_76 hl rfl (show nI (q + 1) + Int32.ofInt 1 = nI (q + 1 + 1) from (nI_succ (q + 1)).symm) (by decide) rfl (fun ls (hl : lv_has ls 8 [(7, .int (nI (q + 1 + 1))), (6, .int _), (5, .int _), (4, .ref _), (0, .ref _), (1, .int _), (2, .int _), (3, .int _)]) => ?_)
        refine lv_goto (tgt := 40) hx hb d_PT_growRow_79 rfl ?_
        exact ih2 (q + 1) _ _ _ (by omega) ⟨by omega, by rw [ew]; exact lv_sub hl [0, 1, 2, 3, 4, 5, 6, 7] rfl, hw⟩
      · have ew : gwN dg (inE dg) G j (q + 1) = gwN dg (inE dg) G j q ^^^ (G (j - (q + 1)) <<< (nI (q + 1) &&& 31)) := if_pos h57
        refine lv_iload hx hb d_PT_growRow_60 (lv_at hl 1 rfl) ?_
        refine lv_aload hx hb d_PT_growRow_62 (lv_at hl 3 rfl) ?_
        refine lv_iload hx hb d_PT_growRow_64 (lv_at hl 2 rfl) ?_
        refine lv_iload hx hb d_PT_growRow_66 (lv_at hl 0 rfl) ?_
        refine lv_isub hx hb d_PT_growRow_68 ?_
        rw [pk_sub (a := j) (b := q + 1) (by omega)]
        refine g_iald B hw (gs_eq hr) (vp_in_nI (by omega) (by omega)) d_PT_growRow_69 ?_
        rw [nI_clamp (by omega)]
        refine lv_iload hx hb d_PT_growRow_70 (lv_at hl 0 rfl) ?_
        refine lv_ishl hx hb d_PT_growRow_72 ?_
        refine lv_ixor hx hb d_PT_growRow_73 ?_
        refine lv_istore hx hb d_PT_growRow_74 hl (by decide) rfl (fun ls (hl : lv_has ls 8 [(6, .int _), (7, .int _), (5, .int _), (4, .ref _), (0, .ref _), (1, .int _), (2, .int _), (3, .int _)]) => ?_)
        refine lv_iinc (k := 1) hx hb d_PT_growRow_76 hl rfl (show nI (q + 1) + Int32.ofInt 1 = nI (q + 1 + 1) from (nI_succ (q + 1)).symm) (by decide) rfl (fun ls (hl : lv_has ls 8 [(7, .int (nI (q + 1 + 1))), (6, .int _), (5, .int _), (4, .ref _), (0, .ref _), (1, .int _), (2, .int _), (3, .int _)]) => ?_)
        refine lv_goto (tgt := 40) hx hb d_PT_growRow_79 rfl ?_
        exact ih2 (q + 1) _ _ _ (by omega) ⟨by omega, by rw [ew]; exact lv_sub hl [0, 1, 2, 3, 4, 5, 6, 7] rfl, hw⟩
set_option maxRecDepth 100000 in
set_option maxHeartbeats 4000000 in
theorem c_PT_alignRow {l : Launch} {D : va_G} {K : Nat → ClassId} {A : Nat → Prop} {wl : va_W} {ip id ir h aD a r : Nat} {ix : Int32} {gd : Nat → Option Nat} {F : Nat → Int32} (he : wl[ip]? = some (h, oPt aD ix)) (hd : wl[id]? = some (aD, arQ K 4 4 gd)) (hr4 : r < 4) (hg : gd r = some a) (hr : wl[ir]? = some (a, arI K 20 F)) {dg : Nat} (hF : ∀ i, i < 20 → F i = mT dg i) : ctV l y_PT_alignRow prog_2_method_4_code 3 0 0 0 [.ref h, .int (nI r)] D K A (wl) (fun v => ∃ G, v = wl.set ir (a, arI K 20 G) ∧ ∀ i, i < 20 → G i = dirT dg i) := by
  refine mt_of (by decide) (Nat.le_of_ble_eq_true rfl) ?_
  intro p e s m below meth c ls B hw hl
  have hx := B.1
  have hb := B.2.1
  have hl : lv_has ls 3 [(0, .ref h), (1, .int (nI r))] := hl
  refine lv_iconst (v := 0) hx hb d_PT_alignRow_0 (by decide) ?_
  refine lv_istore_n hx hb d_PT_alignRow_1 rfl hl (by decide) rfl (fun ls (hl : lv_has ls 3 [(2, .int _), (0, .ref _), (1, .int _)]) => ?_)
  refine lp_w (σ := Nat × (Nat → Int32)) (fun x => 20 - x.1) (fun x H locs ls => x.1 ≤ 20 ∧ (∀ i, i < x.1 → x.2 i = dirT dg i) ∧ (∀ i, x.1 ≤ i → i < 20 → x.2 i = mT dg i) ∧ lv_has ls 3 [(2, .int (nI x.1)), (0, .ref h), (1, .int (nI r))] ∧ wd D A (wl.set ir (a, arI K 20 x.2)) s H locs) ?_ (0, F) _ _ _ ⟨by show 0 ≤ 20; omega, fun i hi => absurd hi (Nat.not_lt_zero _), fun i _ hi => hF i hi, lv_sub hl [0, 1, 2] rfl, by show wd D A (wl.set ir (a, arI K 20 F)) s _ _; rw [set_self hr]; exact hw⟩
  rintro ⟨j, G⟩ H locs ls ⟨hj, hG, hG2, hl, hw⟩ ih
  dsimp only at hj hG hG2 hl hw
  refine lv_iload_n hx hb d_PT_alignRow_2 rfl (lv_at hl 0 rfl) ?_
  refine lv_bipush (v := 20) hx hb d_PT_alignRow_3 (by decide) ?_
  refine lv_icmp_ge (tgt := 29) hx hb d_PT_alignRow_5 rfl (fun h5 => ?_) (fun h5 => ?_)
  · have h5 : 20 ≤ j := (nI_leI (a := 20) (by omega) (by omega)).mp h5
    have hj20 : j = 20 := by omega
    exact r_v B hw d_PT_alignRow_29 ⟨G, rfl, by rw [hj20] at hG; exact hG⟩
  · have h5 : j < 20 := Nat.lt_of_not_le (fun q => h5 ((nI_leI (a := 20) (by omega) (by omega)).mpr q))
    refine lv_aload_n hx hb d_PT_alignRow_8 rfl (lv_at hl 1 rfl) ?_
    refine g_get B hw fl_PT_11 (gs_ne (ne_oa he hr).symm he) rfl d_PT_alignRow_9 ?_
    refine lv_iload_n hx hb d_PT_alignRow_12 rfl (lv_at hl 2 rfl) ?_
    refine g_gald B hw (gs_ne (ne_iq hr hd) hd) (vp_in_nI hr4 (by omega)) d_PT_alignRow_13 ?_
    rw [nI_clamp (by omega), hg, va_rf_some]
    refine lv_iload_n hx hb d_PT_alignRow_14 rfl (lv_at hl 0 rfl) ?_
    refine lv_dup2_11 hx hb d_PT_alignRow_15 rfl rfl ?_
    refine g_iald B hw (gs_eq hr) (vp_in_nI h5 (by omega)) d_PT_alignRow_16 ?_
    rw [nI_clamp (by omega)]
    refine lv_bipush (v := 31) hx hb d_PT_alignRow_17 (by decide) ?_
    refine lv_iload_n hx hb d_PT_alignRow_19 rfl (lv_at hl 0 rfl) ?_
    refine lv_isub hx hb d_PT_alignRow_20 ?_
    refine lv_ishl hx hb d_PT_alignRow_21 ?_
    refine g_iast B hw (gs_eq hr) (vp_in_nI h5 (by omega)) d_PT_alignRow_22 (fun H locs hw => ?_)
    rw [List.set_set, nI_clamp (by omega)] at hw
    have hG3 : ∀ i, i < j + 1 → upd G j (G j <<< ((31 - nI j) &&& 31)) i = dirT dg i := by
      intro i hi
      by_cases e : i = j
      · subst e; rw [pk_us, hG2 i (Nat.le_refl _) h5]; rfl
      · rw [pk_un e]; exact hG i (by omega)
    have hG4 : ∀ i, j + 1 ≤ i → i < 20 → upd G j (G j <<< ((31 - nI j) &&& 31)) i = mT dg i := by
      intro i hi hi2
      rw [pk_un (by omega)]; exact hG2 i (by omega) hi2
    refine lv_iinc (k := 0) hx hb d_PT_alignRow_23 hl rfl (show nI j + Int32.ofInt 1 = nI (j + 1) from (nI_succ j).symm) (by decide) rfl (fun ls (hl : lv_has ls 3 [(2, .int (nI (j + 1))), (0, .ref _), (1, .int _)]) => ?_)
    refine lv_goto (tgt := 2) hx hb d_PT_alignRow_26 rfl ?_
    exact ih (j + 1, upd G j (G j <<< ((31 - nI j) &&& 31))) _ _ _ (by show 20 - (j + 1) < 20 - j; omega) ⟨by show j + 1 ≤ 20; omega, hG3, hG4, lv_sub hl [0, 1, 2] rfl, hw⟩
set_option maxRecDepth 100000 in
set_option maxHeartbeats 4000000 in
theorem c_PT_joinedDirections {l : Launch} {D : va_G} {K : Nat → ClassId} {A : Nat → Prop} {wl : va_W} {ip id ir h aD a r : Nat} {ix : Int32} {gd : Nat → Option Nat} {F : Nat → Int32} (he : wl[ip]? = some (h, oPt aD ix)) (hd : wl[id]? = some (aD, arQ K 4 4 gd)) (hr4 : r < 4) (hg : gd r = some a) (hr : wl[ir]? = some (a, arI K 20 F)) (hF : ∀ i, i < 20 → F i = dirT r i) : ctI l y_PT_joinedDirections prog_2_method_5_code 5 (some .int) 0 0 0 [.ref h, .int (nI r)] D K A (wl) (fun z v => z = joN r (grC ix) 20 ∧ v = wl) := by
  refine mt_of (by decide) (Nat.le_of_ble_eq_true rfl) ?_
  intro p e s m below meth c ls B hw hl
  have hx := B.1
  have hb := B.2.1
  have hl : lv_has ls 5 [(0, .ref h), (1, .int (nI r))] := hl
  refine lv_aload_n hx hb d_PT_joinedDirections_0 rfl (lv_at hl 0 rfl) ?_
  refine g_get B hw fl_PT_14 he rfl d_PT_joinedDirections_1 ?_
  refine lv_aload_n hx hb d_PT_joinedDirections_4 rfl (lv_at hl 0 rfl) ?_
  refine g_get B hw fl_PT_14 he rfl d_PT_joinedDirections_5 ?_
  refine lv_iconst (v := 1) hx hb d_PT_joinedDirections_8 (by decide) ?_
  refine lv_iushr hx hb d_PT_joinedDirections_9 rfl ?_
  refine lv_ixor hx hb d_PT_joinedDirections_10 ?_
  refine lv_istore_n hx hb d_PT_joinedDirections_11 rfl hl (by decide) rfl (fun ls (hl : lv_has ls 5 [(2, .int _), (0, .ref _), (1, .int _)]) => ?_)
  refine lv_iconst (v := 0) hx hb d_PT_joinedDirections_12 (by decide) ?_
  refine lv_istore_n hx hb d_PT_joinedDirections_13 rfl hl (by decide) rfl (fun ls (hl : lv_has ls 5 [(3, .int _), (2, .int _), (0, .ref _), (1, .int _)]) => ?_)
  refine lv_iconst (v := 0) hx hb d_PT_joinedDirections_14 (by decide) ?_
  refine lv_istore hx hb d_PT_joinedDirections_15 hl (by decide) rfl (fun ls (hl : lv_has ls 5 [(4, .int _), (3, .int _), (2, .int _), (0, .ref _), (1, .int _)]) => ?_)
  refine lp_w (σ := Nat) (fun j => 20 - j) (fun j H locs ls => j ≤ 20 ∧ lv_has ls 5 [(4, .int (nI j)), (3, .int (joN r (grC ix) j)), (2, .int (grC ix)), (0, .ref h), (1, .int (nI r))] ∧ wd D A wl s H locs) ?_ 0 _ _ _ ⟨by omega, lv_sub hl [0, 1, 2, 3, 4] rfl, hw⟩
  rintro j H locs ls ⟨hj, hl, hw⟩ ih
  refine lv_iload hx hb d_PT_joinedDirections_17 (lv_at hl 0 rfl) ?_
  refine lv_bipush (v := 20) hx hb d_PT_joinedDirections_19 (by decide) ?_
  refine lv_icmp_ge (tgt := 52) hx hb d_PT_joinedDirections_21 rfl (fun h21 => ?_) (fun h21 => ?_)
  · have h21 : 20 ≤ j := (nI_leI (a := 20) (by omega) (by omega)).mp h21
    have hj20 : j = 20 := by omega
    refine lv_iload_n hx hb d_PT_joinedDirections_52 rfl (lv_at hl 1 rfl) ?_
    exact r_i B hw d_PT_joinedDirections_53 ⟨by rw [hj20], rfl⟩
  · have h21 : j < 20 := Nat.lt_of_not_le (fun q => h21 ((nI_leI (a := 20) (by omega) (by omega)).mpr q))
    refine lv_iload_n hx hb d_PT_joinedDirections_24 rfl (lv_at hl 2 rfl) ?_
    refine lv_iload hx hb d_PT_joinedDirections_25 (lv_at hl 0 rfl) ?_
    refine lv_iushr hx hb d_PT_joinedDirections_27 rfl ?_
    refine lv_iconst (v := 1) hx hb d_PT_joinedDirections_28 (by decide) ?_
    refine lv_iand hx hb d_PT_joinedDirections_29 ?_
    refine lv_iconst (v := 1) hx hb d_PT_joinedDirections_30 (by decide) ?_
    refine lv_icmp_ne (tgt := 46) hx hb d_PT_joinedDirections_31 rfl (fun h31 => ?_) (fun h31 => ?_)
    · have ew : joN r (grC ix) (j + 1) = joN r (grC ix) j := if_neg h31
      refine lv_iinc (k := 0) hx hb d_PT_joinedDirections_46 hl rfl (show nI j + Int32.ofInt 1 = nI (j + 1) from (nI_succ j).symm) (by decide) rfl (fun ls (hl : lv_has ls 5 [(4, .int (nI (j + 1))), (3, .int _), (2, .int _), (0, .ref _), (1, .int _)]) => ?_)
      refine lv_goto (tgt := 17) hx hb d_PT_joinedDirections_49 rfl ?_
      exact ih (j + 1) _ _ _ (by omega) ⟨by omega, by rw [ew]; exact lv_sub hl [0, 1, 2, 3, 4] rfl, hw⟩
    · have ew : joN r (grC ix) (j + 1) = joN r (grC ix) j ^^^ dirT r j := if_pos h31
      refine lv_iload_n hx hb d_PT_joinedDirections_34 rfl (lv_at hl 1 rfl) ?_
      refine lv_aload_n hx hb d_PT_joinedDirections_35 rfl (lv_at hl 3 rfl) ?_
      refine g_get B hw fl_PT_11 he rfl d_PT_joinedDirections_36 ?_
      refine lv_iload_n hx hb d_PT_joinedDirections_39 rfl (lv_at hl 4 rfl) ?_
      refine g_gald B hw hd (vp_in_nI hr4 (by omega)) d_PT_joinedDirections_40 ?_
      rw [nI_clamp (by omega), hg, va_rf_some]
      refine lv_iload hx hb d_PT_joinedDirections_41 (lv_at hl 0 rfl) ?_
      refine g_iald B hw hr (vp_in_nI h21 (by omega)) d_PT_joinedDirections_43 ?_
      rw [nI_clamp (by omega), hF j h21]
      refine lv_ixor hx hb d_PT_joinedDirections_44 ?_
      refine lv_istore_n hx hb d_PT_joinedDirections_45 rfl hl (by decide) rfl (fun ls (hl : lv_has ls 5 [(3, .int _), (4, .int _), (2, .int _), (0, .ref _), (1, .int _)]) => ?_)
      refine lv_iinc (k := 1) hx hb d_PT_joinedDirections_46 hl rfl (show nI j + Int32.ofInt 1 = nI (j + 1) from (nI_succ j).symm) (by decide) rfl (fun ls (hl : lv_has ls 5 [(4, .int (nI (j + 1))), (3, .int _), (2, .int _), (0, .ref _), (1, .int _)]) => ?_)
      refine lv_goto (tgt := 17) hx hb d_PT_joinedDirections_49 rfl ?_
      exact ih (j + 1) _ _ _ (by omega) ⟨by omega, by rw [ew]; exact lv_sub hl [0, 1, 2, 3, 4] rfl, hw⟩
theorem tuN_le (b : Nat) (t : Nat × Nat) : ∀ n, (tuN b n t).2 ≤ t.2
  | 0 => Nat.le_refl _
  | n + 1 => Nat.le_trans (Nat.div_le_self _ _) (tuN_le b t n)
set_option maxRecDepth 100000 in
set_option maxHeartbeats 4000000 in
theorem c_PT_turnedDigits {l : Launch} {D : va_G} {K : Nat → ClassId} {A : Nat → Prop} {wl : va_W} {ip h aD i0 b n : Nat} (he : wl[ip]? = some (h, oPt aD (nI i0))) (hi0 : i0 < 2 ^ 31) (hbp : 0 < b) (hb2 : b < 2 ^ 31) (hn : n < 2 ^ 30) : ctI l y_PT_turnedDigits prog_2_method_6_code 6 (some .int) 0 0 0 [.ref h, .int (nI b), .int (nI n)] D K A (wl) (fun z v => z = nI (tuN b n (0, i0)).1 ∧ v = wl) := by
  refine mt_of (by decide) (Nat.le_of_ble_eq_true rfl) ?_
  intro p e s m below meth c ls B hw hl
  have hx := B.1
  have hb := B.2.1
  have hl : lv_has ls 6 [(0, .ref h), (1, .int (nI b)), (2, .int (nI n))] := hl
  refine lv_aload_n hx hb d_PT_turnedDigits_0 rfl (lv_at hl 0 rfl) ?_
  refine g_get B hw fl_PT_14 he rfl d_PT_turnedDigits_1 ?_
  refine lv_istore_n hx hb d_PT_turnedDigits_4 rfl hl (by decide) rfl (fun ls (hl : lv_has ls 6 [(3, .int _), (0, .ref _), (1, .int _), (2, .int _)]) => ?_)
  refine lv_iconst (v := 0) hx hb d_PT_turnedDigits_5 (by decide) ?_
  refine lv_istore hx hb d_PT_turnedDigits_6 hl (by decide) rfl (fun ls (hl : lv_has ls 6 [(4, .int _), (3, .int _), (0, .ref _), (1, .int _), (2, .int _)]) => ?_)
  refine lv_iconst (v := 0) hx hb d_PT_turnedDigits_8 (by decide) ?_
  refine lv_istore hx hb d_PT_turnedDigits_9 hl (by decide) rfl (fun ls (hl : lv_has ls 6 [(5, .int _), (4, .int _), (3, .int _), (0, .ref _), (1, .int _), (2, .int _)]) => ?_)
  refine lp_w (σ := Nat) (fun j => n - j) (fun j H locs ls => j ≤ n ∧ lv_has ls 6 [(5, .int (nI j)), (4, .int (nI (tuN b j (0, i0)).1)), (3, .int (nI (tuN b j (0, i0)).2)), (0, .ref h), (1, .int (nI b)), (2, .int (nI n))] ∧ wd D A wl s H locs) ?_ 0 _ _ _ ⟨by omega, lv_sub hl [0, 1, 2, 3, 4, 5] rfl, hw⟩
  rintro j H locs ls ⟨hj, hl, hw⟩ ih
  have hle := tuN_le b (0, i0) j
  dsimp only at hle
  refine lv_iload hx hb d_PT_turnedDigits_11 (lv_at hl 0 rfl) ?_
  refine lv_iload_n hx hb d_PT_turnedDigits_13 rfl (lv_at hl 5 rfl) ?_
  refine lv_icmp_ge (tgt := 37) hx hb d_PT_turnedDigits_14 rfl (fun h14 => ?_) (fun h14 => ?_)
  · have h14 : n ≤ j := (nI_leI (by omega) (by omega)).mp h14
    have hjn : j = n := by omega
    refine lv_iload hx hb d_PT_turnedDigits_37 (lv_at hl 1 rfl) ?_
    exact r_i B hw d_PT_turnedDigits_39 ⟨by rw [hjn], rfl⟩
  · have h14 : j < n := Nat.lt_of_not_le (fun q => h14 ((nI_leI (by omega) (by omega)).mpr q))
    refine lv_iload hx hb d_PT_turnedDigits_17 (lv_at hl 1 rfl) ?_
    refine lv_iload_n hx hb d_PT_turnedDigits_19 rfl (lv_at hl 4 rfl) ?_
    refine lv_imul hx hb d_PT_turnedDigits_20 ?_
    rw [pk_mul]
    refine lv_iload_n hx hb d_PT_turnedDigits_21 rfl (lv_at hl 2 rfl) ?_
    refine lv_iload_n hx hb d_PT_turnedDigits_22 rfl (lv_at hl 4 rfl) ?_
    refine lv_irem hx hb d_PT_turnedDigits_23 (nI_ne0 hbp hb2) ?_
    rw [pk_rem (by omega) hbp hb2]
    refine lv_iadd hx hb d_PT_turnedDigits_24 ?_
    rw [nI_add]
    refine lv_istore hx hb d_PT_turnedDigits_25 hl (by decide) rfl (fun ls (hl : lv_has ls 6 [(4, .int _), (5, .int _), (3, .int _), (0, .ref _), (1, .int _), (2, .int _)]) => ?_)
    refine lv_iload_n hx hb d_PT_turnedDigits_27 rfl (lv_at hl 2 rfl) ?_
    refine lv_iload_n hx hb d_PT_turnedDigits_28 rfl (lv_at hl 4 rfl) ?_
    refine lv_idiv hx hb d_PT_turnedDigits_29 (nI_ne0 hbp hb2) ?_
    rw [pk_div (by omega) hbp hb2]
    refine lv_istore_n hx hb d_PT_turnedDigits_30 rfl hl (by decide) rfl (fun ls (hl : lv_has ls 6 [(3, .int _), (4, .int _), (5, .int _), (0, .ref _), (1, .int _), (2, .int _)]) => ?_)
    refine lv_iinc (k := 2) hx hb d_PT_turnedDigits_31 hl rfl (show nI j + Int32.ofInt 1 = nI (j + 1) from (nI_succ j).symm) (by decide) rfl (fun ls (hl : lv_has ls 6 [(5, .int (nI (j + 1))), (3, .int _), (4, .int _), (0, .ref _), (1, .int _), (2, .int _)]) => ?_)
    refine lv_goto (tgt := 11) hx hb d_PT_turnedDigits_34 rfl ?_
    exact ih (j + 1) _ _ _ (by omega) ⟨by omega, lv_sub hl [0, 2, 1, 3, 4, 5] rfl, hw⟩
end
section
/-! The state of a NumberStreams as its cells hold it, in the words of the reference's arrays. -/
abbrev oNS (aS aR rc aP aW aC : Nat) : va_E := .inr (0, [.ref aS, .ref aR, .int (nI rc), .ref aP, .ref aW, .ref aC])
/-- the cells that stay: the object, its arrays, the points -/
def XF (K : Nat → ClassId) (h aS aR aP aD aW aC rc : Nat) (g rr gd : Nat → Option Nat) (ix : Nat) (wt cd : Nat → Int32) (wl : va_W) : Prop :=
  wl[0]? = some (h, oNS aS aR rc aP aW aC) ∧ wl[1]? = some (aS, arQ K 2 8 g) ∧ wl[2]? = some (aR, arQ K 3 6 rr) ∧ wl[3]? = some (aP, oPt aD (nI ix)) ∧ wl[4]? = some (aD, arQ K 4 4 gd) ∧
  (∀ k, k < 4 → ∃ a F, gd k = some a ∧ wl[5 + k]? = some (a, arI K 20 F) ∧ ∀ i, i < 20 → F i = dirT k i) ∧ wl[9]? = some (aW, arI K 16 wt) ∧ wl[10]? = some (aC, arI K 16 cd)
/-- the streams -/
def XS (kd : Nat → Int32) (f1 f2 : Nat → Int64) (g : Nat → Option Nat) (wl : va_W) : Prop :=
  (∀ k, k < 8 → (kd k < 0 ∧ g k = none) ∨ (¬ kd k < 0 ∧ ∃ a i : Nat, g k = some a ∧ wl[i]? = some (a, oSt (kd k) (f1 k) (f2 k)))) ∧ ∀ j k a : Nat, j < 8 → k < 8 → g j = some a → g k = some a → j = k
/-- the records -/
def XV (K : Nat → ClassId) (rc : Nat) (sz : Nat → Nat) (sd : Nat → Int32) (rr : Nat → Option Nat) (ra wa : Nat → Nat) (wl : va_W) : Prop :=
  rc ≤ 6 ∧ (∀ r, r < rc → rr r = some (ra r) ∧ sz r ≤ 6 ∧ ∃ (i j : Nat) (w : Nat → Int32), wl[i]? = some (ra r, oSv (wa r) (sz r)) ∧ wl[j]? = some (wa r, arI K 6 w) ∧ ∀ t, t < sz r → w t = sd (6 * r + t)) ∧
  (∀ r t, r < rc → t < rc → ra r = ra t → r = t) ∧ ∀ r t, r < rc → t < rc → wa r = wa t → r = t
/-- what the numbers keep -/
def IV (kd : Nat → Int32) (f1 f2 : Nat → Int64) (ix : Nat) (wt : Nat → Int32) : Prop :=
  (∀ k, k < 8 → ¬ kd k < 0 → kd k ≤ 3 ∧ okS (kd k) (f1 k) (f2 k)) ∧ ix ≤ 1048575 ∧ ∀ k, k < 16 → ∃ v : Nat, v ≤ 1000000 ∧ wt k = nI v
def XR (K : Nat → ClassId) (h : Nat) (kd : Nat → Int32) (f1 f2 : Nat → Int64) (rc : Nat) (sz : Nat → Nat) (sd : Nat → Int32) (ix : Nat) (wt cd : Nat → Int32) (wl : va_W) : Prop :=
  ∃ aS aR aP aD aW aC g rr gd ra wa, XF K h aS aR aP aD aW aC rc g rr gd ix wt cd wl ∧ XS kd f1 f2 g wl ∧ XV K rc sz sd rr ra wa wl
section XKEEP
variable {K : Nat → ClassId} {h aS aR aP aD aW aC rc ix : Nat} {g rr gd : Nat → Option Nat} {wt cd kd sd : Nat → Int32} {f1 f2 : Nat → Int64} {sz ra wa : Nat → Nat} {wl w2 : va_W}
theorem XF.keep (hX : XF K h aS aR aP aD aW aC rc g rr gd ix wt cd wl) (hk : ∀ (i : Nat) (x : Nat × va_E), i ≤ 10 → wl[i]? = some x → w2[i]? = some x) : XF K h aS aR aP aD aW aC rc g rr gd ix wt cd w2 := by
  obtain ⟨e0, e1, e2, e3, e4, e5, e9, e10⟩ := hX
  refine ⟨hk _ _ (by omega) e0, hk _ _ (by omega) e1, hk _ _ (by omega) e2, hk _ _ (by omega) e3, hk _ _ (by omega) e4, fun k h4 => ?_, hk _ _ (by omega) e9, hk _ _ (by omega) e10⟩
  obtain ⟨a, F, h1, h2, h3⟩ := e5 k h4
  exact ⟨a, F, h1, hk _ _ (by omega) h2, h3⟩
theorem XS.keep (hX : XS kd f1 f2 g wl) (hk : ∀ (i a : Nat) (k : Int32) (f1 f2 : Int64), wl[i]? = some (a, oSt k f1 f2) → w2[i]? = some (a, oSt k f1 f2)) : XS kd f1 f2 g w2 := by
  refine ⟨fun k hk8 => ?_, hX.2⟩
  rcases hX.1 k hk8 with h | ⟨h1, a, i, h2, h3⟩
  · exact Or.inl h
  · exact Or.inr ⟨h1, a, i, h2, hk _ _ _ _ _ h3⟩
theorem XV.keep (hX : XV K rc sz sd rr ra wa wl) (hk : ∀ i a b n : Nat, wl[i]? = some (a, oSv b n) → w2[i]? = some (a, oSv b n)) (hj : ∀ (i a : Nat) (w : Nat → Int32), wl[i]? = some (a, arI K 6 w) → w2[i]? = some (a, arI K 6 w)) : XV K rc sz sd rr ra wa w2 := by
  refine ⟨hX.1, fun r hr => ?_, hX.2.2⟩
  obtain ⟨h1, h2, i, j, w, h3, h4, h5⟩ := hX.2.1 r hr
  exact ⟨h1, h2, i, j, w, hk _ _ _ _ h3, hj _ _ _ h4, h5⟩
end XKEEP
/-- arrays of ints of two lengths lie apart -/
theorem ne_ii {K : Nat → ClassId} {w : va_W} {i j a b n m : Nat} {f f2 : Nat → Int32} (h1 : w[i]? = some (a, arI K n f)) (h2 : w[j]? = some (b, arI K m f2)) (hn : n ≠ m) : i ≠ j := by
  rintro rfl
  rw [h1] at h2
  have h4 := (Prod.mk.inj (Option.some.inj h2)).2
  exact hn (Prod.mk.inj (Prod.mk.inj (Sum.inl.inj h4)).2).1
/-- where the fixed cells lie -/
theorem XF.st {K : Nat → ClassId} {h aS aR aP aD aW aC rc ix : Nat} {g rr gd : Nat → Option Nat} {wt cd : Nat → Int32} {wl : va_W} (hX : XF K h aS aR aP aD aW aC rc g rr gd ix wt cd wl) {i a ci : Nat} {fs : List Value} (hi : wl[i]? = some (a, .inr (ci, fs))) (hc : 2 ≤ ci) : 10 < i := by
  obtain ⟨e0, e1, e2, e3, e4, e5, e9, e10⟩ := hX
  apply Nat.lt_of_not_le
  intro q
  obtain ⟨a5, F5, -, h5, -⟩ := e5 0 (by omega)
  obtain ⟨a6, F6, -, h6, -⟩ := e5 1 (by omega)
  obtain ⟨a7, F7, -, h7, -⟩ := e5 2 (by omega)
  obtain ⟨a8, F8, -, h8, -⟩ := e5 3 (by omega)
  have n0 := ne_oo hi e0 (by omega)
  have n1 := ne_oa hi e1
  have n2 := ne_oa hi e2
  have n3 := ne_oo hi e3 (by omega)
  have n4 := ne_oa hi e4
  have n5 := ne_oa hi h5
  have n6 := ne_oa hi h6
  have n7 := ne_oa hi h7
  have n8 := ne_oa hi h8
  have n9 := ne_oa hi e9
  have n10 := ne_oa hi e10
  omega
theorem XF.wd {K : Nat → ClassId} {h aS aR aP aD aW aC rc ix : Nat} {g rr gd : Nat → Option Nat} {wt cd : Nat → Int32} {wl : va_W} (hX : XF K h aS aR aP aD aW aC rc g rr gd ix wt cd wl) {i a : Nat} {w : Nat → Int32} (hi : wl[i]? = some (a, arI K 6 w)) : 10 < i := by
  obtain ⟨e0, e1, e2, e3, e4, e5, e9, e10⟩ := hX
  apply Nat.lt_of_not_le
  intro q
  obtain ⟨a5, F5, -, h5, -⟩ := e5 0 (by omega)
  obtain ⟨a6, F6, -, h6, -⟩ := e5 1 (by omega)
  obtain ⟨a7, F7, -, h7, -⟩ := e5 2 (by omega)
  obtain ⟨a8, F8, -, h8, -⟩ := e5 3 (by omega)
  have n0 := (ne_oa e0 hi).symm
  have n1 := ne_iq hi e1
  have n2 := ne_iq hi e2
  have n3 := (ne_oa e3 hi).symm
  have n4 := ne_iq hi e4
  have n5 := ne_ii hi h5 (by omega)
  have n6 := ne_ii hi h6 (by omega)
  have n7 := ne_ii hi h7 (by omega)
  have n8 := ne_ii hi h8 (by omega)
  have n9 := ne_ii hi e9 (by omega)
  have n10 := ne_ii hi e10 (by omega)
  omega
/-- a slot as the reference asks it, and as the class does -/
def hdS (kd : Nat → Int32) (slot : Int32) : Option Nat := if slot < 0 then none else if slot < 8 then (if kd slot.toNatClampNeg < 0 then none else some slot.toNatClampNeg) else none
def stAt (g : Nat → Option Nat) (slot : Int32) : Option Nat := if slot < 0 then none else if slot < 8 then g slot.toNatClampNeg else none
theorem slot_of {x : Int32} (h0 : ¬ x < 0) {n : Nat} (hn : n < 2 ^ 31) (h : x < nI n) : ∃ k, k < n ∧ x = nI k := by
  obtain ⟨k, hk, rfl⟩ := nI_of h0
  exact ⟨k, (nI_ltI hk hn).mp h, rfl⟩
theorem hdS_nI {kd : Nat → Int32} {k : Nat} (hk : k < 8) (h : ¬ kd k < 0) : hdS kd (nI k) = some k := by
  unfold hdS
  rw [if_neg (nI_pos (by omega)), if_pos (show nI k < 8 from nI_lt (b := 8) hk (by omega)), nI_clamp (by omega), if_neg h]
theorem st_case {kd : Nat → Int32} {f1 f2 : Nat → Int64} {g : Nat → Option Nat} {wl : va_W} (hX : XS kd f1 f2 g wl) (slot : Int32) :
    (hdS kd slot = none ∧ stAt g slot = none) ∨ ∃ k, k < 8 ∧ slot = nI k ∧ hdS kd (nI k) = some k ∧ ¬ kd k < 0 ∧ ∃ a i : Nat, g k = some a ∧ stAt g (nI k) = some a ∧ wl[i]? = some (a, oSt (kd k) (f1 k) (f2 k)) := by
  by_cases h0 : slot < 0
  · exact Or.inl ⟨if_pos h0, if_pos h0⟩
  by_cases h8 : slot < 8
  · obtain ⟨k, hk, rfl⟩ := slot_of h0 (n := 8) (by omega) h8
    have e : stAt g (nI k) = g k := by
      unfold stAt
      rw [if_neg h0, if_pos h8, nI_clamp (by omega)]
    rcases hX.1 k hk with ⟨h1, h2⟩ | ⟨h1, a, i, h2, h3⟩
    · refine Or.inl ⟨?_, e.trans h2⟩
      unfold hdS
      rw [if_neg h0, if_pos h8, nI_clamp (by omega), if_pos h1]
    · exact Or.inr ⟨k, hk, rfl, hdS_nI hk h1, h1, a, i, h2, e.trans h2, h3⟩
  · refine Or.inl ⟨?_, ?_⟩
    · unfold hdS
      rw [if_neg h0, if_neg h8]
    · unfold stAt
      rw [if_neg h0, if_neg h8]
/-- the least free slot -/
def frN (kd : Nat → Int32) : Nat → Nat → Int32
  | _, 0 => -1
  | i, n + 1 => if kd i < 0 then nI i else frN kd (i + 1) n
def frI (kd : Nat → Int32) : Int32 := frN kd 0 8
theorem frN_case (kd : Nat → Int32) : ∀ (n i : Nat), i + n < 2 ^ 31 → (frN kd i n = -1 ∧ ∀ j, i ≤ j → j < i + n → ¬ kd j < 0) ∨ ∃ k, i ≤ k ∧ k < i + n ∧ kd k < 0 ∧ frN kd i n = nI k
  | 0, i, _ => Or.inl ⟨rfl, fun j h1 h2 => by omega⟩
  | n + 1, i, hn => by
    by_cases h : kd i < 0
    · exact Or.inr ⟨i, Nat.le_refl _, by omega, h, if_pos h⟩
    · have e : frN kd i (n + 1) = frN kd (i + 1) n := if_neg h
      rcases frN_case kd n (i + 1) (by omega) with ⟨h1, h2⟩ | ⟨k, h1, h2, h3, h4⟩
      · refine Or.inl ⟨e.trans h1, fun j j1 j2 => ?_⟩
        by_cases q : j = i
        · subst q; exact h
        · exact h2 j (by omega) (by omega)
      · exact Or.inr ⟨k, by omega, by omega, h3, e.trans h4⟩
theorem frI_case (kd : Nat → Int32) : frI kd = -1 ∨ ∃ k, k < 8 ∧ kd k < 0 ∧ frI kd = nI k := by
  rcases frN_case kd 8 0 (by omega) with ⟨h, -⟩ | ⟨k, -, h1, h2, h3⟩
  · exact Or.inl h
  · exact Or.inr ⟨k, by omega, h2, h3⟩
section XUPD
variable {K : Nat → ClassId} {h aS aR aP aD aW aC rc ix : Nat} {g rr gd : Nat → Option Nat} {wt cd kd sd : Nat → Int32} {f1 f2 : Nat → Int64} {sz ra wa : Nat → Nat} {wl : va_W}
theorem updL_s {f : Nat → Int64} {k : Nat} {x : Int64} : vp_updL f k x k = x := pk_uLs
theorem updL_n {f : Nat → Int64} {k j : Nat} {x : Int64} (h : j ≠ k) : vp_updL f k x j = f j := pk_uLn h
theorem updL_self {f : Nat → Int64} {k : Nat} : vp_updL f k (f k) = f := by
  funext j
  by_cases e : j = k
  · subst e; exact pk_uLs
  · exact pk_uLn e
theorem updL_updL {f : Nat → Int64} {k : Nat} {x y : Int64} : vp_updL (vp_updL f k x) k y = vp_updL f k y := by
  funext j
  by_cases e : j = k
  · subst e; rw [pk_uLs, pk_uLs]
  · rw [pk_uLn e, pk_uLn e, pk_uLn e]
theorem upd_self {f : Nat → Int32} {k : Nat} : upd f k (f k) = f := by
  funext j
  by_cases e : j = k
  · subst e; exact pk_us
  · exact pk_un e
/-- a stream moves on -/
theorem XS.step (hX : XS kd f1 f2 g wl) {k a i : Nat} (hk : k < 8) (hkd : ¬ kd k < 0) (hg : g k = some a) (hi : wl[i]? = some (a, oSt (kd k) (f1 k) (f2 k))) (F G : Int64) : XS kd (vp_updL f1 k F) (vp_updL f2 k G) g (wl.set i (a, oSt (kd k) F G)) := by
  refine ⟨fun j hj => ?_, hX.2⟩
  by_cases e : j = k
  · subst e
    rw [updL_s, updL_s]
    exact Or.inr ⟨hkd, a, i, hg, gs_eq hi⟩
  · rw [updL_n e, updL_n e]
    rcases hX.1 j hj with q | ⟨h1, b, i2, h2, h3⟩
    · exact Or.inl q
    · refine Or.inr ⟨h1, b, i2, h2, gs_ne (ne_aa hi h3 (fun q => ?_)) h3⟩
      subst q
      exact e (hX.2 j k a hj hk h2 hg)
theorem XR.step (hF : XF K h aS aR aP aD aW aC rc g rr gd ix wt cd wl) (hX : XS kd f1 f2 g wl) (hV : XV K rc sz sd rr ra wa wl) {k a i : Nat} (hk : k < 8) (hkd : ¬ kd k < 0) (hg : g k = some a) (hi : wl[i]? = some (a, oSt (kd k) (f1 k) (f2 k))) (F G : Int64) : XR K h kd (vp_updL f1 k F) (vp_updL f2 k G) rc sz sd ix wt cd (wl.set i (a, oSt (kd k) F G)) := by
  have h10 := hF.st hi (by omega)
  exact ⟨aS, aR, aP, aD, aW, aC, g, rr, gd, ra, wa, hF.keep (fun j x hj hx => gs_ne (by omega) hx), hX.step hk hkd hg hi F G, hV.keep (fun j b c n hx => gs_ne (ne_oo hi hx (by omega)) hx) (fun j b w hx => gs_ne (ne_oa hi hx) hx)⟩
/-- a slot is let go -/
theorem XR.free (hF : XF K h aS aR aP aD aW aC rc g rr gd ix wt cd wl) (hX : XS kd f1 f2 g wl) (hV : XV K rc sz sd rr ra wa wl) {k : Nat} (hk : k < 8) : XR K h (upd kd k (-1)) f1 f2 rc sz sd ix wt cd (wl.set 1 (aS, arQ K 2 8 (va_up g k none))) := by
  have hF2 := hF
  obtain ⟨e0, e1, e2, e3, e4, e5, e9, e10⟩ := hF
  refine ⟨aS, aR, aP, aD, aW, aC, va_up g k none, rr, gd, ra, wa, ⟨gs_ne (by omega) e0, gs_eq e1, gs_ne (by omega) e2, gs_ne (by omega) e3, gs_ne (by omega) e4, fun j hj => ?_, gs_ne (by omega) e9, gs_ne (by omega) e10⟩, ⟨fun j hj => ?_, fun i j a hi hj h1 h2 => ?_⟩, hV.keep (fun j b c n hx => gs_ne (by have := hF2.st hx (by omega); omega) hx) (fun j b w hx => gs_ne (by have := hF2.wd hx; omega) hx)⟩
  · obtain ⟨a, F, h1, h2, h3⟩ := e5 j hj
    exact ⟨a, F, h1, gs_ne (by omega) h2, h3⟩
  · by_cases e : j = k
    · subst e
      exact Or.inl ⟨by rw [pk_us]; decide, va_up_self ..⟩
    · rw [pk_un e, show va_up g k none j = g j from if_neg e]
      rcases hX.1 j hj with q | ⟨h1, b, i2, h2, h3⟩
      · exact Or.inl q
      · exact Or.inr ⟨h1, b, i2, h2, gs_ne (by have := hF2.st h3 (by omega); omega) h3⟩
  · have d1 : i ≠ k := fun q => by rw [q, va_up_self] at h1; cases h1
    have d2 : j ≠ k := fun q => by rw [q, va_up_self] at h2; cases h2
    rw [show va_up g k none i = g i from if_neg d1] at h1
    rw [show va_up g k none j = g j from if_neg d2] at h2
    exact hX.2 i j a hi hj h1 h2
/-- a new stream comes into a free slot -/
theorem XR.born (hF : XF K h aS aR aP aD aW aC rc g rr gd ix wt cd wl) (hX : XS kd f1 f2 g wl) (hV : XV K rc sz sd rr ra wa wl) {A : Nat → Prop} {k q : Nat} (hk : k < 8) {c : Int32} (hc : ¬ c < 0) (F G : Int64) {e0 : va_E} (hD : va_D A (wl ++ [(q, e0)])) :
    XR K h (upd kd k c) (vp_updL f1 k F) (vp_updL f2 k G) rc sz sd ix wt cd ((wl ++ [(q, oSt c F G)]).set 1 (aS, arQ K 2 8 (va_up g k (some q)))) := by
  have hq : ∀ (i a : Nat) (x : va_E), wl[i]? = some (a, x) → a ≠ q := fun i a x hx z => by
    have hl : i < wl.length := (List.getElem?_eq_some_iff.mp hx).1
    have := hD.1 i wl.length (a, x) (q, e0) (ga_old hx) ga_new z
    omega
  have hF2 := hF
  obtain ⟨e0, e1, e2, e3, e4, e5, e9, e10⟩ := hF
  have hl1 : 10 < wl.length := (List.getElem?_eq_some_iff.mp e10).1
  refine ⟨aS, aR, aP, aD, aW, aC, va_up g k (some q), rr, gd, ra, wa, ⟨gs_ne (by omega) (ga_old e0), gs_eq (ga_old e1), gs_ne (by omega) (ga_old e2), gs_ne (by omega) (ga_old e3), gs_ne (by omega) (ga_old e4), fun j hj => ?_, gs_ne (by omega) (ga_old e9), gs_ne (by omega) (ga_old e10)⟩, ⟨fun j hj => ?_, fun i j a hi hj h1 h2 => ?_⟩, hV.keep (fun j b c n hx => gs_ne (by have := hF2.st hx (by omega); omega) (ga_old hx)) (fun j b w hx => gs_ne (by have := hF2.wd hx; omega) (ga_old hx))⟩
  · obtain ⟨a, F, h1, h2, h3⟩ := e5 j hj
    exact ⟨a, F, h1, gs_ne (by omega) (ga_old h2), h3⟩
  · by_cases e : j = k
    · subst e
      rw [pk_us, updL_s, updL_s]
      exact Or.inr ⟨hc, q, wl.length, va_up_self .., gs_ne (by omega) ga_new⟩
    · rw [pk_un e, updL_n e, updL_n e, show va_up g k (some q) j = g j from if_neg e]
      rcases hX.1 j hj with z | ⟨h1, b, i2, h2, h3⟩
      · exact Or.inl z
      · exact Or.inr ⟨h1, b, i2, h2, gs_ne (by have := hF2.st h3 (by omega); omega) (ga_old h3)⟩
  · have live : ∀ i, i < 8 → i ≠ k → g i = some a → a ≠ q := fun i hi hik hgi => by
      rcases hX.1 i hi with ⟨_, z⟩ | ⟨_, b, i2, h2, h3⟩
      · rw [z] at hgi; cases hgi
      · rw [h2] at hgi; cases hgi; exact hq _ _ _ h3
    by_cases d1 : i = k <;> by_cases d2 : j = k
    · omega
    · subst d1
      rw [va_up_self] at h1
      rw [show va_up g i (some q) j = g j from if_neg d2] at h2
      cases h1
      exact absurd rfl (live j hj d2 h2)
    · subst d2
      rw [va_up_self] at h2
      rw [show va_up g j (some q) i = g i from if_neg d1] at h1
      cases h2
      exact absurd rfl (live i hi d1 h1)
    · rw [show va_up g k (some q) i = g i from if_neg d1] at h1
      rw [show va_up g k (some q) j = g j from if_neg d2] at h2
      exact hX.2 i j a hi hj h1 h2
/-- weights, cards, the index -/
theorem XR.fix (hF : XF K h aS aR aP aD aW aC rc g rr gd ix wt cd wl) (hX : XS kd f1 f2 g wl) (hV : XV K rc sz sd rr ra wa wl) {w2 : va_W} {ix2 : Nat} {wt2 cd2 : Nat → Int32} (hF2 : XF K h aS aR aP aD aW aC rc g rr gd ix2 wt2 cd2 w2) {p : Nat} {y : Nat × va_E} (hw : w2 = wl.set p y) (hp : p ≤ 10) : XR K h kd f1 f2 rc sz sd ix2 wt2 cd2 w2 := by
  subst hw
  exact ⟨aS, aR, aP, aD, aW, aC, g, rr, gd, ra, wa, hF2, hX.keep (fun j a k f1 f2 hx => gs_ne (by have := hF.st hx (by omega); omega) hx), hV.keep (fun j b c n hx => gs_ne (by have := hF.st hx (by omega); omega) hx) (fun j b w hx => gs_ne (by have := hF.wd hx; omega) hx)⟩
end XUPD
end
section
/-! NumberStreams: its private methods, and those that read or write one number. -/
def rcS (rc : Nat) (x : Int32) : Option Nat := if x < 0 then none else if x < nI rc then some x.toNatClampNeg else none
def rcAt (rc : Nat) (rr : Nat → Option Nat) (x : Int32) : Option Nat := if x < 0 then none else if x < nI rc then rr x.toNatClampNeg else none
theorem rc_case {K : Nat → ClassId} {rc : Nat} {sz : Nat → Nat} {sd : Nat → Int32} {rr : Nat → Option Nat} {ra wa : Nat → Nat} {wl : va_W} (hV : XV K rc sz sd rr ra wa wl) (x : Int32) : (rcS rc x = none ∧ rcAt rc rr x = none) ∨ ∃ r, r < rc ∧ x = nI r ∧ rcS rc (nI r) = some r ∧ rcAt rc rr (nI r) = some (ra r) ∧ sz r ≤ 6 ∧ ∃ (i j : Nat) (w : Nat → Int32), wl[i]? = some (ra r, oSv (wa r) (sz r)) ∧ wl[j]? = some (wa r, arI K 6 w) ∧ ∀ t, t < sz r → w t = sd (6 * r + t) := by
  have h6 := hV.1
  by_cases h0 : x < 0
  · exact Or.inl ⟨if_pos h0, if_pos h0⟩
  by_cases h8 : x < nI rc
  · obtain ⟨k, hk, rfl⟩ := slot_of h0 (by omega) h8
    obtain ⟨h1, h2, h3⟩ := hV.2.1 k hk
    refine Or.inr ⟨k, hk, rfl, ?_, ?_, h2, h3⟩
    · unfold rcS
      rw [if_neg h0, if_pos h8, nI_clamp (by omega)]
    · unfold rcAt
      rw [if_neg h0, if_pos h8, nI_clamp (by omega), h1]
  · refine Or.inl ⟨?_, ?_⟩
    · unfold rcS
      rw [if_neg h0, if_neg h8]
    · unfold rcAt
      rw [if_neg h0, if_neg h8]
theorem frN_hit {kd : Nat → Int32} {i : Nat} (hi : i < 8) (h : kd i < 0) : frN kd i (8 - i) = nI i := by
  obtain ⟨n, hn⟩ : ∃ n, 8 - i = n + 1 := ⟨7 - i, by omega⟩
  rw [hn]
  exact if_pos h
theorem frN_miss {kd : Nat → Int32} {i : Nat} (hi : i < 8) (h : ¬ kd i < 0) : frN kd i (8 - i) = frN kd (i + 1) (8 - (i + 1)) := by
  obtain ⟨n, hn⟩ : ∃ n, 8 - i = n + 1 := ⟨7 - i, by omega⟩
  rw [hn, show 8 - (i + 1) = n by omega]
  exact if_neg h
/-- weights: their sum, the outcome at a mark -/
def toW (wt : Nat → Int32) : Nat → Int32
  | 0 => 0
  | n + 1 => toW wt n + wt n
def ocN (wt : Nat → Int32) (mark : Int32) : Nat → Nat → Int32
  | _, 0 => -1
  | i, n + 1 => if toW wt (i + 1) ≤ mark then ocN wt mark (i + 1) n else nI i
theorem ocN_hit {wt : Nat → Int32} {mark : Int32} {i : Nat} (hi : i < 16) (h : ¬ toW wt (i + 1) ≤ mark) : ocN wt mark i (16 - i) = nI i := by
  obtain ⟨n, hn⟩ : ∃ n, 16 - i = n + 1 := ⟨15 - i, by omega⟩
  rw [hn]
  exact if_neg h
theorem ocN_miss {wt : Nat → Int32} {mark : Int32} {i : Nat} (hi : i < 16) (h : toW wt (i + 1) ≤ mark) : ocN wt mark i (16 - i) = ocN wt mark (i + 1) (16 - (i + 1)) := by
  obtain ⟨n, hn⟩ : ∃ n, 16 - i = n + 1 := ⟨15 - i, by omega⟩
  rw [hn, show 16 - (i + 1) = n by omega]
  exact if_pos h
def cdA (cd : Nat → Int32) (x : Int32) : Int32 := if x < 0 then -1 else if x < 16 then cd x.toNatClampNeg else -1
def wgB (x w : Int32) : Bool := if x < 0 then false else if 16 ≤ x then false else if w < 0 then false else if w ≤ 1000000 then true else false
def bI (b : Bool) : Int32 := if b then 1 else 0
def wgW (wt : Nat → Int32) (x w : Int32) : Nat → Int32 := if wgB x w then upd wt x.toNatClampNeg w else wt
def skB (x : Int32) : Bool := if x < 0 then false else if x ≤ 1048575 then true else false
def skX (ix : Nat) (x : Int32) : Nat := if skB x then x.toNatClampNeg else ix
def adX (ix : Nat) : Nat := if ix = 1048575 then 0 else ix + 1
def lnA (rc : Nat) (sz : Nat → Nat) (x : Int32) : Int32 := match rcS rc x with | none => -1 | some r => nI (sz r)
def hwB (rc : Nat) (sz : Nat → Nat) (x i : Int32) : Bool := match rcS rc x with | none => false | some r => if i < 0 then false else if nI (sz r) ≤ i then false else true
def wdA (rc : Nat) (sz : Nat → Nat) (sd : Nat → Int32) (x i : Int32) : Int32 := if hwB rc sz x i then sd (6 * x.toNatClampNeg + i.toNatClampNeg) else 0
set_option maxRecDepth 100000 in
set_option maxHeartbeats 4000000 in
theorem c_NS_streamAt {l : Launch} {D : va_G} {K : Nat → ClassId} {A : Nat → Prop} {wl : va_W} {h aS aR aP aD aW aC rc ix : Nat} {g rr gd : Nat → Option Nat} {wt cd : Nat → Int32} (hF : XF K h aS aR aP aD aW aC rc g rr gd ix wt cd wl) {x : Int32} : ctQ l y_NS_streamAt prog_1_method_22_code 2 (some (.object "NumberStreams$Stream")) 0 0 0 [.ref h, .int x] D K A (wl) (fun r w => r = stAt g x ∧ w = wl) := by
  refine mt_of (by decide) (Nat.le_of_ble_eq_true rfl) ?_
  intro p e s m below meth c ls B hw hl
  have hx := B.1
  have hb := B.2.1
  have hl : lv_has ls 2 [(0, .ref h), (1, .int x)] := hl
  have hF0 := hF
  obtain ⟨e0, e1, e2, e3, e4, e5, e9, e10⟩ := hF
  refine lv_iload_n hx hb d_NS_streamAt_0 rfl (lv_at hl 1 rfl) ?_
  refine lv_if_lt (tgt := 10) hx hb d_NS_streamAt_1 rfl (fun h1 => ?_) (fun h1 => ?_)
  · have ez : stAt g x = none := if_pos h1
    refine lv_null hx hb d_NS_streamAt_10 ?_
    refine lv_goto (tgt := 20) hx hb d_NS_streamAt_11 rfl ?_
    exact r_q (v := none) B hw d_NS_streamAt_20 ⟨ez.symm, rfl⟩
  · have ez : stAt g x = _ := if_neg h1
    refine lv_iload_n hx hb d_NS_streamAt_4 rfl (lv_at hl 1 rfl) ?_
    refine lv_bipush (v := 8) hx hb d_NS_streamAt_5 (by decide) ?_
    refine lv_icmp_lt (tgt := 14) hx hb d_NS_streamAt_7 rfl (fun h7 => ?_) (fun h7 => ?_)
    · rw [if_pos h7] at ez
      obtain ⟨k, hk, rfl⟩ := slot_of h1 (n := 8) (by omega) h7
      refine lv_aload_n hx hb d_NS_streamAt_14 rfl (lv_at hl 0 rfl) ?_
      refine g_get B hw fl_NS_11 e0 rfl d_NS_streamAt_15 ?_
      refine lv_iload_n hx hb d_NS_streamAt_18 rfl (lv_at hl 1 rfl) ?_
      refine g_aald 2 B hw e1 rfl (vp_in_nI hk (by omega)) d_NS_streamAt_19 ?_
      exact r_q (v := g (nI k).toNatClampNeg) B hw d_NS_streamAt_20 ⟨ez.symm, rfl⟩
    · rw [if_neg h7] at ez
      refine lv_null hx hb d_NS_streamAt_10 ?_
      refine lv_goto (tgt := 20) hx hb d_NS_streamAt_11 rfl ?_
      exact r_q (v := none) B hw d_NS_streamAt_20 ⟨ez.symm, rfl⟩
set_option maxRecDepth 100000 in
set_option maxHeartbeats 4000000 in
theorem c_NS_leastFreeSlot {l : Launch} {D : va_G} {K : Nat → ClassId} {A : Nat → Prop} {wl : va_W} {h aS aR aP aD aW aC rc ix : Nat} {g rr gd : Nat → Option Nat} {wt cd : Nat → Int32} (hF : XF K h aS aR aP aD aW aC rc g rr gd ix wt cd wl) {kd : Nat → Int32} {f1 f2 : Nat → Int64} (hX : XS kd f1 f2 g wl) : ctI l y_NS_leastFreeSlot prog_1_method_23_code 2 (some .int) 0 0 0 [.ref h] D K A (wl) (fun r w => r = frI kd ∧ w = wl) := by
  refine mt_of (by decide) (Nat.le_of_ble_eq_true rfl) ?_
  intro p e s m below meth c ls B hw hl
  have hx := B.1
  have hb := B.2.1
  have hl : lv_has ls 2 [(0, .ref h)] := hl
  have hF0 := hF
  obtain ⟨e0, e1, e2, e3, e4, e5, e9, e10⟩ := hF
  refine lv_iconst (v := 0) hx hb d_NS_leastFreeSlot_0 (by decide) ?_
  refine lv_istore_n hx hb d_NS_leastFreeSlot_1 rfl hl (by decide) rfl (fun ls (hl : lv_has ls 2 [(1, .int _), (0, .ref _)]) => ?_)
  refine lp_w (σ := Nat) (fun i => 8 - i) (fun i H locs ls => i ≤ 8 ∧ frI kd = frN kd i (8 - i) ∧ lv_has ls 2 [(1, .int (nI i)), (0, .ref h)] ∧ wd D A wl s H locs) ?_ 0 _ _ _ ⟨by omega, rfl, lv_sub hl [0, 1] rfl, hw⟩
  rintro i H locs ls ⟨hi, hfr, hl, hw⟩ ih
  refine lv_iload_n hx hb d_NS_leastFreeSlot_2 rfl (lv_at hl 0 rfl) ?_
  refine lv_bipush (v := 8) hx hb d_NS_leastFreeSlot_3 (by decide) ?_
  refine lv_icmp_ge (tgt := 25) hx hb d_NS_leastFreeSlot_5 rfl (fun h5 => ?_) (fun h5 => ?_)
  · have h5 : 8 ≤ i := (nI_leI (a := 8) (by omega) (by omega)).mp h5
    have hend : i = 8 := by omega
    refine lv_iconst (v := (-1)) hx hb d_NS_leastFreeSlot_25 (by decide) ?_
    exact r_i B hw d_NS_leastFreeSlot_26 ⟨by rw [hfr, hend]; rfl, rfl⟩
  · have h5 : i < 8 := Nat.lt_of_not_le (fun q => h5 ((nI_leI (a := 8) (by omega) (by omega)).mpr q))
    refine lv_aload_n hx hb d_NS_leastFreeSlot_8 rfl (lv_at hl 1 rfl) ?_
    refine g_get B hw fl_NS_11 e0 rfl d_NS_leastFreeSlot_9 ?_
    refine lv_iload_n hx hb d_NS_leastFreeSlot_12 rfl (lv_at hl 0 rfl) ?_
    refine g_aald 2 B hw e1 rfl (vp_in_nI h5 (by omega)) d_NS_leastFreeSlot_13 ?_
    rw [nI_clamp (by omega)]
    rcases hX.1 i h5 with ⟨hkd, hg⟩ | ⟨hkd, a, j, hg, hj⟩
    · rw [hg, va_rf_none]
      refine lv_ifnonnullN hx hb d_NS_leastFreeSlot_14 ?_
      refine lv_iload_n hx hb d_NS_leastFreeSlot_17 rfl (lv_at hl 0 rfl) ?_
      exact r_i B hw d_NS_leastFreeSlot_18 ⟨by rw [hfr, frN_hit h5 hkd], rfl⟩
    · rw [hg, va_rf_some]
      refine lv_ifnonnull (tgt := 19) hx hb d_NS_leastFreeSlot_14 rfl ?_
      refine lv_iinc (k := 0) hx hb d_NS_leastFreeSlot_19 hl rfl (show nI i + Int32.ofInt 1 = nI (i + 1) from (nI_succ i).symm) (by decide) rfl (fun ls (hl : lv_has ls 2 [(1, .int (nI (i + 1))), (0, .ref _)]) => ?_)
      refine lv_goto (tgt := 2) hx hb d_NS_leastFreeSlot_22 rfl ?_
      exact ih (i + 1) _ _ _ (by omega) ⟨by omega, hfr.trans (frN_miss h5 hkd), lv_sub hl [0, 1] rfl, hw⟩
set_option maxRecDepth 100000 in
set_option maxHeartbeats 4000000 in
theorem c_NS_recordAt {l : Launch} {D : va_G} {K : Nat → ClassId} {A : Nat → Prop} {wl : va_W} {h aS aR aP aD aW aC rc ix : Nat} {g rr gd : Nat → Option Nat} {wt cd : Nat → Int32} (hF : XF K h aS aR aP aD aW aC rc g rr gd ix wt cd wl) (h6 : rc ≤ 6) {x : Int32} : ctQ l y_NS_recordAt prog_1_method_24_code 2 (some (.object "NumberStreams$Saved")) 0 0 0 [.ref h, .int x] D K A (wl) (fun r w => r = rcAt rc rr x ∧ w = wl) := by
  refine mt_of (by decide) (Nat.le_of_ble_eq_true rfl) ?_
  intro p e s m below meth c ls B hw hl
  have hx := B.1
  have hb := B.2.1
  have hl : lv_has ls 2 [(0, .ref h), (1, .int x)] := hl
  have hF0 := hF
  obtain ⟨e0, e1, e2, e3, e4, e5, e9, e10⟩ := hF
  refine lv_iload_n hx hb d_NS_recordAt_0 rfl (lv_at hl 1 rfl) ?_
  refine lv_if_lt (tgt := 12) hx hb d_NS_recordAt_1 rfl (fun h1 => ?_) (fun h1 => ?_)
  · have ez : rcAt rc rr x = none := if_pos h1
    refine lv_null hx hb d_NS_recordAt_12 ?_
    refine lv_goto (tgt := 22) hx hb d_NS_recordAt_13 rfl ?_
    exact r_q (v := none) B hw d_NS_recordAt_22 ⟨ez.symm, rfl⟩
  · have ez : rcAt rc rr x = _ := if_neg h1
    refine lv_iload_n hx hb d_NS_recordAt_4 rfl (lv_at hl 1 rfl) ?_
    refine lv_aload_n hx hb d_NS_recordAt_5 rfl (lv_at hl 0 rfl) ?_
    refine g_get B hw fl_NS_21 e0 rfl d_NS_recordAt_6 ?_
    refine lv_icmp_lt (tgt := 16) hx hb d_NS_recordAt_9 rfl (fun h9 => ?_) (fun h9 => ?_)
    · rw [if_pos h9] at ez
      obtain ⟨k, hk, rfl⟩ := slot_of h1 (by omega) h9
      refine lv_aload_n hx hb d_NS_recordAt_16 rfl (lv_at hl 0 rfl) ?_
      refine g_get B hw fl_NS_17 e0 rfl d_NS_recordAt_17 ?_
      refine lv_iload_n hx hb d_NS_recordAt_20 rfl (lv_at hl 1 rfl) ?_
      refine g_aald 3 B hw e2 rfl (vp_in_nI (by omega) (by omega)) d_NS_recordAt_21 ?_
      exact r_q (v := rr (nI k).toNatClampNeg) B hw d_NS_recordAt_22 ⟨ez.symm, rfl⟩
    · rw [if_neg h9] at ez
      refine lv_null hx hb d_NS_recordAt_12 ?_
      refine lv_goto (tgt := 22) hx hb d_NS_recordAt_13 rfl ?_
      exact r_q (v := none) B hw d_NS_recordAt_22 ⟨ez.symm, rfl⟩
set_option maxRecDepth 100000 in
set_option maxHeartbeats 4000000 in
theorem c_NS_totalWeight {l : Launch} {D : va_G} {K : Nat → ClassId} {A : Nat → Prop} {wl : va_W} {h aS aR aP aD aW aC rc ix : Nat} {g rr gd : Nat → Option Nat} {wt cd : Nat → Int32} (hF : XF K h aS aR aP aD aW aC rc g rr gd ix wt cd wl) : ctI l y_NS_totalWeight prog_1_method_25_code 3 (some .int) 0 0 0 [.ref h] D K A (wl) (fun r w => r = toW wt 16 ∧ w = wl) := by
  refine mt_of (by decide) (Nat.le_of_ble_eq_true rfl) ?_
  intro p e s m below meth c ls B hw hl
  have hx := B.1
  have hb := B.2.1
  have hl : lv_has ls 3 [(0, .ref h)] := hl
  have hF0 := hF
  obtain ⟨e0, e1, e2, e3, e4, e5, e9, e10⟩ := hF
  refine lv_iconst (v := 0) hx hb d_NS_totalWeight_0 (by decide) ?_
  refine lv_istore_n hx hb d_NS_totalWeight_1 rfl hl (by decide) rfl (fun ls (hl : lv_has ls 3 [(1, .int _), (0, .ref _)]) => ?_)
  refine lv_iconst (v := 0) hx hb d_NS_totalWeight_2 (by decide) ?_
  refine lv_istore_n hx hb d_NS_totalWeight_3 rfl hl (by decide) rfl (fun ls (hl : lv_has ls 3 [(2, .int _), (1, .int _), (0, .ref _)]) => ?_)
  refine lp_w (σ := Nat) (fun i => 16 - i) (fun i H locs ls => i ≤ 16 ∧ lv_has ls 3 [(2, .int (nI i)), (1, .int (toW wt i)), (0, .ref h)] ∧ wd D A wl s H locs) ?_ 0 _ _ _ ⟨by omega, lv_sub hl [0, 1, 2] rfl, hw⟩
  rintro i H locs ls ⟨hi, hl, hw⟩ ih
  refine lv_iload_n hx hb d_NS_totalWeight_4 rfl (lv_at hl 0 rfl) ?_
  refine lv_bipush (v := 16) hx hb d_NS_totalWeight_5 (by decide) ?_
  refine lv_icmp_ge (tgt := 25) hx hb d_NS_totalWeight_7 rfl (fun h7 => ?_) (fun h7 => ?_)
  · have h7 : 16 ≤ i := (nI_leI (a := 16) (by omega) (by omega)).mp h7
    have hend : i = 16 := by omega
    refine lv_iload_n hx hb d_NS_totalWeight_25 rfl (lv_at hl 1 rfl) ?_
    exact r_i B hw d_NS_totalWeight_26 ⟨by rw [hend], rfl⟩
  · have h7 : i < 16 := Nat.lt_of_not_le (fun q => h7 ((nI_leI (a := 16) (by omega) (by omega)).mpr q))
    refine lv_iload_n hx hb d_NS_totalWeight_10 rfl (lv_at hl 1 rfl) ?_
    refine lv_aload_n hx hb d_NS_totalWeight_11 rfl (lv_at hl 2 rfl) ?_
    refine g_get B hw fl_NS_32 e0 rfl d_NS_totalWeight_12 ?_
    refine lv_iload_n hx hb d_NS_totalWeight_15 rfl (lv_at hl 0 rfl) ?_
    refine g_iald B hw e9 (vp_in_nI h7 (by omega)) d_NS_totalWeight_16 ?_
    rw [nI_clamp (by omega)]
    refine lv_iadd hx hb d_NS_totalWeight_17 ?_
    refine lv_istore_n hx hb d_NS_totalWeight_18 rfl hl (by decide) rfl (fun ls (hl : lv_has ls 3 [(1, .int _), (2, .int _), (0, .ref _)]) => ?_)
    refine lv_iinc (k := 1) hx hb d_NS_totalWeight_19 hl rfl (show nI i + Int32.ofInt 1 = nI (i + 1) from (nI_succ i).symm) (by decide) rfl (fun ls (hl : lv_has ls 3 [(2, .int (nI (i + 1))), (1, .int _), (0, .ref _)]) => ?_)
    refine lv_goto (tgt := 4) hx hb d_NS_totalWeight_22 rfl ?_
    exact ih (i + 1) _ _ _ (by omega) ⟨by omega, lv_sub hl [0, 1, 2] rfl, hw⟩
set_option maxRecDepth 100000 in
set_option maxHeartbeats 4000000 in
theorem c_NS_outcomeAt {l : Launch} {D : va_G} {K : Nat → ClassId} {A : Nat → Prop} {wl : va_W} {h aS aR aP aD aW aC rc ix : Nat} {g rr gd : Nat → Option Nat} {wt cd : Nat → Int32} (hF : XF K h aS aR aP aD aW aC rc g rr gd ix wt cd wl) {x : Int32} : ctI l y_NS_outcomeAt prog_1_method_26_code 4 (some .int) 0 0 0 [.ref h, .int x] D K A (wl) (fun r w => r = ocN wt x 0 16 ∧ w = wl) := by
  refine mt_of (by decide) (Nat.le_of_ble_eq_true rfl) ?_
  intro p e s m below meth c ls B hw hl
  have hx := B.1
  have hb := B.2.1
  have hl : lv_has ls 4 [(0, .ref h), (1, .int x)] := hl
  have hF0 := hF
  obtain ⟨e0, e1, e2, e3, e4, e5, e9, e10⟩ := hF
  refine lv_iconst (v := 0) hx hb d_NS_outcomeAt_0 (by decide) ?_
  refine lv_istore_n hx hb d_NS_outcomeAt_1 rfl hl (by decide) rfl (fun ls (hl : lv_has ls 4 [(2, .int _), (0, .ref _), (1, .int _)]) => ?_)
  refine lv_iconst (v := 0) hx hb d_NS_outcomeAt_2 (by decide) ?_
  refine lv_istore_n hx hb d_NS_outcomeAt_3 rfl hl (by decide) rfl (fun ls (hl : lv_has ls 4 [(3, .int _), (2, .int _), (0, .ref _), (1, .int _)]) => ?_)
  refine lp_w (σ := Nat) (fun i => 16 - i) (fun i H locs ls => i ≤ 16 ∧ ocN wt x 0 16 = ocN wt x i (16 - i) ∧ lv_has ls 4 [(3, .int (nI i)), (2, .int (toW wt i)), (0, .ref h), (1, .int x)] ∧ wd D A wl s H locs) ?_ 0 _ _ _ ⟨by omega, rfl, lv_sub hl [0, 1, 2, 3] rfl, hw⟩
  rintro i H locs ls ⟨hi, hoc, hl, hw⟩ ih
  refine lv_iload_n hx hb d_NS_outcomeAt_4 rfl (lv_at hl 0 rfl) ?_
  refine lv_bipush (v := 16) hx hb d_NS_outcomeAt_5 (by decide) ?_
  refine lv_icmp_ge (tgt := 32) hx hb d_NS_outcomeAt_7 rfl (fun h7 => ?_) (fun h7 => ?_)
  · have h7 : 16 ≤ i := (nI_leI (a := 16) (by omega) (by omega)).mp h7
    have hend : i = 16 := by omega
    refine lv_iconst (v := (-1)) hx hb d_NS_outcomeAt_32 (by decide) ?_
    exact r_i B hw d_NS_outcomeAt_33 ⟨by rw [hoc, hend]; rfl, rfl⟩
  · have h7 : i < 16 := Nat.lt_of_not_le (fun q => h7 ((nI_leI (a := 16) (by omega) (by omega)).mpr q))
    refine lv_iload_n hx hb d_NS_outcomeAt_10 rfl (lv_at hl 1 rfl) ?_
    refine lv_aload_n hx hb d_NS_outcomeAt_11 rfl (lv_at hl 2 rfl) ?_
    refine g_get B hw fl_NS_32 e0 rfl d_NS_outcomeAt_12 ?_
    refine lv_iload_n hx hb d_NS_outcomeAt_15 rfl (lv_at hl 0 rfl) ?_
    refine g_iald B hw e9 (vp_in_nI h7 (by omega)) d_NS_outcomeAt_16 ?_
    rw [nI_clamp (by omega)]
    refine lv_iadd hx hb d_NS_outcomeAt_17 ?_
    refine lv_istore_n hx hb d_NS_outcomeAt_18 rfl hl (by decide) rfl (fun ls (hl : lv_has ls 4 [(2, .int (toW wt (i + 1))), (3, .int _), (0, .ref _), (1, .int _)]) => ?_)
    refine lv_iload_n hx hb d_NS_outcomeAt_19 rfl (lv_at hl 0 rfl) ?_
    refine lv_iload_n hx hb d_NS_outcomeAt_20 rfl (lv_at hl 3 rfl) ?_
    refine lv_icmp_le (tgt := 26) hx hb d_NS_outcomeAt_21 rfl (fun h21 => ?_) (fun h21 => ?_)
    · refine lv_iinc (k := 1) hx hb d_NS_outcomeAt_26 hl rfl (show nI i + Int32.ofInt 1 = nI (i + 1) from (nI_succ i).symm) (by decide) rfl (fun ls (hl : lv_has ls 4 [(3, .int (nI (i + 1))), (2, .int _), (0, .ref _), (1, .int _)]) => ?_)
      refine lv_goto (tgt := 4) hx hb d_NS_outcomeAt_29 rfl ?_
      exact ih (i + 1) _ _ _ (by omega) ⟨by omega, hoc.trans (ocN_miss h7 h21), lv_sub hl [0, 1, 2, 3] rfl, hw⟩
    · refine lv_iload_n hx hb d_NS_outcomeAt_24 rfl (lv_at hl 1 rfl) ?_
      exact r_i B hw d_NS_outcomeAt_25 ⟨by rw [hoc, ocN_hit h7 h21], rfl⟩
set_option maxRecDepth 100000 in
set_option maxHeartbeats 4000000 in
theorem c_NS_card {l : Launch} {D : va_G} {K : Nat → ClassId} {A : Nat → Prop} {wl : va_W} {h aS aR aP aD aW aC rc ix : Nat} {g rr gd : Nat → Option Nat} {wt cd : Nat → Int32} (hF : XF K h aS aR aP aD aW aC rc g rr gd ix wt cd wl) {x : Int32} : ctI l y_NS_card prog_1_method_21_code 2 (some .int) 0 0 0 [.ref h, .int x] D K A (wl) (fun r w => r = cdA cd x ∧ w = wl) := by
  refine mt_of (by decide) (Nat.le_of_ble_eq_true rfl) ?_
  intro p e s m below meth c ls B hw hl
  have hx := B.1
  have hb := B.2.1
  have hl : lv_has ls 2 [(0, .ref h), (1, .int x)] := hl
  have hF0 := hF
  obtain ⟨e0, e1, e2, e3, e4, e5, e9, e10⟩ := hF
  refine lv_iload_n hx hb d_NS_card_0 rfl (lv_at hl 1 rfl) ?_
  refine lv_if_lt (tgt := 10) hx hb d_NS_card_1 rfl (fun h1 => ?_) (fun h1 => ?_)
  · have ez : cdA cd x = -1 := if_pos h1
    refine lv_iconst (v := (-1)) hx hb d_NS_card_10 (by decide) ?_
    refine lv_goto (tgt := 20) hx hb d_NS_card_11 rfl ?_
    exact r_i B hw d_NS_card_20 ⟨ez.symm, rfl⟩
  · have ez : cdA cd x = _ := if_neg h1
    refine lv_iload_n hx hb d_NS_card_4 rfl (lv_at hl 1 rfl) ?_
    refine lv_bipush (v := 16) hx hb d_NS_card_5 (by decide) ?_
    refine lv_icmp_lt (tgt := 14) hx hb d_NS_card_7 rfl (fun h7 => ?_) (fun h7 => ?_)
    · rw [if_pos h7] at ez
      obtain ⟨k, hk, rfl⟩ := slot_of h1 (n := 16) (by omega) h7
      refine lv_aload_n hx hb d_NS_card_14 rfl (lv_at hl 0 rfl) ?_
      refine g_get B hw fl_NS_36 e0 rfl d_NS_card_15 ?_
      refine lv_iload_n hx hb d_NS_card_18 rfl (lv_at hl 1 rfl) ?_
      refine g_iald B hw e10 (vp_in_nI hk (by omega)) d_NS_card_19 ?_
      exact r_i B hw d_NS_card_20 ⟨ez.symm, rfl⟩
    · rw [if_neg h7] at ez
      refine lv_iconst (v := (-1)) hx hb d_NS_card_10 (by decide) ?_
      refine lv_goto (tgt := 20) hx hb d_NS_card_11 rfl ?_
      exact r_i B hw d_NS_card_20 ⟨ez.symm, rfl⟩
set_option maxRecDepth 100000 in
set_option maxHeartbeats 4000000 in
theorem c_NS_weigh {l : Launch} {D : va_G} {K : Nat → ClassId} {A : Nat → Prop} {wl : va_W} {h rc ix : Nat} {kd sd wt cd : Nat → Int32} {f1 f2 : Nat → Int64} {sz : Nat → Nat} (hR : XR K h kd f1 f2 rc sz sd ix wt cd wl) {x y : Int32} : ctI l y_NS_weigh prog_1_method_18_code 3 (some .boolean) 0 0 0 [.ref h, .int x, .int y] D K A (wl) (fun r w => r = bI (wgB x y) ∧ XR K h kd f1 f2 rc sz sd ix (wgW wt x y) cd w) := by
  refine mt_of (by decide) (Nat.le_of_ble_eq_true rfl) ?_
  intro p e s m below meth c ls B hw hl
  have hx := B.1
  have hb := B.2.1
  have hl : lv_has ls 3 [(0, .ref h), (1, .int x), (2, .int y)] := hl
  obtain ⟨aS, aR, aP, aD, aW, aC, g, rr, gd, ra, wa, hF, hX, hV⟩ := hR
  have hF0 := hF
  obtain ⟨e0, e1, e2, e3, e4, e5, e9, e10⟩ := hF
  refine lv_iload_n hx hb d_NS_weigh_0 rfl (lv_at hl 1 rfl) ?_
  refine lv_if_lt (tgt := 20) hx hb d_NS_weigh_1 rfl (fun h1 => ?_) (fun h1 => ?_)
  · have ez : wgB x y = false := if_pos h1
    refine lv_iconst (v := 0) hx hb d_NS_weigh_20 (by decide) ?_
    exact r_z B hw (by decide) d_NS_weigh_21 ⟨by rw [ez]; rfl, by unfold wgW; rw [ez]; exact ⟨aS, aR, aP, aD, aW, aC, g, rr, gd, ra, wa, hF0, hX, hV⟩⟩
  · have ez : wgB x y = _ := if_neg h1
    refine lv_iload_n hx hb d_NS_weigh_4 rfl (lv_at hl 1 rfl) ?_
    refine lv_bipush (v := 16) hx hb d_NS_weigh_5 (by decide) ?_
    refine lv_icmp_ge (tgt := 20) hx hb d_NS_weigh_7 rfl (fun h7 => ?_) (fun h7 => ?_)
    · rw [if_pos h7] at ez
      refine lv_iconst (v := 0) hx hb d_NS_weigh_20 (by decide) ?_
      exact r_z B hw (by decide) d_NS_weigh_21 ⟨by rw [ez]; rfl, by unfold wgW; rw [ez]; exact ⟨aS, aR, aP, aD, aW, aC, g, rr, gd, ra, wa, hF0, hX, hV⟩⟩
    · rw [if_neg h7] at ez
      obtain ⟨k, hk, rfl⟩ := slot_of h1 (n := 16) (by omega) (Int32.not_le.mp h7)
      refine lv_iload_n hx hb d_NS_weigh_10 rfl (lv_at hl 2 rfl) ?_
      refine lv_if_lt (tgt := 20) hx hb d_NS_weigh_11 rfl (fun h11 => ?_) (fun h11 => ?_)
      · rw [if_pos h11] at ez
        refine lv_iconst (v := 0) hx hb d_NS_weigh_20 (by decide) ?_
        exact r_z B hw (by decide) d_NS_weigh_21 ⟨by rw [ez]; rfl, by unfold wgW; rw [ez]; exact ⟨aS, aR, aP, aD, aW, aC, g, rr, gd, ra, wa, hF0, hX, hV⟩⟩
      · rw [if_neg h11] at ez
        refine lv_iload_n hx hb d_NS_weigh_14 rfl (lv_at hl 2 rfl) ?_
        refine g_ldc B kc_NS_129 d_NS_weigh_15 ?_
        refine lv_icmp_le (tgt := 22) hx hb d_NS_weigh_17 rfl (fun h17 => ?_) (fun h17 => ?_)
        · rw [if_pos h17] at ez
          refine lv_aload_n hx hb d_NS_weigh_22 rfl (lv_at hl 0 rfl) ?_
          refine g_get B hw fl_NS_32 e0 rfl d_NS_weigh_23 ?_
          refine lv_iload_n hx hb d_NS_weigh_26 rfl (lv_at hl 1 rfl) ?_
          refine lv_iload_n hx hb d_NS_weigh_27 rfl (lv_at hl 2 rfl) ?_
          refine g_iast B hw e9 (vp_in_nI hk (by omega)) d_NS_weigh_28 (fun H locs hw => ?_)
          refine lv_iconst (v := 1) hx hb d_NS_weigh_29 (by decide) ?_
          exact r_z B hw (by decide) d_NS_weigh_30 ⟨by rw [ez]; rfl, by unfold wgW; rw [ez]; exact XR.fix hF0 hX hV ⟨gs_ne (by omega) e0, gs_ne (by omega) e1, gs_ne (by omega) e2, gs_ne (by omega) e3, gs_ne (by omega) e4, fun j hj => by obtain ⟨a, F, q1, q2, q3⟩ := e5 j hj; exact ⟨a, F, q1, gs_ne (by omega) q2, q3⟩, gs_eq e9, gs_ne (by omega) e10⟩ rfl (by omega)⟩
        · rw [if_neg h17] at ez
          refine lv_iconst (v := 0) hx hb d_NS_weigh_20 (by decide) ?_
          exact r_z B hw (by decide) d_NS_weigh_21 ⟨by rw [ez]; rfl, by unfold wgW; rw [ez]; exact ⟨aS, aR, aP, aD, aW, aC, g, rr, gd, ra, wa, hF0, hX, hV⟩⟩
set_option maxRecDepth 100000 in
set_option maxHeartbeats 4000000 in
theorem c_NS_seek {l : Launch} {D : va_G} {K : Nat → ClassId} {A : Nat → Prop} {wl : va_W} {h rc ix : Nat} {kd sd wt cd : Nat → Int32} {f1 f2 : Nat → Int64} {sz : Nat → Nat} (hR : XR K h kd f1 f2 rc sz sd ix wt cd wl) {x : Int32} : ctI l y_NS_seek prog_1_method_15_code 2 (some .boolean) 0 0 0 [.ref h, .int x] D K A (wl) (fun r w => r = bI (skB x) ∧ XR K h kd f1 f2 rc sz sd (skX ix x) wt cd w) := by
  refine mt_of (by decide) (Nat.le_of_ble_eq_true rfl) ?_
  intro p e s m below meth c ls B hw hl
  have hx := B.1
  have hb := B.2.1
  have hl : lv_has ls 2 [(0, .ref h), (1, .int x)] := hl
  obtain ⟨aS, aR, aP, aD, aW, aC, g, rr, gd, ra, wa, hF, hX, hV⟩ := hR
  have hF0 := hF
  obtain ⟨e0, e1, e2, e3, e4, e5, e9, e10⟩ := hF
  refine lv_iload_n hx hb d_NS_seek_0 rfl (lv_at hl 1 rfl) ?_
  refine lv_if_lt (tgt := 10) hx hb d_NS_seek_1 rfl (fun h1 => ?_) (fun h1 => ?_)
  · have ez : skB x = false := if_pos h1
    refine lv_iconst (v := 0) hx hb d_NS_seek_10 (by decide) ?_
    exact r_z B hw (by decide) d_NS_seek_11 ⟨by rw [ez]; rfl, by unfold skX; rw [ez]; exact ⟨aS, aR, aP, aD, aW, aC, g, rr, gd, ra, wa, hF0, hX, hV⟩⟩
  · have ez : skB x = _ := if_neg h1
    obtain ⟨k, hk, rfl⟩ := nI_of h1
    refine lv_iload_n hx hb d_NS_seek_4 rfl (lv_at hl 1 rfl) ?_
    refine g_ldc B kc_NS_118 d_NS_seek_5 ?_
    refine lv_icmp_le (tgt := 12) hx hb d_NS_seek_7 rfl (fun h7 => ?_) (fun h7 => ?_)
    · rw [if_pos h7] at ez
      refine lv_aload_n hx hb d_NS_seek_12 rfl (lv_at hl 0 rfl) ?_
      refine g_get B hw fl_NS_28 e0 rfl d_NS_seek_13 ?_
      refine lv_iload_n hx hb d_NS_seek_16 rfl (lv_at hl 1 rfl) ?_
      refine g_put B hw fl_NS_119 ck_PT e3 rfl rfl rfl (Nat.le_of_ble_eq_true rfl) d_NS_seek_17 (fun H locs hw => ?_)
      refine lv_iconst (v := 1) hx hb d_NS_seek_20 (by decide) ?_
      exact r_z B hw (by decide) d_NS_seek_21 ⟨by rw [ez]; rfl, by unfold skX; rw [ez, if_pos rfl, nI_clamp hk]; exact XR.fix hF0 hX hV ⟨gs_ne (by omega) e0, gs_ne (by omega) e1, gs_ne (by omega) e2, gs_eq e3, gs_ne (by omega) e4, fun j hj => by obtain ⟨a, F, q1, q2, q3⟩ := e5 j hj; exact ⟨a, F, q1, gs_ne (by omega) q2, q3⟩, gs_ne (by omega) e9, gs_ne (by omega) e10⟩ rfl (by omega)⟩
    · rw [if_neg h7] at ez
      refine lv_iconst (v := 0) hx hb d_NS_seek_10 (by decide) ?_
      exact r_z B hw (by decide) d_NS_seek_11 ⟨by rw [ez]; rfl, by unfold skX; rw [ez]; exact ⟨aS, aR, aP, aD, aW, aC, g, rr, gd, ra, wa, hF0, hX, hV⟩⟩
set_option maxRecDepth 100000 in
set_option maxHeartbeats 4000000 in
theorem c_NS_advance {l : Launch} {D : va_G} {K : Nat → ClassId} {A : Nat → Prop} {wl : va_W} {h rc ix : Nat} {kd sd wt cd : Nat → Int32} {f1 f2 : Nat → Int64} {sz : Nat → Nat} (hR : XR K h kd f1 f2 rc sz sd ix wt cd wl) (hix : ix ≤ 1048575) : ctI l y_NS_advance prog_1_method_16_code 1 (some .int) 0 0 0 [.ref h] D K A (wl) (fun r w => r = nI (adX ix) ∧ XR K h kd f1 f2 rc sz sd (adX ix) wt cd w) := by
  refine mt_of (by decide) (Nat.le_of_ble_eq_true rfl) ?_
  intro p e s m below meth c ls B hw hl
  have hx := B.1
  have hb := B.2.1
  have hl : lv_has ls 1 [(0, .ref h)] := hl
  obtain ⟨aS, aR, aP, aD, aW, aC, g, rr, gd, ra, wa, hF, hX, hV⟩ := hR
  have hF0 := hF
  obtain ⟨e0, e1, e2, e3, e4, e5, e9, e10⟩ := hF
  refine lv_aload_n hx hb d_NS_advance_0 rfl (lv_at hl 0 rfl) ?_
  refine g_get B hw fl_NS_28 e0 rfl d_NS_advance_1 ?_
  refine lv_aload_n hx hb d_NS_advance_4 rfl (lv_at hl 0 rfl) ?_
  refine g_get B hw fl_NS_28 e0 rfl d_NS_advance_5 ?_
  refine g_get B hw fl_NS_119 e3 rfl d_NS_advance_8 ?_
  refine g_ldc B kc_NS_118 d_NS_advance_11 ?_
  refine lv_icmp_ne (tgt := 20) hx hb d_NS_advance_13 rfl (fun h13 => ?_) (fun h13 => ?_)
  · have ez : adX ix = ix + 1 := if_neg (fun q => h13 (by rw [q]; rfl))
    refine lv_aload_n hx hb d_NS_advance_20 rfl (lv_at hl 0 rfl) ?_
    refine g_get B hw fl_NS_28 e0 rfl d_NS_advance_21 ?_
    refine g_get B hw fl_NS_119 e3 rfl d_NS_advance_24 ?_
    refine lv_iconst (v := 1) hx hb d_NS_advance_27 (by decide) ?_
    refine lv_iadd hx hb d_NS_advance_28 ?_
    rw [← nI_succ ix]
    refine g_put B hw fl_NS_119 ck_PT e3 rfl rfl rfl (Nat.le_of_ble_eq_true rfl) d_NS_advance_29 (fun H locs hw => ?_)
    have hw : wd D A (wl.set 3 (aP, oPt aD (nI (adX ix)))) s H locs := by rw [ez]; exact hw
    refine lv_aload_n hx hb d_NS_advance_32 rfl (lv_at hl 0 rfl) ?_
    refine g_get B hw fl_NS_28 (gs_ne (by omega) e0) rfl d_NS_advance_33 ?_
    refine g_get B hw fl_NS_119 (gs_eq e3) rfl d_NS_advance_36 ?_
    exact r_i B hw d_NS_advance_39 ⟨rfl, XR.fix hF0 hX hV ⟨gs_ne (by omega) e0, gs_ne (by omega) e1, gs_ne (by omega) e2, gs_eq e3, gs_ne (by omega) e4, fun j hj => by obtain ⟨a, F, q1, q2, q3⟩ := e5 j hj; exact ⟨a, F, q1, gs_ne (by omega) q2, q3⟩, gs_ne (by omega) e9, gs_ne (by omega) e10⟩ rfl (by omega)⟩
  · have ez : adX ix = 0 := if_pos ((nI_eq (a := ix) (b := 1048575) (by omega) (by omega)).mp h13)
    refine lv_iconst (v := 0) hx hb d_NS_advance_16 (by decide) ?_
    refine lv_goto (tgt := 29) hx hb d_NS_advance_17 rfl ?_
    refine g_put B hw fl_NS_119 ck_PT e3 rfl rfl rfl (Nat.le_of_ble_eq_true rfl) d_NS_advance_29 (fun H locs hw => ?_)
    have hw : wd D A (wl.set 3 (aP, oPt aD (nI (adX ix)))) s H locs := by rw [ez]; exact hw
    refine lv_aload_n hx hb d_NS_advance_32 rfl (lv_at hl 0 rfl) ?_
    refine g_get B hw fl_NS_28 (gs_ne (by omega) e0) rfl d_NS_advance_33 ?_
    refine g_get B hw fl_NS_119 (gs_eq e3) rfl d_NS_advance_36 ?_
    exact r_i B hw d_NS_advance_39 ⟨rfl, XR.fix hF0 hX hV ⟨gs_ne (by omega) e0, gs_ne (by omega) e1, gs_ne (by omega) e2, gs_eq e3, gs_ne (by omega) e4, fun j hj => by obtain ⟨a, F, q1, q2, q3⟩ := e5 j hj; exact ⟨a, F, q1, gs_ne (by omega) q2, q3⟩, gs_ne (by omega) e9, gs_ne (by omega) e10⟩ rfl (by omega)⟩
end
section
/-! What each call answers, and what it leaves: one function for both sides. -/
def onS {α : Type} (kd : Nat → Int32) (x : Int32) (d : α) (f : Nat → α) : α := match hdS kd x with | none => d | some k => f k
theorem onS_n {α : Type} {kd : Nat → Int32} {x : Int32} {d : α} {f : Nat → α} (h : hdS kd x = none) : onS kd x d f = d := by unfold onS; rw [h]
theorem onS_s {α : Type} {kd : Nat → Int32} {x : Int32} {d : α} {f : Nat → α} {k : Nat} (h : hdS kd x = some k) : onS kd x d f = f k := by unfold onS; rw [h]
def onR {α : Type} (rc : Nat) (x : Int32) (d : α) (f : Nat → α) : α := match rcS rc x with | none => d | some k => f k
theorem onR_n {α : Type} {rc : Nat} {x : Int32} {d : α} {f : Nat → α} (h : rcS rc x = none) : onR rc x d f = d := by unfold onR; rw [h]
theorem onR_s {α : Type} {rc : Nat} {x : Int32} {d : α} {f : Nat → α} {k : Nat} (h : rcS rc x = some k) : onR rc x d f = f k := by unfold onR; rw [h]
def updN (f : Nat → Nat) (k : Nat) (x : Nat) : Nat → Nat := fun j => if j = k then x else f j
theorem updN_s {f : Nat → Nat} {k x : Nat} : updN f k x k = x := if_pos rfl
theorem updN_n {f : Nat → Nat} {k j x : Nat} (h : j ≠ k) : updN f k x j = f j := if_neg h
-- make
def mkC (kd : Nat → Int32) (c a b : Int32) : Nat := if isK c = 0 then 0 else if frI kd < 0 then 0 else if isSt c (fsd c a b) (ssd c a b) = 0 then 1 else 2
def mkA (kd : Nat → Int32) (c a b : Int32) : Int32 := if mkC kd c a b = 0 then -1 else if mkC kd c a b = 1 then -2 else frI kd
def mkK (kd : Nat → Int32) (c a b : Int32) : Nat → Int32 := if mkC kd c a b = 2 then upd kd (frI kd).toNatClampNeg c else kd
def mk1 (kd : Nat → Int32) (f1 : Nat → Int64) (c a b : Int32) : Nat → Int64 := if mkC kd c a b = 2 then vp_updL f1 (frI kd).toNatClampNeg (fsd c a b) else f1
def mk2 (kd : Nat → Int32) (f2 : Nat → Int64) (c a b : Int32) : Nat → Int64 := if mkC kd c a b = 2 then vp_updL f2 (frI kd).toNatClampNeg (ssd c a b) else f2
-- twin
def twA (kd : Nat → Int32) (x : Int32) : Int32 := onS kd x (-1) (fun _ => if frI kd < 0 then -1 else frI kd)
def twK (kd : Nat → Int32) (x : Int32) : Nat → Int32 := onS kd x kd (fun k => if frI kd < 0 then kd else upd kd (frI kd).toNatClampNeg (kd k))
def twL (kd : Nat → Int32) (f : Nat → Int64) (x : Int32) : Nat → Int64 := onS kd x f (fun k => if frI kd < 0 then f else vp_updL f (frI kd).toNatClampNeg (f k))
-- release
def rlA (kd : Nat → Int32) (x : Int32) : Int32 := onS kd x 0 (fun _ => 1)
def rlK (kd : Nat → Int32) (x : Int32) : Nat → Int32 := onS kd x kd (fun k => upd kd k (-1))
-- next
def nxA (kd : Nat → Int32) (f1 f2 : Nat → Int64) (x : Int32) : Int64 := onS kd x (-1) (fun k => nU (otp (kd k) (f1 k) (f2 k)))
def nx1 (kd : Nat → Int32) (f1 f2 : Nat → Int64) (x : Int32) : Nat → Int64 := onS kd x f1 (fun k => vp_updL f1 k (mvF (kd k) (f1 k) (f2 k)))
def nx2 (kd : Nat → Int32) (f1 f2 : Nat → Int64) (x : Int32) : Nat → Int64 := onS kd x f2 (fun k => vp_updL f2 k (mvS (kd k) (f1 k) (f2 k)))
-- jump
def jpB (y : Int32) : Bool := if y < 0 then false else if y ≤ 65535 then true else false
def jpA (kd : Nat → Int32) (x y : Int32) : Int32 := onS kd x 0 (fun _ => bI (jpB y))
def jp1 (kd : Nat → Int32) (f1 f2 : Nat → Int64) (x y : Int32) : Nat → Int64 := onS kd x f1 (fun k => if jpB y then vp_updL f1 k (mvN (kd k) y.toNatClampNeg (f1 k, f2 k)).1 else f1)
def jp2 (kd : Nat → Int32) (f1 f2 : Nat → Int64) (x y : Int32) : Nat → Int64 := onS kd x f2 (fun k => if jpB y then vp_updL f2 k (mvN (kd k) y.toNatClampNeg (f1 k, f2 k)).2 else f2)
-- draw
def drA (kd : Nat → Int32) (f1 f2 : Nat → Int64) (x n : Int32) : Int32 := onS kd x (-1) (fun k => if 1 ≤ n then (bel n (kd k) 8 (f1 k, f2 k)).1 else -1)
def dr1 (kd : Nat → Int32) (f1 f2 : Nat → Int64) (x n : Int32) : Nat → Int64 := onS kd x f1 (fun k => if 1 ≤ n then vp_updL f1 k (bel n (kd k) 8 (f1 k, f2 k)).2.1 else f1)
def dr2 (kd : Nat → Int32) (f1 f2 : Nat → Int64) (x n : Int32) : Nat → Int64 := onS kd x f2 (fun k => if 1 ≤ n then vp_updL f2 k (bel n (kd k) 8 (f1 k, f2 k)).2.2 else f2)
-- same
def smA (kd : Nat → Int32) (f1 f2 : Nat → Int64) (x y : Int32) : Int32 := onS kd x 0 (fun j => onS kd y 0 (fun k => if kd j = kd k then (if f1 j = f1 k then (if f2 j = f2 k then 1 else 0) else 0) else 0))
-- save
def blk (sd : Nat → Int32) (b n : Nat) (w : Nat → Int32) : Nat → Int32 := fun t => if b ≤ t ∧ t < b + n then w (t - b) else sd t
def saA (kd : Nat → Int32) (rc : Nat) (x : Int32) : Int32 := onS kd x (-1) (fun _ => if rc < 6 then nI rc else -1)
def saR (kd : Nat → Int32) (rc : Nat) (x : Int32) : Nat := onS kd x rc (fun _ => if rc < 6 then rc + 1 else rc)
def saZ (kd : Nat → Int32) (rc : Nat) (sz : Nat → Nat) (x : Int32) : Nat → Nat := onS kd x sz (fun k => if rc < 6 then updN sz rc (svN (kd k)) else sz)
def saD (kd : Nat → Int32) (f1 f2 : Nat → Int64) (rc : Nat) (sd : Nat → Int32) (x : Int32) : Nat → Int32 := onS kd x sd (fun k => if rc < 6 then blk sd (6 * rc) (svN (kd k)) (svF (kd k) (f1 k) (f2 k)) else sd)
-- spoil, cut
def spD (rc : Nat) (sz : Nat → Nat) (sd : Nat → Int32) (x i mask : Int32) : Nat → Int32 := if hwB rc sz x i then upd sd (6 * x.toNatClampNeg + i.toNatClampNeg) (sd (6 * x.toNatClampNeg + i.toNatClampNeg) ^^^ mask) else sd
def ctA (rc : Nat) (sz : Nat → Nat) (x : Int32) : Int32 := onR rc x 0 (fun r => if sz r = 0 then 0 else 1)
def ctZ (rc : Nat) (sz : Nat → Nat) (x : Int32) : Nat → Nat := onR rc x sz (fun r => if sz r = 0 then sz else updN sz r (sz r - 1))
-- restore
def wOf (sd : Nat → Int32) (r : Nat) : Nat → Int32 := fun t => sd (6 * r + t)
def rsC (kd : Nat → Int32) (n : Nat) (w : Nat → Int32) : Nat := if flt n w = 0 then (if frI kd < 0 then 1 else 2) else 0
def rsA (kd : Nat → Int32) (rc : Nat) (sz : Nat → Nat) (sd : Nat → Int32) (x : Int32) : Int32 := onR rc x (-1) (fun r => if rsC kd (sz r) (wOf sd r) = 0 then flt (sz r) (wOf sd r) else if rsC kd (sz r) (wOf sd r) = 1 then -6 else frI kd)
def rsK (kd : Nat → Int32) (rc : Nat) (sz : Nat → Nat) (sd : Nat → Int32) (x : Int32) : Nat → Int32 := onR rc x kd (fun r => if rsC kd (sz r) (wOf sd r) = 2 then upd kd (frI kd).toNatClampNeg (wkd (wOf sd r)) else kd)
def rs1 (kd : Nat → Int32) (f1 : Nat → Int64) (rc : Nat) (sz : Nat → Nat) (sd : Nat → Int32) (x : Int32) : Nat → Int64 := onR rc x f1 (fun r => if rsC kd (sz r) (wOf sd r) = 2 then vp_updL f1 (frI kd).toNatClampNeg (wF1 (wOf sd r)) else f1)
def rs2 (kd : Nat → Int32) (f2 : Nat → Int64) (rc : Nat) (sz : Nat → Nat) (sd : Nat → Int32) (x : Int32) : Nat → Int64 := onR rc x f2 (fun r => if rsC kd (sz r) (wOf sd r) = 2 then vp_updL f2 (frI kd).toNatClampNeg (wF2 (wOf sd r)) else f2)
-- coordinate
def coA (ix : Nat) (d : Int32) : Int64 := if d = 0 then nU (joN 0 (grC (nI ix)) 20) else if d = 1 then nU (joN 1 (grC (nI ix)) 20) else if d = 2 then nU (joN 2 (grC (nI ix)) 20) else if d = 3 then nU (joN 3 (grC (nI ix)) 20) else if d = 4 then lN (tuN 3 13 (0, ix)).1 else if d = 5 then lN (tuN 5 9 (0, ix)).1 else -1
-- pick
def piA (kd : Nat → Int32) (f1 f2 : Nat → Int64) (wt : Nat → Int32) (x : Int32) : Int32 := onS kd x (-1) (fun k => if 1 ≤ toW wt 16 then ocN wt (bel (toW wt 16) (kd k) 8 (f1 k, f2 k)).1 0 16 else -1)
-- shuffle
def swp (cd : Nat → Int32) (i j : Nat) : Nat → Int32 := upd (upd cd i (cd j)) j (cd i)
def shN (k : Int32) : Nat → (Nat → Int32) × Int64 × Int64 → (Nat → Int32) × Int64 × Int64
  | 0, t => t
  | i + 1, t => shN k i (swp t.1 (i + 1) (bel (nI (i + 2)) k 8 t.2).1.toNatClampNeg, (bel (nI (i + 2)) k 8 t.2).2)
def shC (kd : Nat → Int32) (f1 f2 : Nat → Int64) (cd : Nat → Int32) (x : Int32) : Nat → Int32 := onS kd x cd (fun k => (shN (kd k) 15 (cd, f1 k, f2 k)).1)
def sh1 (kd : Nat → Int32) (f1 f2 : Nat → Int64) (cd : Nat → Int32) (x : Int32) : Nat → Int64 := onS kd x f1 (fun k => vp_updL f1 k (shN (kd k) 15 (cd, f1 k, f2 k)).2.1)
def sh2 (kd : Nat → Int32) (f1 f2 : Nat → Int64) (cd : Nat → Int32) (x : Int32) : Nat → Int64 := onS kd x f2 (fun k => vp_updL f2 k (shN (kd k) 15 (cd, f1 k, f2 k)).2.2)
/-- the sum of the weights -/
theorem toW_nI {wt : Nat → Int32} (hw : ∀ k, k < 16 → ∃ v : Nat, v ≤ 1000000 ∧ wt k = nI v) : ∀ n, n ≤ 16 → ∃ T : Nat, T ≤ 1000000 * n ∧ toW wt n = nI T
  | 0, _ => ⟨0, by omega, nI_0.symm⟩
  | n + 1, hn => by
    obtain ⟨T, h1, h2⟩ := toW_nI hw n (by omega)
    obtain ⟨v, h3, h4⟩ := hw n (by omega)
    refine ⟨T + v, by omega, ?_⟩
    show toW wt n + wt n = _
    rw [h2, h4, nI_add]
/-- what restore reads of the words: no more than there are -/
theorem ckN_congr {w v : Nat → Int32} : ∀ n, (∀ t, t < n → w t = v t) → ckN w n = ckN v n
  | 0, _ => rfl
  | n + 1, h => by
    show 31 * ckN w n + w n = 31 * ckN v n + v n
    rw [ckN_congr n (fun t ht => h t (by omega)), h n (by omega)]
theorem ptA_congr {w v : Nat → Int32} {a n : Nat} {b : Int32} (h : ∀ t, t < n → w t = v t) (ha : a + apN b ≤ n) : ptA w a b = ptA v a b := by
  unfold ptA
  by_cases hb : b = 0
  · have := apN_1 hb
    rw [if_pos hb, if_pos hb, h a (by omega)]
  · have := apN_2 hb
    rw [if_neg hb, if_neg hb, h a (by omega), h (a + 1) (by omega)]
theorem wk_congr {w v : Nat → Int32} {n : Nat} (h : ∀ t, t < n → w t = v t) (hn : 0 < n) : wkd w = wkd v := by unfold wkd; rw [h 0 hn]
theorem wF_congr {w v : Nat → Int32} {n : Nat} (h : ∀ t, t < n → w t = v t) (hn : n = 2 + apN (isFL (wkd w)) + apN (isSL (wkd w))) : wF1 w = wF1 v ∧ wF2 w = wF2 v := by
  have a1 := apN_12 (isFL (wkd w))
  have a2 := apN_12 (isSL (wkd w))
  have e := wk_congr h (by omega)
  unfold wF1 wF2
  rw [← e]
  exact ⟨ptA_congr h (by omega), ptA_congr h (by omega)⟩
theorem flt_congr {w v : Nat → Int32} {n : Nat} (h6 : n ≤ 6) (h : ∀ t, t < n → w t = v t) : flt n w = flt n v := by
  unfold flt
  by_cases h0 : n = 0
  · rw [if_pos h0, if_pos h0]
  · have e := wk_congr h (by omega)
    rw [if_neg h0, if_neg h0, ← e]
    by_cases hk : isK (wkd w) = 0
    · rw [if_pos hk, if_pos hk]
    · rw [if_neg hk, if_neg hk]
      by_cases hn : nI n = wOK (wkd w)
      · have a1 := apN_12 (isFL (wkd w))
        have a2 := apN_12 (isSL (wkd w))
        have hn2 := hn
        rw [wOK_nI, nI_eq (by omega) (by omega)] at hn2
        obtain ⟨w1, w2⟩ := wF_congr h hn2
        have c1 : ckF w (n - 1) = ckF v (n - 1) := by unfold ckF; rw [ckN_congr (n - 1) (fun t ht => h t (by omega))]
        rw [if_pos hn, if_pos hn, h (n - 1) (by omega), c1, w1, w2]
      · rw [if_neg hn, if_neg hn]
theorem flt_0 {w : Nat → Int32} {n : Nat} (h6 : n ≤ 6) (h : flt n w = 0) : n = 2 + apN (isFL (wkd w)) + apN (isSL (wkd w)) ∧ ¬ isK (wkd w) = 0 ∧ ¬ isSt (wkd w) (wF1 w) (wF2 w) = 0 := by
  unfold flt at h
  by_cases h0 : n = 0
  · rw [if_pos h0] at h; exact absurd h (by decide)
  · rw [if_neg h0] at h
    by_cases hk : isK (wkd w) = 0
    · rw [if_pos hk] at h; exact absurd h (by decide)
    · rw [if_neg hk] at h
      by_cases hn : nI n = wOK (wkd w)
      · have a1 := apN_12 (isFL (wkd w))
        have a2 := apN_12 (isSL (wkd w))
        have hn2 := hn
        rw [wOK_nI, nI_eq (by omega) (by omega)] at hn2
        rw [if_pos hn] at h
        by_cases hc : w (n - 1) = ckF w (n - 1)
        · rw [if_pos hc] at h
          by_cases hs : isSt (wkd w) (wF1 w) (wF2 w) = 0
          · rw [if_pos hs] at h; exact absurd h (by decide)
          · exact ⟨hn2, hk, hs⟩
        · rw [if_neg hc] at h; exact absurd h (by decide)
      · rw [if_neg hn] at h; exact absurd h (by decide)
theorem isK_3 {k : Int32} (h : ¬ isK k = 0) : ¬ k < 0 ∧ k ≤ 3 := by
  unfold isK at h
  by_cases h0 : k < 0
  · rw [if_pos h0] at h; exact absurd rfl h
  · rw [if_neg h0] at h
    by_cases h3 : 3 < k
    · rw [if_pos h3] at h; exact absurd rfl h
    · exact ⟨h0, Int32.not_lt.mp h3⟩
end
section
/-! NumberStreams: the streams' calls. -/
theorem sw6 (x : Int32) : x = 0 ∨ x = 1 ∨ x = 2 ∨ x = 3 ∨ x = 4 ∨ x = 5 ∨ ((x.toInt < 0 ∨ 5 < x.toInt) ∧ ¬ x = 0 ∧ ¬ x = 1 ∧ ¬ x = 2 ∧ ¬ x = 3 ∧ ¬ x = 4 ∧ ¬ x = 5) := by
  rcases sw4 x with h | h | h | h | ⟨h, h0, h1, h2, h3⟩
  · exact Or.inl h
  · exact Or.inr (Or.inl h)
  · exact Or.inr (Or.inr (Or.inl h))
  · exact Or.inr (Or.inr (Or.inr (Or.inl h)))
  rcases Classical.em (x = 4) with h4 | h4
  · exact Or.inr (Or.inr (Or.inr (Or.inr (Or.inl h4))))
  rcases Classical.em (x = 5) with h5 | h5
  · exact Or.inr (Or.inr (Or.inr (Or.inr (Or.inr (Or.inl h5)))))
  have a4 := lv_neT h4 (show (4 : Int32).toInt = 4 by decide)
  have a5 := lv_neT h5 (show (5 : Int32).toInt = 5 by decide)
  exact Or.inr (Or.inr (Or.inr (Or.inr (Or.inr (Or.inr ⟨by omega, h0, h1, h2, h3, h4, h5⟩)))))
theorem mvN_go {k : Int32} {n j : Nat} (h : j < n) (t : Int64 × Int64) : mvN k (n - j) t = mvN k (n - (j + 1)) (mvF k t.1 t.2, mvS k t.1 t.2) := by
  rw [show n - j = (n - (j + 1)) + 1 by omega]
  rfl
theorem shN_go {k : Int32} {i : Nat} (h : 0 < i) (t : (Nat → Int32) × Int64 × Int64) : shN k i t = shN k (i - 1) (swp t.1 i (bel (nI (i + 1)) k 8 t.2).1.toNatClampNeg, (bel (nI (i + 1)) k 8 t.2).2) := by
  obtain ⟨j, rfl⟩ : ∃ j, i = j + 1 := ⟨i - 1, by omega⟩
  rfl
theorem shN_gx {k : Int32} {i j : Nat} {c : Nat → Int32} {F G b2 b3 : Int64} (h : 0 < i) (hb : bel (nI (i + 1)) k 8 (F, G) = (nI j, b2, b3)) (hj : j < 2 ^ 31) : shN k i (c, F, G) = shN k (i - 1) (swp c i j, b2, b3) := by
  rw [shN_go h]
  show shN k (i - 1) (swp c i (bel (nI (i + 1)) k 8 (F, G)).1.toNatClampNeg, (bel (nI (i + 1)) k 8 (F, G)).2) = _
  rw [hb]
  show shN k (i - 1) (swp c i (nI j).toNatClampNeg, b2, b3) = _
  rw [nI_clamp hj]
theorem pos_of {y : Int32} (h : 1 ≤ y) : ∃ N : Nat, 0 < N ∧ N < 2 ^ 31 ∧ y = nI N := by
  have h1 : (1 : Int32).toInt = 1 := by decide
  have h0 : (0 : Int32).toInt = 0 := by decide
  rw [Int32.le_iff_toInt_le, h1] at h
  obtain ⟨N, hN, rfl⟩ := nI_of (x := y) (by rw [Int32.lt_iff_toInt_lt, h0]; omega)
  rw [nI_toInt hN] at h
  exact ⟨N, by omega, hN, rfl⟩
theorem fr_of {kd : Nat → Int32} (h : 0 ≤ frI kd) : ∃ k, k < 8 ∧ kd k < 0 ∧ frI kd = nI k ∧ ¬ frI kd < 0 := by
  rcases frI_case kd with q | ⟨k, h1, h2, h3⟩
  · rw [q] at h; exact absurd h (by decide)
  · exact ⟨k, h1, h2, h3, by rw [h3]; exact nI_pos (by omega)⟩
theorem fr_no {kd : Nat → Int32} (h : ¬ 0 ≤ frI kd) : frI kd < 0 := Int32.not_le.mp h
theorem set_last {w : va_W} {x y : Nat × va_E} : (w ++ [x]).set w.length y = w ++ [y] := by
  rw [List.set_append_right _ _ (Nat.le_refl _), Nat.sub_self]
  rfl
theorem s10 {w : va_W} {i j : Nat} {x y z : Nat × va_E} (h : i ≠ j) : ((w.set i x).set j y).set i z = (w.set i z).set j y := by
  rw [List.set_comm _ _ h.symm, List.set_set]
theorem tuN_lt {b : Nat} (hb : 0 < b) (i : Nat) : ∀ n, (tuN b n (0, i)).1 < b ^ n
  | 0 => by show 0 < b ^ 0; simp
  | n + 1 => by
    have h := tuN_lt hb i n
    have h2 := Nat.mod_lt (tuN b n (0, i)).2 hb
    show (tuN b n (0, i)).1 * b + (tuN b n (0, i)).2 % b < b ^ (n + 1)
    have h3 : ((tuN b n (0, i)).1 + 1) * b ≤ b ^ n * b := Nat.mul_le_mul_right b h
    rw [Nat.pow_succ]
    rw [Nat.succ_mul] at h3
    omega
theorem coA_0 (ix : Nat) : coA ix 0 = nU (joN 0 (grC (nI ix)) 20) := if_pos rfl
theorem coA_1 (ix : Nat) : coA ix 1 = nU (joN 1 (grC (nI ix)) 20) := by unfold coA; rw [if_neg (by decide), if_pos rfl]
theorem coA_2 (ix : Nat) : coA ix 2 = nU (joN 2 (grC (nI ix)) 20) := by unfold coA; rw [if_neg (by decide), if_neg (by decide), if_pos rfl]
theorem coA_3 (ix : Nat) : coA ix 3 = nU (joN 3 (grC (nI ix)) 20) := by unfold coA; rw [if_neg (by decide), if_neg (by decide), if_neg (by decide), if_pos rfl]
theorem coA_4 (ix : Nat) : coA ix 4 = lN (tuN 3 13 (0, ix)).1 := by unfold coA; rw [if_neg (by decide), if_neg (by decide), if_neg (by decide), if_neg (by decide), if_pos rfl]
theorem coA_5 (ix : Nat) : coA ix 5 = lN (tuN 5 9 (0, ix)).1 := by unfold coA; rw [if_neg (by decide), if_neg (by decide), if_neg (by decide), if_neg (by decide), if_neg (by decide), if_pos rfl]
theorem coA_n {ix : Nat} {d : Int32} (n0 : ¬ d = 0) (n1 : ¬ d = 1) (n2 : ¬ d = 2) (n3 : ¬ d = 3) (n4 : ¬ d = 4) (n5 : ¬ d = 5) : coA ix d = -1 := by unfold coA; rw [if_neg n0, if_neg n1, if_neg n2, if_neg n3, if_neg n4, if_neg n5]
theorem tu3 (ix : Nat) : (nI (tuN 3 13 (0, ix)).1).toInt64 = lN (tuN 3 13 (0, ix)).1 := i64_nI (Nat.lt_trans (tuN_lt (by omega) ix 13) (by decide))
theorem tu5 (ix : Nat) : (nI (tuN 5 9 (0, ix)).1).toInt64 = lN (tuN 5 9 (0, ix)).1 := i64_nI (Nat.lt_trans (tuN_lt (by omega) ix 9) (by decide))
theorem XR.mix {K : Nat → ClassId} {h aS aR aP aD aW aC rc ix : Nat} {g rr gd : Nat → Option Nat} {wt cd kd sd : Nat → Int32} {f1 f2 : Nat → Int64} {sz ra wa : Nat → Nat} {wl : va_W} (hF : XF K h aS aR aP aD aW aC rc g rr gd ix wt cd wl) (hX : XS kd f1 f2 g wl) (hV : XV K rc sz sd rr ra wa wl) {k a i : Nat} (hk : k < 8) (hkd : ¬ kd k < 0) (hg : g k = some a) (hi : wl[i]? = some (a, oSt (kd k) (f1 k) (f2 k))) (F G : Int64) (c : Nat → Int32) : XR K h kd (vp_updL f1 k F) (vp_updL f2 k G) rc sz sd ix wt c ((wl.set 10 (aC, arI K 16 c)).set i (a, oSt (kd k) F G)) := by
  have h10 := hF.st hi (by omega)
  have hF0 := hF
  obtain ⟨e0, e1, e2, e3, e4, e5, e9, e10⟩ := hF
  have hF2 : XF K h aS aR aP aD aW aC rc g rr gd ix wt c (wl.set 10 (aC, arI K 16 c)) := ⟨gs_ne (by omega) e0, gs_ne (by omega) e1, gs_ne (by omega) e2, gs_ne (by omega) e3, gs_ne (by omega) e4, fun j hj => by obtain ⟨b, E, q1, q2, q3⟩ := e5 j hj; exact ⟨b, E, q1, gs_ne (by omega) q2, q3⟩, gs_ne (by omega) e9, gs_eq e10⟩
  exact XR.step hF2 (hX.keep (fun j b c f1 f2 hx => gs_ne (by have := hF0.st hx (by omega); omega) hx)) (hV.keep (fun j b c n hx => gs_ne (by have := hF0.st hx (by omega); omega) hx) (fun j b w hx => gs_ne (by have := hF0.wd hx; omega) hx)) hk hkd hg (gs_ne (by omega) hi) F G
set_option maxRecDepth 100000 in
set_option maxHeartbeats 4000000 in
theorem c_NS_release {l : Launch} {D : va_G} {K : Nat → ClassId} {A : Nat → Prop} {wl : va_W} {h rc ix : Nat} {kd sd wt cd : Nat → Int32} {f1 f2 : Nat → Int64} {sz : Nat → Nat} (hR : XR K h kd f1 f2 rc sz sd ix wt cd wl) {x : Int32} : ctI l y_NS_release prog_1_method_4_code 2 (some .boolean) 1 0 0 [.ref h, .int x] D K A (wl) (fun r w => r = rlA kd x ∧ XR K h (rlK kd x) f1 f2 rc sz sd ix wt cd w) := by
  refine mt_of (by decide) (Nat.le_of_ble_eq_true rfl) ?_
  intro p e s m below meth c ls B hw hl
  have hx := B.1
  have hb := B.2.1
  have hl : lv_has ls 2 [(0, .ref h), (1, .int x)] := hl
  have hR0 := hR
  obtain ⟨aS, aR, aP, aD, aW, aC, g, rr, gd, ra, wa, hF, hX, hV⟩ := hR
  have hF0 := hF
  obtain ⟨e0, e1, e2, e3, e4, e5, e9, e10⟩ := hF
  refine lv_aload_n hx hb d_NS_release_0 rfl (lv_at hl 0 rfl) ?_
  refine lv_iload_n hx hb d_NS_release_1 rfl (lv_at hl 1 rfl) ?_
  refine k_q (k_runV B hw (c_NS_streamAt hF0) rfl rfl cf_NS_61 e0 rfl rfl ⟨Nat.le_of_ble_eq_true rfl, Nat.le_of_ble_eq_true rfl⟩ rfl hl.1 rfl (Nat.le_of_ble_eq_true rfl) d_NS_release_2 ⟨Nat.le_of_ble_eq_true rfl, Nat.le_of_ble_eq_true rfl⟩) hw (fun r2 w1 H locs hq hw => ?_)
  obtain ⟨rfl, ew⟩ := hq
  rw [ew] at hw
  rcases st_case hX x with ⟨hn, hz⟩ | ⟨k, hk, rfl, hn, hkd, a, iq, hga, hz, hi⟩
  · rw [hz, va_rf_none]
    refine lv_ifnonnullN hx hb d_NS_release_5 ?_
    refine lv_iconst (v := 0) hx hb d_NS_release_8 (by decide) ?_
    exact r_z B hw (by decide) d_NS_release_9 ⟨by unfold rlA; rw [onS_n hn], by unfold rlK; rw [onS_n hn]; exact hR0⟩
  · rw [hz, va_rf_some]
    have h10 := hF0.st hi (by omega)
    refine lv_ifnonnull (tgt := 10) hx hb d_NS_release_5 rfl ?_
    refine lv_aload_n hx hb d_NS_release_10 rfl (lv_at hl 0 rfl) ?_
    refine g_get B hw fl_NS_11 e0 rfl d_NS_release_11 ?_
    refine lv_iload_n hx hb d_NS_release_14 rfl (lv_at hl 1 rfl) ?_
    refine lv_null hx hb d_NS_release_15 ?_
    refine g_aastN 2 B hw e1 rfl (vp_in_nI hk (by omega)) d_NS_release_16 (fun H locs hw => ?_)
    rw [nI_clamp (by omega)] at hw
    refine lv_iconst (v := 1) hx hb d_NS_release_17 (by decide) ?_
    exact r_z B hw (by decide) d_NS_release_18 ⟨by unfold rlA; rw [onS_s hn], by unfold rlK; rw [onS_s hn]; exact XR.free hF0 hX hV hk⟩
set_option maxRecDepth 100000 in
set_option maxHeartbeats 4000000 in
theorem c_NS_next {l : Launch} {D : va_G} {K : Nat → ClassId} {A : Nat → Prop} {wl : va_W} {h rc ix : Nat} {kd sd wt cd : Nat → Int32} {f1 f2 : Nat → Int64} {sz : Nat → Nat} (hR : XR K h kd f1 f2 rc sz sd ix wt cd wl) {x : Int32} : ctL l y_NS_next prog_1_method_5_code 3 4 0 0 [.ref h, .int x] D K A (wl) (fun r w => r = nxA kd f1 f2 x ∧ XR K h kd (nx1 kd f1 f2 x) (nx2 kd f1 f2 x) rc sz sd ix wt cd w) := by
  refine mt_of (by decide) (Nat.le_of_ble_eq_true rfl) ?_
  intro p e s m below meth c ls B hw hl
  have hx := B.1
  have hb := B.2.1
  have hl : lv_has ls 3 [(0, .ref h), (1, .int x)] := hl
  have hR0 := hR
  obtain ⟨aS, aR, aP, aD, aW, aC, g, rr, gd, ra, wa, hF, hX, hV⟩ := hR
  have hF0 := hF
  obtain ⟨e0, e1, e2, e3, e4, e5, e9, e10⟩ := hF
  refine lv_aload_n hx hb d_NS_next_0 rfl (lv_at hl 0 rfl) ?_
  refine lv_iload_n hx hb d_NS_next_1 rfl (lv_at hl 1 rfl) ?_
  refine k_q (k_runV B hw (c_NS_streamAt hF0) rfl rfl cf_NS_61 e0 rfl rfl ⟨Nat.le_of_ble_eq_true rfl, Nat.le_of_ble_eq_true rfl⟩ rfl hl.1 rfl (Nat.le_of_ble_eq_true rfl) d_NS_next_2 ⟨Nat.le_of_ble_eq_true rfl, Nat.le_of_ble_eq_true rfl⟩) hw (fun r2 w1 H locs hq hw => ?_)
  obtain ⟨rfl, ew⟩ := hq
  rw [ew] at hw
  rcases st_case hX x with ⟨hn, hz⟩ | ⟨k, hk, rfl, hn, hkd, a, iq, hga, hz, hi⟩
  · rw [hz, va_rf_none]
    refine lv_astore_nN hx hb d_NS_next_5 rfl hl (by decide) rfl (fun ls (hl : lv_has ls 3 [(2, .null), (0, .ref _), (1, .int _)]) => ?_)
    refine lv_aload_nN hx hb d_NS_next_6 rfl (lv_at hl 0 rfl) ?_
    refine lv_ifnonnullN hx hb d_NS_next_7 ?_
    refine g_ldc2 B kc_NS_75 d_NS_next_10 ?_
    exact r_l B hw d_NS_next_13 ⟨by unfold nxA; rw [onS_n hn], by unfold nx1 nx2; rw [onS_n hn, onS_n hn]; exact hR0⟩
  · rw [hz, va_rf_some]
    have h10 := hF0.st hi (by omega)
    refine lv_astore_n hx hb d_NS_next_5 rfl hl (by decide) rfl (fun ls (hl : lv_has ls 3 [(2, .ref _), (0, .ref _), (1, .int _)]) => ?_)
    refine lv_aload_n hx hb d_NS_next_6 rfl (lv_at hl 0 rfl) ?_
    refine lv_ifnonnull (tgt := 14) hx hb d_NS_next_7 rfl ?_
    refine lv_aload_n hx hb d_NS_next_14 rfl (lv_at hl 0 rfl) ?_
    refine k_i (k_runV B hw (c_ST_step hi) rfl rfl cf_NS_77 hi rfl rfl ⟨Nat.le_of_ble_eq_true rfl, Nat.le_of_ble_eq_true rfl⟩ rfl hl.1 rfl (Nat.le_of_ble_eq_true rfl) d_NS_next_15 ⟨Nat.le_of_ble_eq_true rfl, Nat.le_of_ble_eq_true rfl⟩) hw (fun r15 w1 H locs hq hw => ?_)
    obtain ⟨rfl, ew⟩ := hq
    rw [ew] at hw
    refine k_l (k_runS B hw c_NS_asNumber rfl rfl cf_NS_80 ⟨Nat.le_of_ble_eq_true rfl, Nat.le_of_ble_eq_true rfl⟩ rfl hl.1 rfl (Nat.le_of_ble_eq_true rfl) d_NS_next_18 ⟨Nat.le_of_ble_eq_true rfl, Nat.le_of_ble_eq_true rfl⟩) hw (fun r18 w1 H locs hq hw => ?_)
    obtain ⟨rfl, ew⟩ := hq
    rw [ew] at hw
    exact r_l B hw d_NS_next_21 ⟨by unfold nxA; rw [onS_s hn], by unfold nx1 nx2; rw [onS_s hn, onS_s hn]; exact XR.step hF0 hX hV hk hkd hga hi _ _⟩
set_option maxRecDepth 100000 in
set_option maxHeartbeats 4000000 in
theorem c_NS_jump {l : Launch} {D : va_G} {K : Nat → ClassId} {A : Nat → Prop} {wl : va_W} {h rc ix : Nat} {kd sd wt cd : Nat → Int32} {f1 f2 : Nat → Int64} {sz : Nat → Nat} (hR : XR K h kd f1 f2 rc sz sd ix wt cd wl) {x y : Int32} : ctI l y_NS_jump prog_1_method_6_code 5 (some .boolean) 3 0 0 [.ref h, .int x, .int y] D K A (wl) (fun r w => r = jpA kd x y ∧ XR K h kd (jp1 kd f1 f2 x y) (jp2 kd f1 f2 x y) rc sz sd ix wt cd w) := by
  refine mt_of (by decide) (Nat.le_of_ble_eq_true rfl) ?_
  intro p e s m below meth c ls B hw hl
  have hx := B.1
  have hb := B.2.1
  have hl : lv_has ls 5 [(0, .ref h), (1, .int x), (2, .int y)] := hl
  have hR0 := hR
  obtain ⟨aS, aR, aP, aD, aW, aC, g, rr, gd, ra, wa, hF, hX, hV⟩ := hR
  have hF0 := hF
  obtain ⟨e0, e1, e2, e3, e4, e5, e9, e10⟩ := hF
  refine lv_aload_n hx hb d_NS_jump_0 rfl (lv_at hl 0 rfl) ?_
  refine lv_iload_n hx hb d_NS_jump_1 rfl (lv_at hl 1 rfl) ?_
  refine k_q (k_runV B hw (c_NS_streamAt hF0) rfl rfl cf_NS_61 e0 rfl rfl ⟨Nat.le_of_ble_eq_true rfl, Nat.le_of_ble_eq_true rfl⟩ rfl hl.1 rfl (Nat.le_of_ble_eq_true rfl) d_NS_jump_2 ⟨Nat.le_of_ble_eq_true rfl, Nat.le_of_ble_eq_true rfl⟩) hw (fun r2 w1 H locs hq hw => ?_)
  obtain ⟨rfl, ew⟩ := hq
  rw [ew] at hw
  rcases st_case hX x with ⟨hn, hz⟩ | ⟨k, hk, rfl, hn, hkd, a, iq, hga, hz, hi⟩
  · rw [hz, va_rf_none]
    refine lv_astore_nN hx hb d_NS_jump_5 rfl hl (by decide) rfl (fun ls (hl : lv_has ls 5 [(3, .null), (0, .ref _), (1, .int _), (2, .int _)]) => ?_)
    refine lv_aload_nN hx hb d_NS_jump_6 rfl (lv_at hl 0 rfl) ?_
    refine lv_ifnullN (tgt := 20) hx hb d_NS_jump_7 rfl ?_
    refine lv_iconst (v := 0) hx hb d_NS_jump_20 (by decide) ?_
    exact r_z B hw (by decide) d_NS_jump_21 ⟨by unfold jpA; rw [onS_n hn], by unfold jp1 jp2; rw [onS_n hn, onS_n hn]; exact hR0⟩
  · rw [hz, va_rf_some]
    have h10 := hF0.st hi (by omega)
    refine lv_astore_n hx hb d_NS_jump_5 rfl hl (by decide) rfl (fun ls (hl : lv_has ls 5 [(3, .ref _), (0, .ref _), (1, .int _), (2, .int _)]) => ?_)
    refine lv_aload_n hx hb d_NS_jump_6 rfl (lv_at hl 0 rfl) ?_
    refine lv_ifnull hx hb d_NS_jump_7 ?_
    refine lv_iload_n hx hb d_NS_jump_10 rfl (lv_at hl 3 rfl) ?_
    refine lv_if_lt (tgt := 20) hx hb d_NS_jump_11 rfl (fun h11 => ?_) (fun h11 => ?_)
    · have ez : jpB y = false := if_pos h11
      refine lv_iconst (v := 0) hx hb d_NS_jump_20 (by decide) ?_
      exact r_z B hw (by decide) d_NS_jump_21 ⟨by unfold jpA; rw [onS_s hn, ez]; rfl, by unfold jp1 jp2; rw [onS_s hn, onS_s hn]; (try dsimp only); rw [ez]; exact hR0⟩
    · have ez : jpB y = _ := if_neg h11
      refine lv_iload_n hx hb d_NS_jump_14 rfl (lv_at hl 3 rfl) ?_
      refine g_ldc B kc_NS_84 d_NS_jump_15 ?_
      refine lv_icmp_le (tgt := 22) hx hb d_NS_jump_17 rfl (fun h17 => ?_) (fun h17 => ?_)
      · rw [if_pos h17] at ez
        obtain ⟨N, hN, rfl⟩ := nI_of h11
        have h17 : N ≤ 65535 := (nI_leI (b := 65535) (by omega) (by omega)).mp h17
        refine lv_iconst (v := 0) hx hb d_NS_jump_22 (by decide) ?_
        refine lv_istore hx hb d_NS_jump_23 hl (by decide) rfl (fun ls (hl : lv_has ls 5 [(4, .int _), (3, .ref _), (0, .ref _), (1, .int _), (2, .int _)]) => ?_)
        refine lp_w (σ := Nat × Int64 × Int64) (fun z => N - z.1) (fun z H locs ls => z.1 ≤ N ∧ mvN (kd k) N (f1 k, f2 k) = mvN (kd k) (N - z.1) z.2 ∧ lv_has ls 5 [(4, .int (nI z.1)), (3, .ref a), (0, .ref h), (1, .int (nI k)), (2, .int (nI N))] ∧ wd D A (wl.set iq (a, oSt (kd k) z.2.1 z.2.2)) s H locs) ?_ (0, f1 k, f2 k) _ _ _ ⟨by show 0 ≤ N; omega, rfl, lv_sub hl [0, 1, 2, 3, 4] rfl, by show wd D A (wl.set iq (a, oSt (kd k) (f1 k) (f2 k))) s _ _; rw [set_self hi]; exact hw⟩
        rintro ⟨j, F, G⟩ H locs ls ⟨hj, hmv, hl, hw⟩ ih
        dsimp only at hj hmv hl hw
        refine lv_iload hx hb d_NS_jump_25 (lv_at hl 0 rfl) ?_
        refine lv_iload_n hx hb d_NS_jump_27 rfl (lv_at hl 4 rfl) ?_
        refine lv_icmp_ge (tgt := 41) hx hb d_NS_jump_28 rfl (fun h28 => ?_) (fun h28 => ?_)
        · have h28 : N ≤ j := (nI_leI (by omega) (by omega)).mp h28
          have hjN : j = N := by omega
          rw [hjN, Nat.sub_self] at hmv
          have hmv : mvN (kd k) N (f1 k, f2 k) = (F, G) := hmv
          refine lv_iconst (v := 1) hx hb d_NS_jump_41 (by decide) ?_
          exact r_z B hw (by decide) d_NS_jump_42 ⟨by unfold jpA; rw [onS_s hn, ez]; rfl, by unfold jp1 jp2; rw [onS_s hn, onS_s hn]; (try dsimp only); rw [ez, if_pos rfl, if_pos rfl, nI_clamp (by omega), hmv]; exact XR.step hF0 hX hV hk hkd hga hi _ _⟩
        · have h28 : j < N := Nat.lt_of_not_le (fun q => h28 ((nI_leI (by omega) (by omega)).mpr q))
          refine lv_aload_n hx hb d_NS_jump_31 rfl (lv_at hl 1 rfl) ?_
          refine k_v (k_runV B hw (c_ST_move (gs_eq hi)) rfl rfl cf_NS_85 (gs_eq hi) rfl rfl ⟨Nat.le_of_ble_eq_true rfl, Nat.le_of_ble_eq_true rfl⟩ rfl hl.1 rfl (Nat.le_of_ble_eq_true rfl) d_NS_jump_32 ⟨Nat.le_of_ble_eq_true rfl, Nat.le_of_ble_eq_true rfl⟩) hw (fun w1 H locs hq hw => ?_)
          rw [hq, List.set_set] at hw
          refine lv_iinc (k := 0) hx hb d_NS_jump_35 hl rfl (show nI j + Int32.ofInt 1 = nI (j + 1) from (nI_succ j).symm) (by decide) rfl (fun ls (hl : lv_has ls 5 [(4, .int (nI (j + 1))), (3, .ref _), (0, .ref _), (1, .int _), (2, .int _)]) => ?_)
          refine lv_goto (tgt := 25) hx hb d_NS_jump_38 rfl ?_
          exact ih (j + 1, mvF (kd k) F G, mvS (kd k) F G) _ _ _ (by show N - (j + 1) < N - j; omega) ⟨by show j + 1 ≤ N; omega, hmv.trans (mvN_go h28 _), lv_sub hl [0, 1, 2, 3, 4] rfl, hw⟩
      · rw [if_neg h17] at ez
        refine lv_iconst (v := 0) hx hb d_NS_jump_20 (by decide) ?_
        exact r_z B hw (by decide) d_NS_jump_21 ⟨by unfold jpA; rw [onS_s hn, ez]; rfl, by unfold jp1 jp2; rw [onS_s hn, onS_s hn]; (try dsimp only); rw [ez]; exact hR0⟩
set_option maxRecDepth 100000 in
set_option maxHeartbeats 4000000 in
theorem c_NS_draw {l : Launch} {D : va_G} {K : Nat → ClassId} {A : Nat → Prop} {wl : va_W} {h rc ix : Nat} {kd sd wt cd : Nat → Int32} {f1 f2 : Nat → Int64} {sz : Nat → Nat} (hR : XR K h kd f1 f2 rc sz sd ix wt cd wl) {x y : Int32} : ctI l y_NS_draw prog_1_method_7_code 4 (some .int) 5 0 0 [.ref h, .int x, .int y] D K A (wl) (fun r w => r = drA kd f1 f2 x y ∧ XR K h kd (dr1 kd f1 f2 x y) (dr2 kd f1 f2 x y) rc sz sd ix wt cd w) := by
  refine mt_of (by decide) (Nat.le_of_ble_eq_true rfl) ?_
  intro p e s m below meth c ls B hw hl
  have hx := B.1
  have hb := B.2.1
  have hl : lv_has ls 4 [(0, .ref h), (1, .int x), (2, .int y)] := hl
  have hR0 := hR
  obtain ⟨aS, aR, aP, aD, aW, aC, g, rr, gd, ra, wa, hF, hX, hV⟩ := hR
  have hF0 := hF
  obtain ⟨e0, e1, e2, e3, e4, e5, e9, e10⟩ := hF
  refine lv_aload_n hx hb d_NS_draw_0 rfl (lv_at hl 0 rfl) ?_
  refine lv_iload_n hx hb d_NS_draw_1 rfl (lv_at hl 1 rfl) ?_
  refine k_q (k_runV B hw (c_NS_streamAt hF0) rfl rfl cf_NS_61 e0 rfl rfl ⟨Nat.le_of_ble_eq_true rfl, Nat.le_of_ble_eq_true rfl⟩ rfl hl.1 rfl (Nat.le_of_ble_eq_true rfl) d_NS_draw_2 ⟨Nat.le_of_ble_eq_true rfl, Nat.le_of_ble_eq_true rfl⟩) hw (fun r2 w1 H locs hq hw => ?_)
  obtain ⟨rfl, ew⟩ := hq
  rw [ew] at hw
  rcases st_case hX x with ⟨hn, hz⟩ | ⟨k, hk, rfl, hn, hkd, a, iq, hga, hz, hi⟩
  · rw [hz, va_rf_none]
    refine lv_astore_nN hx hb d_NS_draw_5 rfl hl (by decide) rfl (fun ls (hl : lv_has ls 4 [(3, .null), (0, .ref _), (1, .int _), (2, .int _)]) => ?_)
    refine lv_aload_nN hx hb d_NS_draw_6 rfl (lv_at hl 0 rfl) ?_
    refine lv_ifnullN (tgt := 15) hx hb d_NS_draw_7 rfl ?_
    refine lv_iconst (v := (-1)) hx hb d_NS_draw_15 (by decide) ?_
    exact r_i B hw d_NS_draw_16 ⟨by unfold drA; rw [onS_n hn], by unfold dr1 dr2; rw [onS_n hn, onS_n hn]; exact hR0⟩
  · rw [hz, va_rf_some]
    have h10 := hF0.st hi (by omega)
    refine lv_astore_n hx hb d_NS_draw_5 rfl hl (by decide) rfl (fun ls (hl : lv_has ls 4 [(3, .ref _), (0, .ref _), (1, .int _), (2, .int _)]) => ?_)
    refine lv_aload_n hx hb d_NS_draw_6 rfl (lv_at hl 0 rfl) ?_
    refine lv_ifnull hx hb d_NS_draw_7 ?_
    refine lv_iload_n hx hb d_NS_draw_10 rfl (lv_at hl 3 rfl) ?_
    refine lv_iconst (v := 1) hx hb d_NS_draw_11 (by decide) ?_
    refine lv_icmp_ge (tgt := 17) hx hb d_NS_draw_12 rfl (fun h12 => ?_) (fun h12 => ?_)
    · have h12b := h12
      obtain ⟨N, hN0, hN, rfl⟩ := pos_of h12
      refine lv_aload_n hx hb d_NS_draw_17 rfl (lv_at hl 0 rfl) ?_
      refine lv_iload_n hx hb d_NS_draw_18 rfl (lv_at hl 3 rfl) ?_
      refine k_i (k_runV B hw (c_ST_drawnBelow hi hN0 hN) rfl rfl cf_NS_88 hi rfl rfl ⟨Nat.le_of_ble_eq_true rfl, Nat.le_of_ble_eq_true rfl⟩ rfl hl.1 rfl (Nat.le_of_ble_eq_true rfl) d_NS_draw_19 ⟨Nat.le_of_ble_eq_true rfl, Nat.le_of_ble_eq_true rfl⟩) hw (fun r19 w1 H locs hq hw => ?_)
      have er := hq.1
      have ew := hq.2
      rw [ew] at hw
      rw [er]
      exact r_i B hw d_NS_draw_22 ⟨by unfold drA; rw [onS_s hn]; exact (if_pos h12b).symm, by unfold dr1 dr2; rw [onS_s hn, onS_s hn]; (try dsimp only); rw [if_pos h12b, if_pos h12b]; exact XR.step hF0 hX hV hk hkd hga hi _ _⟩
    · refine lv_iconst (v := (-1)) hx hb d_NS_draw_15 (by decide) ?_
      exact r_i B hw d_NS_draw_16 ⟨by unfold drA; rw [onS_s hn]; exact (if_neg h12).symm, by unfold dr1 dr2; rw [onS_s hn, onS_s hn]; (try dsimp only); rw [if_neg h12, if_neg h12]; exact hR0⟩
set_option maxRecDepth 100000 in
set_option maxHeartbeats 4000000 in
theorem c_NS_same {l : Launch} {D : va_G} {K : Nat → ClassId} {A : Nat → Prop} {wl : va_W} {h rc ix : Nat} {kd sd wt cd : Nat → Int32} {f1 f2 : Nat → Int64} {sz : Nat → Nat} (hR : XR K h kd f1 f2 rc sz sd ix wt cd wl) {x y : Int32} : ctI l y_NS_same prog_1_method_8_code 5 (some .boolean) 1 0 0 [.ref h, .int x, .int y] D K A (wl) (fun r w => r = smA kd f1 f2 x y ∧ w = wl) := by
  refine mt_of (by decide) (Nat.le_of_ble_eq_true rfl) ?_
  intro p e s m below meth c ls B hw hl
  have hx := B.1
  have hb := B.2.1
  have hl : lv_has ls 5 [(0, .ref h), (1, .int x), (2, .int y)] := hl
  have hR0 := hR
  obtain ⟨aS, aR, aP, aD, aW, aC, g, rr, gd, ra, wa, hF, hX, hV⟩ := hR
  have hF0 := hF
  obtain ⟨e0, e1, e2, e3, e4, e5, e9, e10⟩ := hF
  refine lv_aload_n hx hb d_NS_same_0 rfl (lv_at hl 0 rfl) ?_
  refine lv_iload_n hx hb d_NS_same_1 rfl (lv_at hl 1 rfl) ?_
  refine k_q (k_runV B hw (c_NS_streamAt hF0) rfl rfl cf_NS_61 e0 rfl rfl ⟨Nat.le_of_ble_eq_true rfl, Nat.le_of_ble_eq_true rfl⟩ rfl hl.1 rfl (Nat.le_of_ble_eq_true rfl) d_NS_same_2 ⟨Nat.le_of_ble_eq_true rfl, Nat.le_of_ble_eq_true rfl⟩) hw (fun r2 w1 H locs hq hw => ?_)
  obtain ⟨rfl, ew⟩ := hq
  rw [ew] at hw
  rcases st_case hX x with ⟨hn, hz⟩ | ⟨k, hk, rfl, hn, hkd, a, iq, hga, hz, hi⟩
  · rw [hz, va_rf_none]
    refine lv_astore_nN hx hb d_NS_same_5 rfl hl (by decide) rfl (fun ls (hl : lv_has ls 5 [(3, .null), (0, .ref _), (1, .int _), (2, .int _)]) => ?_)
    refine lv_aload_n hx hb d_NS_same_6 rfl (lv_at hl 1 rfl) ?_
    refine lv_iload_n hx hb d_NS_same_7 rfl (lv_at hl 3 rfl) ?_
    refine k_q (k_runV B hw (c_NS_streamAt hF0) rfl rfl cf_NS_61 e0 rfl rfl ⟨Nat.le_of_ble_eq_true rfl, Nat.le_of_ble_eq_true rfl⟩ rfl hl.1 rfl (Nat.le_of_ble_eq_true rfl) d_NS_same_8 ⟨Nat.le_of_ble_eq_true rfl, Nat.le_of_ble_eq_true rfl⟩) hw (fun r8 w1 H locs hq hw => ?_)
    obtain ⟨rfl, ew⟩ := hq
    rw [ew] at hw
    rcases st_case hX y with ⟨hn2, hz2⟩ | ⟨k2, hk2, rfl, hn2, hkd2, a2, iq2, hga2, hz2, hi2⟩
    · rw [hz2, va_rf_none]
      refine lv_astoreN hx hb d_NS_same_11 hl (by decide) rfl (fun ls (hl : lv_has ls 5 [(4, .null), (3, .null), (0, .ref _), (1, .int _), (2, .int _)]) => ?_)
      refine lv_aload_nN hx hb d_NS_same_13 rfl (lv_at hl 1 rfl) ?_
      refine lv_ifnullN (tgt := 64) hx hb d_NS_same_14 rfl ?_
      refine lv_iconst (v := 0) hx hb d_NS_same_64 (by decide) ?_
      exact r_z B hw (by decide) d_NS_same_65 ⟨by unfold smA; rw [onS_n hn], rfl⟩
    · rw [hz2, va_rf_some]
      have h102 := hF0.st hi2 (by omega)
      refine lv_astore hx hb d_NS_same_11 hl (by decide) rfl (fun ls (hl : lv_has ls 5 [(4, .ref _), (3, .null), (0, .ref _), (1, .int _), (2, .int _)]) => ?_)
      refine lv_aload_nN hx hb d_NS_same_13 rfl (lv_at hl 1 rfl) ?_
      refine lv_ifnullN (tgt := 64) hx hb d_NS_same_14 rfl ?_
      refine lv_iconst (v := 0) hx hb d_NS_same_64 (by decide) ?_
      exact r_z B hw (by decide) d_NS_same_65 ⟨by unfold smA; rw [onS_n hn], rfl⟩
  · rw [hz, va_rf_some]
    have h10 := hF0.st hi (by omega)
    refine lv_astore_n hx hb d_NS_same_5 rfl hl (by decide) rfl (fun ls (hl : lv_has ls 5 [(3, .ref _), (0, .ref _), (1, .int _), (2, .int _)]) => ?_)
    refine lv_aload_n hx hb d_NS_same_6 rfl (lv_at hl 1 rfl) ?_
    refine lv_iload_n hx hb d_NS_same_7 rfl (lv_at hl 3 rfl) ?_
    refine k_q (k_runV B hw (c_NS_streamAt hF0) rfl rfl cf_NS_61 e0 rfl rfl ⟨Nat.le_of_ble_eq_true rfl, Nat.le_of_ble_eq_true rfl⟩ rfl hl.1 rfl (Nat.le_of_ble_eq_true rfl) d_NS_same_8 ⟨Nat.le_of_ble_eq_true rfl, Nat.le_of_ble_eq_true rfl⟩) hw (fun r8 w1 H locs hq hw => ?_)
    obtain ⟨rfl, ew⟩ := hq
    rw [ew] at hw
    rcases st_case hX y with ⟨hn2, hz2⟩ | ⟨k2, hk2, rfl, hn2, hkd2, a2, iq2, hga2, hz2, hi2⟩
    · rw [hz2, va_rf_none]
      refine lv_astoreN hx hb d_NS_same_11 hl (by decide) rfl (fun ls (hl : lv_has ls 5 [(4, .null), (3, .ref _), (0, .ref _), (1, .int _), (2, .int _)]) => ?_)
      refine lv_aload_n hx hb d_NS_same_13 rfl (lv_at hl 1 rfl) ?_
      refine lv_ifnull hx hb d_NS_same_14 ?_
      refine lv_aloadN hx hb d_NS_same_17 (lv_at hl 0 rfl) ?_
      refine lv_ifnullN (tgt := 64) hx hb d_NS_same_19 rfl ?_
      refine lv_iconst (v := 0) hx hb d_NS_same_64 (by decide) ?_
      exact r_z B hw (by decide) d_NS_same_65 ⟨by unfold smA; rw [onS_s hn, onS_n hn2], rfl⟩
    · rw [hz2, va_rf_some]
      have h102 := hF0.st hi2 (by omega)
      refine lv_astore hx hb d_NS_same_11 hl (by decide) rfl (fun ls (hl : lv_has ls 5 [(4, .ref _), (3, .ref _), (0, .ref _), (1, .int _), (2, .int _)]) => ?_)
      refine lv_aload_n hx hb d_NS_same_13 rfl (lv_at hl 1 rfl) ?_
      refine lv_ifnull hx hb d_NS_same_14 ?_
      refine lv_aload hx hb d_NS_same_17 (lv_at hl 0 rfl) ?_
      refine lv_ifnull hx hb d_NS_same_19 ?_
      refine lv_aload_n hx hb d_NS_same_22 rfl (lv_at hl 1 rfl) ?_
      refine g_get B hw fl_NS_65 hi rfl d_NS_same_23 ?_
      refine lv_aload hx hb d_NS_same_26 (lv_at hl 0 rfl) ?_
      refine g_get B hw fl_NS_65 hi2 rfl d_NS_same_28 ?_
      refine lv_icmp_ne (tgt := 64) hx hb d_NS_same_31 rfl (fun h31 => ?_) (fun h31 => ?_)
      · have ez : smA kd f1 f2 (nI k) (nI k2) = 0 := by unfold smA; rw [onS_s hn, onS_s hn2]; exact if_neg h31
        refine lv_iconst (v := 0) hx hb d_NS_same_64 (by decide) ?_
        exact r_z B hw (by decide) d_NS_same_65 ⟨ez.symm, rfl⟩
      · have ez : smA kd f1 f2 (nI k) (nI k2) = (if f1 k = f1 k2 then (if f2 k = f2 k2 then 1 else 0) else 0) := by unfold smA; rw [onS_s hn, onS_s hn2]; exact if_pos h31
        refine lv_aload_n hx hb d_NS_same_34 rfl (lv_at hl 1 rfl) ?_
        refine g_get B hw fl_NS_68 hi rfl d_NS_same_35 ?_
        refine lv_aload hx hb d_NS_same_38 (lv_at hl 0 rfl) ?_
        refine g_get B hw fl_NS_68 hi2 rfl d_NS_same_40 ?_
        refine W.lcmp hx hb d_NS_same_43 ?_
        refine lv_if_ne (tgt := 64) hx hb d_NS_same_44 rfl (fun h44 => ?_) (fun h44 => ?_)
        · rw [lg_cmp_eq] at h44
          rw [if_neg h44] at ez
          refine lv_iconst (v := 0) hx hb d_NS_same_64 (by decide) ?_
          exact r_z B hw (by decide) d_NS_same_65 ⟨ez.symm, rfl⟩
        · rw [lg_cmp_eq] at h44
          rw [if_pos h44] at ez
          refine lv_aload_n hx hb d_NS_same_47 rfl (lv_at hl 1 rfl) ?_
          refine g_get B hw fl_NS_72 hi rfl d_NS_same_48 ?_
          refine lv_aload hx hb d_NS_same_51 (lv_at hl 0 rfl) ?_
          refine g_get B hw fl_NS_72 hi2 rfl d_NS_same_53 ?_
          refine W.lcmp hx hb d_NS_same_56 ?_
          refine lv_if_ne (tgt := 64) hx hb d_NS_same_57 rfl (fun h57 => ?_) (fun h57 => ?_)
          · rw [lg_cmp_eq] at h57
            rw [if_neg h57] at ez
            refine lv_iconst (v := 0) hx hb d_NS_same_64 (by decide) ?_
            exact r_z B hw (by decide) d_NS_same_65 ⟨ez.symm, rfl⟩
          · rw [lg_cmp_eq] at h57
            rw [if_pos h57] at ez
            refine lv_iconst (v := 1) hx hb d_NS_same_60 (by decide) ?_
            refine lv_goto (tgt := 65) hx hb d_NS_same_61 rfl ?_
            exact r_z B hw (by decide) d_NS_same_65 ⟨ez.symm, rfl⟩
set_option maxRecDepth 100000 in
set_option maxHeartbeats 4000000 in
theorem c_NS_twin {l : Launch} {D : va_G} {K : Nat → ClassId} {A : Nat → Prop} {wl : va_W} {h rc ix : Nat} {kd sd wt cd : Nat → Int32} {f1 f2 : Nat → Int64} {sz : Nat → Nat} (hR : XR K h kd f1 f2 rc sz sd ix wt cd wl) {x : Int32} : ctI l y_NS_twin prog_1_method_3_code 4 (some .int) 2 1 3 [.ref h, .int x] D K A (wl) (fun r w => r = twA kd x ∧ XR K h (twK kd x) (twL kd f1 x) (twL kd f2 x) rc sz sd ix wt cd w) := by
  refine mt_of (by decide) (Nat.le_of_ble_eq_true rfl) ?_
  intro p e s m below meth c ls B hw hl
  have hx := B.1
  have hb := B.2.1
  have hl : lv_has ls 4 [(0, .ref h), (1, .int x)] := hl
  have hR0 := hR
  obtain ⟨aS, aR, aP, aD, aW, aC, g, rr, gd, ra, wa, hF, hX, hV⟩ := hR
  have hF0 := hF
  obtain ⟨e0, e1, e2, e3, e4, e5, e9, e10⟩ := hF
  refine lv_aload_n hx hb d_NS_twin_0 rfl (lv_at hl 0 rfl) ?_
  refine lv_iload_n hx hb d_NS_twin_1 rfl (lv_at hl 1 rfl) ?_
  refine k_q (k_runV B hw (c_NS_streamAt hF0) rfl rfl cf_NS_61 e0 rfl rfl ⟨Nat.le_of_ble_eq_true rfl, Nat.le_of_ble_eq_true rfl⟩ rfl hl.1 rfl (Nat.le_of_ble_eq_true rfl) d_NS_twin_2 ⟨Nat.le_of_ble_eq_true rfl, Nat.le_of_ble_eq_true rfl⟩) hw (fun r2 w1 H locs hq hw => ?_)
  obtain ⟨rfl, ew⟩ := hq
  rw [ew] at hw
  rcases st_case hX x with ⟨hn, hz⟩ | ⟨k, hk, rfl, hn, hkd, a, iq, hga, hz, hi⟩
  · rw [hz, va_rf_none]
    refine lv_astore_nN hx hb d_NS_twin_5 rfl hl (by decide) rfl (fun ls (hl : lv_has ls 4 [(2, .null), (0, .ref _), (1, .int _)]) => ?_)
    refine lv_aload_n hx hb d_NS_twin_6 rfl (lv_at hl 1 rfl) ?_
    refine k_i (k_runV B hw (c_NS_leastFreeSlot hF0 hX) rfl rfl cf_NS_39 e0 rfl rfl ⟨Nat.le_of_ble_eq_true rfl, Nat.le_of_ble_eq_true rfl⟩ rfl hl.1 rfl (Nat.le_of_ble_eq_true rfl) d_NS_twin_7 ⟨Nat.le_of_ble_eq_true rfl, Nat.le_of_ble_eq_true rfl⟩) hw (fun r7 w1 H locs hq hw => ?_)
    obtain ⟨rfl, ew⟩ := hq
    rw [ew] at hw
    refine lv_istore_n hx hb d_NS_twin_10 rfl hl (by decide) rfl (fun ls (hl : lv_has ls 4 [(3, .int _), (2, .null), (0, .ref _), (1, .int _)]) => ?_)
    refine lv_aload_nN hx hb d_NS_twin_11 rfl (lv_at hl 1 rfl) ?_
    refine lv_ifnullN (tgt := 19) hx hb d_NS_twin_12 rfl ?_
    refine lv_iconst (v := (-1)) hx hb d_NS_twin_19 (by decide) ?_
    refine W.widen (k := 1) (n := 3) (by decide) (by decide) ?_
    exact r_i B hw d_NS_twin_20 ⟨by unfold twA; rw [onS_n hn], by unfold twK twL; rw [onS_n hn, onS_n hn, onS_n hn]; exact hR0⟩
  · rw [hz, va_rf_some]
    have h10 := hF0.st hi (by omega)
    refine lv_astore_n hx hb d_NS_twin_5 rfl hl (by decide) rfl (fun ls (hl : lv_has ls 4 [(2, .ref _), (0, .ref _), (1, .int _)]) => ?_)
    refine lv_aload_n hx hb d_NS_twin_6 rfl (lv_at hl 1 rfl) ?_
    refine k_i (k_runV B hw (c_NS_leastFreeSlot hF0 hX) rfl rfl cf_NS_39 e0 rfl rfl ⟨Nat.le_of_ble_eq_true rfl, Nat.le_of_ble_eq_true rfl⟩ rfl hl.1 rfl (Nat.le_of_ble_eq_true rfl) d_NS_twin_7 ⟨Nat.le_of_ble_eq_true rfl, Nat.le_of_ble_eq_true rfl⟩) hw (fun r7 w1 H locs hq hw => ?_)
    obtain ⟨rfl, ew⟩ := hq
    rw [ew] at hw
    refine lv_istore_n hx hb d_NS_twin_10 rfl hl (by decide) rfl (fun ls (hl : lv_has ls 4 [(3, .int _), (2, .ref _), (0, .ref _), (1, .int _)]) => ?_)
    refine lv_aload_n hx hb d_NS_twin_11 rfl (lv_at hl 1 rfl) ?_
    refine lv_ifnull hx hb d_NS_twin_12 ?_
    refine lv_iload_n hx hb d_NS_twin_15 rfl (lv_at hl 0 rfl) ?_
    refine lv_if_ge (tgt := 21) hx hb d_NS_twin_16 rfl (fun h16 => ?_) (fun h16 => ?_)
    · obtain ⟨kf, hkf, hkl, hfi, hge⟩ := fr_of h16
      refine lv_aload_n hx hb d_NS_twin_21 rfl (lv_at hl 2 rfl) ?_
      refine g_get B hw fl_NS_11 e0 rfl d_NS_twin_22 ?_
      refine lv_iload_n hx hb d_NS_twin_25 rfl (lv_at hl 0 rfl) ?_
      refine g_new (ci := 3) [.int 0, .long 0, .long 0] B hw rfl li_ST tt_ST cl_NS_9 ib_ST in_ST (fun j hj => by rcases (by omega : j = 0 ∨ j = 1 ∨ j = 2) with rfl | rfl | rfl <;> rfl) (Nat.le_of_ble_eq_true rfl) (Nat.le_of_ble_eq_true rfl) d_NS_twin_26 (fun q H hw => ?_)
      have hDn := hw.2.1
      have hw : wd D A (wl ++ [(q, oSt 0 0 0)]) s H locs := hw
      refine lv_dup hx hb d_NS_twin_29 rfl ?_
      refine lv_aload_n hx hb d_NS_twin_30 rfl (lv_at hl 1 rfl) ?_
      refine g_get B hw fl_NS_65 (ga_old hi) rfl d_NS_twin_31 ?_
      refine lv_aload_n hx hb d_NS_twin_34 rfl (lv_at hl 1 rfl) ?_
      refine g_get B hw fl_NS_68 (ga_old hi) rfl d_NS_twin_35 ?_
      refine lv_aload_n hx hb d_NS_twin_38 rfl (lv_at hl 1 rfl) ?_
      refine g_get B hw fl_NS_72 (ga_old hi) rfl d_NS_twin_39 ?_
      refine k_v (k_runI B hw (c_ST_init ga_new) rfl rfl cf_NS_58 ⟨Nat.le_of_ble_eq_true rfl, Nat.le_of_ble_eq_true rfl⟩ rfl hl.1 rfl (Nat.le_of_ble_eq_true rfl) d_NS_twin_42 ⟨Nat.le_of_ble_eq_true rfl, Nat.le_of_ble_eq_true rfl⟩) hw (fun w1 H locs hq hw => ?_)
      rw [hq, set_last] at hw
      refine g_aast 2 (r := ("NumberStreams$Stream", T_ST, 3)) B hw (ga_old e1) rfl ga_new rfl (by rw [hfi]; exact vp_in_nI hkf (by omega)) d_NS_twin_45 (fun H locs hw => ?_)
      rw [hfi, nI_clamp (by omega)] at hw
      refine lv_iload_n hx hb d_NS_twin_46 rfl (lv_at hl 0 rfl) ?_
      exact r_i B hw d_NS_twin_47 ⟨by unfold twA; rw [onS_s hn]; exact (if_neg hge).symm, by unfold twK twL; rw [onS_s hn, onS_s hn, onS_s hn]; (try dsimp only); rw [if_neg hge, if_neg hge, if_neg hge, hfi, nI_clamp (by omega)]; exact XR.born hF0 hX hV hkf hkd _ _ hDn⟩
    · have hge := fr_no h16
      refine lv_iconst (v := (-1)) hx hb d_NS_twin_19 (by decide) ?_
      refine W.widen (k := 1) (n := 3) (by decide) (by decide) ?_
      exact r_i B hw d_NS_twin_20 ⟨by unfold twA; rw [onS_s hn]; exact (if_pos hge).symm, by unfold twK twL; rw [onS_s hn, onS_s hn, onS_s hn]; (try dsimp only); rw [if_pos hge, if_pos hge, if_pos hge]; exact hR0⟩
set_option maxRecDepth 100000 in
set_option maxHeartbeats 4000000 in
theorem c_NS_make {l : Launch} {D : va_G} {K : Nat → ClassId} {A : Nat → Prop} {wl : va_W} {h rc ix : Nat} {kd sd wt cd : Nat → Int32} {f1 f2 : Nat → Int64} {sz : Nat → Nat} (hR : XR K h kd f1 f2 rc sz sd ix wt cd wl) {c0 a0 b0 : Int32} : ctI l y_NS_make prog_1_method_2_code 9 (some .int) 3 1 3 [.ref h, .int c0, .int a0, .int b0] D K A (wl) (fun r w => r = mkA kd c0 a0 b0 ∧ XR K h (mkK kd c0 a0 b0) (mk1 kd f1 c0 a0 b0) (mk2 kd f2 c0 a0 b0) rc sz sd ix wt cd w) := by
  refine mt_of (by decide) (Nat.le_of_ble_eq_true rfl) ?_
  intro p e s m below meth c ls B hw hl
  have hx := B.1
  have hb := B.2.1
  have hl : lv_has ls 9 [(0, .ref h), (1, .int c0), (2, .int a0), (3, .int b0)] := hl
  have hR0 := hR
  obtain ⟨aS, aR, aP, aD, aW, aC, g, rr, gd, ra, wa, hF, hX, hV⟩ := hR
  have hF0 := hF
  obtain ⟨e0, e1, e2, e3, e4, e5, e9, e10⟩ := hF
  refine lv_aload_n hx hb d_NS_make_0 rfl (lv_at hl 0 rfl) ?_
  refine k_i (k_runV B hw (c_NS_leastFreeSlot hF0 hX) rfl rfl cf_NS_39 e0 rfl rfl ⟨Nat.le_of_ble_eq_true rfl, Nat.le_of_ble_eq_true rfl⟩ rfl hl.1 rfl (Nat.le_of_ble_eq_true rfl) d_NS_make_1 ⟨Nat.le_of_ble_eq_true rfl, Nat.le_of_ble_eq_true rfl⟩) hw (fun r1 w1 H locs hq hw => ?_)
  obtain ⟨rfl, ew⟩ := hq
  rw [ew] at hw
  refine lv_istore hx hb d_NS_make_4 hl (by decide) rfl (fun ls (hl : lv_has ls 9 [(4, .int _), (0, .ref _), (1, .int _), (2, .int _), (3, .int _)]) => ?_)
  refine lv_iload_n hx hb d_NS_make_6 rfl (lv_at hl 2 rfl) ?_
  refine k_i (k_runS B hw c_ST_isKind rfl rfl cf_NS_43 ⟨Nat.le_of_ble_eq_true rfl, Nat.le_of_ble_eq_true rfl⟩ rfl hl.1 rfl (Nat.le_of_ble_eq_true rfl) d_NS_make_7 ⟨Nat.le_of_ble_eq_true rfl, Nat.le_of_ble_eq_true rfl⟩) hw (fun r7 w1 H locs hq hw => ?_)
  obtain ⟨rfl, ew⟩ := hq
  rw [ew] at hw
  refine lv_if_eq (tgt := 18) hx hb d_NS_make_10 rfl (fun h10 => ?_) (fun h10 => ?_)
  · have ez : mkC kd c0 a0 b0 = 0 := if_pos h10
    refine lv_iconst (v := (-1)) hx hb d_NS_make_18 (by decide) ?_
    refine W.widen (k := 1) (n := 3) (by decide) (by decide) ?_
    exact r_i B hw d_NS_make_19 ⟨by unfold mkA; rw [ez, if_pos rfl], by unfold mkK mk1 mk2; rw [ez, if_neg (by decide), if_neg (by decide), if_neg (by decide)]; exact hR0⟩
  · have ez : mkC kd c0 a0 b0 = _ := if_neg h10
    refine lv_iload hx hb d_NS_make_13 (lv_at hl 0 rfl) ?_
    refine lv_if_ge (tgt := 20) hx hb d_NS_make_15 rfl (fun h15 => ?_) (fun h15 => ?_)
    · obtain ⟨kf, hkf, hkl, hfi, hge⟩ := fr_of h15
      rw [if_neg hge] at ez
      refine lv_iload_n hx hb d_NS_make_20 rfl (lv_at hl 2 rfl) ?_
      refine lv_iload_n hx hb d_NS_make_21 rfl (lv_at hl 3 rfl) ?_
      refine lv_iload_n hx hb d_NS_make_22 rfl (lv_at hl 4 rfl) ?_
      refine k_l (k_runS B hw c_ST_firstOfSeed rfl rfl cf_NS_47 ⟨Nat.le_of_ble_eq_true rfl, Nat.le_of_ble_eq_true rfl⟩ rfl hl.1 rfl (Nat.le_of_ble_eq_true rfl) d_NS_make_23 ⟨Nat.le_of_ble_eq_true rfl, Nat.le_of_ble_eq_true rfl⟩) hw (fun r23 w1 H locs hq hw => ?_)
      obtain ⟨rfl, ew⟩ := hq
      rw [ew] at hw
      refine lv_lstore hx hb d_NS_make_26 hl (by decide) rfl (fun ls (hl : lv_has ls 9 [(5, .long _), (4, .int _), (0, .ref _), (1, .int _), (2, .int _), (3, .int _)]) => ?_)
      refine lv_iload_n hx hb d_NS_make_28 rfl (lv_at hl 3 rfl) ?_
      refine lv_iload_n hx hb d_NS_make_29 rfl (lv_at hl 4 rfl) ?_
      refine lv_iload_n hx hb d_NS_make_30 rfl (lv_at hl 5 rfl) ?_
      refine k_l (k_runS B hw c_ST_secondOfSeed rfl rfl cf_NS_51 ⟨Nat.le_of_ble_eq_true rfl, Nat.le_of_ble_eq_true rfl⟩ rfl hl.1 rfl (Nat.le_of_ble_eq_true rfl) d_NS_make_31 ⟨Nat.le_of_ble_eq_true rfl, Nat.le_of_ble_eq_true rfl⟩) hw (fun r31 w1 H locs hq hw => ?_)
      obtain ⟨rfl, ew⟩ := hq
      rw [ew] at hw
      refine lv_lstore hx hb d_NS_make_34 hl (by decide) rfl (fun ls (hl : lv_has ls 9 [(7, .long _), (5, .long _), (4, .int _), (0, .ref _), (1, .int _), (2, .int _), (3, .int _)]) => ?_)
      refine lv_iload_n hx hb d_NS_make_36 rfl (lv_at hl 4 rfl) ?_
      refine lv_lload hx hb d_NS_make_37 (lv_at hl 1 rfl) ?_
      refine lv_lload hx hb d_NS_make_39 (lv_at hl 0 rfl) ?_
      refine k_i (k_runS B hw c_ST_isState rfl rfl cf_NS_54 ⟨Nat.le_of_ble_eq_true rfl, Nat.le_of_ble_eq_true rfl⟩ rfl hl.1 rfl (Nat.le_of_ble_eq_true rfl) d_NS_make_41 ⟨Nat.le_of_ble_eq_true rfl, Nat.le_of_ble_eq_true rfl⟩) hw (fun r41 w1 H locs hq hw => ?_)
      obtain ⟨rfl, ew⟩ := hq
      rw [ew] at hw
      refine lv_if_ne (tgt := 50) hx hb d_NS_make_44 rfl (fun h44 => ?_) (fun h44 => ?_)
      · rw [if_neg h44] at ez
        refine lv_aload_n hx hb d_NS_make_50 rfl (lv_at hl 3 rfl) ?_
        refine g_get B hw fl_NS_11 e0 rfl d_NS_make_51 ?_
        refine lv_iload hx hb d_NS_make_54 (lv_at hl 2 rfl) ?_
        refine g_new (ci := 3) [.int 0, .long 0, .long 0] B hw rfl li_ST tt_ST cl_NS_9 ib_ST in_ST (fun j hj => by rcases (by omega : j = 0 ∨ j = 1 ∨ j = 2) with rfl | rfl | rfl <;> rfl) (Nat.le_of_ble_eq_true rfl) (Nat.le_of_ble_eq_true rfl) d_NS_make_56 (fun q H hw => ?_)
        have hDn := hw.2.1
        have hw : wd D A (wl ++ [(q, oSt 0 0 0)]) s H locs := hw
        refine lv_dup hx hb d_NS_make_59 rfl ?_
        refine lv_iload_n hx hb d_NS_make_60 rfl (lv_at hl 4 rfl) ?_
        refine lv_lload hx hb d_NS_make_61 (lv_at hl 1 rfl) ?_
        refine lv_lload hx hb d_NS_make_63 (lv_at hl 0 rfl) ?_
        refine k_v (k_runI B hw (c_ST_init ga_new) rfl rfl cf_NS_58 ⟨Nat.le_of_ble_eq_true rfl, Nat.le_of_ble_eq_true rfl⟩ rfl hl.1 rfl (Nat.le_of_ble_eq_true rfl) d_NS_make_65 ⟨Nat.le_of_ble_eq_true rfl, Nat.le_of_ble_eq_true rfl⟩) hw (fun w1 H locs hq hw => ?_)
        rw [hq, set_last] at hw
        refine g_aast 2 (r := ("NumberStreams$Stream", T_ST, 3)) B hw (ga_old e1) rfl ga_new rfl (by rw [hfi]; exact vp_in_nI hkf (by omega)) d_NS_make_68 (fun H locs hw => ?_)
        rw [hfi, nI_clamp (by omega)] at hw
        refine lv_iload hx hb d_NS_make_69 (lv_at hl 2 rfl) ?_
        exact r_i B hw d_NS_make_71 ⟨by unfold mkA; rw [ez, if_neg (by decide), if_neg (by decide)], by unfold mkK mk1 mk2; rw [ez, if_pos rfl, if_pos rfl, if_pos rfl, hfi, nI_clamp (by omega)]; exact XR.born hF0 hX hV hkf (isK_3 h10).1 _ _ hDn⟩
      · rw [if_pos h44] at ez
        refine lv_bipush (v := (-2)) hx hb d_NS_make_47 (by decide) ?_
        refine W.widen (k := 1) (n := 3) (by decide) (by decide) ?_
        exact r_i B hw d_NS_make_49 ⟨by unfold mkA; rw [ez, if_neg (by decide), if_pos rfl], by unfold mkK mk1 mk2; rw [ez, if_neg (by decide), if_neg (by decide), if_neg (by decide)]; exact hR0⟩
    · rw [if_pos (fr_no h15)] at ez
      refine lv_iconst (v := (-1)) hx hb d_NS_make_18 (by decide) ?_
      refine W.widen (k := 1) (n := 3) (by decide) (by decide) ?_
      exact r_i B hw d_NS_make_19 ⟨by unfold mkA; rw [ez, if_pos rfl], by unfold mkK mk1 mk2; rw [ez, if_neg (by decide), if_neg (by decide), if_neg (by decide)]; exact hR0⟩
set_option maxRecDepth 100000 in
set_option maxHeartbeats 4000000 in
theorem c_NS_coordinate {l : Launch} {D : va_G} {K : Nat → ClassId} {A : Nat → Prop} {wl : va_W} {h rc ix : Nat} {kd sd wt cd : Nat → Int32} {f1 f2 : Nat → Int64} {sz : Nat → Nat} (hR : XR K h kd f1 f2 rc sz sd ix wt cd wl) (hix : ix ≤ 1048575) {x : Int32} : ctL l y_NS_coordinate prog_1_method_17_code 2 1 0 0 [.ref h, .int x] D K A (wl) (fun r w => r = coA ix x ∧ w = wl) := by
  refine mt_of (by decide) (Nat.le_of_ble_eq_true rfl) ?_
  intro p e s m below meth c ls B hw hl
  have hx := B.1
  have hb := B.2.1
  have hl : lv_has ls 2 [(0, .ref h), (1, .int x)] := hl
  have hR0 := hR
  obtain ⟨aS, aR, aP, aD, aW, aC, g, rr, gd, ra, wa, hF, hX, hV⟩ := hR
  have hF0 := hF
  obtain ⟨e0, e1, e2, e3, e4, e5, e9, e10⟩ := hF
  refine lv_iload_n hx hb d_NS_coordinate_0 rfl (lv_at hl 1 rfl) ?_
  rcases sw6 x with rfl | rfl | rfl | rfl | rfl | rfl | ⟨hd1, n0, n1, n2, n3, n4, n5⟩
  · refine lv_tableIn (tgt := 40) hx hb d_NS_coordinate_1 (by decide) (by decide) rfl rfl ?_
    obtain ⟨a5, F5, q1, q2, q3⟩ := e5 0 (by omega)
    have ez := coA_0 ix
    refine lv_aload_n hx hb d_NS_coordinate_40 rfl (lv_at hl 0 rfl) ?_
    refine g_get B hw fl_NS_28 e0 rfl d_NS_coordinate_41 ?_
    refine lv_iload_n hx hb d_NS_coordinate_44 rfl (lv_at hl 1 rfl) ?_
    refine k_i (k_runV B hw (c_PT_joinedDirections (r := 0) e3 e4 (by omega) q1 q2 q3) rfl rfl cf_NS_122 e3 rfl rfl ⟨Nat.le_of_ble_eq_true rfl, Nat.le_of_ble_eq_true rfl⟩ rfl hl.1 rfl (Nat.le_of_ble_eq_true rfl) d_NS_coordinate_45 ⟨Nat.le_of_ble_eq_true rfl, Nat.le_of_ble_eq_true rfl⟩) hw (fun r45 w1 H locs hq hw => ?_)
    obtain ⟨rfl, ew⟩ := hq
    rw [ew] at hw
    refine k_l (k_runS B hw c_NS_asNumber rfl rfl cf_NS_80 ⟨Nat.le_of_ble_eq_true rfl, Nat.le_of_ble_eq_true rfl⟩ rfl hl.1 rfl (Nat.le_of_ble_eq_true rfl) d_NS_coordinate_48 ⟨Nat.le_of_ble_eq_true rfl, Nat.le_of_ble_eq_true rfl⟩) hw (fun r48 w1 H locs hq hw => ?_)
    obtain ⟨rfl, ew⟩ := hq
    rw [ew] at hw
    exact r_l B hw d_NS_coordinate_51 ⟨ez.symm, rfl⟩
  · refine lv_tableIn (tgt := 40) hx hb d_NS_coordinate_1 (by decide) (by decide) rfl rfl ?_
    obtain ⟨a5, F5, q1, q2, q3⟩ := e5 1 (by omega)
    have ez := coA_1 ix
    refine lv_aload_n hx hb d_NS_coordinate_40 rfl (lv_at hl 0 rfl) ?_
    refine g_get B hw fl_NS_28 e0 rfl d_NS_coordinate_41 ?_
    refine lv_iload_n hx hb d_NS_coordinate_44 rfl (lv_at hl 1 rfl) ?_
    refine k_i (k_runV B hw (c_PT_joinedDirections (r := 1) e3 e4 (by omega) q1 q2 q3) rfl rfl cf_NS_122 e3 rfl rfl ⟨Nat.le_of_ble_eq_true rfl, Nat.le_of_ble_eq_true rfl⟩ rfl hl.1 rfl (Nat.le_of_ble_eq_true rfl) d_NS_coordinate_45 ⟨Nat.le_of_ble_eq_true rfl, Nat.le_of_ble_eq_true rfl⟩) hw (fun r45 w1 H locs hq hw => ?_)
    obtain ⟨rfl, ew⟩ := hq
    rw [ew] at hw
    refine k_l (k_runS B hw c_NS_asNumber rfl rfl cf_NS_80 ⟨Nat.le_of_ble_eq_true rfl, Nat.le_of_ble_eq_true rfl⟩ rfl hl.1 rfl (Nat.le_of_ble_eq_true rfl) d_NS_coordinate_48 ⟨Nat.le_of_ble_eq_true rfl, Nat.le_of_ble_eq_true rfl⟩) hw (fun r48 w1 H locs hq hw => ?_)
    obtain ⟨rfl, ew⟩ := hq
    rw [ew] at hw
    exact r_l B hw d_NS_coordinate_51 ⟨ez.symm, rfl⟩
  · refine lv_tableIn (tgt := 40) hx hb d_NS_coordinate_1 (by decide) (by decide) rfl rfl ?_
    obtain ⟨a5, F5, q1, q2, q3⟩ := e5 2 (by omega)
    have ez := coA_2 ix
    refine lv_aload_n hx hb d_NS_coordinate_40 rfl (lv_at hl 0 rfl) ?_
    refine g_get B hw fl_NS_28 e0 rfl d_NS_coordinate_41 ?_
    refine lv_iload_n hx hb d_NS_coordinate_44 rfl (lv_at hl 1 rfl) ?_
    refine k_i (k_runV B hw (c_PT_joinedDirections (r := 2) e3 e4 (by omega) q1 q2 q3) rfl rfl cf_NS_122 e3 rfl rfl ⟨Nat.le_of_ble_eq_true rfl, Nat.le_of_ble_eq_true rfl⟩ rfl hl.1 rfl (Nat.le_of_ble_eq_true rfl) d_NS_coordinate_45 ⟨Nat.le_of_ble_eq_true rfl, Nat.le_of_ble_eq_true rfl⟩) hw (fun r45 w1 H locs hq hw => ?_)
    obtain ⟨rfl, ew⟩ := hq
    rw [ew] at hw
    refine k_l (k_runS B hw c_NS_asNumber rfl rfl cf_NS_80 ⟨Nat.le_of_ble_eq_true rfl, Nat.le_of_ble_eq_true rfl⟩ rfl hl.1 rfl (Nat.le_of_ble_eq_true rfl) d_NS_coordinate_48 ⟨Nat.le_of_ble_eq_true rfl, Nat.le_of_ble_eq_true rfl⟩) hw (fun r48 w1 H locs hq hw => ?_)
    obtain ⟨rfl, ew⟩ := hq
    rw [ew] at hw
    exact r_l B hw d_NS_coordinate_51 ⟨ez.symm, rfl⟩
  · refine lv_tableIn (tgt := 40) hx hb d_NS_coordinate_1 (by decide) (by decide) rfl rfl ?_
    obtain ⟨a5, F5, q1, q2, q3⟩ := e5 3 (by omega)
    have ez := coA_3 ix
    refine lv_aload_n hx hb d_NS_coordinate_40 rfl (lv_at hl 0 rfl) ?_
    refine g_get B hw fl_NS_28 e0 rfl d_NS_coordinate_41 ?_
    refine lv_iload_n hx hb d_NS_coordinate_44 rfl (lv_at hl 1 rfl) ?_
    refine k_i (k_runV B hw (c_PT_joinedDirections (r := 3) e3 e4 (by omega) q1 q2 q3) rfl rfl cf_NS_122 e3 rfl rfl ⟨Nat.le_of_ble_eq_true rfl, Nat.le_of_ble_eq_true rfl⟩ rfl hl.1 rfl (Nat.le_of_ble_eq_true rfl) d_NS_coordinate_45 ⟨Nat.le_of_ble_eq_true rfl, Nat.le_of_ble_eq_true rfl⟩) hw (fun r45 w1 H locs hq hw => ?_)
    obtain ⟨rfl, ew⟩ := hq
    rw [ew] at hw
    refine k_l (k_runS B hw c_NS_asNumber rfl rfl cf_NS_80 ⟨Nat.le_of_ble_eq_true rfl, Nat.le_of_ble_eq_true rfl⟩ rfl hl.1 rfl (Nat.le_of_ble_eq_true rfl) d_NS_coordinate_48 ⟨Nat.le_of_ble_eq_true rfl, Nat.le_of_ble_eq_true rfl⟩) hw (fun r48 w1 H locs hq hw => ?_)
    obtain ⟨rfl, ew⟩ := hq
    rw [ew] at hw
    exact r_l B hw d_NS_coordinate_51 ⟨ez.symm, rfl⟩
  · refine lv_tableIn (tgt := 52) hx hb d_NS_coordinate_1 (by decide) (by decide) rfl rfl ?_
    have ez := coA_4 ix
    refine lv_aload_n hx hb d_NS_coordinate_52 rfl (lv_at hl 0 rfl) ?_
    refine g_get B hw fl_NS_28 e0 rfl d_NS_coordinate_53 ?_
    refine lv_iconst (v := 3) hx hb d_NS_coordinate_56 (by decide) ?_
    refine lv_bipush (v := 13) hx hb d_NS_coordinate_57 (by decide) ?_
    refine k_i (k_runV B hw (c_PT_turnedDigits (b := 3) (n := 13) e3 (by omega) (by omega) (by omega) (by omega)) rfl rfl cf_NS_125 e3 rfl rfl ⟨Nat.le_of_ble_eq_true rfl, Nat.le_of_ble_eq_true rfl⟩ rfl hl.1 rfl (Nat.le_of_ble_eq_true rfl) d_NS_coordinate_59 ⟨Nat.le_of_ble_eq_true rfl, Nat.le_of_ble_eq_true rfl⟩) hw (fun r59 w1 H locs hq hw => ?_)
    obtain ⟨rfl, ew⟩ := hq
    rw [ew] at hw
    refine lv_i2l hx hb d_NS_coordinate_62 rfl ?_
    rw [tu3]
    exact r_l B hw d_NS_coordinate_63 ⟨ez.symm, rfl⟩
  · refine lv_tableIn (tgt := 64) hx hb d_NS_coordinate_1 (by decide) (by decide) rfl rfl ?_
    have ez := coA_5 ix
    refine lv_aload_n hx hb d_NS_coordinate_64 rfl (lv_at hl 0 rfl) ?_
    refine g_get B hw fl_NS_28 e0 rfl d_NS_coordinate_65 ?_
    refine lv_iconst (v := 5) hx hb d_NS_coordinate_68 (by decide) ?_
    refine lv_bipush (v := 9) hx hb d_NS_coordinate_69 (by decide) ?_
    refine k_i (k_runV B hw (c_PT_turnedDigits (b := 5) (n := 9) e3 (by omega) (by omega) (by omega) (by omega)) rfl rfl cf_NS_125 e3 rfl rfl ⟨Nat.le_of_ble_eq_true rfl, Nat.le_of_ble_eq_true rfl⟩ rfl hl.1 rfl (Nat.le_of_ble_eq_true rfl) d_NS_coordinate_71 ⟨Nat.le_of_ble_eq_true rfl, Nat.le_of_ble_eq_true rfl⟩) hw (fun r71 w1 H locs hq hw => ?_)
    obtain ⟨rfl, ew⟩ := hq
    rw [ew] at hw
    refine lv_i2l hx hb d_NS_coordinate_74 rfl ?_
    rw [tu5]
    exact r_l B hw d_NS_coordinate_75 ⟨ez.symm, rfl⟩
  · refine lv_tableOut (tgt := 76) hx hb d_NS_coordinate_1 hd1 rfl ?_
    have ez := coA_n (ix := ix) n0 n1 n2 n3 n4 n5
    refine g_ldc2 B kc_NS_75 d_NS_coordinate_76 ?_
    exact r_l B hw d_NS_coordinate_79 ⟨ez.symm, rfl⟩
set_option maxRecDepth 100000 in
set_option maxHeartbeats 4000000 in
theorem c_NS_pick {l : Launch} {D : va_G} {K : Nat → ClassId} {A : Nat → Prop} {wl : va_W} {h rc ix : Nat} {kd sd wt cd : Nat → Int32} {f1 f2 : Nat → Int64} {sz : Nat → Nat} (hR : XR K h kd f1 f2 rc sz sd ix wt cd wl) (hW : ∀ k, k < 16 → ∃ v : Nat, v ≤ 1000000 ∧ wt k = nI v) {x : Int32} : ctI l y_NS_pick prog_1_method_19_code 4 (some .int) 5 0 0 [.ref h, .int x] D K A (wl) (fun r w => r = piA kd f1 f2 wt x ∧ XR K h kd (dr1 kd f1 f2 x (toW wt 16)) (dr2 kd f1 f2 x (toW wt 16)) rc sz sd ix wt cd w) := by
  refine mt_of (by decide) (Nat.le_of_ble_eq_true rfl) ?_
  intro p e s m below meth c ls B hw hl
  have hx := B.1
  have hb := B.2.1
  have hl : lv_has ls 4 [(0, .ref h), (1, .int x)] := hl
  have hR0 := hR
  obtain ⟨aS, aR, aP, aD, aW, aC, g, rr, gd, ra, wa, hF, hX, hV⟩ := hR
  have hF0 := hF
  obtain ⟨e0, e1, e2, e3, e4, e5, e9, e10⟩ := hF
  refine lv_aload_n hx hb d_NS_pick_0 rfl (lv_at hl 0 rfl) ?_
  refine lv_iload_n hx hb d_NS_pick_1 rfl (lv_at hl 1 rfl) ?_
  refine k_q (k_runV B hw (c_NS_streamAt hF0) rfl rfl cf_NS_61 e0 rfl rfl ⟨Nat.le_of_ble_eq_true rfl, Nat.le_of_ble_eq_true rfl⟩ rfl hl.1 rfl (Nat.le_of_ble_eq_true rfl) d_NS_pick_2 ⟨Nat.le_of_ble_eq_true rfl, Nat.le_of_ble_eq_true rfl⟩) hw (fun r2 w1 H locs hq hw => ?_)
  obtain ⟨rfl, ew⟩ := hq
  rw [ew] at hw
  rcases st_case hX x with ⟨hn, hz⟩ | ⟨k, hk, rfl, hn, hkd, a, iq, hga, hz, hi⟩
  · rw [hz, va_rf_none]
    refine lv_astore_nN hx hb d_NS_pick_5 rfl hl (by decide) rfl (fun ls (hl : lv_has ls 4 [(2, .null), (0, .ref _), (1, .int _)]) => ?_)
    refine lv_aload_n hx hb d_NS_pick_6 rfl (lv_at hl 1 rfl) ?_
    refine k_i (k_runV B hw (c_NS_totalWeight hF0) rfl rfl cf_NS_130 e0 rfl rfl ⟨Nat.le_of_ble_eq_true rfl, Nat.le_of_ble_eq_true rfl⟩ rfl hl.1 rfl (Nat.le_of_ble_eq_true rfl) d_NS_pick_7 ⟨Nat.le_of_ble_eq_true rfl, Nat.le_of_ble_eq_true rfl⟩) hw (fun r7 w1 H locs hq hw => ?_)
    obtain ⟨rfl, ew⟩ := hq
    rw [ew] at hw
    refine lv_istore_n hx hb d_NS_pick_10 rfl hl (by decide) rfl (fun ls (hl : lv_has ls 4 [(3, .int _), (2, .null), (0, .ref _), (1, .int _)]) => ?_)
    refine lv_aload_nN hx hb d_NS_pick_11 rfl (lv_at hl 1 rfl) ?_
    refine lv_ifnullN (tgt := 20) hx hb d_NS_pick_12 rfl ?_
    refine lv_iconst (v := (-1)) hx hb d_NS_pick_20 (by decide) ?_
    exact r_i B hw d_NS_pick_21 ⟨by unfold piA; rw [onS_n hn], by unfold dr1 dr2; rw [onS_n hn, onS_n hn]; exact hR0⟩
  · rw [hz, va_rf_some]
    have h10 := hF0.st hi (by omega)
    refine lv_astore_n hx hb d_NS_pick_5 rfl hl (by decide) rfl (fun ls (hl : lv_has ls 4 [(2, .ref _), (0, .ref _), (1, .int _)]) => ?_)
    refine lv_aload_n hx hb d_NS_pick_6 rfl (lv_at hl 1 rfl) ?_
    refine k_i (k_runV B hw (c_NS_totalWeight hF0) rfl rfl cf_NS_130 e0 rfl rfl ⟨Nat.le_of_ble_eq_true rfl, Nat.le_of_ble_eq_true rfl⟩ rfl hl.1 rfl (Nat.le_of_ble_eq_true rfl) d_NS_pick_7 ⟨Nat.le_of_ble_eq_true rfl, Nat.le_of_ble_eq_true rfl⟩) hw (fun r7 w1 H locs hq hw => ?_)
    obtain ⟨rfl, ew⟩ := hq
    rw [ew] at hw
    refine lv_istore_n hx hb d_NS_pick_10 rfl hl (by decide) rfl (fun ls (hl : lv_has ls 4 [(3, .int _), (2, .ref _), (0, .ref _), (1, .int _)]) => ?_)
    refine lv_aload_n hx hb d_NS_pick_11 rfl (lv_at hl 1 rfl) ?_
    refine lv_ifnull hx hb d_NS_pick_12 ?_
    refine lv_iload_n hx hb d_NS_pick_15 rfl (lv_at hl 0 rfl) ?_
    refine lv_iconst (v := 1) hx hb d_NS_pick_16 (by decide) ?_
    refine lv_icmp_ge (tgt := 22) hx hb d_NS_pick_17 rfl (fun h17 => ?_) (fun h17 => ?_)
    · have h17b := h17
      obtain ⟨T, hT1, hT2⟩ := toW_nI hW 16 (by omega)
      have h17c : 1 ≤ T := (nI_leI (a := 1) (by omega) (by omega)).mp (by rw [← hT2]; exact h17)
      refine lv_aload_n hx hb d_NS_pick_22 rfl (lv_at hl 2 rfl) ?_
      refine lv_aload_n hx hb d_NS_pick_23 rfl (lv_at hl 1 rfl) ?_
      refine lv_iload_n hx hb d_NS_pick_24 rfl (lv_at hl 0 rfl) ?_
      rw [hT2]
      refine k_i (k_runV B hw (c_ST_drawnBelow hi h17c (by omega)) rfl rfl cf_NS_88 hi rfl rfl ⟨Nat.le_of_ble_eq_true rfl, Nat.le_of_ble_eq_true rfl⟩ rfl hl.1 rfl (Nat.le_of_ble_eq_true rfl) d_NS_pick_25 ⟨Nat.le_of_ble_eq_true rfl, Nat.le_of_ble_eq_true rfl⟩) hw (fun r25 w1 H locs hq hw => ?_)
      have er := hq.1
      have ew := hq.2
      rw [ew] at hw
      rw [er]
      have hF3 : XF K h aS aR aP aD aW aC rc g rr gd ix wt cd (wl.set iq (a, oSt (kd k) (bel (nI T) (kd k) 8 (f1 k, f2 k)).2.1 (bel (nI T) (kd k) 8 (f1 k, f2 k)).2.2)) := hF0.keep (fun j z hj hz => gs_ne (by omega) hz)
      refine k_i (k_runV B hw (c_NS_outcomeAt hF3) rfl rfl cf_NS_133 (gs_ne (by omega) e0) rfl rfl ⟨Nat.le_of_ble_eq_true rfl, Nat.le_of_ble_eq_true rfl⟩ rfl hl.1 rfl (Nat.le_of_ble_eq_true rfl) d_NS_pick_28 ⟨Nat.le_of_ble_eq_true rfl, Nat.le_of_ble_eq_true rfl⟩) hw (fun r28 w1 H locs hq hw => ?_)
      have er := hq.1
      have ew := hq.2
      rw [ew] at hw
      rw [er]
      exact r_i B hw d_NS_pick_31 ⟨by unfold piA; rw [onS_s hn]; (try dsimp only); rw [if_pos h17b, hT2], by unfold dr1 dr2; rw [onS_s hn, onS_s hn]; (try dsimp only); rw [if_pos (by rw [← hT2]; exact h17b), if_pos (by rw [← hT2]; exact h17b)]; exact XR.step hF0 hX hV hk hkd hga hi _ _⟩
    · refine lv_iconst (v := (-1)) hx hb d_NS_pick_20 (by decide) ?_
      exact r_i B hw d_NS_pick_21 ⟨by unfold piA; rw [onS_s hn]; exact (if_neg h17).symm, by unfold dr1 dr2; rw [onS_s hn, onS_s hn]; (try dsimp only); rw [if_neg h17, if_neg h17]; exact hR0⟩
set_option maxRecDepth 100000 in
set_option maxHeartbeats 4000000 in
theorem c_NS_shuffle {l : Launch} {D : va_G} {K : Nat → ClassId} {A : Nat → Prop} {wl : va_W} {h rc ix : Nat} {kd sd wt cd : Nat → Int32} {f1 f2 : Nat → Int64} {sz : Nat → Nat} (hR : XR K h kd f1 f2 rc sz sd ix wt cd wl) {x : Int32} : ctI l y_NS_shuffle prog_1_method_20_code 6 (some .boolean) 5 0 0 [.ref h, .int x] D K A (wl) (fun r w => r = rlA kd x ∧ XR K h kd (sh1 kd f1 f2 cd x) (sh2 kd f1 f2 cd x) rc sz sd ix wt (shC kd f1 f2 cd x) w) := by
  refine mt_of (by decide) (Nat.le_of_ble_eq_true rfl) ?_
  intro p e s m below meth c ls B hw hl
  have hx := B.1
  have hb := B.2.1
  have hl : lv_has ls 6 [(0, .ref h), (1, .int x)] := hl
  have hR0 := hR
  obtain ⟨aS, aR, aP, aD, aW, aC, g, rr, gd, ra, wa, hF, hX, hV⟩ := hR
  have hF0 := hF
  obtain ⟨e0, e1, e2, e3, e4, e5, e9, e10⟩ := hF
  refine lv_aload_n hx hb d_NS_shuffle_0 rfl (lv_at hl 0 rfl) ?_
  refine lv_iload_n hx hb d_NS_shuffle_1 rfl (lv_at hl 1 rfl) ?_
  refine k_q (k_runV B hw (c_NS_streamAt hF0) rfl rfl cf_NS_61 e0 rfl rfl ⟨Nat.le_of_ble_eq_true rfl, Nat.le_of_ble_eq_true rfl⟩ rfl hl.1 rfl (Nat.le_of_ble_eq_true rfl) d_NS_shuffle_2 ⟨Nat.le_of_ble_eq_true rfl, Nat.le_of_ble_eq_true rfl⟩) hw (fun r2 w1 H locs hq hw => ?_)
  obtain ⟨rfl, ew⟩ := hq
  rw [ew] at hw
  rcases st_case hX x with ⟨hn, hz⟩ | ⟨k, hk, rfl, hn, hkd, a, iq, hga, hz, hi⟩
  · rw [hz, va_rf_none]
    refine lv_astore_nN hx hb d_NS_shuffle_5 rfl hl (by decide) rfl (fun ls (hl : lv_has ls 6 [(2, .null), (0, .ref _), (1, .int _)]) => ?_)
    refine lv_aload_nN hx hb d_NS_shuffle_6 rfl (lv_at hl 0 rfl) ?_
    refine lv_ifnonnullN hx hb d_NS_shuffle_7 ?_
    refine lv_iconst (v := 0) hx hb d_NS_shuffle_10 (by decide) ?_
    exact r_z B hw (by decide) d_NS_shuffle_11 ⟨by unfold rlA; rw [onS_n hn], by unfold sh1 sh2 shC; rw [onS_n hn, onS_n hn, onS_n hn]; exact hR0⟩
  · rw [hz, va_rf_some]
    have h10 := hF0.st hi (by omega)
    refine lv_astore_n hx hb d_NS_shuffle_5 rfl hl (by decide) rfl (fun ls (hl : lv_has ls 6 [(2, .ref _), (0, .ref _), (1, .int _)]) => ?_)
    refine lv_aload_n hx hb d_NS_shuffle_6 rfl (lv_at hl 0 rfl) ?_
    refine lv_ifnonnull (tgt := 12) hx hb d_NS_shuffle_7 rfl ?_
    refine lv_bipush (v := 15) hx hb d_NS_shuffle_12 (by decide) ?_
    refine lv_istore_n hx hb d_NS_shuffle_14 rfl hl (by decide) rfl (fun ls (hl : lv_has ls 6 [(3, .int _), (2, .ref _), (0, .ref _), (1, .int _)]) => ?_)
    refine lp_w (σ := Nat × (Nat → Int32) × Int64 × Int64) (fun z => z.1) (fun z H locs ls => z.1 ≤ 15 ∧ shN (kd k) 15 (cd, f1 k, f2 k) = shN (kd k) z.1 z.2 ∧ lv_has ls 6 [(3, .int (nI z.1)), (2, .ref a), (0, .ref h), (1, .int (nI k))] ∧ wd D A ((wl.set 10 (aC, arI K 16 z.2.1)).set iq (a, oSt (kd k) z.2.2.1 z.2.2.2)) s H locs) ?_ (15, cd, f1 k, f2 k) _ _ _ ⟨by show 15 ≤ 15; omega, rfl, lv_sub hl [0, 1, 2, 3] rfl, by show wd D A ((wl.set 10 (aC, arI K 16 cd)).set iq (a, oSt (kd k) (f1 k) (f2 k))) s _ _; rw [set_self e10, set_self hi]; exact hw⟩
    rintro ⟨i, c, F, G⟩ H locs ls ⟨hi15, hsh, hl, hw⟩ ih
    dsimp only at hi15 hsh hl hw
    have hi2 : ((wl.set 10 (aC, arI K 16 c)).set iq (a, oSt (kd k) F G))[iq]? = some (a, oSt (kd k) F G) := gs_eq (gs_ne (by omega) hi)
    refine lv_iload_n hx hb d_NS_shuffle_15 rfl (lv_at hl 0 rfl) ?_
    refine lv_iconst (v := 1) hx hb d_NS_shuffle_16 (by decide) ?_
    refine lv_icmp_lt (tgt := 65) hx hb d_NS_shuffle_17 rfl (fun h17 => ?_) (fun h17 => ?_)
    · have h17 : i < 1 := (nI_ltI (b := 1) (by omega) (by omega)).mp h17
      obtain rfl : i = 0 := by omega
      have hsh : shN (kd k) 15 (cd, f1 k, f2 k) = (c, F, G) := hsh
      refine lv_iconst (v := 1) hx hb d_NS_shuffle_65 (by decide) ?_
      exact r_z B hw (by decide) d_NS_shuffle_66 ⟨by unfold rlA; rw [onS_s hn], by unfold sh1 sh2 shC; rw [onS_s hn, onS_s hn, onS_s hn]; (try dsimp only); rw [hsh]; exact XR.mix hF0 hX hV hk hkd hga hi _ _ _⟩
    · have h17 : 0 < i := Nat.lt_of_not_le (fun q => h17 ((nI_ltI (b := 1) (by omega) (by omega)).mpr (by omega)))
      refine lv_aload_n hx hb d_NS_shuffle_20 rfl (lv_at hl 1 rfl) ?_
      refine lv_iload_n hx hb d_NS_shuffle_21 rfl (lv_at hl 0 rfl) ?_
      refine lv_iconst (v := 1) hx hb d_NS_shuffle_22 (by decide) ?_
      refine lv_iadd hx hb d_NS_shuffle_23 ?_
      rw [← nI_succ i]
      refine k_i (k_runV B hw (c_ST_drawnBelow hi2 (N := i + 1) (by omega) (by omega)) rfl rfl cf_NS_88 hi2 rfl rfl ⟨Nat.le_of_ble_eq_true rfl, Nat.le_of_ble_eq_true rfl⟩ rfl hl.1 rfl (Nat.le_of_ble_eq_true rfl) d_NS_shuffle_24 ⟨Nat.le_of_ble_eq_true rfl, Nat.le_of_ble_eq_true rfl⟩) hw (fun r24 w1 H locs hq hw => ?_)
      have er := hq.1
      have ew := hq.2
      rw [ew, List.set_set] at hw
      rw [er]
      obtain ⟨j, hj, hjr⟩ := bel_lt (N := i + 1) (by omega) (by omega) (kd k) 8 (F, G)
      generalize hbe : bel (nI (i + 1)) (kd k) 8 (F, G) = be at hw hjr ⊢
      obtain ⟨be1, be2, be3⟩ := be
      dsimp only at hw hjr ⊢
      subst hjr
      refine lv_istore hx hb d_NS_shuffle_27 hl (by decide) rfl (fun ls (hl : lv_has ls 6 [(4, .int _), (3, .int _), (2, .ref _), (0, .ref _), (1, .int _)]) => ?_)
      refine lv_aload_n hx hb d_NS_shuffle_29 rfl (lv_at hl 3 rfl) ?_
      refine g_get B hw fl_NS_36 (gs_ne (by omega) (gs_ne (by omega) e0)) rfl d_NS_shuffle_30 ?_
      refine lv_iload_n hx hb d_NS_shuffle_33 rfl (lv_at hl 1 rfl) ?_
      refine g_iald B hw (gs_ne (by omega) (gs_eq e10)) (vp_in_nI (by omega) (by omega)) d_NS_shuffle_34 ?_
      rw [nI_clamp (by omega)]
      refine lv_istore hx hb d_NS_shuffle_35 hl (by decide) rfl (fun ls (hl : lv_has ls 6 [(5, .int _), (4, .int _), (3, .int _), (2, .ref _), (0, .ref _), (1, .int _)]) => ?_)
      refine lv_aload_n hx hb d_NS_shuffle_37 rfl (lv_at hl 4 rfl) ?_
      refine g_get B hw fl_NS_36 (gs_ne (by omega) (gs_ne (by omega) e0)) rfl d_NS_shuffle_38 ?_
      refine lv_iload_n hx hb d_NS_shuffle_41 rfl (lv_at hl 2 rfl) ?_
      refine lv_aload_n hx hb d_NS_shuffle_42 rfl (lv_at hl 4 rfl) ?_
      refine g_get B hw fl_NS_36 (gs_ne (by omega) (gs_ne (by omega) e0)) rfl d_NS_shuffle_43 ?_
      refine lv_iload hx hb d_NS_shuffle_46 (lv_at hl 1 rfl) ?_
      refine g_iald B hw (gs_ne (by omega) (gs_eq e10)) (vp_in_nI (by omega) (by omega)) d_NS_shuffle_48 ?_
      rw [nI_clamp (by omega)]
      refine g_iast B hw (gs_ne (by omega) (gs_eq e10)) (vp_in_nI (by omega) (by omega)) d_NS_shuffle_49 (fun H locs hw => ?_)
      rw [s10 (by omega), nI_clamp (by omega)] at hw
      refine lv_aload_n hx hb d_NS_shuffle_50 rfl (lv_at hl 4 rfl) ?_
      refine g_get B hw fl_NS_36 (gs_ne (by omega) (gs_ne (by omega) e0)) rfl d_NS_shuffle_51 ?_
      refine lv_iload hx hb d_NS_shuffle_54 (lv_at hl 1 rfl) ?_
      refine lv_iload hx hb d_NS_shuffle_56 (lv_at hl 0 rfl) ?_
      refine g_iast B hw (gs_ne (by omega) (gs_eq e10)) (vp_in_nI (by omega) (by omega)) d_NS_shuffle_58 (fun H locs hw => ?_)
      rw [s10 (by omega), nI_clamp (by omega)] at hw
      refine lv_iinc (k := 2) hx hb d_NS_shuffle_59 hl rfl (show nI i + Int32.ofInt (-1) = nI (i - 1) from sb_m1 h17) (by decide) rfl (fun ls (hl : lv_has ls 6 [(3, .int (nI (i - 1))), (5, .int _), (4, .int _), (2, .ref _), (0, .ref _), (1, .int _)]) => ?_)
      refine lv_goto (tgt := 15) hx hb d_NS_shuffle_62 rfl ?_
      exact ih (i - 1, swp c i j, be2, be3) _ _ _ (by show i - 1 < i; omega) ⟨by show i - 1 ≤ 15; omega, hsh.trans (shN_gx h17 hbe (by omega)), lv_sub hl [0, 3, 4, 5] rfl, hw⟩
end
section
/-! NumberStreams: the records' calls. -/
section XREC
variable {K : Nat → ClassId} {h aS aR aP aD aW aC rc ix : Nat} {g rr gd : Nat → Option Nat} {wt cd kd sd : Nat → Int32} {f1 f2 : Nat → Int64} {sz ra wa : Nat → Nat} {wl : va_W}
theorem XR.cut (hF : XF K h aS aR aP aD aW aC rc g rr gd ix wt cd wl) (hX : XS kd f1 f2 g wl) (hV : XV K rc sz sd rr ra wa wl) {r i : Nat} (hr : r < rc) (hi : wl[i]? = some (ra r, oSv (wa r) (sz r))) : XR K h kd f1 f2 rc (updN sz r (sz r - 1)) sd ix wt cd (wl.set i (ra r, oSv (wa r) (sz r - 1))) := by
  have h10 := hF.st hi (by omega)
  refine ⟨aS, aR, aP, aD, aW, aC, g, rr, gd, ra, wa, hF.keep (fun j x hj hx => gs_ne (by omega) hx), hX.keep (fun j b c F G hx => gs_ne (ne_oo hi hx (by omega)) hx), hV.1, fun t ht => ?_, hV.2.2⟩
  obtain ⟨q1, q2, i2, j2, w2, q3, q4, q5⟩ := hV.2.1 t ht
  by_cases e : t = r
  · subst e
    rw [updN_s]
    exact ⟨q1, by omega, i, j2, w2, gs_eq hi, gs_ne (ne_oa hi q4) q4, fun u hu => q5 u (by omega)⟩
  · rw [updN_n e]
    exact ⟨q1, q2, i2, j2, w2, gs_ne (ne_aa hi q3 (fun z => e (hV.2.2.1 t r ht hr z.symm))) q3, gs_ne (ne_oa hi q4) q4, q5⟩
theorem XR.spoil (hF : XF K h aS aR aP aD aW aC rc g rr gd ix wt cd wl) (hX : XS kd f1 f2 g wl) (hV : XV K rc sz sd rr ra wa wl) {r i j n : Nat} {w : Nat → Int32} (hr : r < rc) (hs : sz r ≤ 6) (hi : wl[i]? = some (ra r, oSv (wa r) (sz r))) (hj : wl[j]? = some (wa r, arI K 6 w)) (hw : ∀ t, t < sz r → w t = sd (6 * r + t)) (hn : n < sz r) (x : Int32) : XR K h kd f1 f2 rc sz (upd sd (6 * r + n) x) ix wt cd (wl.set j (wa r, arI K 6 (upd w n x))) := by
  have h10 := hF.wd hj
  refine ⟨aS, aR, aP, aD, aW, aC, g, rr, gd, ra, wa, hF.keep (fun j x hj hx => gs_ne (by omega) hx), hX.keep (fun i2 b c F G hx => gs_ne (ne_oa hx hj).symm hx), hV.1, fun t ht => ?_, hV.2.2⟩
  obtain ⟨q1, q2, i2, j2, w2, q3, q4, q5⟩ := hV.2.1 t ht
  by_cases e : t = r
  · subst e
    refine ⟨q1, q2, i, j, upd w n x, gs_ne (ne_oa hi hj).symm hi, gs_eq hj, fun u hu => ?_⟩
    by_cases eu : u = n
    · subst eu; rw [pk_us, pk_us]
    · rw [pk_un eu, pk_un (by omega)]; exact hw u hu
  · refine ⟨q1, q2, i2, j2, w2, gs_ne (ne_oa q3 hj).symm q3, gs_ne (ne_aa hj q4 (fun z => e (hV.2.2.2 t r ht hr z.symm))) q4, fun u hu => ?_⟩
    rw [pk_un (by omega)]
    exact q5 u hu
theorem blk_in {b n u : Nat} {w : Nat → Int32} (h : u < n) : blk sd b n w (b + u) = w u := by
  unfold blk
  rw [if_pos ⟨by omega, by omega⟩, Nat.add_sub_cancel_left]
theorem blk_out {b n t : Nat} {w : Nat → Int32} (h : t < b ∨ b + n ≤ t) : blk sd b n w t = sd t := by
  unfold blk
  rw [if_neg (by omega)]
theorem XR.rec (hF : XF K h aS aR aP aD aW aC rc g rr gd ix wt cd wl) (hX : XS kd f1 f2 g wl) (hV : XV K rc sz sd rr ra wa wl) {A : Nat → Prop} {q q2 n : Nat} {w : Nat → Int32} (hrc : rc < 6) (hn : n ≤ 6) (hD : va_D A ((wl ++ [(q, oSv q2 n)]) ++ [(q2, arI K 6 w)])) :
    XR K h kd f1 f2 (rc + 1) (updN sz rc n) (blk sd (6 * rc) n w) ix wt cd ((((wl ++ [(q, oSv q2 n)]) ++ [(q2, arI K 6 w)]).set 2 (aR, arQ K 3 6 (va_up rr rc (some q)))).set 0 (h, oNS aS aR (rc + 1) aP aW aC)) := by
  have hq : ∀ (i a : Nat) (x : va_E), wl[i]? = some (a, x) → a ≠ q := fun i a x hx z => by
    have hl : i < wl.length := (List.getElem?_eq_some_iff.mp hx).1
    have := hD.1 i wl.length (a, x) _ (ga_old (ga_old hx)) (ga_old ga_new) z
    omega
  have hq2 : ∀ (i a : Nat) (x : va_E), wl[i]? = some (a, x) → a ≠ q2 := fun i a x hx z => by
    have hl : i < wl.length := (List.getElem?_eq_some_iff.mp hx).1
    have := hD.1 i (wl ++ [(q, oSv q2 n)]).length (a, x) _ (ga_old (ga_old hx)) ga_new z
    simp at this
    omega
  have hF2 := hF
  obtain ⟨e0, e1, e2, e3, e4, e5, e9, e10⟩ := hF
  have hl1 : 10 < wl.length := (List.getElem?_eq_some_iff.mp e10).1
  have up : ∀ {i : Nat} {x : Nat × va_E}, i ≠ 0 → i ≠ 2 → wl[i]? = some x → ((((wl ++ [(q, oSv q2 n)]) ++ [(q2, arI K 6 w)]).set 2 (aR, arQ K 3 6 (va_up rr rc (some q)))).set 0 (h, oNS aS aR (rc + 1) aP aW aC))[i]? = some x := fun h1 h2 hx => gs_ne (Ne.symm h1) (gs_ne (Ne.symm h2) (ga_old (ga_old hx)))
  refine ⟨aS, aR, aP, aD, aW, aC, g, va_up rr rc (some q), gd, updN ra rc q, updN wa rc q2, ⟨gs_eq (gs_ne (by omega) (ga_old (ga_old e0))), up (by omega) (by omega) e1, gs_ne (by omega) (gs_eq (ga_old (ga_old e2))), up (by omega) (by omega) e3, up (by omega) (by omega) e4, fun j hj => ?_, up (by omega) (by omega) e9, up (by omega) (by omega) e10⟩, hX.keep (fun j b c F G hx => by have := hF2.st hx (by omega); exact up (by omega) (by omega) hx), by omega, fun t ht => ?_, fun t u ht hu hz => ?_, fun t u ht hu hz => ?_⟩
  · obtain ⟨a, F, h1, h2, h3⟩ := e5 j hj
    exact ⟨a, F, h1, up (by omega) (by omega) h2, h3⟩
  · by_cases e : t = rc
    · subst e
      rw [updN_s, updN_s, updN_s]
      exact ⟨va_up_self .., hn, wl.length, (wl ++ [(q, oSv q2 n)]).length, w, gs_ne (by omega) (gs_ne (by omega) (ga_old ga_new)), gs_ne (by simp) (gs_ne (by simp; omega) ga_new), fun u hu => (blk_in hu).symm⟩
    · rw [updN_n e, updN_n e, updN_n e, show va_up rr rc (some q) t = rr t from if_neg e]
      obtain ⟨q1, z2, i2, j2, w2, q3, q4, q5⟩ := hV.2.1 t (by omega)
      refine ⟨q1, z2, i2, j2, w2, by have := hF2.st q3 (by omega); exact up (by omega) (by omega) q3, by have := hF2.wd q4; exact up (by omega) (by omega) q4, fun u hu => ?_⟩
      rw [blk_out (by omega)]
      exact q5 u hu
  · by_cases e : t = rc <;> by_cases e' : u = rc
    · omega
    · subst e
      rw [updN_s, updN_n e'] at hz
      obtain ⟨_, _, i2, j2, w2, q3, q4, _⟩ := hV.2.1 u (by omega)
      exact absurd hz.symm (hq _ _ _ q3)
    · subst e'
      rw [updN_s, updN_n e] at hz
      obtain ⟨_, _, i2, j2, w2, q3, q4, _⟩ := hV.2.1 t (by omega)
      exact absurd hz (hq _ _ _ q3)
    · rw [updN_n e, updN_n e'] at hz
      exact hV.2.2.1 t u (by omega) (by omega) hz
  · by_cases e : t = rc <;> by_cases e' : u = rc
    · omega
    · subst e
      rw [updN_s, updN_n e'] at hz
      obtain ⟨_, _, i2, j2, w2, q3, q4, _⟩ := hV.2.1 u (by omega)
      exact absurd hz.symm (hq2 _ _ _ q4)
    · subst e'
      rw [updN_s, updN_n e] at hz
      obtain ⟨_, _, i2, j2, w2, q3, q4, _⟩ := hV.2.1 t (by omega)
      exact absurd hz (hq2 _ _ _ q4)
    · rw [updN_n e, updN_n e'] at hz
      exact hV.2.2.2 t u (by omega) (by omega) hz
end XREC
theorem sv_last {K : Nat → ClassId} {wl : va_W} {q q2 n : Nat} {w w0 : Nat → Int32} {x : va_E} : svW K ((wl ++ [(q, x)]) ++ [(q2, arI K 6 w0)]) wl.length (wl ++ [(q, x)]).length q q2 n w = (wl ++ [(q, oSv q2 n)]) ++ [(q2, arI K 6 w)] := by
  unfold svW
  rw [set_last, List.set_append_left _ _ (by simp), set_last]
theorem hw_case {rc r : Nat} {sz : Nat → Nat} {y : Int32} (hn : rcS rc (nI r) = some r) (hs : sz r ≤ 6) : ((if y < 0 then (0 : Int32) else if nI (sz r) ≤ y then 0 else 1) = 0 ∧ hwB rc sz (nI r) y = false) ∨ ((if y < 0 then (0 : Int32) else if nI (sz r) ≤ y then 0 else 1) = 1 ∧ hwB rc sz (nI r) y = true ∧ ∃ t, t < sz r ∧ y = nI t) := by
  have e : hwB rc sz (nI r) y = if y < 0 then false else if nI (sz r) ≤ y then false else true := by unfold hwB; rw [hn]
  rw [e]
  by_cases h0 : y < 0
  · exact Or.inl ⟨if_pos h0, if_pos h0⟩
  · by_cases h1 : nI (sz r) ≤ y
    · exact Or.inl ⟨by rw [if_neg h0, if_pos h1], by rw [if_neg h0, if_pos h1]⟩
    · exact Or.inr ⟨by rw [if_neg h0, if_neg h1], by rw [if_neg h0, if_neg h1], slot_of h0 (by omega) (Int32.not_le.mp h1)⟩
theorem hw_none {rc : Nat} {sz : Nat → Nat} {x y : Int32} (hn : rcS rc x = none) : hwB rc sz x y = false := by unfold hwB; rw [hn]
set_option maxRecDepth 100000 in
set_option maxHeartbeats 4000000 in
theorem c_NS_length {l : Launch} {D : va_G} {K : Nat → ClassId} {A : Nat → Prop} {wl : va_W} {h rc ix : Nat} {kd sd wt cd : Nat → Int32} {f1 f2 : Nat → Int64} {sz : Nat → Nat} (hR : XR K h kd f1 f2 rc sz sd ix wt cd wl) {x : Int32} : ctI l y_NS_length prog_1_method_10_code 3 (some .int) 1 0 0 [.ref h, .int x] D K A (wl) (fun z v => z = lnA rc sz x ∧ v = wl) := by
  refine mt_of (by decide) (Nat.le_of_ble_eq_true rfl) ?_
  intro p e s m below meth c ls B hw hl
  have hx := B.1
  have hb := B.2.1
  have hl : lv_has ls 3 [(0, .ref h), (1, .int x)] := hl
  have hR0 := hR
  obtain ⟨aS, aR, aP, aD, aW, aC, g, rr, gd, ra, wa, hF, hX, hV⟩ := hR
  have hF0 := hF
  obtain ⟨e0, e1, e2, e3, e4, e5, e9, e10⟩ := hF
  have hrc6 := hV.1
  refine lv_aload_n hx hb d_NS_length_0 rfl (lv_at hl 0 rfl) ?_
  refine lv_iload_n hx hb d_NS_length_1 rfl (lv_at hl 1 rfl) ?_
  refine k_q (k_runV B hw (c_NS_recordAt hF0 hrc6) rfl rfl cf_NS_95 e0 rfl rfl ⟨Nat.le_of_ble_eq_true rfl, Nat.le_of_ble_eq_true rfl⟩ rfl hl.1 rfl (Nat.le_of_ble_eq_true rfl) d_NS_length_2 ⟨Nat.le_of_ble_eq_true rfl, Nat.le_of_ble_eq_true rfl⟩) hw (fun r2 w1 H locs hq hw => ?_)
  obtain ⟨rfl, ew⟩ := hq
  rw [ew] at hw
  rcases rc_case hV x with ⟨hn, hz⟩ | ⟨r, hr, rfl, hn, hz, hs6, i, j, u, hi, hj, hwd⟩
  · rw [hz, va_rf_none]
    refine lv_astore_nN hx hb d_NS_length_5 rfl hl (by decide) rfl (fun ls (hl : lv_has ls 3 [(2, .null), (0, .ref _), (1, .int _)]) => ?_)
    refine lv_aload_nN hx hb d_NS_length_6 rfl (lv_at hl 0 rfl) ?_
    refine lv_ifnonnullN hx hb d_NS_length_7 ?_
    refine lv_iconst (v := (-1)) hx hb d_NS_length_10 (by decide) ?_
    refine lv_goto (tgt := 18) hx hb d_NS_length_11 rfl ?_
    exact r_i B hw d_NS_length_18 ⟨by unfold lnA; rw [hn], rfl⟩
  · rw [hz, va_rf_some]
    refine lv_astore_n hx hb d_NS_length_5 rfl hl (by decide) rfl (fun ls (hl : lv_has ls 3 [(2, .ref _), (0, .ref _), (1, .int _)]) => ?_)
    refine lv_aload_n hx hb d_NS_length_6 rfl (lv_at hl 0 rfl) ?_
    refine lv_ifnonnull (tgt := 14) hx hb d_NS_length_7 rfl ?_
    refine lv_aload_n hx hb d_NS_length_14 rfl (lv_at hl 0 rfl) ?_
    refine g_get B hw fl_NS_99 hi rfl d_NS_length_15 ?_
    exact r_i B hw d_NS_length_18 ⟨by unfold lnA; rw [hn], rfl⟩
set_option maxRecDepth 100000 in
set_option maxHeartbeats 4000000 in
theorem c_NS_word {l : Launch} {D : va_G} {K : Nat → ClassId} {A : Nat → Prop} {wl : va_W} {h rc ix : Nat} {kd sd wt cd : Nat → Int32} {f1 f2 : Nat → Int64} {sz : Nat → Nat} (hR : XR K h kd f1 f2 rc sz sd ix wt cd wl) {x y : Int32} : ctI l y_NS_word prog_1_method_11_code 4 (some .int) 1 0 0 [.ref h, .int x, .int y] D K A (wl) (fun z v => z = wdA rc sz sd x y ∧ v = wl) := by
  refine mt_of (by decide) (Nat.le_of_ble_eq_true rfl) ?_
  intro p e s m below meth c ls B hw hl
  have hx := B.1
  have hb := B.2.1
  have hl : lv_has ls 4 [(0, .ref h), (1, .int x), (2, .int y)] := hl
  have hR0 := hR
  obtain ⟨aS, aR, aP, aD, aW, aC, g, rr, gd, ra, wa, hF, hX, hV⟩ := hR
  have hF0 := hF
  obtain ⟨e0, e1, e2, e3, e4, e5, e9, e10⟩ := hF
  have hrc6 := hV.1
  refine lv_aload_n hx hb d_NS_word_0 rfl (lv_at hl 0 rfl) ?_
  refine lv_iload_n hx hb d_NS_word_1 rfl (lv_at hl 1 rfl) ?_
  refine k_q (k_runV B hw (c_NS_recordAt hF0 hrc6) rfl rfl cf_NS_95 e0 rfl rfl ⟨Nat.le_of_ble_eq_true rfl, Nat.le_of_ble_eq_true rfl⟩ rfl hl.1 rfl (Nat.le_of_ble_eq_true rfl) d_NS_word_2 ⟨Nat.le_of_ble_eq_true rfl, Nat.le_of_ble_eq_true rfl⟩) hw (fun r2 w1 H locs hq hw => ?_)
  obtain ⟨rfl, ew⟩ := hq
  rw [ew] at hw
  rcases rc_case hV x with ⟨hn, hz⟩ | ⟨r, hr, rfl, hn, hz, hs6, i, j, u, hi, hj, hwd⟩
  · rw [hz, va_rf_none]
    refine lv_astore_nN hx hb d_NS_word_5 rfl hl (by decide) rfl (fun ls (hl : lv_has ls 4 [(3, .null), (0, .ref _), (1, .int _), (2, .int _)]) => ?_)
    refine lv_aload_nN hx hb d_NS_word_6 rfl (lv_at hl 0 rfl) ?_
    refine lv_ifnullN (tgt := 18) hx hb d_NS_word_7 rfl ?_
    refine lv_iconst (v := 0) hx hb d_NS_word_18 (by decide) ?_
    refine lv_goto (tgt := 28) hx hb d_NS_word_19 rfl ?_
    exact r_i B hw d_NS_word_28 ⟨by unfold wdA; rw [hw_none hn]; rfl, rfl⟩
  · rw [hz, va_rf_some]
    refine lv_astore_n hx hb d_NS_word_5 rfl hl (by decide) rfl (fun ls (hl : lv_has ls 4 [(3, .ref _), (0, .ref _), (1, .int _), (2, .int _)]) => ?_)
    refine lv_aload_n hx hb d_NS_word_6 rfl (lv_at hl 0 rfl) ?_
    refine lv_ifnull hx hb d_NS_word_7 ?_
    refine lv_aload_n hx hb d_NS_word_10 rfl (lv_at hl 0 rfl) ?_
    refine lv_iload_n hx hb d_NS_word_11 rfl (lv_at hl 3 rfl) ?_
    refine k_i (k_runV B hw (c_SV_hasWord hi hj) rfl rfl cf_NS_102 hi rfl rfl ⟨Nat.le_of_ble_eq_true rfl, Nat.le_of_ble_eq_true rfl⟩ rfl hl.1 rfl (Nat.le_of_ble_eq_true rfl) d_NS_word_12 ⟨Nat.le_of_ble_eq_true rfl, Nat.le_of_ble_eq_true rfl⟩) hw (fun r12 w1 H locs hq hw => ?_)
    obtain ⟨rfl, ew⟩ := hq
    rw [ew] at hw
    rcases hw_case (y := y) hn hs6 with ⟨hc, hb2⟩ | ⟨hc, hb2, t, ht, rfl⟩
    · rw [hc]
      refine lv_if_ne (tgt := 22) hx hb d_NS_word_15 rfl (fun h15 => ?_) (fun h15 => ?_)
      · exact absurd rfl h15
      · refine lv_iconst (v := 0) hx hb d_NS_word_18 (by decide) ?_
        refine lv_goto (tgt := 28) hx hb d_NS_word_19 rfl ?_
        exact r_i B hw d_NS_word_28 ⟨by unfold wdA; rw [hb2]; rfl, rfl⟩
    · rw [hc]
      refine lv_if_ne (tgt := 22) hx hb d_NS_word_15 rfl (fun h15 => ?_) (fun h15 => ?_)
      · refine lv_aload_n hx hb d_NS_word_22 rfl (lv_at hl 0 rfl) ?_
        refine g_get B hw fl_NS_105 hi rfl d_NS_word_23 ?_
        refine lv_iload_n hx hb d_NS_word_26 rfl (lv_at hl 3 rfl) ?_
        refine g_iald B hw hj (vp_in_nI (by omega) (by omega)) d_NS_word_27 ?_
        rw [nI_clamp (by omega), hwd t ht]
        exact r_i B hw d_NS_word_28 ⟨by unfold wdA; rw [hb2, if_pos rfl, nI_clamp (by omega), nI_clamp (by omega)], rfl⟩
      · exact absurd h15 (by decide)
set_option maxRecDepth 100000 in
set_option maxHeartbeats 4000000 in
theorem c_NS_spoil {l : Launch} {D : va_G} {K : Nat → ClassId} {A : Nat → Prop} {wl : va_W} {h rc ix : Nat} {kd sd wt cd : Nat → Int32} {f1 f2 : Nat → Int64} {sz : Nat → Nat} (hR : XR K h kd f1 f2 rc sz sd ix wt cd wl) {x y mk : Int32} : ctI l y_NS_spoil prog_1_method_12_code 5 (some .boolean) 1 0 0 [.ref h, .int x, .int y, .int mk] D K A (wl) (fun z v => z = bI (hwB rc sz x y) ∧ XR K h kd f1 f2 rc sz (spD rc sz sd x y mk) ix wt cd v) := by
  refine mt_of (by decide) (Nat.le_of_ble_eq_true rfl) ?_
  intro p e s m below meth c ls B hw hl
  have hx := B.1
  have hb := B.2.1
  have hl : lv_has ls 5 [(0, .ref h), (1, .int x), (2, .int y), (3, .int mk)] := hl
  have hR0 := hR
  obtain ⟨aS, aR, aP, aD, aW, aC, g, rr, gd, ra, wa, hF, hX, hV⟩ := hR
  have hF0 := hF
  obtain ⟨e0, e1, e2, e3, e4, e5, e9, e10⟩ := hF
  have hrc6 := hV.1
  refine lv_aload_n hx hb d_NS_spoil_0 rfl (lv_at hl 0 rfl) ?_
  refine lv_iload_n hx hb d_NS_spoil_1 rfl (lv_at hl 1 rfl) ?_
  refine k_q (k_runV B hw (c_NS_recordAt hF0 hrc6) rfl rfl cf_NS_95 e0 rfl rfl ⟨Nat.le_of_ble_eq_true rfl, Nat.le_of_ble_eq_true rfl⟩ rfl hl.1 rfl (Nat.le_of_ble_eq_true rfl) d_NS_spoil_2 ⟨Nat.le_of_ble_eq_true rfl, Nat.le_of_ble_eq_true rfl⟩) hw (fun r2 w1 H locs hq hw => ?_)
  obtain ⟨rfl, ew⟩ := hq
  rw [ew] at hw
  rcases rc_case hV x with ⟨hn, hz⟩ | ⟨r, hr, rfl, hn, hz, hs6, i, j, u, hi, hj, hwd⟩
  · rw [hz, va_rf_none]
    refine lv_astoreN hx hb d_NS_spoil_5 hl (by decide) rfl (fun ls (hl : lv_has ls 5 [(4, .null), (0, .ref _), (1, .int _), (2, .int _), (3, .int _)]) => ?_)
    refine lv_aloadN hx hb d_NS_spoil_7 (lv_at hl 0 rfl) ?_
    refine lv_ifnullN (tgt := 21) hx hb d_NS_spoil_9 rfl ?_
    refine lv_iconst (v := 0) hx hb d_NS_spoil_21 (by decide) ?_
    exact r_z B hw (by decide) d_NS_spoil_22 ⟨by rw [hw_none hn]; rfl, by unfold spD; rw [hw_none hn]; exact hR0⟩
  · rw [hz, va_rf_some]
    refine lv_astore hx hb d_NS_spoil_5 hl (by decide) rfl (fun ls (hl : lv_has ls 5 [(4, .ref _), (0, .ref _), (1, .int _), (2, .int _), (3, .int _)]) => ?_)
    refine lv_aload hx hb d_NS_spoil_7 (lv_at hl 0 rfl) ?_
    refine lv_ifnull hx hb d_NS_spoil_9 ?_
    refine lv_aload hx hb d_NS_spoil_12 (lv_at hl 0 rfl) ?_
    refine lv_iload_n hx hb d_NS_spoil_14 rfl (lv_at hl 3 rfl) ?_
    refine k_i (k_runV B hw (c_SV_hasWord hi hj) rfl rfl cf_NS_102 hi rfl rfl ⟨Nat.le_of_ble_eq_true rfl, Nat.le_of_ble_eq_true rfl⟩ rfl hl.1 rfl (Nat.le_of_ble_eq_true rfl) d_NS_spoil_15 ⟨Nat.le_of_ble_eq_true rfl, Nat.le_of_ble_eq_true rfl⟩) hw (fun r15 w1 H locs hq hw => ?_)
    obtain ⟨rfl, ew⟩ := hq
    rw [ew] at hw
    rcases hw_case (y := y) hn hs6 with ⟨hc, hb2⟩ | ⟨hc, hb2, t, ht, rfl⟩
    · rw [hc]
      refine lv_if_ne (tgt := 23) hx hb d_NS_spoil_18 rfl (fun h18 => ?_) (fun h18 => ?_)
      · exact absurd rfl h18
      · refine lv_iconst (v := 0) hx hb d_NS_spoil_21 (by decide) ?_
        exact r_z B hw (by decide) d_NS_spoil_22 ⟨by rw [hb2]; rfl, by unfold spD; rw [hb2]; exact hR0⟩
    · rw [hc]
      refine lv_if_ne (tgt := 23) hx hb d_NS_spoil_18 rfl (fun h18 => ?_) (fun h18 => ?_)
      · refine lv_aload hx hb d_NS_spoil_23 (lv_at hl 0 rfl) ?_
        refine g_get B hw fl_NS_105 hi rfl d_NS_spoil_25 ?_
        refine lv_iload_n hx hb d_NS_spoil_28 rfl (lv_at hl 3 rfl) ?_
        refine lv_dup2_11 hx hb d_NS_spoil_29 rfl rfl ?_
        refine g_iald B hw hj (vp_in_nI (by omega) (by omega)) d_NS_spoil_30 ?_
        rw [nI_clamp (by omega), hwd t ht]
        refine lv_iload_n hx hb d_NS_spoil_31 rfl (lv_at hl 4 rfl) ?_
        refine lv_ixor hx hb d_NS_spoil_32 ?_
        refine g_iast B hw hj (vp_in_nI (by omega) (by omega)) d_NS_spoil_33 (fun H locs hw => ?_)
        rw [nI_clamp (by omega)] at hw
        refine lv_iconst (v := 1) hx hb d_NS_spoil_34 (by decide) ?_
        exact r_z B hw (by decide) d_NS_spoil_35 ⟨by rw [hb2]; rfl, by unfold spD; rw [hb2, if_pos rfl, nI_clamp (by omega), nI_clamp (by omega)]; exact XR.spoil hF0 hX hV hr hs6 hi hj hwd ht _⟩
      · exact absurd h18 (by decide)
set_option maxRecDepth 100000 in
set_option maxHeartbeats 4000000 in
theorem c_NS_cut {l : Launch} {D : va_G} {K : Nat → ClassId} {A : Nat → Prop} {wl : va_W} {h rc ix : Nat} {kd sd wt cd : Nat → Int32} {f1 f2 : Nat → Int64} {sz : Nat → Nat} (hR : XR K h kd f1 f2 rc sz sd ix wt cd wl) {x : Int32} : ctI l y_NS_cut prog_1_method_13_code 3 (some .boolean) 1 0 0 [.ref h, .int x] D K A (wl) (fun z v => z = ctA rc sz x ∧ XR K h kd f1 f2 rc (ctZ rc sz x) sd ix wt cd v) := by
  refine mt_of (by decide) (Nat.le_of_ble_eq_true rfl) ?_
  intro p e s m below meth c ls B hw hl
  have hx := B.1
  have hb := B.2.1
  have hl : lv_has ls 3 [(0, .ref h), (1, .int x)] := hl
  have hR0 := hR
  obtain ⟨aS, aR, aP, aD, aW, aC, g, rr, gd, ra, wa, hF, hX, hV⟩ := hR
  have hF0 := hF
  obtain ⟨e0, e1, e2, e3, e4, e5, e9, e10⟩ := hF
  have hrc6 := hV.1
  refine lv_aload_n hx hb d_NS_cut_0 rfl (lv_at hl 0 rfl) ?_
  refine lv_iload_n hx hb d_NS_cut_1 rfl (lv_at hl 1 rfl) ?_
  refine k_q (k_runV B hw (c_NS_recordAt hF0 hrc6) rfl rfl cf_NS_95 e0 rfl rfl ⟨Nat.le_of_ble_eq_true rfl, Nat.le_of_ble_eq_true rfl⟩ rfl hl.1 rfl (Nat.le_of_ble_eq_true rfl) d_NS_cut_2 ⟨Nat.le_of_ble_eq_true rfl, Nat.le_of_ble_eq_true rfl⟩) hw (fun r2 w1 H locs hq hw => ?_)
  obtain ⟨rfl, ew⟩ := hq
  rw [ew] at hw
  rcases rc_case hV x with ⟨hn, hz⟩ | ⟨r, hr, rfl, hn, hz, hs6, i, j, u, hi, hj, hwd⟩
  · rw [hz, va_rf_none]
    refine lv_astore_nN hx hb d_NS_cut_5 rfl hl (by decide) rfl (fun ls (hl : lv_has ls 3 [(2, .null), (0, .ref _), (1, .int _)]) => ?_)
    refine lv_aload_nN hx hb d_NS_cut_6 rfl (lv_at hl 0 rfl) ?_
    refine lv_ifnullN (tgt := 17) hx hb d_NS_cut_7 rfl ?_
    refine lv_iconst (v := 0) hx hb d_NS_cut_17 (by decide) ?_
    exact r_z B hw (by decide) d_NS_cut_18 ⟨by unfold ctA; rw [onR_n hn], by unfold ctZ; rw [onR_n hn]; exact hR0⟩
  · rw [hz, va_rf_some]
    refine lv_astore_n hx hb d_NS_cut_5 rfl hl (by decide) rfl (fun ls (hl : lv_has ls 3 [(2, .ref _), (0, .ref _), (1, .int _)]) => ?_)
    refine lv_aload_n hx hb d_NS_cut_6 rfl (lv_at hl 0 rfl) ?_
    refine lv_ifnull hx hb d_NS_cut_7 ?_
    refine lv_aload_n hx hb d_NS_cut_10 rfl (lv_at hl 0 rfl) ?_
    refine g_get B hw fl_NS_99 hi rfl d_NS_cut_11 ?_
    refine lv_if_ne (tgt := 19) hx hb d_NS_cut_14 rfl (fun h14 => ?_) (fun h14 => ?_)
    · have h14 : ¬ sz r = 0 := fun q => h14 (by rw [q]; rfl)
      refine lv_aload_n hx hb d_NS_cut_19 rfl (lv_at hl 0 rfl) ?_
      refine lv_dup hx hb d_NS_cut_20 rfl ?_
      refine g_get B hw fl_NS_99 hi rfl d_NS_cut_21 ?_
      refine lv_iconst (v := 1) hx hb d_NS_cut_24 (by decide) ?_
      refine lv_isub hx hb d_NS_cut_25 ?_
      rw [show nI (sz r) - 1 = nI (sz r - 1) from pk_sub (a := sz r) (b := 1) (by omega)]
      refine g_put B hw fl_NS_99 ck_SV hi rfl rfl rfl (Nat.le_of_ble_eq_true rfl) d_NS_cut_26 (fun H locs hw => ?_)
      refine lv_iconst (v := 1) hx hb d_NS_cut_29 (by decide) ?_
      exact r_z B hw (by decide) d_NS_cut_30 ⟨by unfold ctA; rw [onR_s hn]; exact (if_neg h14).symm, by unfold ctZ; rw [onR_s hn]; (try dsimp only); rw [if_neg h14]; exact XR.cut hF0 hX hV hr hi⟩
    · have h14 : sz r = 0 := (nI_eq (b := 0) (by omega) (by omega)).mp h14
      refine lv_iconst (v := 0) hx hb d_NS_cut_17 (by decide) ?_
      exact r_z B hw (by decide) d_NS_cut_18 ⟨by unfold ctA; rw [onR_s hn]; exact (if_pos h14).symm, by unfold ctZ; rw [onR_s hn]; (try dsimp only); rw [if_pos h14]; exact hR0⟩
set_option maxRecDepth 100000 in
set_option maxHeartbeats 4000000 in
theorem c_NS_save {l : Launch} {D : va_G} {K : Nat → ClassId} {A : Nat → Prop} {wl : va_W} {h rc ix : Nat} {kd sd wt cd : Nat → Int32} {f1 f2 : Nat → Int64} {sz : Nat → Nat} (hR : XR K h kd f1 f2 rc sz sd ix wt cd wl) {x : Int32} : ctI l y_NS_save prog_1_method_9_code 4 (some .int) 3 2 8 [.ref h, .int x] D K A (wl) (fun z v => z = saA kd rc x ∧ XR K h kd f1 f2 (saR kd rc x) (saZ kd rc sz x) (saD kd f1 f2 rc sd x) ix wt cd v) := by
  refine mt_of (by decide) (Nat.le_of_ble_eq_true rfl) ?_
  intro p e s m below meth c ls B hw hl
  have hx := B.1
  have hb := B.2.1
  have hl : lv_has ls 4 [(0, .ref h), (1, .int x)] := hl
  have hR0 := hR
  obtain ⟨aS, aR, aP, aD, aW, aC, g, rr, gd, ra, wa, hF, hX, hV⟩ := hR
  have hF0 := hF
  obtain ⟨e0, e1, e2, e3, e4, e5, e9, e10⟩ := hF
  have hrc6 := hV.1
  refine lv_aload_n hx hb d_NS_save_0 rfl (lv_at hl 0 rfl) ?_
  refine lv_iload_n hx hb d_NS_save_1 rfl (lv_at hl 1 rfl) ?_
  refine k_q (k_runV B hw (c_NS_streamAt hF0) rfl rfl cf_NS_61 e0 rfl rfl ⟨Nat.le_of_ble_eq_true rfl, Nat.le_of_ble_eq_true rfl⟩ rfl hl.1 rfl (Nat.le_of_ble_eq_true rfl) d_NS_save_2 ⟨Nat.le_of_ble_eq_true rfl, Nat.le_of_ble_eq_true rfl⟩) hw (fun r2 w1 H locs hq hw => ?_)
  obtain ⟨rfl, ew⟩ := hq
  rw [ew] at hw
  rcases st_case hX x with ⟨hn, hz⟩ | ⟨k, hk, rfl, hn, hkd, a, iq, hga, hz, hi⟩
  · rw [hz, va_rf_none]
    refine lv_astore_nN hx hb d_NS_save_5 rfl hl (by decide) rfl (fun ls (hl : lv_has ls 4 [(2, .null), (0, .ref _), (1, .int _)]) => ?_)
    refine lv_aload_nN hx hb d_NS_save_6 rfl (lv_at hl 0 rfl) ?_
    refine lv_ifnullN (tgt := 19) hx hb d_NS_save_7 rfl ?_
    refine lv_iconst (v := (-1)) hx hb d_NS_save_19 (by decide) ?_
    refine W.widen (k := 2) (n := 8) (by decide) (by decide) ?_
    exact r_i B hw d_NS_save_20 ⟨by unfold saA; rw [onS_n hn], by unfold saR saZ saD; rw [onS_n hn, onS_n hn, onS_n hn]; exact hR0⟩
  · rw [hz, va_rf_some]
    have h10 := hF0.st hi (by omega)
    refine lv_astore_n hx hb d_NS_save_5 rfl hl (by decide) rfl (fun ls (hl : lv_has ls 4 [(2, .ref _), (0, .ref _), (1, .int _)]) => ?_)
    refine lv_aload_n hx hb d_NS_save_6 rfl (lv_at hl 0 rfl) ?_
    refine lv_ifnull hx hb d_NS_save_7 ?_
    refine lv_aload_n hx hb d_NS_save_10 rfl (lv_at hl 1 rfl) ?_
    refine g_get B hw fl_NS_21 e0 rfl d_NS_save_11 ?_
    refine lv_bipush (v := 6) hx hb d_NS_save_14 (by decide) ?_
    refine lv_icmp_lt (tgt := 21) hx hb d_NS_save_16 rfl (fun h16 => ?_) (fun h16 => ?_)
    · have h16 : rc < 6 := (nI_ltI (b := 6) (by omega) (by omega)).mp h16
      refine lv_aload_n hx hb d_NS_save_21 rfl (lv_at hl 1 rfl) ?_
      refine g_get B hw fl_NS_21 e0 rfl d_NS_save_22 ?_
      refine lv_istore_n hx hb d_NS_save_25 rfl hl (by decide) rfl (fun ls (hl : lv_has ls 4 [(3, .int _), (2, .ref _), (0, .ref _), (1, .int _)]) => ?_)
      refine lv_aload_n hx hb d_NS_save_26 rfl (lv_at hl 2 rfl) ?_
      refine g_get B hw fl_NS_17 e0 rfl d_NS_save_27 ?_
      refine lv_iload_n hx hb d_NS_save_30 rfl (lv_at hl 0 rfl) ?_
      refine g_new (ci := 2) [.null, .int 0] B hw rfl li_SV tt_SV cl_NS_15 ib_SV in_SV (fun j hj => by rcases (by omega : j = 0 ∨ j = 1) with rfl | rfl <;> rfl) (Nat.le_of_ble_eq_true rfl) (Nat.le_of_ble_eq_true rfl) d_NS_save_31 (fun q H hw => ?_)
      refine lv_dup hx hb d_NS_save_34 rfl ?_
      refine lv_aload_n hx hb d_NS_save_35 rfl (lv_at hl 1 rfl) ?_
      refine k_v (k_runI B hw (c_SV_init ga_new (ga_old hi)) rfl rfl cf_NS_92 ⟨Nat.le_of_ble_eq_true rfl, Nat.le_of_ble_eq_true rfl⟩ rfl hl.1 rfl (Nat.le_of_ble_eq_true rfl) d_NS_save_36 ⟨Nat.le_of_ble_eq_true rfl, Nat.le_of_ble_eq_true rfl⟩) hw (fun w1 H locs hq hw => ?_)
      obtain ⟨q2, ew⟩ := hq
      rw [ew, sv_last] at hw
      have hDn := hw.2.1
      refine g_aast 3 (r := ("NumberStreams$Saved", T_SV, 2)) B hw (ga_old (ga_old e2)) rfl (ga_old ga_new) rfl (vp_in_nI h16 (by omega)) d_NS_save_39 (fun H locs hw => ?_)
      rw [nI_clamp (by omega)] at hw
      refine lv_aload_n hx hb d_NS_save_40 rfl (lv_at hl 2 rfl) ?_
      refine lv_dup hx hb d_NS_save_41 rfl ?_
      refine g_get B hw fl_NS_21 (gs_ne (by omega) (ga_old (ga_old e0))) rfl d_NS_save_42 ?_
      refine lv_iconst (v := 1) hx hb d_NS_save_45 (by decide) ?_
      refine lv_iadd hx hb d_NS_save_46 ?_
      rw [← nI_succ rc]
      refine g_put B hw fl_NS_21 ck_NS (gs_ne (by omega) (ga_old (ga_old e0))) rfl rfl rfl (Nat.le_of_ble_eq_true rfl) d_NS_save_47 (fun H locs hw => ?_)
      refine lv_iload_n hx hb d_NS_save_50 rfl (lv_at hl 0 rfl) ?_
      exact r_i B hw d_NS_save_51 ⟨by unfold saA; rw [onS_s hn]; exact (if_pos h16).symm, by unfold saR saZ saD; rw [onS_s hn, onS_s hn, onS_s hn]; (try dsimp only); rw [if_pos h16, if_pos h16, if_pos h16]; exact XR.rec hF0 hX hV h16 (svN_le (kd k)).2.2 hDn⟩
    · have h16 : ¬ rc < 6 := fun q => h16 ((nI_ltI (b := 6) (by omega) (by omega)).mpr q)
      refine lv_iconst (v := (-1)) hx hb d_NS_save_19 (by decide) ?_
      refine W.widen (k := 2) (n := 8) (by decide) (by decide) ?_
      exact r_i B hw d_NS_save_20 ⟨by unfold saA; rw [onS_s hn]; exact (if_neg h16).symm, by unfold saR saZ saD; rw [onS_s hn, onS_s hn, onS_s hn]; (try dsimp only); rw [if_neg h16, if_neg h16, if_neg h16]; exact hR0⟩
set_option maxRecDepth 100000 in
set_option maxHeartbeats 4000000 in
theorem c_NS_restore {l : Launch} {D : va_G} {K : Nat → ClassId} {A : Nat → Prop} {wl : va_W} {h rc ix : Nat} {kd sd wt cd : Nat → Int32} {f1 f2 : Nat → Int64} {sz : Nat → Nat} (hR : XR K h kd f1 f2 rc sz sd ix wt cd wl) {x : Int32} : ctI l y_NS_restore prog_1_method_14_code 5 (some .int) 5 1 3 [.ref h, .int x] D K A (wl) (fun z v => z = rsA kd rc sz sd x ∧ XR K h (rsK kd rc sz sd x) (rs1 kd f1 rc sz sd x) (rs2 kd f2 rc sz sd x) rc sz sd ix wt cd v) := by
  refine mt_of (by decide) (Nat.le_of_ble_eq_true rfl) ?_
  intro p e s m below meth c ls B hw hl
  have hx := B.1
  have hb := B.2.1
  have hl : lv_has ls 5 [(0, .ref h), (1, .int x)] := hl
  have hR0 := hR
  obtain ⟨aS, aR, aP, aD, aW, aC, g, rr, gd, ra, wa, hF, hX, hV⟩ := hR
  have hF0 := hF
  obtain ⟨e0, e1, e2, e3, e4, e5, e9, e10⟩ := hF
  have hrc6 := hV.1
  refine lv_aload_n hx hb d_NS_restore_0 rfl (lv_at hl 0 rfl) ?_
  refine lv_iload_n hx hb d_NS_restore_1 rfl (lv_at hl 1 rfl) ?_
  refine k_q (k_runV B hw (c_NS_recordAt hF0 hrc6) rfl rfl cf_NS_95 e0 rfl rfl ⟨Nat.le_of_ble_eq_true rfl, Nat.le_of_ble_eq_true rfl⟩ rfl hl.1 rfl (Nat.le_of_ble_eq_true rfl) d_NS_restore_2 ⟨Nat.le_of_ble_eq_true rfl, Nat.le_of_ble_eq_true rfl⟩) hw (fun r2 w1 H locs hq hw => ?_)
  obtain ⟨rfl, ew⟩ := hq
  rw [ew] at hw
  rcases rc_case hV x with ⟨hn, hz⟩ | ⟨r, hr, rfl, hn, hz, hs6, i, j, u, hi, hj, hwd⟩
  · rw [hz, va_rf_none]
    refine lv_astore_nN hx hb d_NS_restore_5 rfl hl (by decide) rfl (fun ls (hl : lv_has ls 5 [(2, .null), (0, .ref _), (1, .int _)]) => ?_)
    refine lv_aload_nN hx hb d_NS_restore_6 rfl (lv_at hl 0 rfl) ?_
    refine lv_ifnonnullN hx hb d_NS_restore_7 ?_
    refine lv_iconst (v := (-1)) hx hb d_NS_restore_10 (by decide) ?_
    refine W.widen (k := 1) (n := 3) (by decide) (by decide) ?_
    exact r_i B hw d_NS_restore_11 ⟨by unfold rsA; rw [onR_n hn], by unfold rsK rs1 rs2; rw [onR_n hn, onR_n hn, onR_n hn]; exact hR0⟩
  · rw [hz, va_rf_some]
    refine lv_astore_n hx hb d_NS_restore_5 rfl hl (by decide) rfl (fun ls (hl : lv_has ls 5 [(2, .ref _), (0, .ref _), (1, .int _)]) => ?_)
    refine lv_aload_n hx hb d_NS_restore_6 rfl (lv_at hl 0 rfl) ?_
    refine lv_ifnonnull (tgt := 12) hx hb d_NS_restore_7 rfl ?_
    refine lv_aload_n hx hb d_NS_restore_12 rfl (lv_at hl 0 rfl) ?_
    refine k_i (k_runV B hw (c_SV_fault hi hj hs6) rfl rfl cf_NS_108 hi rfl rfl ⟨Nat.le_of_ble_eq_true rfl, Nat.le_of_ble_eq_true rfl⟩ rfl hl.1 rfl (Nat.le_of_ble_eq_true rfl) d_NS_restore_13 ⟨Nat.le_of_ble_eq_true rfl, Nat.le_of_ble_eq_true rfl⟩) hw (fun r13 w1 H locs hq hw => ?_)
    have er := hq.1
    have ew := hq.2
    rw [ew] at hw
    have hfc : flt (sz r) u = flt (sz r) (wOf sd r) := flt_congr hs6 hwd
    rw [er, hfc]
    refine lv_istore_n hx hb d_NS_restore_16 rfl hl (by decide) rfl (fun ls (hl : lv_has ls 5 [(3, .int _), (2, .ref _), (0, .ref _), (1, .int _)]) => ?_)
    refine lv_iload_n hx hb d_NS_restore_17 rfl (lv_at hl 0 rfl) ?_
    refine lv_if_eq (tgt := 23) hx hb d_NS_restore_18 rfl (fun h18 => ?_) (fun h18 => ?_)
    · have ez : rsC kd (sz r) (wOf sd r) = _ := if_pos h18
      have h18u := hfc.trans h18
      obtain ⟨y1, y2, y3⟩ := flt_0 hs6 h18u
      have v1 := wk_congr hwd (by omega)
      obtain ⟨v2, v3⟩ := wF_congr hwd y1
      have v1 : wkd u = wkd (wOf sd r) := v1
      have v2 : wF1 u = wF1 (wOf sd r) := v2
      have v3 : wF2 u = wF2 (wOf sd r) := v3
      refine lv_aload_n hx hb d_NS_restore_23 rfl (lv_at hl 2 rfl) ?_
      refine k_i (k_runV B hw (c_NS_leastFreeSlot hF0 hX) rfl rfl cf_NS_39 e0 rfl rfl ⟨Nat.le_of_ble_eq_true rfl, Nat.le_of_ble_eq_true rfl⟩ rfl hl.1 rfl (Nat.le_of_ble_eq_true rfl) d_NS_restore_24 ⟨Nat.le_of_ble_eq_true rfl, Nat.le_of_ble_eq_true rfl⟩) hw (fun r24 w1 H locs hq hw => ?_)
      obtain ⟨rfl, ew⟩ := hq
      rw [ew] at hw
      refine lv_istore hx hb d_NS_restore_27 hl (by decide) rfl (fun ls (hl : lv_has ls 5 [(4, .int _), (3, .int _), (2, .ref _), (0, .ref _), (1, .int _)]) => ?_)
      refine lv_iload hx hb d_NS_restore_29 (lv_at hl 0 rfl) ?_
      refine lv_if_ge (tgt := 37) hx hb d_NS_restore_31 rfl (fun h31 => ?_) (fun h31 => ?_)
      · obtain ⟨kf, hkf, hkl, hfi, hge⟩ := fr_of h31
        rw [if_neg hge] at ez
        refine lv_aload_n hx hb d_NS_restore_37 rfl (lv_at hl 3 rfl) ?_
        refine g_get B hw fl_NS_11 e0 rfl d_NS_restore_38 ?_
        refine lv_iload hx hb d_NS_restore_41 (lv_at hl 0 rfl) ?_
        refine g_new (ci := 3) [.int 0, .long 0, .long 0] B hw rfl li_ST tt_ST cl_NS_9 ib_ST in_ST (fun j hj => by rcases (by omega : j = 0 ∨ j = 1 ∨ j = 2) with rfl | rfl | rfl <;> rfl) (Nat.le_of_ble_eq_true rfl) (Nat.le_of_ble_eq_true rfl) d_NS_restore_43 (fun q H hw => ?_)
        have hDn := hw.2.1
        have hw : wd D A (wl ++ [(q, oSt 0 0 0)]) s H locs := hw
        refine lv_dup hx hb d_NS_restore_46 rfl ?_
        refine lv_aload_n hx hb d_NS_restore_47 rfl (lv_at hl 2 rfl) ?_
        refine k_i (k_runV B hw (c_SV_kind (ga_old hi) (ga_old hj)) rfl rfl cf_NS_111 (ga_old hi) rfl rfl ⟨Nat.le_of_ble_eq_true rfl, Nat.le_of_ble_eq_true rfl⟩ rfl hl.1 rfl (Nat.le_of_ble_eq_true rfl) d_NS_restore_48 ⟨Nat.le_of_ble_eq_true rfl, Nat.le_of_ble_eq_true rfl⟩) hw (fun r48 w1 H locs hq hw => ?_)
        obtain ⟨rfl, ew⟩ := hq
        rw [ew] at hw
        refine lv_aload_n hx hb d_NS_restore_51 rfl (lv_at hl 2 rfl) ?_
        refine k_l (k_runV B hw (c_SV_first (ga_old hi) (ga_old hj)) rfl rfl cf_NS_113 (ga_old hi) rfl rfl ⟨Nat.le_of_ble_eq_true rfl, Nat.le_of_ble_eq_true rfl⟩ rfl hl.1 rfl (Nat.le_of_ble_eq_true rfl) d_NS_restore_52 ⟨Nat.le_of_ble_eq_true rfl, Nat.le_of_ble_eq_true rfl⟩) hw (fun r52 w1 H locs hq hw => ?_)
        obtain ⟨rfl, ew⟩ := hq
        rw [ew] at hw
        refine lv_aload_n hx hb d_NS_restore_55 rfl (lv_at hl 2 rfl) ?_
        refine k_l (k_runV B hw (c_SV_second (ga_old hi) (ga_old hj)) rfl rfl cf_NS_116 (ga_old hi) rfl rfl ⟨Nat.le_of_ble_eq_true rfl, Nat.le_of_ble_eq_true rfl⟩ rfl hl.1 rfl (Nat.le_of_ble_eq_true rfl) d_NS_restore_56 ⟨Nat.le_of_ble_eq_true rfl, Nat.le_of_ble_eq_true rfl⟩) hw (fun r56 w1 H locs hq hw => ?_)
        obtain ⟨rfl, ew⟩ := hq
        rw [ew] at hw
        refine k_v (k_runI B hw (c_ST_init ga_new) rfl rfl cf_NS_58 ⟨Nat.le_of_ble_eq_true rfl, Nat.le_of_ble_eq_true rfl⟩ rfl hl.1 rfl (Nat.le_of_ble_eq_true rfl) d_NS_restore_59 ⟨Nat.le_of_ble_eq_true rfl, Nat.le_of_ble_eq_true rfl⟩) hw (fun w1 H locs hq hw => ?_)
        rw [hq, set_last] at hw
        refine g_aast 2 (r := ("NumberStreams$Stream", T_ST, 3)) B hw (ga_old e1) rfl ga_new rfl (by rw [hfi]; exact vp_in_nI hkf (by omega)) d_NS_restore_62 (fun H locs hw => ?_)
        rw [hfi, nI_clamp (by omega)] at hw
        refine lv_iload hx hb d_NS_restore_63 (lv_at hl 0 rfl) ?_
        exact r_i B hw d_NS_restore_65 ⟨by unfold rsA; rw [onR_s hn]; (try dsimp only); rw [ez, if_neg (by decide), if_neg (by decide)], by unfold rsK rs1 rs2; rw [onR_s hn, onR_s hn, onR_s hn]; (try dsimp only); rw [ez, if_pos rfl, if_pos rfl, if_pos rfl, hfi, nI_clamp (by omega), ← v1, ← v2, ← v3]; exact XR.born hF0 hX hV hkf (isK_3 y2).1 _ _ hDn⟩
      · rw [if_pos (fr_no h31)] at ez
        refine lv_bipush (v := (-6)) hx hb d_NS_restore_34 (by decide) ?_
        refine W.widen (k := 1) (n := 3) (by decide) (by decide) ?_
        exact r_i B hw d_NS_restore_36 ⟨by unfold rsA; rw [onR_s hn]; (try dsimp only); rw [ez, if_neg (by decide), if_pos rfl], by unfold rsK rs1 rs2; rw [onR_s hn, onR_s hn, onR_s hn]; (try dsimp only); rw [ez, if_neg (by decide), if_neg (by decide), if_neg (by decide)]; exact hR0⟩
    · have ez : rsC kd (sz r) (wOf sd r) = 0 := if_neg h18
      refine lv_iload_n hx hb d_NS_restore_21 rfl (lv_at hl 0 rfl) ?_
      refine W.widen (k := 1) (n := 3) (by decide) (by decide) ?_
      exact r_i B hw d_NS_restore_22 ⟨by unfold rsA; rw [onR_s hn]; (try dsimp only); rw [ez, if_pos rfl], by unfold rsK rs1 rs2; rw [onR_s hn, onR_s hn, onR_s hn]; (try dsimp only); rw [ez, if_neg (by decide), if_neg (by decide), if_neg (by decide)]; exact hR0⟩
end
section
/-! The reference: its object and its eight arrays, a list of nine cells. -/
abbrev mW (K : Nat → ClassId) (q : Nat → Nat) (kd : Nat → Int32) (f1 f2 : Nat → Int64) (ou nk : Int32) (nf ns hi lo : Int64) (rc : Int32) (zi sd : Nat → Int32) (ix : Int32) (mm wt cd : Nat → Int32) : va_W :=
  [(q 0, .inr (4, [.ref (q 1), .ref (q 2), .ref (q 3), .int ou, .int nk, .long nf, .long ns, .long hi, .long lo, .int rc, .ref (q 4), .ref (q 5), .int ix, .ref (q 6), .ref (q 7), .ref (q 8)])), (q 1, arI K 8 kd), (q 2, arJ K 8 f1), (q 3, arJ K 8 f2), (q 4, arI K 6 zi), (q 5, arI K 36 sd), (q 6, arI K 24 mm), (q 7, arI K 16 wt), (q 8, arI K 16 cd)]
section MW
variable {K : Nat → ClassId} {q : Nat → Nat} {kd : Nat → Int32} {f1 f2 : Nat → Int64} {ou nk : Int32} {nf ns hi lo : Int64} {rc : Int32} {zi sd : Nat → Int32} {ix : Int32} {mm wt cd : Nat → Int32}
theorem mw_0 : (mW K q kd f1 f2 ou nk nf ns hi lo rc zi sd ix mm wt cd)[0]? = some (q 0, .inr (4, [.ref (q 1), .ref (q 2), .ref (q 3), .int ou, .int nk, .long nf, .long ns, .long hi, .long lo, .int rc, .ref (q 4), .ref (q 5), .int ix, .ref (q 6), .ref (q 7), .ref (q 8)])) := rfl
theorem mw_1 : (mW K q kd f1 f2 ou nk nf ns hi lo rc zi sd ix mm wt cd)[1]? = some (q 1, arI K 8 kd) := rfl
theorem mw_2 : (mW K q kd f1 f2 ou nk nf ns hi lo rc zi sd ix mm wt cd)[2]? = some (q 2, arJ K 8 f1) := rfl
theorem mw_3 : (mW K q kd f1 f2 ou nk nf ns hi lo rc zi sd ix mm wt cd)[3]? = some (q 3, arJ K 8 f2) := rfl
theorem mw_4 : (mW K q kd f1 f2 ou nk nf ns hi lo rc zi sd ix mm wt cd)[4]? = some (q 4, arI K 6 zi) := rfl
theorem mw_5 : (mW K q kd f1 f2 ou nk nf ns hi lo rc zi sd ix mm wt cd)[5]? = some (q 5, arI K 36 sd) := rfl
theorem mw_6 : (mW K q kd f1 f2 ou nk nf ns hi lo rc zi sd ix mm wt cd)[6]? = some (q 6, arI K 24 mm) := rfl
theorem mw_7 : (mW K q kd f1 f2 ou nk nf ns hi lo rc zi sd ix mm wt cd)[7]? = some (q 7, arI K 16 wt) := rfl
theorem mw_8 : (mW K q kd f1 f2 ou nk nf ns hi lo rc zi sd ix mm wt cd)[8]? = some (q 8, arI K 16 cd) := rfl
end MW
theorem hd_case (kd : Nat → Int32) (x : Int32) : (hdS kd x = none ∧ rlA kd x = 0) ∨ ∃ k, k < 8 ∧ x = nI k ∧ hdS kd (nI k) = some k ∧ ¬ kd k < 0 ∧ rlA kd (nI k) = 1 := by
  by_cases h0 : x < 0
  · have e : hdS kd x = none := if_pos h0
    exact Or.inl ⟨e, by unfold rlA; rw [onS_n e]⟩
  by_cases h8 : x < 8
  · obtain ⟨k, hk, rfl⟩ := slot_of h0 (n := 8) (by omega) h8
    by_cases hd : kd k < 0
    · have e : hdS kd (nI k) = none := by
        unfold hdS
        rw [if_neg h0, if_pos h8, nI_clamp (by omega), if_pos hd]
      exact Or.inl ⟨e, by unfold rlA; rw [onS_n e]⟩
    · have e := hdS_nI hk hd
      exact Or.inr ⟨k, hk, rfl, e, hd, by unfold rlA; rw [onS_s e]⟩
  · have e : hdS kd x = none := by
      unfold hdS
      rw [if_neg h0, if_neg h8]
    exact Or.inl ⟨e, by unfold rlA; rw [onS_n e]⟩
theorem rl_no {kd : Nat → Int32} {x : Int32} (h : hdS kd x = none) : rlA kd x = 0 := by unfold rlA; rw [onS_n h]
theorem odd_any (x : Int64) : x - x / 2 * 2 = 0 ↔ x &&& 1 = 0 := by
  have h1 := uL_and1 x
  have h2 := toInt_uL x
  have hlt := uL_lt x
  have e2 : (2 : Int64).toInt = 2 := by decide
  have e0 : (0 : Int64).toInt = 0 := by decide
  have hd : (x / 2).toInt = x.toInt.tdiv 2 := by
    rw [Int64.toInt_div_of_ne_right x 2 (by decide), e2]
  have hx1 : x.toInt < 9223372036854775808 := by split at h2 <;> omega
  have hx0 : -9223372036854775808 ≤ x.toInt := by split at h2 <;> omega
  have h3 := Int.mul_tdiv_add_tmod x.toInt 2
  have h4 := tmod_bounds (a := x.toInt) (M := 2) (by omega)
  have h5 : 0 ≤ x.toInt → 0 ≤ x.toInt.tmod 2 := fun z => Int.tmod_nonneg 2 z
  generalize x.toInt.tdiv 2 = t at *
  generalize x.toInt.tmod 2 = u at *
  have hm : (x / 2 * 2).toInt = t * 2 := by
    rw [Int64.toInt_mul, hd, e2]
    apply Int.bmod_eq_of_le <;> omega
  have hs : (x - x / 2 * 2).toInt = x.toInt - t * 2 := by
    rw [Int64.toInt_sub, hm]
    apply Int.bmod_eq_of_le <;> omega
  rw [← Int64.toInt_inj, hs, e0]
  have hz : x &&& 1 = 0 ↔ uL x % 2 = 0 := by
    constructor
    · intro q
      rw [q] at h1
      have : uL (0 : Int64) = 0 := by decide
      omega
    · intro q
      apply uL_inj
      rw [h1, q]
      decide
  rw [hz]
  split at h2 <;> omega
theorem and1_01 (x : Int64) : x &&& 1 = 0 ∨ x &&& 1 = 1 := by
  have h1 := uL_and1 x
  rcases Nat.mod_two_eq_zero_or_one (uL x) with h | h
  · exact Or.inl (uL_inj (by rw [h1, h]; decide))
  · exact Or.inr (uL_inj (by rw [h1, h]; decide))
theorem isR_le (x : Int64) : isR x = if x < 0 then 0 else if 2147483646 < x then 0 else 1 := by
  have h : (2147483647 ≤ x) ↔ (2147483646 < x) := by
    have a : (2147483647 : Int64).toInt = 2147483647 := by decide
    have b : (2147483646 : Int64).toInt = 2147483646 := by decide
    rw [Int64.le_iff_toInt_le, Int64.lt_iff_toInt_lt, a, b]
    omega
  unfold isR
  by_cases h0 : x < 0
  · rw [if_pos h0, if_pos h0]
  · rw [if_neg h0, if_neg h0]
    by_cases h1 : 2147483646 < x
    · rw [if_pos (h.mpr h1), if_pos h1]
    · rw [if_neg (fun q => h1 (h.mp q)), if_neg h1]
set_option maxRecDepth 100000 in
set_option maxHeartbeats 4000000 in
theorem c_MD_number {l : Launch} {D : va_G} {K : Nat → ClassId} {A : Nat → Prop} {wl : va_W} {x : Int32} : ctL l y_MD_number prog_6_method_2_code 3 0 0 0 [.int x] D K A (wl) (fun r w => r = nU x ∧ w = wl) := by
  refine mt_of (by decide) (Nat.le_of_ble_eq_true rfl) ?_
  intro p e s m below meth c ls B hw hl
  have hx := B.1
  have hb := B.2.1
  have hl : lv_has ls 3 [(0, .int x)] := hl
  refine lv_iload_n hx hb d_MD_number_0 rfl (lv_at hl 0 rfl) ?_
  refine lv_i2l hx hb d_MD_number_1 rfl ?_
  refine lv_lstore_n hx hb d_MD_number_2 rfl hl (by decide) rfl (fun ls (hl : lv_has ls 3 [(1, .long _), (0, .int _)]) => ?_)
  refine lv_lload_n hx hb d_MD_number_3 rfl (lv_at hl 0 rfl) ?_
  refine lv_lconst (v := 0) hx hb d_MD_number_4 (by decide) ?_
  refine W.lcmp hx hb d_MD_number_5 ?_
  refine lv_if_ge (tgt := 17) hx hb d_MD_number_6 rfl (fun h6 => ?_) (fun h6 => ?_)
  · rw [lg_cmp_ge] at h6
    have ez := num_nU x
    rw [if_neg (Int64.not_lt.mpr h6)] at ez
    refine lv_lload_n hx hb d_MD_number_17 rfl (lv_at hl 0 rfl) ?_
    exact r_l B hw d_MD_number_18 ⟨ez, rfl⟩
  · rw [lg_cmp_ge] at h6
    have ez := num_nU x
    rw [if_pos (Int64.not_le.mp h6)] at ez
    refine lv_lload_n hx hb d_MD_number_9 rfl (lv_at hl 0 rfl) ?_
    refine g_ldc2 B kc_MD_35 d_MD_number_10 ?_
    refine lv_ladd hx hb d_MD_number_13 ?_
    refine lv_goto (tgt := 18) hx hb d_MD_number_14 rfl ?_
    exact r_l B hw d_MD_number_18 ⟨ez, rfl⟩
set_option maxRecDepth 100000 in
set_option maxHeartbeats 4000000 in
theorem c_MD_rotl {l : Launch} {D : va_G} {K : Nat → ClassId} {A : Nat → Prop} {wl : va_W} {x : Int32} {n : Nat} (hn : n < 2 ^ 30) : ctI l y_MD_rotl prog_6_method_3_code 4 (some .int) 0 0 0 [.int x, .int (nI n)] D K A (wl) (fun r w => r = rtN n x ∧ w = wl) := by
  refine mt_of (by decide) (Nat.le_of_ble_eq_true rfl) ?_
  intro p e s m below meth c ls B hw hl
  have hx := B.1
  have hb := B.2.1
  have hl : lv_has ls 4 [(0, .int x), (1, .int (nI n))] := hl
  refine lv_iload_n hx hb d_MD_rotl_0 rfl (lv_at hl 0 rfl) ?_
  refine lv_istore_n hx hb d_MD_rotl_1 rfl hl (by decide) rfl (fun ls (hl : lv_has ls 4 [(2, .int _), (0, .int _), (1, .int _)]) => ?_)
  refine lv_iconst (v := 0) hx hb d_MD_rotl_2 (by decide) ?_
  refine lv_istore_n hx hb d_MD_rotl_3 rfl hl (by decide) rfl (fun ls (hl : lv_has ls 4 [(3, .int _), (2, .int _), (0, .int _), (1, .int _)]) => ?_)
  refine lp_w (σ := Nat) (fun i => n - i) (fun i H locs ls => i ≤ n ∧ lv_has ls 4 [(3, .int (nI i)), (2, .int (rtN i x)), (0, .int x), (1, .int (nI n))] ∧ wd D A wl s H locs) ?_ 0 _ _ _ ⟨by omega, lv_sub hl [0, 1, 2, 3] rfl, hw⟩
  rintro i H locs ls ⟨hi, hl, hw⟩ ih
  refine lv_iload_n hx hb d_MD_rotl_4 rfl (lv_at hl 0 rfl) ?_
  refine lv_iload_n hx hb d_MD_rotl_5 rfl (lv_at hl 3 rfl) ?_
  refine lv_icmp_ge (tgt := 29) hx hb d_MD_rotl_6 rfl (fun h6 => ?_) (fun h6 => ?_)
  · have h6 : n ≤ i := (nI_leI (a := n) (by omega) (by omega)).mp h6
    have hend : i = n := by omega
    refine lv_iload_n hx hb d_MD_rotl_29 rfl (lv_at hl 1 rfl) ?_
    exact r_i B hw d_MD_rotl_30 ⟨by rw [hend], rfl⟩
  · have h6 : i < n := Nat.lt_of_not_le (fun q => h6 ((nI_leI (a := n) (by omega) (by omega)).mpr q))
    refine lv_iload_n hx hb d_MD_rotl_9 rfl (lv_at hl 1 rfl) ?_
    refine lv_iconst (v := 1) hx hb d_MD_rotl_10 (by decide) ?_
    refine lv_ishl hx hb d_MD_rotl_11 ?_
    refine lv_iload_n hx hb d_MD_rotl_12 rfl (lv_at hl 1 rfl) ?_
    refine lv_if_ge (tgt := 20) hx hb d_MD_rotl_13 rfl (fun h13 => ?_) (fun h13 => ?_)
    · have ez : rtN (i + 1) x = (rtN i x <<< ((1 : Int32) &&& 31)) + 0 := by show (_ + (if rtN i x < 0 then 1 else 0)) = _; rw [if_neg (Int32.not_lt.mpr h13)]
      refine lv_iconst (v := 0) hx hb d_MD_rotl_20 (by decide) ?_
      refine lv_iadd hx hb d_MD_rotl_21 ?_
      refine lv_istore_n hx hb d_MD_rotl_22 rfl hl (by decide) rfl (fun ls (hl : lv_has ls 4 [(2, .int _), (3, .int _), (0, .int _), (1, .int _)]) => ?_)
      refine lv_iinc (k := 1) hx hb d_MD_rotl_23 hl rfl (show nI i + Int32.ofInt 1 = nI (i + 1) from (nI_succ i).symm) (by decide) rfl (fun ls (hl : lv_has ls 4 [(3, .int (nI (i + 1))), (2, .int _), (0, .int _), (1, .int _)]) => ?_)
      refine lv_goto (tgt := 4) hx hb d_MD_rotl_26 rfl ?_
      exact ih (i + 1) _ _ _ (by omega) ⟨by omega, by rw [ez]; exact lv_sub hl [0, 1, 2, 3] rfl, hw⟩
    · have ez : rtN (i + 1) x = (rtN i x <<< ((1 : Int32) &&& 31)) + 1 := by show (_ + (if rtN i x < 0 then 1 else 0)) = _; rw [if_pos (Int32.not_le.mp h13)]
      refine lv_iconst (v := 1) hx hb d_MD_rotl_16 (by decide) ?_
      refine lv_goto (tgt := 21) hx hb d_MD_rotl_17 rfl ?_
      refine lv_iadd hx hb d_MD_rotl_21 ?_
      refine lv_istore_n hx hb d_MD_rotl_22 rfl hl (by decide) rfl (fun ls (hl : lv_has ls 4 [(2, .int _), (3, .int _), (0, .int _), (1, .int _)]) => ?_)
      refine lv_iinc (k := 1) hx hb d_MD_rotl_23 hl rfl (show nI i + Int32.ofInt 1 = nI (i + 1) from (nI_succ i).symm) (by decide) rfl (fun ls (hl : lv_has ls 4 [(3, .int (nI (i + 1))), (2, .int _), (0, .int _), (1, .int _)]) => ?_)
      refine lv_goto (tgt := 4) hx hb d_MD_rotl_26 rfl ?_
      exact ih (i + 1) _ _ _ (by omega) ⟨by omega, by rw [ez]; exact lv_sub hl [0, 1, 2, 3] rfl, hw⟩
set_option maxRecDepth 100000 in
set_option maxHeartbeats 4000000 in
theorem c_MD_multiply {l : Launch} {D : va_G} {K : Nat → ClassId} {A : Nat → Prop} {q : Nat → Nat} {kd : Nat → Int32} {f1 f2 : Nat → Int64} {ou nk : Int32} {nf ns hi lo : Int64} {rc : Int32} {zi sd : Nat → Int32} {ix : Int32} {mm wt cd : Nat → Int32} {x y : Int64} : ctV l y_MD_multiply prog_6_method_4_code 19 0 0 0 [.ref (q 0), .long x, .long y] D K A (mW K q kd f1 f2 ou nk nf ns hi lo rc zi sd ix mm wt cd) (fun w => w = (mW K q kd f1 f2 ou nk nf ns (mHi x y) (mLo x y) rc zi sd ix mm wt cd)) := by
  refine mt_of (by decide) (Nat.le_of_ble_eq_true rfl) ?_
  intro p e s m below meth c ls B hw hl
  have hx := B.1
  have hb := B.2.1
  have hl : lv_has ls 19 [(0, .ref (q 0)), (1, .long x), (3, .long y)] := hl
  refine lv_lload_n hx hb d_MD_multiply_0 rfl (lv_at hl 1 rfl) ?_
  refine g_ldc2 B kc_MD_37 d_MD_multiply_1 ?_
  refine lv_ldiv hx hb d_MD_multiply_4 (by decide) ?_
  refine lv_lstore hx hb d_MD_multiply_5 hl (by decide) rfl (fun ls (hl : lv_has ls 19 [(5, .long _), (0, .ref _), (1, .long _), (3, .long _)]) => ?_)
  refine lv_lload_n hx hb d_MD_multiply_7 rfl (lv_at hl 2 rfl) ?_
  refine g_ldc2 B kc_MD_37 d_MD_multiply_8 ?_
  refine lv_lrem hx hb d_MD_multiply_11 (by decide) ?_
  refine lv_lstore hx hb d_MD_multiply_12 hl (by decide) rfl (fun ls (hl : lv_has ls 19 [(7, .long _), (5, .long _), (0, .ref _), (1, .long _), (3, .long _)]) => ?_)
  refine lv_lload_n hx hb d_MD_multiply_14 rfl (lv_at hl 4 rfl) ?_
  refine g_ldc2 B kc_MD_37 d_MD_multiply_15 ?_
  refine lv_ldiv hx hb d_MD_multiply_18 (by decide) ?_
  refine lv_lstore hx hb d_MD_multiply_19 hl (by decide) rfl (fun ls (hl : lv_has ls 19 [(9, .long _), (7, .long _), (5, .long _), (0, .ref _), (1, .long _), (3, .long _)]) => ?_)
  refine lv_lload_n hx hb d_MD_multiply_21 rfl (lv_at hl 5 rfl) ?_
  refine g_ldc2 B kc_MD_37 d_MD_multiply_22 ?_
  refine lv_lrem hx hb d_MD_multiply_25 (by decide) ?_
  refine lv_lstore hx hb d_MD_multiply_26 hl (by decide) rfl (fun ls (hl : lv_has ls 19 [(11, .long _), (9, .long _), (7, .long _), (5, .long _), (0, .ref _), (1, .long _), (3, .long _)]) => ?_)
  refine lv_lload hx hb d_MD_multiply_28 (lv_at hl 2 rfl) ?_
  refine lv_lload hx hb d_MD_multiply_30 (lv_at hl 0 rfl) ?_
  refine lv_lmul hx hb d_MD_multiply_32 ?_
  refine lv_lstore hx hb d_MD_multiply_33 hl (by decide) rfl (fun ls (hl : lv_has ls 19 [(13, .long _), (11, .long _), (9, .long _), (7, .long _), (5, .long _), (0, .ref _), (1, .long _), (3, .long _)]) => ?_)
  refine lv_lload hx hb d_MD_multiply_35 (lv_at hl 4 rfl) ?_
  refine lv_lload hx hb d_MD_multiply_37 (lv_at hl 1 rfl) ?_
  refine lv_lmul hx hb d_MD_multiply_39 ?_
  refine lv_lload hx hb d_MD_multiply_40 (lv_at hl 0 rfl) ?_
  refine g_ldc2 B kc_MD_37 d_MD_multiply_42 ?_
  refine lv_ldiv hx hb d_MD_multiply_45 (by decide) ?_
  refine lv_ladd hx hb d_MD_multiply_46 ?_
  refine lv_lstore hx hb d_MD_multiply_47 hl (by decide) rfl (fun ls (hl : lv_has ls 19 [(15, .long _), (13, .long _), (11, .long _), (9, .long _), (7, .long _), (5, .long _), (0, .ref _), (1, .long _), (3, .long _)]) => ?_)
  refine lv_lload hx hb d_MD_multiply_49 (lv_at hl 4 rfl) ?_
  refine lv_lload hx hb d_MD_multiply_51 (lv_at hl 3 rfl) ?_
  refine lv_lmul hx hb d_MD_multiply_53 ?_
  refine lv_lload hx hb d_MD_multiply_54 (lv_at hl 0 rfl) ?_
  refine g_ldc2 B kc_MD_37 d_MD_multiply_56 ?_
  refine lv_lrem hx hb d_MD_multiply_59 (by decide) ?_
  refine lv_ladd hx hb d_MD_multiply_60 ?_
  refine lv_lstore hx hb d_MD_multiply_61 hl (by decide) rfl (fun ls (hl : lv_has ls 19 [(17, .long _), (15, .long _), (13, .long _), (11, .long _), (9, .long _), (7, .long _), (5, .long _), (0, .ref _), (1, .long _), (3, .long _)]) => ?_)
  refine lv_aload_n hx hb d_MD_multiply_63 rfl (lv_at hl 7 rfl) ?_
  refine lv_lload hx hb d_MD_multiply_64 (lv_at hl 0 rfl) ?_
  refine g_ldc2 B kc_MD_37 d_MD_multiply_66 ?_
  refine lv_lrem hx hb d_MD_multiply_69 (by decide) ?_
  refine g_ldc2 B kc_MD_37 d_MD_multiply_70 ?_
  refine lv_lmul hx hb d_MD_multiply_73 ?_
  refine lv_lload hx hb d_MD_multiply_74 (lv_at hl 2 rfl) ?_
  refine g_ldc2 B kc_MD_37 d_MD_multiply_76 ?_
  refine lv_lrem hx hb d_MD_multiply_79 (by decide) ?_
  refine lv_ladd hx hb d_MD_multiply_80 ?_
  refine g_put B hw fl_MD_39 ck_MD mw_0 rfl rfl rfl (Nat.le_of_ble_eq_true rfl) d_MD_multiply_81 (fun H locs (hw : wd D A (mW K q _ _ _ _ _ _ _ _ _ _ _ _ _ _ _ _) s H locs) => ?_)
  refine lv_aload_n hx hb d_MD_multiply_84 rfl (lv_at hl 7 rfl) ?_
  refine lv_lload hx hb d_MD_multiply_85 (lv_at hl 6 rfl) ?_
  refine lv_lload hx hb d_MD_multiply_87 (lv_at hl 4 rfl) ?_
  refine lv_lmul hx hb d_MD_multiply_89 ?_
  refine lv_lload hx hb d_MD_multiply_90 (lv_at hl 1 rfl) ?_
  refine g_ldc2 B kc_MD_37 d_MD_multiply_92 ?_
  refine lv_ldiv hx hb d_MD_multiply_95 (by decide) ?_
  refine lv_ladd hx hb d_MD_multiply_96 ?_
  refine lv_lload hx hb d_MD_multiply_97 (lv_at hl 0 rfl) ?_
  refine g_ldc2 B kc_MD_37 d_MD_multiply_99 ?_
  refine lv_ldiv hx hb d_MD_multiply_102 (by decide) ?_
  refine lv_ladd hx hb d_MD_multiply_103 ?_
  refine g_put B hw fl_MD_43 ck_MD mw_0 rfl rfl rfl (Nat.le_of_ble_eq_true rfl) d_MD_multiply_104 (fun H locs (hw : wd D A (mW K q _ _ _ _ _ _ _ _ _ _ _ _ _ _ _ _) s H locs) => ?_)
  exact r_v B hw d_MD_multiply_107 rfl
set_option maxRecDepth 100000 in
set_option maxHeartbeats 4000000 in
theorem c_MD_rounds {l : Launch} {D : va_G} {K : Nat → ClassId} {A : Nat → Prop} {q : Nat → Nat} {kd : Nat → Int32} {f1 f2 : Nat → Int64} {ou nk : Int32} {nf ns hi lo : Int64} {rc : Int32} {zi sd : Nat → Int32} {ix : Int32} {mm wt cd : Nat → Int32} {f g : Int64} (hg : 0 ≤ g) : ctV l y_MD_rounds prog_6_method_6_code 8 1 0 0 [.ref (q 0), .int f.toInt32, .long g] D K A (mW K q kd f1 f2 ou nk nf ns hi lo rc zi sd ix mm wt cd) (fun w => ∃ h2 l2, w = (mW K q kd f1 f2 (mxO f g) nk nf ns h2 l2 rc zi sd ix mm wt cd)) := by
  refine mt_of (by decide) (Nat.le_of_ble_eq_true rfl) ?_
  intro p e s m below meth c ls B hw hl
  have hx := B.1
  have hb := B.2.1
  have hl : lv_has ls 8 [(0, .ref (q 0)), (1, .int f.toInt32), (2, .long g)] := hl
  refine lv_lload_n hx hb d_MD_rounds_0 rfl (lv_at hl 2 rfl) ?_
  refine g_ldc2 B kc_MD_69 d_MD_rounds_1 ?_
  refine lv_ldiv hx hb d_MD_rounds_4 (by decide) ?_
  rw [half_nn hg]
  refine lv_l2i hx hb d_MD_rounds_5 rfl ?_
  refine lv_istore hx hb d_MD_rounds_6 hl (by decide) rfl (fun ls (hl : lv_has ls 8 [(4, .int _), (0, .ref _), (1, .int _), (2, .long _)]) => ?_)
  refine lv_lload_n hx hb d_MD_rounds_8 rfl (lv_at hl 3 rfl) ?_
  refine lv_bipush (v := 33) hx hb d_MD_rounds_9 (by decide) ?_
  refine lv_lushr hx hb d_MD_rounds_11 rfl ?_
  refine lv_l2i hx hb d_MD_rounds_12 rfl ?_
  refine lv_istore hx hb d_MD_rounds_13 hl (by decide) rfl (fun ls (hl : lv_has ls 8 [(5, .int _), (4, .int _), (0, .ref _), (1, .int _), (2, .long _)]) => ?_)
  refine lv_iload_n hx hb d_MD_rounds_15 rfl (lv_at hl 3 rfl) ?_
  refine lv_istore hx hb d_MD_rounds_16 hl (by decide) rfl (fun ls (hl : lv_has ls 8 [(6, .int _), (5, .int _), (4, .int _), (0, .ref _), (1, .int _), (2, .long _)]) => ?_)
  refine lv_iconst (v := 0) hx hb d_MD_rounds_18 (by decide) ?_
  refine lv_istore hx hb d_MD_rounds_19 hl (by decide) rfl (fun ls (hl : lv_has ls 8 [(7, .int _), (6, .int _), (5, .int _), (4, .int _), (0, .ref _), (1, .int _), (2, .long _)]) => ?_)
  refine lp_w (σ := Nat × Int64 × Int64) (fun x => 10 - x.1) (fun x H locs ls => x.1 ≤ 10 ∧ lv_has ls 8 [(7, .int (nI x.1)), (6, .int (mxN x.1 (mx0 f g)).2.2), (5, .int (mxN x.1 (mx0 f g)).2.1), (4, .int (mxN x.1 (mx0 f g)).1), (0, .ref (q 0)), (1, .int f.toInt32), (2, .long g)] ∧ wd D A (mW K q kd f1 f2 ou nk nf ns x.2.1 x.2.2 rc zi sd ix mm wt cd) s H locs) ?_ (0, hi, lo) _ _ _ ⟨by show 0 ≤ 10; omega, lv_sub hl [0, 1, 2, 3, 4, 5, 6] rfl, hw⟩
  rintro ⟨i, h2, l2⟩ H locs ls ⟨hi10, hl, hw⟩ ih
  dsimp only at hi10 hl hw
  refine lv_iload hx hb d_MD_rounds_21 (lv_at hl 0 rfl) ?_
  refine lv_bipush (v := 10) hx hb d_MD_rounds_23 (by decide) ?_
  refine lv_icmp_ge (tgt := 73) hx hb d_MD_rounds_25 rfl (fun h25 => ?_) (fun h25 => ?_)
  · have h25 : 10 ≤ i := (nI_leI (a := 10) (by omega) (by omega)).mp h25
    have hend : i = 10 := by omega
    refine lv_aload_n hx hb d_MD_rounds_73 rfl (lv_at hl 4 rfl) ?_
    refine lv_lload_n hx hb d_MD_rounds_74 rfl (lv_at hl 6 rfl) ?_
    refine g_ldc2 B kc_MD_69 d_MD_rounds_75 ?_
    refine lv_lrem hx hb d_MD_rounds_78 (by decide) ?_
    rw [odd_nn hg]
    refine lv_lconst (v := 0) hx hb d_MD_rounds_79 (by decide) ?_
    refine W.lcmp hx hb d_MD_rounds_80 ?_
    refine lv_if_ne (tgt := 89) hx hb d_MD_rounds_81 rfl (fun h81 => ?_) (fun h81 => ?_)
    · rw [lg_cmp_eq] at h81
      have hz := mxO_od (f := f) h81
      refine lv_iload hx hb d_MD_rounds_89 (lv_at hl 2 rfl) ?_
      rw [hend, ← hz]
      refine g_put B hw fl_MD_50 ck_MD mw_0 rfl rfl rfl (Nat.le_of_ble_eq_true rfl) d_MD_rounds_91 (fun H locs (hw : wd D A (mW K q _ _ _ _ _ _ _ _ _ _ _ _ _ _ _ _) s H locs) => ?_)
      exact r_v B hw d_MD_rounds_94 ⟨_, _, rfl⟩
    · rw [lg_cmp_eq] at h81
      have hz := mxO_ev (f := f) h81
      refine lv_iload hx hb d_MD_rounds_84 (lv_at hl 3 rfl) ?_
      refine lv_goto (tgt := 91) hx hb d_MD_rounds_86 rfl ?_
      rw [hend, ← hz]
      refine g_put B hw fl_MD_50 ck_MD mw_0 rfl rfl rfl (Nat.le_of_ble_eq_true rfl) d_MD_rounds_91 (fun H locs (hw : wd D A (mW K q _ _ _ _ _ _ _ _ _ _ _ _ _ _ _ _) s H locs) => ?_)
      exact r_v B hw d_MD_rounds_94 ⟨_, _, rfl⟩
  · have h25 : i < 10 := Nat.lt_of_not_le (fun q => h25 ((nI_leI (a := 10) (by omega) (by omega)).mpr q))
    refine lv_aload_n hx hb d_MD_rounds_28 rfl (lv_at hl 4 rfl) ?_
    refine lv_iload hx hb d_MD_rounds_29 (lv_at hl 3 rfl) ?_
    refine k_l (k_runS B hw c_MD_number rfl rfl cf_MD_71 ⟨Nat.le_of_ble_eq_true rfl, Nat.le_of_ble_eq_true rfl⟩ rfl hl.1 rfl (Nat.le_of_ble_eq_true rfl) d_MD_rounds_31 ⟨Nat.le_of_ble_eq_true rfl, Nat.le_of_ble_eq_true rfl⟩) hw (fun r31 w1 H locs hq hw => ?_)
    obtain ⟨rfl, ew⟩ := hq
    rw [ew] at hw
    refine g_ldc2 B kc_MD_75 d_MD_rounds_34 ?_
    refine k_v (k_runV B hw c_MD_multiply rfl rfl cf_MD_77 mw_0 rfl rfl ⟨Nat.le_of_ble_eq_true rfl, Nat.le_of_ble_eq_true rfl⟩ rfl hl.1 rfl (Nat.le_of_ble_eq_true rfl) d_MD_rounds_37 ⟨Nat.le_of_ble_eq_true rfl, Nat.le_of_ble_eq_true rfl⟩) hw (fun w1 H locs hq hw => ?_)
    rw [hq] at hw
    refine lv_aload_n hx hb d_MD_rounds_40 rfl (lv_at hl 4 rfl) ?_
    refine g_get B hw fl_MD_43 mw_0 rfl d_MD_rounds_41 ?_
    refine lv_l2i hx hb d_MD_rounds_44 rfl ?_
    rw [(mx_mul _).1]
    refine lv_iload hx hb d_MD_rounds_45 (lv_at hl 1 rfl) ?_
    refine lv_ixor hx hb d_MD_rounds_47 ?_
    refine lv_iload hx hb d_MD_rounds_48 (lv_at hl 2 rfl) ?_
    refine lv_ixor hx hb d_MD_rounds_50 ?_
    refine lv_istore hx hb d_MD_rounds_51 hl (by decide) rfl (fun ls (hl : lv_has ls 8 [(4, .int _), (7, .int _), (6, .int _), (5, .int _), (0, .ref _), (1, .int _), (2, .long _)]) => ?_)
    refine lv_aload_n hx hb d_MD_rounds_53 rfl (lv_at hl 4 rfl) ?_
    refine g_get B hw fl_MD_39 mw_0 rfl d_MD_rounds_54 ?_
    refine lv_l2i hx hb d_MD_rounds_57 rfl ?_
    rw [(mx_mul _).2]
    refine lv_istore hx hb d_MD_rounds_58 hl (by decide) rfl (fun ls (hl : lv_has ls 8 [(5, .int _), (4, .int _), (7, .int _), (6, .int _), (0, .ref _), (1, .int _), (2, .long _)]) => ?_)
    refine lv_iload hx hb d_MD_rounds_60 (lv_at hl 3 rfl) ?_
    refine g_ldc B kc_MD_81 d_MD_rounds_62 ?_
    refine lv_iadd hx hb d_MD_rounds_64 ?_
    refine lv_istore hx hb d_MD_rounds_65 hl (by decide) rfl (fun ls (hl : lv_has ls 8 [(6, .int _), (5, .int _), (4, .int _), (7, .int _), (0, .ref _), (1, .int _), (2, .long _)]) => ?_)
    refine lv_iinc (k := 3) hx hb d_MD_rounds_67 hl rfl (show nI i + Int32.ofInt 1 = nI (i + 1) from (nI_succ i).symm) (by decide) rfl (fun ls (hl : lv_has ls 8 [(7, .int (nI (i + 1))), (6, .int _), (5, .int _), (4, .int _), (0, .ref _), (1, .int _), (2, .long _)]) => ?_)
    refine lv_goto (tgt := 21) hx hb d_MD_rounds_70 rfl ?_
    exact ih (i + 1, _, _) _ _ _ (by show 10 - (i + 1) < 10 - i; omega) ⟨by show i + 1 ≤ 10; omega, lv_sub hl [0, 1, 2, 3, 4, 5, 6] rfl, hw⟩
set_option maxRecDepth 100000 in
set_option maxHeartbeats 4000000 in
theorem c_MD_holds {l : Launch} {D : va_G} {K : Nat → ClassId} {A : Nat → Prop} {q : Nat → Nat} {kd : Nat → Int32} {f1 f2 : Nat → Int64} {ou nk : Int32} {nf ns hi lo : Int64} {rc : Int32} {zi sd : Nat → Int32} {ix : Int32} {mm wt cd : Nat → Int32} {x : Int32} : ctI l y_MD_holds prog_6_method_7_code 2 (some .boolean) 0 0 0 [.ref (q 0), .int x] D K A (mW K q kd f1 f2 ou nk nf ns hi lo rc zi sd ix mm wt cd) (fun r w => r = rlA kd x ∧ w = mW K q kd f1 f2 ou nk nf ns hi lo rc zi sd ix mm wt cd) := by
  refine mt_of (by decide) (Nat.le_of_ble_eq_true rfl) ?_
  intro p e s m below meth c ls B hw hl
  have hx := B.1
  have hb := B.2.1
  have hl : lv_has ls 2 [(0, .ref (q 0)), (1, .int x)] := hl
  refine lv_iload_n hx hb d_MD_holds_0 rfl (lv_at hl 1 rfl) ?_
  refine lv_if_lt (tgt := 23) hx hb d_MD_holds_1 rfl (fun h1 => ?_) (fun h1 => ?_)
  · have ez := rl_no (kd := kd) (x := x) (if_pos h1)
    refine lv_iconst (v := 0) hx hb d_MD_holds_23 (by decide) ?_
    exact r_z B hw (by decide) d_MD_holds_24 ⟨ez.symm, rfl⟩
  · refine lv_iload_n hx hb d_MD_holds_4 rfl (lv_at hl 1 rfl) ?_
    refine lv_bipush (v := 7) hx hb d_MD_holds_5 (by decide) ?_
    refine lv_icmp_gt (tgt := 23) hx hb d_MD_holds_7 rfl (fun h7 => ?_) (fun h7 => ?_)
    · have ez := rl_no (kd := kd) (x := x) (by unfold hdS; rw [if_neg h1, if_neg (fun q => by rw [Int32.lt_iff_toInt_lt] at q h7; rw [show (8 : Int32).toInt = 8 by decide] at q; rw [show (7 : Int32).toInt = 7 by decide] at h7; omega)])
      refine lv_iconst (v := 0) hx hb d_MD_holds_23 (by decide) ?_
      exact r_z B hw (by decide) d_MD_holds_24 ⟨ez.symm, rfl⟩
    · obtain ⟨k, hk8, rfl⟩ := slot_of h1 (n := 8) (by omega) (by rw [Int32.lt_iff_toInt_lt] at h7 ⊢; rw [show (nI 8).toInt = 8 by decide]; rw [show (7 : Int32).toInt = 7 by decide] at h7; omega)
      refine lv_aload_n hx hb d_MD_holds_10 rfl (lv_at hl 0 rfl) ?_
      refine g_get B hw fl_MD_7 mw_0 rfl d_MD_holds_11 ?_
      refine lv_iload_n hx hb d_MD_holds_14 rfl (lv_at hl 1 rfl) ?_
      refine g_iald B hw mw_1 (vp_in_nI hk8 (by omega)) d_MD_holds_15 ?_
      rw [nI_clamp (by omega)]
      refine lv_if_lt (tgt := 23) hx hb d_MD_holds_16 rfl (fun h16 => ?_) (fun h16 => ?_)
      · have ez := rl_no (kd := kd) (x := nI k) (by unfold hdS; rw [if_neg h1, if_pos (show nI k < 8 from nI_lt (b := 8) hk8 (by omega)), nI_clamp (by omega), if_pos h16])
        refine lv_iconst (v := 0) hx hb d_MD_holds_23 (by decide) ?_
        exact r_z B hw (by decide) d_MD_holds_24 ⟨ez.symm, rfl⟩
      · have ez : rlA kd (nI k) = 1 := by unfold rlA; rw [onS_s (hdS_nI hk8 h16)]
        refine lv_iconst (v := 1) hx hb d_MD_holds_19 (by decide) ?_
        refine lv_goto (tgt := 24) hx hb d_MD_holds_20 rfl ?_
        exact r_z B hw (by decide) d_MD_holds_24 ⟨ez.symm, rfl⟩
set_option maxRecDepth 100000 in
set_option maxHeartbeats 4000000 in
theorem c_MD_freeSlot {l : Launch} {D : va_G} {K : Nat → ClassId} {A : Nat → Prop} {q : Nat → Nat} {kd : Nat → Int32} {f1 f2 : Nat → Int64} {ou nk : Int32} {nf ns hi lo : Int64} {rc : Int32} {zi sd : Nat → Int32} {ix : Int32} {mm wt cd : Nat → Int32}  : ctI l y_MD_freeSlot prog_6_method_8_code 2 (some .int) 0 0 0 [.ref (q 0)] D K A (mW K q kd f1 f2 ou nk nf ns hi lo rc zi sd ix mm wt cd) (fun r w => r = frI kd ∧ w = mW K q kd f1 f2 ou nk nf ns hi lo rc zi sd ix mm wt cd) := by
  refine mt_of (by decide) (Nat.le_of_ble_eq_true rfl) ?_
  intro p e s m below meth c ls B hw hl
  have hx := B.1
  have hb := B.2.1
  have hl : lv_has ls 2 [(0, .ref (q 0))] := hl
  refine lv_iconst (v := 0) hx hb d_MD_freeSlot_0 (by decide) ?_
  refine lv_istore_n hx hb d_MD_freeSlot_1 rfl hl (by decide) rfl (fun ls (hl : lv_has ls 2 [(1, .int _), (0, .ref _)]) => ?_)
  refine lp_w (σ := Nat) (fun i => 8 - i) (fun i H locs ls => i ≤ 8 ∧ frI kd = frN kd i (8 - i) ∧ lv_has ls 2 [(1, .int (nI i)), (0, .ref (q 0))] ∧ wd D A (mW K q kd f1 f2 ou nk nf ns hi lo rc zi sd ix mm wt cd) s H locs) ?_ 0 _ _ _ ⟨by omega, rfl, lv_sub hl [0, 1] rfl, hw⟩
  rintro i H locs ls ⟨hi8, hfr, hl, hw⟩ ih
  refine lv_iload_n hx hb d_MD_freeSlot_2 rfl (lv_at hl 0 rfl) ?_
  refine lv_bipush (v := 8) hx hb d_MD_freeSlot_3 (by decide) ?_
  refine lv_icmp_ge (tgt := 25) hx hb d_MD_freeSlot_5 rfl (fun h5 => ?_) (fun h5 => ?_)
  · have h5 : 8 ≤ i := (nI_leI (a := 8) (by omega) (by omega)).mp h5
    have hend : i = 8 := by omega
    refine lv_iconst (v := (-1)) hx hb d_MD_freeSlot_25 (by decide) ?_
    exact r_i B hw d_MD_freeSlot_26 ⟨by rw [hfr, hend]; rfl, rfl⟩
  · have h5 : i < 8 := Nat.lt_of_not_le (fun q => h5 ((nI_leI (a := 8) (by omega) (by omega)).mpr q))
    refine lv_aload_n hx hb d_MD_freeSlot_8 rfl (lv_at hl 1 rfl) ?_
    refine g_get B hw fl_MD_7 mw_0 rfl d_MD_freeSlot_9 ?_
    refine lv_iload_n hx hb d_MD_freeSlot_12 rfl (lv_at hl 0 rfl) ?_
    refine g_iald B hw mw_1 (vp_in_nI h5 (by omega)) d_MD_freeSlot_13 ?_
    rw [nI_clamp (by omega)]
    refine lv_if_ge (tgt := 19) hx hb d_MD_freeSlot_14 rfl (fun h14 => ?_) (fun h14 => ?_)
    · refine lv_iinc (k := 0) hx hb d_MD_freeSlot_19 hl rfl (show nI i + Int32.ofInt 1 = nI (i + 1) from (nI_succ i).symm) (by decide) rfl (fun ls (hl : lv_has ls 2 [(1, .int (nI (i + 1))), (0, .ref _)]) => ?_)
      refine lv_goto (tgt := 2) hx hb d_MD_freeSlot_22 rfl ?_
      exact ih (i + 1) _ _ _ (by omega) ⟨by omega, hfr.trans (frN_miss h5 (Int32.not_lt.mpr h14)), lv_sub hl [0, 1] rfl, hw⟩
    · have h14 := Int32.not_le.mp h14
      refine lv_iload_n hx hb d_MD_freeSlot_17 rfl (lv_at hl 0 rfl) ?_
      exact r_i B hw d_MD_freeSlot_18 ⟨by rw [hfr, frN_hit h5 h14], rfl⟩
set_option maxRecDepth 100000 in
set_option maxHeartbeats 4000000 in
theorem c_MD_residue {l : Launch} {D : va_G} {K : Nat → ClassId} {A : Nat → Prop} {wl : va_W} {x : Int64} : ctI l y_MD_residue prog_6_method_9_code 2 (some .boolean) 0 0 0 [.long x] D K A (wl) (fun r w => r = isR x ∧ w = wl) := by
  refine mt_of (by decide) (Nat.le_of_ble_eq_true rfl) ?_
  intro p e s m below meth c ls B hw hl
  have hx := B.1
  have hb := B.2.1
  have hl : lv_has ls 2 [(0, .long x)] := hl
  refine lv_lload_n hx hb d_MD_residue_0 rfl (lv_at hl 0 rfl) ?_
  refine lv_lconst (v := 0) hx hb d_MD_residue_1 (by decide) ?_
  refine W.lcmp hx hb d_MD_residue_2 ?_
  refine lv_if_lt (tgt := 18) hx hb d_MD_residue_3 rfl (fun h3 => ?_) (fun h3 => ?_)
  · rw [lg_cmp_lt] at h3
    refine lv_iconst (v := 0) hx hb d_MD_residue_18 (by decide) ?_
    exact r_z B hw (by decide) d_MD_residue_19 ⟨by rw [isR_le]; simp [*], rfl⟩
  · rw [lg_cmp_lt] at h3
    refine lv_lload_n hx hb d_MD_residue_6 rfl (lv_at hl 0 rfl) ?_
    refine g_ldc2 B kc_MD_82 d_MD_residue_7 ?_
    refine W.lcmp hx hb d_MD_residue_10 ?_
    refine lv_if_gt (tgt := 18) hx hb d_MD_residue_11 rfl (fun h11 => ?_) (fun h11 => ?_)
    · rw [lg_cmp_gt] at h11
      refine lv_iconst (v := 0) hx hb d_MD_residue_18 (by decide) ?_
      exact r_z B hw (by decide) d_MD_residue_19 ⟨by rw [isR_le]; simp [*], rfl⟩
    · rw [lg_cmp_gt] at h11
      refine lv_iconst (v := 1) hx hb d_MD_residue_14 (by decide) ?_
      refine lv_goto (tgt := 19) hx hb d_MD_residue_15 rfl ?_
      exact r_z B hw (by decide) d_MD_residue_19 ⟨by rw [isR_le]; simp [*], rfl⟩
set_option maxRecDepth 100000 in
set_option maxHeartbeats 4000000 in
theorem c_MD_sound {l : Launch} {D : va_G} {K : Nat → ClassId} {A : Nat → Prop} {q : Nat → Nat} {kd : Nat → Int32} {f1 f2 : Nat → Int64} {ou nk : Int32} {nf ns hi lo : Int64} {rc : Int32} {zi sd : Nat → Int32} {ix : Int32} {mm wt cd : Nat → Int32} (hk3 : nk = 0 ∨ nk = 1 ∨ nk = 2 ∨ nk = 3) : ctI l y_MD_sound prog_6_method_10_code 2 (some .boolean) 1 0 0 [.ref (q 0)] D K A (mW K q kd f1 f2 ou nk nf ns hi lo rc zi sd ix mm wt cd) (fun r w => r = isSt nk nf ns ∧ w = mW K q kd f1 f2 ou nk nf ns hi lo rc zi sd ix mm wt cd) := by
  refine mt_of (by decide) (Nat.le_of_ble_eq_true rfl) ?_
  intro p e s m below meth c ls B hw hl
  have hx := B.1
  have hb := B.2.1
  have hl : lv_has ls 2 [(0, .ref (q 0))] := hl
  refine lv_aload_n hx hb d_MD_sound_0 rfl (lv_at hl 0 rfl) ?_
  refine g_get B hw fl_MD_84 mw_0 rfl d_MD_sound_1 ?_
  refine lv_lconst (v := 0) hx hb d_MD_sound_4 (by decide) ?_
  refine W.lcmp hx hb d_MD_sound_5 ?_
  refine lv_if_ne (tgt := 22) hx hb d_MD_sound_6 rfl (fun h6 => ?_) (fun h6 => ?_)
  · rw [lg_cmp_eq] at h6
    have hz : ¬ (nf = 0 ∧ ns = 0) := fun z => h6 z.1
    refine lv_iconst (v := 0) hx hb d_MD_sound_22 (by decide) ?_
    refine lv_istore_n hx hb d_MD_sound_23 rfl hl (by decide) rfl (fun ls (hl : lv_has ls 2 [(1, .int _), (0, .ref _)]) => ?_)
    refine lv_aload_n hx hb d_MD_sound_24 rfl (lv_at hl 1 rfl) ?_
    refine g_get B hw fl_MD_90 mw_0 rfl d_MD_sound_25 ?_
    refine lv_if_ne (tgt := 50) hx hb d_MD_sound_28 rfl (fun h28 => ?_) (fun h28 => ?_)
    · have ez : isSt nk nf ns = _ := if_neg h28
      refine lv_aload_n hx hb d_MD_sound_50 rfl (lv_at hl 1 rfl) ?_
      refine g_get B hw fl_MD_90 mw_0 rfl d_MD_sound_51 ?_
      refine lv_iconst (v := 1) hx hb d_MD_sound_54 (by decide) ?_
      refine lv_icmp_ne (tgt := 68) hx hb d_MD_sound_55 rfl (fun h55 => ?_) (fun h55 => ?_)
      · rw [if_neg h55] at ez
        refine lv_aload_n hx hb d_MD_sound_68 rfl (lv_at hl 1 rfl) ?_
        refine g_get B hw fl_MD_90 mw_0 rfl d_MD_sound_69 ?_
        refine lv_iconst (v := 2) hx hb d_MD_sound_72 (by decide) ?_
        refine lv_icmp_ne (tgt := 91) hx hb d_MD_sound_73 rfl (fun h73 => ?_) (fun h73 => ?_)
        · rw [if_neg h73, if_pos (hk3.elim (fun z => absurd z h28) (fun z => z.elim (fun z => absurd z h55) (fun z => z.elim (fun z => absurd z h73) id)))] at ez
          refine lv_iload_n hx hb d_MD_sound_91 rfl (lv_at hl 0 rfl) ?_
          refine lv_if_ne (tgt := 119) hx hb d_MD_sound_92 rfl (fun h92 => ?_) (fun h92 => ?_)
          · exact absurd rfl h92
          · refine lv_aload_n hx hb d_MD_sound_95 rfl (lv_at hl 1 rfl) ?_
            refine g_get B hw fl_MD_84 mw_0 rfl d_MD_sound_96 ?_
            refine k_i (k_runS B hw c_MD_residue rfl rfl cf_MD_93 ⟨Nat.le_of_ble_eq_true rfl, Nat.le_of_ble_eq_true rfl⟩ rfl hl.1 rfl (Nat.le_of_ble_eq_true rfl) d_MD_sound_99 ⟨Nat.le_of_ble_eq_true rfl, Nat.le_of_ble_eq_true rfl⟩) hw (fun r99 w1 H locs hq hw => ?_)
            obtain ⟨rfl, ew⟩ := hq
            rw [ew] at hw
            refine lv_if_eq (tgt := 119) hx hb d_MD_sound_102 rfl (fun h102 => ?_) (fun h102 => ?_)
            · rw [if_pos h102] at ez
              refine lv_iconst (v := 0) hx hb d_MD_sound_119 (by decide) ?_
              exact r_z B hw (by decide) d_MD_sound_120 ⟨ez.symm, rfl⟩
            · rw [if_neg h102] at ez
              refine lv_aload_n hx hb d_MD_sound_105 rfl (lv_at hl 1 rfl) ?_
              refine g_get B hw fl_MD_87 mw_0 rfl d_MD_sound_106 ?_
              refine k_i (k_runS B hw c_MD_residue rfl rfl cf_MD_93 ⟨Nat.le_of_ble_eq_true rfl, Nat.le_of_ble_eq_true rfl⟩ rfl hl.1 rfl (Nat.le_of_ble_eq_true rfl) d_MD_sound_109 ⟨Nat.le_of_ble_eq_true rfl, Nat.le_of_ble_eq_true rfl⟩) hw (fun r109 w1 H locs hq hw => ?_)
              obtain ⟨rfl, ew⟩ := hq
              rw [ew] at hw
              refine lv_if_eq (tgt := 119) hx hb d_MD_sound_112 rfl (fun h112 => ?_) (fun h112 => ?_)
              · rw [if_pos h112] at ez
                refine lv_iconst (v := 0) hx hb d_MD_sound_119 (by decide) ?_
                exact r_z B hw (by decide) d_MD_sound_120 ⟨ez.symm, rfl⟩
              · rw [if_neg h112, if_neg hz] at ez
                refine lv_iconst (v := 1) hx hb d_MD_sound_115 (by decide) ?_
                refine lv_goto (tgt := 120) hx hb d_MD_sound_116 rfl ?_
                exact r_z B hw (by decide) d_MD_sound_120 ⟨ez.symm, rfl⟩
        · rw [if_pos h73] at ez
          refine lv_aload_n hx hb d_MD_sound_76 rfl (lv_at hl 1 rfl) ?_
          refine g_get B hw fl_MD_87 mw_0 rfl d_MD_sound_77 ?_
          refine lv_lconst (v := 0) hx hb d_MD_sound_80 (by decide) ?_
          refine W.lcmp hx hb d_MD_sound_81 ?_
          refine lv_if_lt (tgt := 89) hx hb d_MD_sound_82 rfl (fun h82 => ?_) (fun h82 => ?_)
          · rw [lg_cmp_lt] at h82
            rw [if_pos h82] at ez
            refine lv_iconst (v := 0) hx hb d_MD_sound_89 (by decide) ?_
            exact r_z B hw (by decide) d_MD_sound_90 ⟨ez.symm, rfl⟩
          · rw [lg_cmp_lt] at h82
            rw [if_neg h82] at ez
            refine lv_iconst (v := 1) hx hb d_MD_sound_85 (by decide) ?_
            refine lv_goto (tgt := 90) hx hb d_MD_sound_86 rfl ?_
            exact r_z B hw (by decide) d_MD_sound_90 ⟨ez.symm, rfl⟩
      · rw [if_pos h55] at ez
        refine lv_iload_n hx hb d_MD_sound_58 rfl (lv_at hl 0 rfl) ?_
        refine lv_if_ne (tgt := 66) hx hb d_MD_sound_59 rfl (fun h59 => ?_) (fun h59 => ?_)
        · exact absurd rfl h59
        · rw [if_neg hz] at ez
          refine lv_iconst (v := 1) hx hb d_MD_sound_62 (by decide) ?_
          refine lv_goto (tgt := 67) hx hb d_MD_sound_63 rfl ?_
          exact r_z B hw (by decide) d_MD_sound_67 ⟨ez.symm, rfl⟩
    · have ez : isSt nk nf ns = _ := if_pos h28
      refine lv_aload_n hx hb d_MD_sound_31 rfl (lv_at hl 1 rfl) ?_
      refine g_get B hw fl_MD_87 mw_0 rfl d_MD_sound_32 ?_
      refine g_ldc2 B kc_MD_69 d_MD_sound_35 ?_
      refine lv_lrem hx hb d_MD_sound_38 (by decide) ?_
      refine lv_lconst (v := 0) hx hb d_MD_sound_39 (by decide) ?_
      refine W.lcmp hx hb d_MD_sound_40 ?_
      refine lv_if_eq (tgt := 48) hx hb d_MD_sound_41 rfl (fun h41 => ?_) (fun h41 => ?_)
      · rw [lg_cmp_eq, odd_any] at h41
        rw [if_neg (by rw [h41]; decide)] at ez
        refine lv_iconst (v := 0) hx hb d_MD_sound_48 (by decide) ?_
        exact r_z B hw (by decide) d_MD_sound_49 ⟨ez.symm, rfl⟩
      · rw [lg_cmp_eq, odd_any] at h41
        rw [if_pos ((and1_01 ns).resolve_left h41)] at ez
        refine lv_iconst (v := 1) hx hb d_MD_sound_44 (by decide) ?_
        refine lv_goto (tgt := 49) hx hb d_MD_sound_45 rfl ?_
        exact r_z B hw (by decide) d_MD_sound_49 ⟨ez.symm, rfl⟩
  · rw [lg_cmp_eq] at h6
    refine lv_aload_n hx hb d_MD_sound_9 rfl (lv_at hl 0 rfl) ?_
    refine g_get B hw fl_MD_87 mw_0 rfl d_MD_sound_10 ?_
    refine lv_lconst (v := 0) hx hb d_MD_sound_13 (by decide) ?_
    refine W.lcmp hx hb d_MD_sound_14 ?_
    refine lv_if_ne (tgt := 22) hx hb d_MD_sound_15 rfl (fun h15 => ?_) (fun h15 => ?_)
    · rw [lg_cmp_eq] at h15
      have hz : ¬ (nf = 0 ∧ ns = 0) := fun z => h15 z.2
      refine lv_iconst (v := 0) hx hb d_MD_sound_22 (by decide) ?_
      refine lv_istore_n hx hb d_MD_sound_23 rfl hl (by decide) rfl (fun ls (hl : lv_has ls 2 [(1, .int _), (0, .ref _)]) => ?_)
      refine lv_aload_n hx hb d_MD_sound_24 rfl (lv_at hl 1 rfl) ?_
      refine g_get B hw fl_MD_90 mw_0 rfl d_MD_sound_25 ?_
      refine lv_if_ne (tgt := 50) hx hb d_MD_sound_28 rfl (fun h28 => ?_) (fun h28 => ?_)
      · have ez : isSt nk nf ns = _ := if_neg h28
        refine lv_aload_n hx hb d_MD_sound_50 rfl (lv_at hl 1 rfl) ?_
        refine g_get B hw fl_MD_90 mw_0 rfl d_MD_sound_51 ?_
        refine lv_iconst (v := 1) hx hb d_MD_sound_54 (by decide) ?_
        refine lv_icmp_ne (tgt := 68) hx hb d_MD_sound_55 rfl (fun h55 => ?_) (fun h55 => ?_)
        · rw [if_neg h55] at ez
          refine lv_aload_n hx hb d_MD_sound_68 rfl (lv_at hl 1 rfl) ?_
          refine g_get B hw fl_MD_90 mw_0 rfl d_MD_sound_69 ?_
          refine lv_iconst (v := 2) hx hb d_MD_sound_72 (by decide) ?_
          refine lv_icmp_ne (tgt := 91) hx hb d_MD_sound_73 rfl (fun h73 => ?_) (fun h73 => ?_)
          · rw [if_neg h73, if_pos (hk3.elim (fun z => absurd z h28) (fun z => z.elim (fun z => absurd z h55) (fun z => z.elim (fun z => absurd z h73) id)))] at ez
            refine lv_iload_n hx hb d_MD_sound_91 rfl (lv_at hl 0 rfl) ?_
            refine lv_if_ne (tgt := 119) hx hb d_MD_sound_92 rfl (fun h92 => ?_) (fun h92 => ?_)
            · exact absurd rfl h92
            · refine lv_aload_n hx hb d_MD_sound_95 rfl (lv_at hl 1 rfl) ?_
              refine g_get B hw fl_MD_84 mw_0 rfl d_MD_sound_96 ?_
              refine k_i (k_runS B hw c_MD_residue rfl rfl cf_MD_93 ⟨Nat.le_of_ble_eq_true rfl, Nat.le_of_ble_eq_true rfl⟩ rfl hl.1 rfl (Nat.le_of_ble_eq_true rfl) d_MD_sound_99 ⟨Nat.le_of_ble_eq_true rfl, Nat.le_of_ble_eq_true rfl⟩) hw (fun r99 w1 H locs hq hw => ?_)
              obtain ⟨rfl, ew⟩ := hq
              rw [ew] at hw
              refine lv_if_eq (tgt := 119) hx hb d_MD_sound_102 rfl (fun h102 => ?_) (fun h102 => ?_)
              · rw [if_pos h102] at ez
                refine lv_iconst (v := 0) hx hb d_MD_sound_119 (by decide) ?_
                exact r_z B hw (by decide) d_MD_sound_120 ⟨ez.symm, rfl⟩
              · rw [if_neg h102] at ez
                refine lv_aload_n hx hb d_MD_sound_105 rfl (lv_at hl 1 rfl) ?_
                refine g_get B hw fl_MD_87 mw_0 rfl d_MD_sound_106 ?_
                refine k_i (k_runS B hw c_MD_residue rfl rfl cf_MD_93 ⟨Nat.le_of_ble_eq_true rfl, Nat.le_of_ble_eq_true rfl⟩ rfl hl.1 rfl (Nat.le_of_ble_eq_true rfl) d_MD_sound_109 ⟨Nat.le_of_ble_eq_true rfl, Nat.le_of_ble_eq_true rfl⟩) hw (fun r109 w1 H locs hq hw => ?_)
                obtain ⟨rfl, ew⟩ := hq
                rw [ew] at hw
                refine lv_if_eq (tgt := 119) hx hb d_MD_sound_112 rfl (fun h112 => ?_) (fun h112 => ?_)
                · rw [if_pos h112] at ez
                  refine lv_iconst (v := 0) hx hb d_MD_sound_119 (by decide) ?_
                  exact r_z B hw (by decide) d_MD_sound_120 ⟨ez.symm, rfl⟩
                · rw [if_neg h112, if_neg hz] at ez
                  refine lv_iconst (v := 1) hx hb d_MD_sound_115 (by decide) ?_
                  refine lv_goto (tgt := 120) hx hb d_MD_sound_116 rfl ?_
                  exact r_z B hw (by decide) d_MD_sound_120 ⟨ez.symm, rfl⟩
          · rw [if_pos h73] at ez
            refine lv_aload_n hx hb d_MD_sound_76 rfl (lv_at hl 1 rfl) ?_
            refine g_get B hw fl_MD_87 mw_0 rfl d_MD_sound_77 ?_
            refine lv_lconst (v := 0) hx hb d_MD_sound_80 (by decide) ?_
            refine W.lcmp hx hb d_MD_sound_81 ?_
            refine lv_if_lt (tgt := 89) hx hb d_MD_sound_82 rfl (fun h82 => ?_) (fun h82 => ?_)
            · rw [lg_cmp_lt] at h82
              rw [if_pos h82] at ez
              refine lv_iconst (v := 0) hx hb d_MD_sound_89 (by decide) ?_
              exact r_z B hw (by decide) d_MD_sound_90 ⟨ez.symm, rfl⟩
            · rw [lg_cmp_lt] at h82
              rw [if_neg h82] at ez
              refine lv_iconst (v := 1) hx hb d_MD_sound_85 (by decide) ?_
              refine lv_goto (tgt := 90) hx hb d_MD_sound_86 rfl ?_
              exact r_z B hw (by decide) d_MD_sound_90 ⟨ez.symm, rfl⟩
        · rw [if_pos h55] at ez
          refine lv_iload_n hx hb d_MD_sound_58 rfl (lv_at hl 0 rfl) ?_
          refine lv_if_ne (tgt := 66) hx hb d_MD_sound_59 rfl (fun h59 => ?_) (fun h59 => ?_)
          · exact absurd rfl h59
          · rw [if_neg hz] at ez
            refine lv_iconst (v := 1) hx hb d_MD_sound_62 (by decide) ?_
            refine lv_goto (tgt := 67) hx hb d_MD_sound_63 rfl ?_
            exact r_z B hw (by decide) d_MD_sound_67 ⟨ez.symm, rfl⟩
      · have ez : isSt nk nf ns = _ := if_pos h28
        refine lv_aload_n hx hb d_MD_sound_31 rfl (lv_at hl 1 rfl) ?_
        refine g_get B hw fl_MD_87 mw_0 rfl d_MD_sound_32 ?_
        refine g_ldc2 B kc_MD_69 d_MD_sound_35 ?_
        refine lv_lrem hx hb d_MD_sound_38 (by decide) ?_
        refine lv_lconst (v := 0) hx hb d_MD_sound_39 (by decide) ?_
        refine W.lcmp hx hb d_MD_sound_40 ?_
        refine lv_if_eq (tgt := 48) hx hb d_MD_sound_41 rfl (fun h41 => ?_) (fun h41 => ?_)
        · rw [lg_cmp_eq, odd_any] at h41
          rw [if_neg (by rw [h41]; decide)] at ez
          refine lv_iconst (v := 0) hx hb d_MD_sound_48 (by decide) ?_
          exact r_z B hw (by decide) d_MD_sound_49 ⟨ez.symm, rfl⟩
        · rw [lg_cmp_eq, odd_any] at h41
          rw [if_pos ((and1_01 ns).resolve_left h41)] at ez
          refine lv_iconst (v := 1) hx hb d_MD_sound_44 (by decide) ?_
          refine lv_goto (tgt := 49) hx hb d_MD_sound_45 rfl ?_
          exact r_z B hw (by decide) d_MD_sound_49 ⟨ez.symm, rfl⟩
    · rw [lg_cmp_eq] at h15
      have hz : nf = 0 ∧ ns = 0 := ⟨h6, h15⟩
      refine lv_iconst (v := 1) hx hb d_MD_sound_18 (by decide) ?_
      refine lv_goto (tgt := 23) hx hb d_MD_sound_19 rfl ?_
      refine lv_istore_n hx hb d_MD_sound_23 rfl hl (by decide) rfl (fun ls (hl : lv_has ls 2 [(1, .int _), (0, .ref _)]) => ?_)
      refine lv_aload_n hx hb d_MD_sound_24 rfl (lv_at hl 1 rfl) ?_
      refine g_get B hw fl_MD_90 mw_0 rfl d_MD_sound_25 ?_
      refine lv_if_ne (tgt := 50) hx hb d_MD_sound_28 rfl (fun h28 => ?_) (fun h28 => ?_)
      · have ez : isSt nk nf ns = _ := if_neg h28
        refine lv_aload_n hx hb d_MD_sound_50 rfl (lv_at hl 1 rfl) ?_
        refine g_get B hw fl_MD_90 mw_0 rfl d_MD_sound_51 ?_
        refine lv_iconst (v := 1) hx hb d_MD_sound_54 (by decide) ?_
        refine lv_icmp_ne (tgt := 68) hx hb d_MD_sound_55 rfl (fun h55 => ?_) (fun h55 => ?_)
        · rw [if_neg h55] at ez
          refine lv_aload_n hx hb d_MD_sound_68 rfl (lv_at hl 1 rfl) ?_
          refine g_get B hw fl_MD_90 mw_0 rfl d_MD_sound_69 ?_
          refine lv_iconst (v := 2) hx hb d_MD_sound_72 (by decide) ?_
          refine lv_icmp_ne (tgt := 91) hx hb d_MD_sound_73 rfl (fun h73 => ?_) (fun h73 => ?_)
          · rw [if_neg h73, if_pos (hk3.elim (fun z => absurd z h28) (fun z => z.elim (fun z => absurd z h55) (fun z => z.elim (fun z => absurd z h73) id)))] at ez
            refine lv_iload_n hx hb d_MD_sound_91 rfl (lv_at hl 0 rfl) ?_
            refine lv_if_ne (tgt := 119) hx hb d_MD_sound_92 rfl (fun h92 => ?_) (fun h92 => ?_)
            · have ez2 : isSt nk nf ns = 0 := by rw [ez]; split <;> first | rfl | (split <;> first | rfl | exact if_pos hz)
              have ez := ez2
              refine lv_iconst (v := 0) hx hb d_MD_sound_119 (by decide) ?_
              exact r_z B hw (by decide) d_MD_sound_120 ⟨ez.symm, rfl⟩
            · exact absurd h92 (by decide)
          · rw [if_pos h73] at ez
            refine lv_aload_n hx hb d_MD_sound_76 rfl (lv_at hl 1 rfl) ?_
            refine g_get B hw fl_MD_87 mw_0 rfl d_MD_sound_77 ?_
            refine lv_lconst (v := 0) hx hb d_MD_sound_80 (by decide) ?_
            refine W.lcmp hx hb d_MD_sound_81 ?_
            refine lv_if_lt (tgt := 89) hx hb d_MD_sound_82 rfl (fun h82 => ?_) (fun h82 => ?_)
            · rw [lg_cmp_lt] at h82
              rw [if_pos h82] at ez
              refine lv_iconst (v := 0) hx hb d_MD_sound_89 (by decide) ?_
              exact r_z B hw (by decide) d_MD_sound_90 ⟨ez.symm, rfl⟩
            · rw [lg_cmp_lt] at h82
              rw [if_neg h82] at ez
              refine lv_iconst (v := 1) hx hb d_MD_sound_85 (by decide) ?_
              refine lv_goto (tgt := 90) hx hb d_MD_sound_86 rfl ?_
              exact r_z B hw (by decide) d_MD_sound_90 ⟨ez.symm, rfl⟩
        · rw [if_pos h55] at ez
          refine lv_iload_n hx hb d_MD_sound_58 rfl (lv_at hl 0 rfl) ?_
          refine lv_if_ne (tgt := 66) hx hb d_MD_sound_59 rfl (fun h59 => ?_) (fun h59 => ?_)
          · rw [if_pos hz] at ez
            refine lv_iconst (v := 0) hx hb d_MD_sound_66 (by decide) ?_
            exact r_z B hw (by decide) d_MD_sound_67 ⟨ez.symm, rfl⟩
          · exact absurd h59 (by decide)
      · have ez : isSt nk nf ns = _ := if_pos h28
        refine lv_aload_n hx hb d_MD_sound_31 rfl (lv_at hl 1 rfl) ?_
        refine g_get B hw fl_MD_87 mw_0 rfl d_MD_sound_32 ?_
        refine g_ldc2 B kc_MD_69 d_MD_sound_35 ?_
        refine lv_lrem hx hb d_MD_sound_38 (by decide) ?_
        refine lv_lconst (v := 0) hx hb d_MD_sound_39 (by decide) ?_
        refine W.lcmp hx hb d_MD_sound_40 ?_
        refine lv_if_eq (tgt := 48) hx hb d_MD_sound_41 rfl (fun h41 => ?_) (fun h41 => ?_)
        · rw [lg_cmp_eq, odd_any] at h41
          rw [if_neg (by rw [h41]; decide)] at ez
          refine lv_iconst (v := 0) hx hb d_MD_sound_48 (by decide) ?_
          exact r_z B hw (by decide) d_MD_sound_49 ⟨ez.symm, rfl⟩
        · rw [lg_cmp_eq, odd_any] at h41
          rw [if_pos ((and1_01 ns).resolve_left h41)] at ez
          refine lv_iconst (v := 1) hx hb d_MD_sound_44 (by decide) ?_
          refine lv_goto (tgt := 49) hx hb d_MD_sound_45 rfl ?_
          exact r_z B hw (by decide) d_MD_sound_49 ⟨ez.symm, rfl⟩
set_option maxRecDepth 100000 in
set_option maxHeartbeats 4000000 in
theorem c_MD_settle {l : Launch} {D : va_G} {K : Nat → ClassId} {A : Nat → Prop} {q : Nat → Nat} {kd : Nat → Int32} {f1 f2 : Nat → Int64} {ou nk : Int32} {nf ns hi lo : Int64} {rc : Int32} {zi sd : Nat → Int32} {ix : Int32} {mm wt cd : Nat → Int32} {k : Nat} (hk8 : k < 8) : ctI l y_MD_settle prog_6_method_11_code 2 (some .int) 0 0 0 [.ref (q 0), .int (nI k)] D K A (mW K q kd f1 f2 ou nk nf ns hi lo rc zi sd ix mm wt cd) (fun r w => r = nI k ∧ w = (mW K q (upd kd k nk) (vp_updL f1 k nf) (vp_updL f2 k ns) ou nk nf ns hi lo rc zi sd ix mm wt cd)) := by
  refine mt_of (by decide) (Nat.le_of_ble_eq_true rfl) ?_
  intro p e s m below meth c ls B hw hl
  have hx := B.1
  have hb := B.2.1
  have hl : lv_has ls 2 [(0, .ref (q 0)), (1, .int (nI k))] := hl
  refine lv_aload_n hx hb d_MD_settle_0 rfl (lv_at hl 0 rfl) ?_
  refine g_get B hw fl_MD_7 mw_0 rfl d_MD_settle_1 ?_
  refine lv_iload_n hx hb d_MD_settle_4 rfl (lv_at hl 1 rfl) ?_
  refine lv_aload_n hx hb d_MD_settle_5 rfl (lv_at hl 0 rfl) ?_
  refine g_get B hw fl_MD_90 mw_0 rfl d_MD_settle_6 ?_
  refine g_iast B hw mw_1 (vp_in_nI hk8 (by omega)) d_MD_settle_9 (fun H locs (hw : wd D A (mW K q _ _ _ _ _ _ _ _ _ _ _ _ _ _ _ _) s H locs) => ?_)
  rw [nI_clamp (by omega)] at hw
  refine lv_aload_n hx hb d_MD_settle_10 rfl (lv_at hl 0 rfl) ?_
  refine g_get B hw fl_MD_13 mw_0 rfl d_MD_settle_11 ?_
  refine lv_iload_n hx hb d_MD_settle_14 rfl (lv_at hl 1 rfl) ?_
  refine lv_aload_n hx hb d_MD_settle_15 rfl (lv_at hl 0 rfl) ?_
  refine g_get B hw fl_MD_84 mw_0 rfl d_MD_settle_16 ?_
  refine g_last B hw mw_2 (vp_in_nI hk8 (by omega)) d_MD_settle_19 (fun H locs (hw : wd D A (mW K q _ _ _ _ _ _ _ _ _ _ _ _ _ _ _ _) s H locs) => ?_)
  rw [nI_clamp (by omega)] at hw
  refine lv_aload_n hx hb d_MD_settle_20 rfl (lv_at hl 0 rfl) ?_
  refine g_get B hw fl_MD_17 mw_0 rfl d_MD_settle_21 ?_
  refine lv_iload_n hx hb d_MD_settle_24 rfl (lv_at hl 1 rfl) ?_
  refine lv_aload_n hx hb d_MD_settle_25 rfl (lv_at hl 0 rfl) ?_
  refine g_get B hw fl_MD_87 mw_0 rfl d_MD_settle_26 ?_
  refine g_last B hw mw_3 (vp_in_nI hk8 (by omega)) d_MD_settle_29 (fun H locs (hw : wd D A (mW K q _ _ _ _ _ _ _ _ _ _ _ _ _ _ _ _) s H locs) => ?_)
  rw [nI_clamp (by omega)] at hw
  refine lv_iload_n hx hb d_MD_settle_30 rfl (lv_at hl 1 rfl) ?_
  exact r_i B hw d_MD_settle_31 ⟨rfl, rfl⟩
end
section
/-! The reference: streams. -/
theorem rol5 (x : Int32) : rtN 5 x = rol x 5 := (rol_rtN (n := 5) (by omega) (by omega) x).symm
theorem rol26 (x : Int32) : rtN 26 x = rol x 26 := (rol_rtN (n := 26) (by omega) (by omega) x).symm
theorem rol13 (x : Int32) : rtN 13 x = rol x 13 := (rol_rtN (n := 13) (by omega) (by omega) x).symm
theorem mvF_h0 {k : Int32} (h : k = 0) (f g : Int64) : mvF k f g = f * 6364136223846793005 + g := by rw [h]; exact mvF_0 f g
theorem mvF_h1 {k : Int32} (h : k = 1) (f g : Int64) : mvF k f g = (rol f.toInt32 26 ^^^ (g.toInt32 ^^^ f.toInt32) ^^^ ((g.toInt32 ^^^ f.toInt32) <<< ((9 : Int32) &&& 31))).toInt64 := by rw [h]; exact mvF_1 f g
theorem mvF_h2 {k : Int32} (h : k = 2) (f g : Int64) : mvF k f g = f := by rw [h]; exact mvF_2 f g
theorem mvS_h0 {k : Int32} (h : k = 0) (f g : Int64) : mvS k f g = g := by rw [h]; exact mvS_0 f g
theorem mvS_h1 {k : Int32} (h : k = 1) (f g : Int64) : mvS k f g = (rol (g.toInt32 ^^^ f.toInt32) 13).toInt64 := by rw [h]; exact mvS_1 f g
theorem mvS_h2 {k : Int32} (h : k = 2) (f g : Int64) : mvS k f g = if g = 9223372036854775807 then 0 else g + 1 := by rw [h]; exact mvS_2 f g
theorem otp_h0 {k : Int32} (h : k = 0) (f g : Int64) : otp k f g = ror (lus (lus f 18 ^^^ f) 27).toInt32 (lus f 59).toInt32 := by rw [h]; exact otp_0 f g
theorem otp_h1 {k : Int32} (h : k = 1) (f g : Int64) : otp k f g = rol (f.toInt32 * (-1640531525)) 5 * 5 := by rw [h]; exact otp_1 f g
theorem otp_h2 {k : Int32} (h : k = 2) (f g : Int64) : otp k f g = mxO f g := by rw [h]; exact otp_2 f g
theorem k03 {c : Int32} (h0 : ¬ c < 0) (h3 : ¬ 3 < c) : c = 0 ∨ c = 1 ∨ c = 2 ∨ c = 3 := by
  obtain ⟨k, hk, rfl⟩ := nI_of h0
  have h : k ≤ 3 := Nat.le_of_not_lt (fun q => h3 (nI_lt (a := 3) q (by omega)))
  rcases (by omega : k = 0 ∨ k = 1 ∨ k = 2 ∨ k = 3) with rfl | rfl | rfl | rfl
  · exact Or.inl rfl
  · exact Or.inr (Or.inl rfl)
  · exact Or.inr (Or.inr (Or.inl rfl))
  · exact Or.inr (Or.inr (Or.inr rfl))
theorem k3of {c : Int32} (h0 : ¬ c < 0) (h3 : c ≤ 3) : c = 0 ∨ c = 1 ∨ c = 2 ∨ c = 3 := k03 h0 (Int32.not_lt.mpr h3)
/-- the reference's cells hold the state; what is scratch may be anything -/
def MR (K : Nat → ClassId) (q : Nat → Nat) (kd : Nat → Int32) (f1 f2 : Nat → Int64) (rc : Int32) (zi sd : Nat → Int32) (ix : Int32) (wt cd : Nat → Int32) (w : va_W) : Prop := ∃ ou nk nf ns hi lo mm, w = mW K q kd f1 f2 ou nk nf ns hi lo rc zi sd ix mm wt cd
set_option maxRecDepth 100000 in
set_option maxHeartbeats 4000000 in
theorem c_MD_step {l : Launch} {D : va_G} {K : Nat → ClassId} {A : Nat → Prop} {q : Nat → Nat} {kd : Nat → Int32} {f1 f2 : Nat → Int64} {ou nk : Int32} {nf ns hi lo : Int64} {rc : Int32} {zi sd : Nat → Int32} {ix : Int32} {mm wt cd : Nat → Int32} {k : Nat} (hk8 : k < 8) (hk3 : kd k = 0 ∨ kd k = 1 ∨ kd k = 2 ∨ kd k = 3) (hok : okS (kd k) (f1 k) (f2 k)) : ctV l y_MD_step prog_6_method_5_code 8 2 0 0 [.ref (q 0), .int (nI k)] D K A (mW K q kd f1 f2 ou nk nf ns hi lo rc zi sd ix mm wt cd) (fun w => ∃ h2 l2, w = (mW K q kd (vp_updL f1 k (mvF (kd k) (f1 k) (f2 k))) (vp_updL f2 k (mvS (kd k) (f1 k) (f2 k))) (otp (kd k) (f1 k) (f2 k)) nk nf ns h2 l2 rc zi sd ix mm wt cd)) := by
  refine mt_of (by decide) (Nat.le_of_ble_eq_true rfl) ?_
  intro p e s m below meth c ls B hw hl
  have hx := B.1
  have hb := B.2.1
  have hl : lv_has ls 8 [(0, .ref (q 0)), (1, .int (nI k))] := hl
  refine lv_aload_n hx hb d_MD_step_0 rfl (lv_at hl 0 rfl) ?_
  refine g_get B hw fl_MD_13 mw_0 rfl d_MD_step_1 ?_
  refine lv_iload_n hx hb d_MD_step_4 rfl (lv_at hl 1 rfl) ?_
  refine g_lald B hw mw_2 (vp_in_nI hk8 (by omega)) d_MD_step_5 ?_
  rw [nI_clamp (by omega)]
  refine lv_lstore_n hx hb d_MD_step_6 rfl hl (by decide) rfl (fun ls (hl : lv_has ls 8 [(2, .long _), (0, .ref _), (1, .int _)]) => ?_)
  refine lv_aload_n hx hb d_MD_step_7 rfl (lv_at hl 1 rfl) ?_
  refine g_get B hw fl_MD_17 mw_0 rfl d_MD_step_8 ?_
  refine lv_iload_n hx hb d_MD_step_11 rfl (lv_at hl 2 rfl) ?_
  refine g_lald B hw mw_3 (vp_in_nI hk8 (by omega)) d_MD_step_12 ?_
  rw [nI_clamp (by omega)]
  refine lv_lstore hx hb d_MD_step_13 hl (by decide) rfl (fun ls (hl : lv_has ls 8 [(4, .long _), (2, .long _), (0, .ref _), (1, .int _)]) => ?_)
  refine lv_aload_n hx hb d_MD_step_15 rfl (lv_at hl 2 rfl) ?_
  refine g_get B hw fl_MD_7 mw_0 rfl d_MD_step_16 ?_
  refine lv_iload_n hx hb d_MD_step_19 rfl (lv_at hl 3 rfl) ?_
  refine g_iald B hw mw_1 (vp_in_nI hk8 (by omega)) d_MD_step_20 ?_
  rw [nI_clamp (by omega)]
  refine lv_if_ne (tgt := 74) hx hb d_MD_step_21 rfl (fun h21 => ?_) (fun h21 => ?_)
  · refine lv_aload_n hx hb d_MD_step_74 rfl (lv_at hl 2 rfl) ?_
    refine g_get B hw fl_MD_7 mw_0 rfl d_MD_step_75 ?_
    refine lv_iload_n hx hb d_MD_step_78 rfl (lv_at hl 3 rfl) ?_
    refine g_iald B hw mw_1 (vp_in_nI hk8 (by omega)) d_MD_step_79 ?_
    rw [nI_clamp (by omega)]
    refine lv_iconst (v := 1) hx hb d_MD_step_80 (by decide) ?_
    refine lv_icmp_ne (tgt := 159) hx hb d_MD_step_81 rfl (fun h81 => ?_) (fun h81 => ?_)
    · refine lv_aload_n hx hb d_MD_step_159 rfl (lv_at hl 2 rfl) ?_
      refine g_get B hw fl_MD_7 mw_0 rfl d_MD_step_160 ?_
      refine lv_iload_n hx hb d_MD_step_163 rfl (lv_at hl 3 rfl) ?_
      refine g_iald B hw mw_1 (vp_in_nI hk8 (by omega)) d_MD_step_164 ?_
      rw [nI_clamp (by omega)]
      refine lv_iconst (v := 2) hx hb d_MD_step_165 (by decide) ?_
      refine lv_icmp_ne (tgt := 203) hx hb d_MD_step_166 rfl (fun h166 => ?_) (fun h166 => ?_)
      · have m1 := mvF_n h21 h81 h166 (f1 k) (f2 k)
        have m2 := mvS_n h21 h81 h166 (f1 k) (f2 k)
        have m3 := otp_n h21 h81 h166 (f1 k) (f2 k)
        have h3 := hk3.elim (fun z => absurd z h21) (fun z => z.elim (fun z => absurd z h81) (fun z => z.elim (fun z => absurd z h166) id))
        refine g_ldc2 B kc_MD_63 d_MD_step_203 ?_
        refine lv_lload_n hx hb d_MD_step_206 rfl (lv_at hl 1 rfl) ?_
        refine lv_lmul hx hb d_MD_step_207 ?_
        refine g_ldc2 B kc_MD_65 d_MD_step_208 ?_
        refine lv_lload hx hb d_MD_step_211 (lv_at hl 0 rfl) ?_
        refine lv_lmul hx hb d_MD_step_213 ?_
        refine lv_ladd hx hb d_MD_step_214 ?_
        refine g_ldc2 B kc_MD_67 d_MD_step_215 ?_
        refine lv_lrem hx hb d_MD_step_218 (by decide) ?_
        refine lv_lstore hx hb d_MD_step_219 hl (by decide) rfl (fun ls (hl : lv_has ls 8 [(6, .long (nxR (f1 k) (f2 k))), (4, .long _), (2, .long _), (0, .ref _), (1, .int _)]) => ?_)
        refine lv_aload_n hx hb d_MD_step_221 rfl (lv_at hl 3 rfl) ?_
        refine g_ldc2 B kc_MD_69 d_MD_step_222 ?_
        refine lv_lload hx hb d_MD_step_225 (lv_at hl 0 rfl) ?_
        refine lv_lmul hx hb d_MD_step_227 ?_
        refine lv_lload_n hx hb d_MD_step_228 rfl (lv_at hl 2 rfl) ?_
        refine g_ldc2 B kc_MD_69 d_MD_step_229 ?_
        refine lv_lrem hx hb d_MD_step_232 (by decide) ?_
        rw [odd_nn (hok.2 h3).1.1]
        refine lv_ladd hx hb d_MD_step_233 ?_
        refine lv_l2i hx hb d_MD_step_234 rfl ?_
        refine g_put B hw fl_MD_50 ck_MD mw_0 rfl rfl rfl (Nat.le_of_ble_eq_true rfl) d_MD_step_235 (fun H locs (hw : wd D A (mW K q _ _ _ _ _ _ _ _ _ _ _ _ _ _ _ _) s H locs) => ?_)
        refine lv_aload_n hx hb d_MD_step_238 rfl (lv_at hl 3 rfl) ?_
        refine g_get B hw fl_MD_17 mw_0 rfl d_MD_step_239 ?_
        refine lv_iload_n hx hb d_MD_step_242 rfl (lv_at hl 4 rfl) ?_
        refine lv_lload_n hx hb d_MD_step_243 rfl (lv_at hl 2 rfl) ?_
        refine g_last B hw mw_3 (vp_in_nI hk8 (by omega)) d_MD_step_244 (fun H locs (hw : wd D A (mW K q _ _ _ _ _ _ _ _ _ _ _ _ _ _ _ _) s H locs) => ?_)
        rw [nI_clamp (by omega)] at hw
        refine lv_aload_n hx hb d_MD_step_245 rfl (lv_at hl 3 rfl) ?_
        refine g_get B hw fl_MD_13 mw_0 rfl d_MD_step_246 ?_
        refine lv_iload_n hx hb d_MD_step_249 rfl (lv_at hl 4 rfl) ?_
        refine lv_lload hx hb d_MD_step_250 (lv_at hl 0 rfl) ?_
        refine g_last B hw mw_2 (vp_in_nI hk8 (by omega)) d_MD_step_252 (fun H locs (hw : wd D A (mW K q _ _ _ _ _ _ _ _ _ _ _ _ _ _ _ _) s H locs) => ?_)
        rw [nI_clamp (by omega)] at hw
        exact r_v B hw d_MD_step_253 ⟨_, _, by rw [m1, m2, m3]⟩
      · have m1 := mvF_h2 h166 (f1 k) (f2 k)
        have m2 := mvS_h2 h166 (f1 k) (f2 k)
        have m3 := otp_h2 h166 (f1 k) (f2 k)
        refine lv_aload_n hx hb d_MD_step_169 rfl (lv_at hl 2 rfl) ?_
        refine lv_lload_n hx hb d_MD_step_170 rfl (lv_at hl 1 rfl) ?_
        refine lv_l2i hx hb d_MD_step_171 rfl ?_
        refine lv_lload hx hb d_MD_step_172 (lv_at hl 0 rfl) ?_
        refine k_v (k_runV B hw (c_MD_rounds (hok.1 h166)) rfl rfl cf_MD_57 mw_0 rfl rfl ⟨Nat.le_of_ble_eq_true rfl, Nat.le_of_ble_eq_true rfl⟩ rfl hl.1 rfl (Nat.le_of_ble_eq_true rfl) d_MD_step_174 ⟨Nat.le_of_ble_eq_true rfl, Nat.le_of_ble_eq_true rfl⟩) hw (fun w1 H locs hq hw => ?_)
        obtain ⟨h2, l2, ew⟩ := hq
        rw [ew] at hw
        refine lv_aload_n hx hb d_MD_step_177 rfl (lv_at hl 2 rfl) ?_
        refine g_get B hw fl_MD_17 mw_0 rfl d_MD_step_178 ?_
        refine lv_iload_n hx hb d_MD_step_181 rfl (lv_at hl 3 rfl) ?_
        refine lv_lload hx hb d_MD_step_182 (lv_at hl 0 rfl) ?_
        refine g_ldc2 B kc_MD_61 d_MD_step_184 ?_
        refine W.lcmp hx hb d_MD_step_187 ?_
        refine lv_if_ne (tgt := 195) hx hb d_MD_step_188 rfl (fun h188 => ?_) (fun h188 => ?_)
        · rw [lg_cmp_eq] at h188
          rw [if_neg h188] at m2
          refine lv_lload hx hb d_MD_step_195 (lv_at hl 0 rfl) ?_
          refine lv_lconst (v := 1) hx hb d_MD_step_197 (by decide) ?_
          refine lv_ladd hx hb d_MD_step_198 ?_
          refine g_last B hw mw_3 (vp_in_nI hk8 (by omega)) d_MD_step_199 (fun H locs (hw : wd D A (mW K q _ _ _ _ _ _ _ _ _ _ _ _ _ _ _ _) s H locs) => ?_)
          rw [nI_clamp (by omega)] at hw
          refine lv_goto (tgt := 253) hx hb d_MD_step_200 rfl ?_
          exact r_v B hw d_MD_step_253 ⟨_, _, by rw [m1, m2, m3, updL_self]⟩
        · rw [lg_cmp_eq] at h188
          rw [if_pos h188] at m2
          refine lv_lconst (v := 0) hx hb d_MD_step_191 (by decide) ?_
          refine lv_goto (tgt := 199) hx hb d_MD_step_192 rfl ?_
          refine g_last B hw mw_3 (vp_in_nI hk8 (by omega)) d_MD_step_199 (fun H locs (hw : wd D A (mW K q _ _ _ _ _ _ _ _ _ _ _ _ _ _ _ _) s H locs) => ?_)
          rw [nI_clamp (by omega)] at hw
          refine lv_goto (tgt := 253) hx hb d_MD_step_200 rfl ?_
          exact r_v B hw d_MD_step_253 ⟨_, _, by rw [m1, m2, m3, updL_self]⟩
    · have m1 := mvF_h1 h81 (f1 k) (f2 k)
      have m2 := mvS_h1 h81 (f1 k) (f2 k)
      have m3 := otp_h1 h81 (f1 k) (f2 k)
      refine lv_lload_n hx hb d_MD_step_84 rfl (lv_at hl 1 rfl) ?_
      refine lv_l2i hx hb d_MD_step_85 rfl ?_
      refine lv_istore hx hb d_MD_step_86 hl (by decide) rfl (fun ls (hl : lv_has ls 8 [(6, .int _), (4, .long _), (2, .long _), (0, .ref _), (1, .int _)]) => ?_)
      refine lv_lload hx hb d_MD_step_88 (lv_at hl 1 rfl) ?_
      refine lv_l2i hx hb d_MD_step_90 rfl ?_
      refine lv_istore hx hb d_MD_step_91 hl (by decide) rfl (fun ls (hl : lv_has ls 8 [(7, .int _), (6, .int _), (4, .long _), (2, .long _), (0, .ref _), (1, .int _)]) => ?_)
      refine lv_aload_n hx hb d_MD_step_93 rfl (lv_at hl 4 rfl) ?_
      refine lv_iload hx hb d_MD_step_94 (lv_at hl 1 rfl) ?_
      refine g_ldc B kc_MD_56 d_MD_step_96 ?_
      refine lv_imul hx hb d_MD_step_98 ?_
      refine lv_iconst (v := 5) hx hb d_MD_step_99 (by decide) ?_
      refine k_i (k_runS B hw (c_MD_rotl (n := 5) (by omega)) rfl rfl cf_MD_46 ⟨Nat.le_of_ble_eq_true rfl, Nat.le_of_ble_eq_true rfl⟩ rfl hl.1 rfl (Nat.le_of_ble_eq_true rfl) d_MD_step_100 ⟨Nat.le_of_ble_eq_true rfl, Nat.le_of_ble_eq_true rfl⟩) hw (fun r100 w1 H locs hq hw => ?_)
      have er := hq.1
      have ew := hq.2
      rw [ew] at hw
      rw [er, rol5]
      refine lv_iconst (v := 5) hx hb d_MD_step_103 (by decide) ?_
      refine lv_imul hx hb d_MD_step_104 ?_
      refine g_put B hw fl_MD_50 ck_MD mw_0 rfl rfl rfl (Nat.le_of_ble_eq_true rfl) d_MD_step_105 (fun H locs (hw : wd D A (mW K q _ _ _ _ _ _ _ _ _ _ _ _ _ _ _ _) s H locs) => ?_)
      refine lv_iload hx hb d_MD_step_108 (lv_at hl 1 rfl) ?_
      refine lv_iload hx hb d_MD_step_110 (lv_at hl 0 rfl) ?_
      refine lv_ixor hx hb d_MD_step_112 ?_
      rw [Int32.xor_comm (f1 k).toInt32 (f2 k).toInt32]
      refine lv_istore hx hb d_MD_step_113 hl (by decide) rfl (fun ls (hl : lv_has ls 8 [(7, .int _), (6, .int _), (4, .long _), (2, .long _), (0, .ref _), (1, .int _)]) => ?_)
      refine lv_iload hx hb d_MD_step_115 (lv_at hl 1 rfl) ?_
      refine lv_bipush (v := 26) hx hb d_MD_step_117 (by decide) ?_
      refine k_i (k_runS B hw (c_MD_rotl (n := 26) (by omega)) rfl rfl cf_MD_46 ⟨Nat.le_of_ble_eq_true rfl, Nat.le_of_ble_eq_true rfl⟩ rfl hl.1 rfl (Nat.le_of_ble_eq_true rfl) d_MD_step_119 ⟨Nat.le_of_ble_eq_true rfl, Nat.le_of_ble_eq_true rfl⟩) hw (fun r119 w1 H locs hq hw => ?_)
      have er := hq.1
      have ew := hq.2
      rw [ew] at hw
      rw [er, rol26]
      refine lv_iload hx hb d_MD_step_122 (lv_at hl 0 rfl) ?_
      refine lv_ixor hx hb d_MD_step_124 ?_
      refine lv_iload hx hb d_MD_step_125 (lv_at hl 0 rfl) ?_
      refine lv_bipush (v := 9) hx hb d_MD_step_127 (by decide) ?_
      refine lv_ishl hx hb d_MD_step_129 ?_
      refine lv_ixor hx hb d_MD_step_130 ?_
      refine lv_istore hx hb d_MD_step_131 hl (by decide) rfl (fun ls (hl : lv_has ls 8 [(6, .int _), (7, .int _), (4, .long _), (2, .long _), (0, .ref _), (1, .int _)]) => ?_)
      refine lv_aload_n hx hb d_MD_step_133 rfl (lv_at hl 4 rfl) ?_
      refine g_get B hw fl_MD_13 mw_0 rfl d_MD_step_134 ?_
      refine lv_iload_n hx hb d_MD_step_137 rfl (lv_at hl 5 rfl) ?_
      refine lv_iload hx hb d_MD_step_138 (lv_at hl 0 rfl) ?_
      refine lv_i2l hx hb d_MD_step_140 rfl ?_
      refine g_last B hw mw_2 (vp_in_nI hk8 (by omega)) d_MD_step_141 (fun H locs (hw : wd D A (mW K q _ _ _ _ _ _ _ _ _ _ _ _ _ _ _ _) s H locs) => ?_)
      rw [nI_clamp (by omega)] at hw
      refine lv_aload_n hx hb d_MD_step_142 rfl (lv_at hl 4 rfl) ?_
      refine g_get B hw fl_MD_17 mw_0 rfl d_MD_step_143 ?_
      refine lv_iload_n hx hb d_MD_step_146 rfl (lv_at hl 5 rfl) ?_
      refine lv_iload hx hb d_MD_step_147 (lv_at hl 1 rfl) ?_
      refine lv_bipush (v := 13) hx hb d_MD_step_149 (by decide) ?_
      refine k_i (k_runS B hw (c_MD_rotl (n := 13) (by omega)) rfl rfl cf_MD_46 ⟨Nat.le_of_ble_eq_true rfl, Nat.le_of_ble_eq_true rfl⟩ rfl hl.1 rfl (Nat.le_of_ble_eq_true rfl) d_MD_step_151 ⟨Nat.le_of_ble_eq_true rfl, Nat.le_of_ble_eq_true rfl⟩) hw (fun r151 w1 H locs hq hw => ?_)
      have er := hq.1
      have ew := hq.2
      rw [ew] at hw
      rw [er, rol13]
      refine lv_i2l hx hb d_MD_step_154 rfl ?_
      refine g_last B hw mw_3 (vp_in_nI hk8 (by omega)) d_MD_step_155 (fun H locs (hw : wd D A (mW K q _ _ _ _ _ _ _ _ _ _ _ _ _ _ _ _) s H locs) => ?_)
      rw [nI_clamp (by omega)] at hw
      refine lv_goto (tgt := 253) hx hb d_MD_step_156 rfl ?_
      exact r_v B hw d_MD_step_253 ⟨_, _, by rw [m1, m2, m3]⟩
  · have m1 := mvF_h0 h21 (f1 k) (f2 k)
    have m2 := mvS_h0 h21 (f1 k) (f2 k)
    have m3 := otp_h0 h21 (f1 k) (f2 k)
    refine lv_lload_n hx hb d_MD_step_24 rfl (lv_at hl 1 rfl) ?_
    refine lv_bipush (v := 18) hx hb d_MD_step_25 (by decide) ?_
    refine lv_lushr hx hb d_MD_step_27 rfl ?_
    refine lv_lload_n hx hb d_MD_step_28 rfl (lv_at hl 1 rfl) ?_
    refine lv_lxor hx hb d_MD_step_29 ?_
    refine lv_bipush (v := 27) hx hb d_MD_step_30 (by decide) ?_
    refine lv_lushr hx hb d_MD_step_32 rfl ?_
    refine lv_l2i hx hb d_MD_step_33 rfl ?_
    refine lv_istore hx hb d_MD_step_34 hl (by decide) rfl (fun ls (hl : lv_has ls 8 [(6, .int _), (4, .long _), (2, .long _), (0, .ref _), (1, .int _)]) => ?_)
    refine lv_lload_n hx hb d_MD_step_36 rfl (lv_at hl 2 rfl) ?_
    refine lv_bipush (v := 59) hx hb d_MD_step_37 (by decide) ?_
    refine lv_lushr hx hb d_MD_step_39 rfl ?_
    refine lv_l2i hx hb d_MD_step_40 rfl ?_
    refine lv_istore hx hb d_MD_step_41 hl (by decide) rfl (fun ls (hl : lv_has ls 8 [(7, .int _), (6, .int _), (4, .long _), (2, .long _), (0, .ref _), (1, .int _)]) => ?_)
    refine lv_aload_n hx hb d_MD_step_43 rfl (lv_at hl 4 rfl) ?_
    refine lv_iload hx hb d_MD_step_44 (lv_at hl 1 rfl) ?_
    refine lv_bipush (v := 32) hx hb d_MD_step_46 (by decide) ?_
    refine lv_iload hx hb d_MD_step_48 (lv_at hl 0 rfl) ?_
    refine lv_isub hx hb d_MD_step_50 ?_
    obtain ⟨j, hj, ej⟩ := r59 (f1 k)
    rw [ej, show (32 : Int32) - nI j = nI (32 - j) from pk_sub (a := 32) (b := j) (by omega)]
    refine k_i (k_runS B hw (c_MD_rotl (n := 32 - j) (by omega)) rfl rfl cf_MD_46 ⟨Nat.le_of_ble_eq_true rfl, Nat.le_of_ble_eq_true rfl⟩ rfl hl.1 rfl (Nat.le_of_ble_eq_true rfl) d_MD_step_51 ⟨Nat.le_of_ble_eq_true rfl, Nat.le_of_ble_eq_true rfl⟩) hw (fun r51 w1 H locs hq hw => ?_)
    have er := hq.1
    have ew := hq.2
    rw [ew] at hw
    rw [er, ← ror_rtN hj, ← ej]
    refine g_put B hw fl_MD_50 ck_MD mw_0 rfl rfl rfl (Nat.le_of_ble_eq_true rfl) d_MD_step_54 (fun H locs (hw : wd D A (mW K q _ _ _ _ _ _ _ _ _ _ _ _ _ _ _ _) s H locs) => ?_)
    refine lv_aload_n hx hb d_MD_step_57 rfl (lv_at hl 4 rfl) ?_
    refine g_get B hw fl_MD_13 mw_0 rfl d_MD_step_58 ?_
    refine lv_iload_n hx hb d_MD_step_61 rfl (lv_at hl 5 rfl) ?_
    refine lv_lload_n hx hb d_MD_step_62 rfl (lv_at hl 3 rfl) ?_
    refine g_ldc2 B kc_MD_54 d_MD_step_63 ?_
    refine lv_lmul hx hb d_MD_step_66 ?_
    refine lv_lload hx hb d_MD_step_67 (lv_at hl 2 rfl) ?_
    refine lv_ladd hx hb d_MD_step_69 ?_
    refine g_last B hw mw_2 (vp_in_nI hk8 (by omega)) d_MD_step_70 (fun H locs (hw : wd D A (mW K q _ _ _ _ _ _ _ _ _ _ _ _ _ _ _ _) s H locs) => ?_)
    rw [nI_clamp (by omega)] at hw
    refine lv_goto (tgt := 253) hx hb d_MD_step_71 rfl ?_
    exact r_v B hw d_MD_step_253 ⟨_, _, by rw [m1, m2, m3, updL_self]⟩
set_option maxRecDepth 100000 in
set_option maxHeartbeats 4000000 in
theorem c_MD_below {l : Launch} {D : va_G} {K : Nat → ClassId} {A : Nat → Prop} {q : Nat → Nat} {kd : Nat → Int32} {f1 f2 : Nat → Int64} {ou nk : Int32} {nf ns hi lo : Int64} {rc : Int32} {zi sd : Nat → Int32} {ix : Int32} {mm wt cd : Nat → Int32} {k : Nat} (hk8 : k < 8) (hk3 : kd k = 0 ∨ kd k = 1 ∨ kd k = 2 ∨ kd k = 3) (hok : okS (kd k) (f1 k) (f2 k)) {N : Nat} (h0 : 0 < N) (hN : N < 2 ^ 31) : ctI l y_MD_below prog_6_method_17_code 6 (some .int) 3 0 0 [.ref (q 0), .int (nI k), .int (nI N)] D K A (mW K q kd f1 f2 ou nk nf ns hi lo rc zi sd ix mm wt cd) (fun r w => r = (bel (nI N) (kd k) 8 (f1 k, f2 k)).1 ∧ ∃ o2 h2 l2, w = (mW K q kd (vp_updL f1 k (bel (nI N) (kd k) 8 (f1 k, f2 k)).2.1) (vp_updL f2 k (bel (nI N) (kd k) 8 (f1 k, f2 k)).2.2) o2 nk nf ns h2 l2 rc zi sd ix mm wt cd)) := by
  refine mt_of (by decide) (Nat.le_of_ble_eq_true rfl) ?_
  intro p e s m below meth c ls B hw hl
  have hx := B.1
  have hb := B.2.1
  have hl : lv_has ls 6 [(0, .ref (q 0)), (1, .int (nI k)), (2, .int (nI N))] := hl
  refine g_ldc2 B kc_MD_35 d_MD_below_0 ?_
  refine lv_iload_n hx hb d_MD_below_3 rfl (lv_at hl 2 rfl) ?_
  refine lv_i2l hx hb d_MD_below_4 rfl ?_
  refine lv_lrem hx hb d_MD_below_5 (ne64 h0 hN) ?_
  refine lv_lstore_n hx hb d_MD_below_6 rfl hl (by decide) rfl (fun ls (hl : lv_has ls 6 [(3, .long (lst (nI N))), (0, .ref _), (1, .int _), (2, .int _)]) => ?_)
  refine lv_iconst (v := 1) hx hb d_MD_below_7 (by decide) ?_
  refine lv_istore hx hb d_MD_below_8 hl (by decide) rfl (fun ls (hl : lv_has ls 6 [(5, .int _), (3, .long _), (0, .ref _), (1, .int _), (2, .int _)]) => ?_)
  refine lp_w (σ := Nat × (Int64 × Int64) × Int32 × Int64 × Int64) (fun x => x.1) (fun x H locs ls => 0 < x.1 ∧ x.1 ≤ 8 ∧ bel (nI N) (kd k) 8 (f1 k, f2 k) = bel (nI N) (kd k) x.1 x.2.1 ∧ okS (kd k) x.2.1.1 x.2.1.2 ∧ lv_has ls 6 [(5, .int (nI (9 - x.1))), (3, .long (lst (nI N))), (0, .ref (q 0)), (1, .int (nI k)), (2, .int (nI N))] ∧ wd D A (mW K q kd (vp_updL f1 k x.2.1.1) (vp_updL f2 k x.2.1.2) x.2.2.1 nk nf ns x.2.2.2.1 x.2.2.2.2 rc zi sd ix mm wt cd) s H locs) ?_ (8, (f1 k, f2 k), ou, hi, lo) _ _ _ ⟨by show 0 < 8; omega, by show 8 ≤ 8; omega, rfl, hok, lv_sub hl [0, 1, 2, 3, 4] rfl, by show wd D A (mW K q kd (vp_updL f1 k (f1 k)) (vp_updL f2 k (f2 k)) ou nk nf ns hi lo rc zi sd ix mm wt cd) s _ _; rw [updL_self, updL_self]; exact hw⟩
  rintro ⟨j, ⟨F, G⟩, o2, h2, l2⟩ H locs ls ⟨hj, hj8, hbel, hokj, hl, hw⟩ ih
  dsimp only at hj hj8 hbel hokj hl hw
  refine lv_iload hx hb d_MD_below_10 (lv_at hl 0 rfl) ?_
  refine lv_bipush (v := 8) hx hb d_MD_below_12 (by decide) ?_
  refine lv_icmp_gt (tgt := 63) hx hb d_MD_below_14 rfl (fun h14 => ?_) (fun h14 => ?_)
  · exact absurd ((nI_ltI (a := 8) (by omega) (by omega)).mp h14) (by omega)
  · refine lv_aload_n hx hb d_MD_below_17 rfl (lv_at hl 2 rfl) ?_
    refine lv_iload_n hx hb d_MD_below_18 rfl (lv_at hl 3 rfl) ?_
    refine k_v (k_runV B hw (c_MD_step (k := k) hk8 hk3 (by rw [updL_s, updL_s]; exact hokj)) rfl rfl cf_MD_115 mw_0 rfl rfl ⟨Nat.le_of_ble_eq_true rfl, Nat.le_of_ble_eq_true rfl⟩ rfl hl.1 rfl (Nat.le_of_ble_eq_true rfl) d_MD_below_19 ⟨Nat.le_of_ble_eq_true rfl, Nat.le_of_ble_eq_true rfl⟩) hw (fun w1 H locs hq hw => ?_)
    obtain ⟨h3, l3, ew⟩ := hq
    rw [ew, updL_s, updL_s, updL_updL, updL_updL] at hw
    refine lv_aload_n hx hb d_MD_below_22 rfl (lv_at hl 2 rfl) ?_
    refine lv_aload_n hx hb d_MD_below_23 rfl (lv_at hl 2 rfl) ?_
    refine g_get B hw fl_MD_50 mw_0 rfl d_MD_below_24 ?_
    refine k_l (k_runS B hw c_MD_number rfl rfl cf_MD_71 ⟨Nat.le_of_ble_eq_true rfl, Nat.le_of_ble_eq_true rfl⟩ rfl hl.1 rfl (Nat.le_of_ble_eq_true rfl) d_MD_below_27 ⟨Nat.le_of_ble_eq_true rfl, Nat.le_of_ble_eq_true rfl⟩) hw (fun r27 w1 H locs hq hw => ?_)
    obtain ⟨rfl, ew⟩ := hq
    rw [ew] at hw
    refine lv_iload_n hx hb d_MD_below_30 rfl (lv_at hl 4 rfl) ?_
    refine lv_i2l hx hb d_MD_below_31 rfl ?_
    refine k_v (k_runV B hw c_MD_multiply rfl rfl cf_MD_77 mw_0 rfl rfl ⟨Nat.le_of_ble_eq_true rfl, Nat.le_of_ble_eq_true rfl⟩ rfl hl.1 rfl (Nat.le_of_ble_eq_true rfl) d_MD_below_32 ⟨Nat.le_of_ble_eq_true rfl, Nat.le_of_ble_eq_true rfl⟩) hw (fun w1 H locs hq hw => ?_)
    rw [hq] at hw
    refine lv_aload_n hx hb d_MD_below_35 rfl (lv_at hl 2 rfl) ?_
    refine g_get B hw fl_MD_39 mw_0 rfl d_MD_below_36 ?_
    refine lv_lload_n hx hb d_MD_below_39 rfl (lv_at hl 1 rfl) ?_
    refine W.lcmp hx hb d_MD_below_40 ?_
    refine lv_if_ge (tgt := 51) hx hb d_MD_below_41 rfl (fun h41 => ?_) (fun h41 => ?_)
    · rw [lg_cmp_ge, (dr_mul _ hN).2] at h41
      have hs := bel_stop (n := nI N) (k := kd k) (t := (F, G)) hj (Or.inr (Int64.not_lt.mpr h41))
      refine lv_aload_n hx hb d_MD_below_51 rfl (lv_at hl 2 rfl) ?_
      refine g_get B hw fl_MD_43 mw_0 rfl d_MD_below_52 ?_
      refine lv_l2i hx hb d_MD_below_55 rfl ?_
      rw [(dr_mul _ hN).1]
      exact r_i B hw d_MD_below_56 ⟨by rw [hbel, hs]; rfl, _, _, _, by rw [hbel, hs]⟩
    · rw [lg_cmp_ge, (dr_mul _ hN).2] at h41
      have h41 := Int64.not_le.mp h41
      refine lv_iload hx hb d_MD_below_44 (lv_at hl 0 rfl) ?_
      refine lv_bipush (v := 8) hx hb d_MD_below_46 (by decide) ?_
      refine lv_icmp_ne (tgt := 57) hx hb d_MD_below_48 rfl (fun h48 => ?_) (fun h48 => ?_)
      · have h48 : 1 < j := Nat.lt_of_not_le (fun z => h48 (by rw [show 9 - j = 8 by omega]; rfl))
        refine lv_iinc (k := 0) hx hb d_MD_below_57 hl rfl (show nI (9 - j) + Int32.ofInt 1 = nI (9 - (j - 1)) from by rw [show 9 - (j - 1) = (9 - j) + 1 by omega]; exact (nI_succ _).symm) (by decide) rfl (fun ls (hl : lv_has ls 6 [(5, .int (nI (9 - (j - 1)))), (3, .long _), (0, .ref _), (1, .int _), (2, .int _)]) => ?_)
        refine lv_goto (tgt := 10) hx hb d_MD_below_60 rfl ?_
        exact ih (j - 1, (mvF (kd k) F G, mvS (kd k) F G), _, _, _) _ _ _ (by show j - 1 < j; omega) ⟨by show 0 < j - 1; omega, by show j - 1 ≤ 8; omega, hbel.trans (bel_go h48 h41), okS_mv hokj, lv_sub hl [0, 1, 2, 3, 4] rfl, hw⟩
      · have h48 : 9 - j = 8 := (nI_eq (b := 8) (by omega) (by omega)).mp h48
        have hs := bel_stop (n := nI N) (k := kd k) (t := (F, G)) hj (Or.inl (by omega))
        refine lv_aload_n hx hb d_MD_below_51 rfl (lv_at hl 2 rfl) ?_
        refine g_get B hw fl_MD_43 mw_0 rfl d_MD_below_52 ?_
        refine lv_l2i hx hb d_MD_below_55 rfl ?_
        rw [(dr_mul _ hN).1]
        exact r_i B hw d_MD_below_56 ⟨by rw [hbel, hs]; rfl, _, _, _, by rw [hbel, hs]⟩
set_option maxRecDepth 100000 in
set_option maxHeartbeats 4000000 in
theorem c_MD_release {l : Launch} {D : va_G} {K : Nat → ClassId} {A : Nat → Prop} {q : Nat → Nat} {kd : Nat → Int32} {f1 f2 : Nat → Int64} {ou nk : Int32} {nf ns hi lo : Int64} {rc : Int32} {zi sd : Nat → Int32} {ix : Int32} {mm wt cd : Nat → Int32} {x : Int32} : ctI l y_MD_release prog_6_method_14_code 2 (some .boolean) 1 0 0 [.ref (q 0), .int x] D K A (mW K q kd f1 f2 ou nk nf ns hi lo rc zi sd ix mm wt cd) (fun r w => r = rlA kd x ∧ MR K q (rlK kd x) f1 f2 rc zi sd ix wt cd w) := by
  refine mt_of (by decide) (Nat.le_of_ble_eq_true rfl) ?_
  intro p e s m below meth c ls B hw hl
  have hx := B.1
  have hb := B.2.1
  have hl : lv_has ls 2 [(0, .ref (q 0)), (1, .int x)] := hl
  refine lv_aload_n hx hb d_MD_release_0 rfl (lv_at hl 0 rfl) ?_
  refine lv_iload_n hx hb d_MD_release_1 rfl (lv_at hl 1 rfl) ?_
  refine k_i (k_runV B hw c_MD_holds rfl rfl cf_MD_109 mw_0 rfl rfl ⟨Nat.le_of_ble_eq_true rfl, Nat.le_of_ble_eq_true rfl⟩ rfl hl.1 rfl (Nat.le_of_ble_eq_true rfl) d_MD_release_2 ⟨Nat.le_of_ble_eq_true rfl, Nat.le_of_ble_eq_true rfl⟩) hw (fun r2 w1 H locs hq hw => ?_)
  obtain ⟨rfl, ew⟩ := hq
  rw [ew] at hw
  rcases hd_case kd x with ⟨hn, hz⟩ | ⟨k, hk8, rfl, hn, hkd, hz⟩
  · rw [hz]
    refine lv_if_ne (tgt := 10) hx hb d_MD_release_5 rfl (fun h5 => ?_) (fun h5 => ?_)
    · exact absurd rfl h5
    · refine lv_iconst (v := 0) hx hb d_MD_release_8 (by decide) ?_
      exact r_z B hw (by decide) d_MD_release_9 ⟨rfl, by unfold rlK; rw [onS_n hn]; exact ⟨_, _, _, _, _, _, _, rfl⟩⟩
  · rw [hz]
    refine lv_if_ne (tgt := 10) hx hb d_MD_release_5 rfl (fun h5 => ?_) (fun h5 => ?_)
    · refine lv_aload_n hx hb d_MD_release_10 rfl (lv_at hl 0 rfl) ?_
      refine g_get B hw fl_MD_7 mw_0 rfl d_MD_release_11 ?_
      refine lv_iload_n hx hb d_MD_release_14 rfl (lv_at hl 1 rfl) ?_
      refine lv_iconst (v := (-1)) hx hb d_MD_release_15 (by decide) ?_
      refine g_iast B hw mw_1 (vp_in_nI hk8 (by omega)) d_MD_release_16 (fun H locs (hw : wd D A (mW K q _ _ _ _ _ _ _ _ _ _ _ _ _ _ _ _) s H locs) => ?_)
      rw [nI_clamp (by omega)] at hw
      refine lv_iconst (v := 1) hx hb d_MD_release_17 (by decide) ?_
      exact r_z B hw (by decide) d_MD_release_18 ⟨rfl, by unfold rlK; rw [onS_s hn]; exact ⟨_, _, _, _, _, _, _, rfl⟩⟩
    · exact absurd h5 (by decide)
set_option maxRecDepth 100000 in
set_option maxHeartbeats 4000000 in
theorem c_MD_next {l : Launch} {D : va_G} {K : Nat → ClassId} {A : Nat → Prop} {q : Nat → Nat} {kd : Nat → Int32} {f1 f2 : Nat → Int64} {ou nk : Int32} {nf ns hi lo : Int64} {rc : Int32} {zi sd : Nat → Int32} {ix : Int32} {mm wt cd : Nat → Int32} (hI : ∀ k, k < 8 → ¬ kd k < 0 → kd k ≤ 3 ∧ okS (kd k) (f1 k) (f2 k)) {x : Int32} : ctL l y_MD_next prog_6_method_15_code 2 3 0 0 [.ref (q 0), .int x] D K A (mW K q kd f1 f2 ou nk nf ns hi lo rc zi sd ix mm wt cd) (fun r w => r = nxA kd f1 f2 x ∧ MR K q kd (nx1 kd f1 f2 x) (nx2 kd f1 f2 x) rc zi sd ix wt cd w) := by
  refine mt_of (by decide) (Nat.le_of_ble_eq_true rfl) ?_
  intro p e s m below meth c ls B hw hl
  have hx := B.1
  have hb := B.2.1
  have hl : lv_has ls 2 [(0, .ref (q 0)), (1, .int x)] := hl
  refine lv_aload_n hx hb d_MD_next_0 rfl (lv_at hl 0 rfl) ?_
  refine lv_iload_n hx hb d_MD_next_1 rfl (lv_at hl 1 rfl) ?_
  refine k_i (k_runV B hw c_MD_holds rfl rfl cf_MD_109 mw_0 rfl rfl ⟨Nat.le_of_ble_eq_true rfl, Nat.le_of_ble_eq_true rfl⟩ rfl hl.1 rfl (Nat.le_of_ble_eq_true rfl) d_MD_next_2 ⟨Nat.le_of_ble_eq_true rfl, Nat.le_of_ble_eq_true rfl⟩) hw (fun r2 w1 H locs hq hw => ?_)
  obtain ⟨rfl, ew⟩ := hq
  rw [ew] at hw
  rcases hd_case kd x with ⟨hn, hz⟩ | ⟨k, hk8, rfl, hn, hkd, hz⟩
  · rw [hz]
    refine lv_if_ne (tgt := 12) hx hb d_MD_next_5 rfl (fun h5 => ?_) (fun h5 => ?_)
    · exact absurd rfl h5
    · refine g_ldc2 B kc_MD_113 d_MD_next_8 ?_
      exact r_l B hw d_MD_next_11 ⟨by unfold nxA; rw [onS_n hn], by unfold nx1 nx2; rw [onS_n hn, onS_n hn]; exact ⟨_, _, _, _, _, _, _, rfl⟩⟩
  · rw [hz]
    have hk3 := k3of hkd (hI k hk8 hkd).1
    have hok := (hI k hk8 hkd).2
    refine lv_if_ne (tgt := 12) hx hb d_MD_next_5 rfl (fun h5 => ?_) (fun h5 => ?_)
    · refine lv_aload_n hx hb d_MD_next_12 rfl (lv_at hl 0 rfl) ?_
      refine lv_iload_n hx hb d_MD_next_13 rfl (lv_at hl 1 rfl) ?_
      refine k_v (k_runV B hw (c_MD_step hk8 hk3 hok) rfl rfl cf_MD_115 mw_0 rfl rfl ⟨Nat.le_of_ble_eq_true rfl, Nat.le_of_ble_eq_true rfl⟩ rfl hl.1 rfl (Nat.le_of_ble_eq_true rfl) d_MD_next_14 ⟨Nat.le_of_ble_eq_true rfl, Nat.le_of_ble_eq_true rfl⟩) hw (fun w1 H locs hq hw => ?_)
      obtain ⟨h2, l2, ew⟩ := hq
      rw [ew] at hw
      refine lv_aload_n hx hb d_MD_next_17 rfl (lv_at hl 0 rfl) ?_
      refine g_get B hw fl_MD_50 mw_0 rfl d_MD_next_18 ?_
      refine k_l (k_runS B hw c_MD_number rfl rfl cf_MD_71 ⟨Nat.le_of_ble_eq_true rfl, Nat.le_of_ble_eq_true rfl⟩ rfl hl.1 rfl (Nat.le_of_ble_eq_true rfl) d_MD_next_21 ⟨Nat.le_of_ble_eq_true rfl, Nat.le_of_ble_eq_true rfl⟩) hw (fun r21 w1 H locs hq hw => ?_)
      obtain ⟨rfl, ew⟩ := hq
      rw [ew] at hw
      exact r_l B hw d_MD_next_24 ⟨by unfold nxA; rw [onS_s hn], by unfold nx1 nx2; rw [onS_s hn, onS_s hn]; exact ⟨_, _, _, _, _, _, _, rfl⟩⟩
    · exact absurd h5 (by decide)
set_option maxRecDepth 100000 in
set_option maxHeartbeats 4000000 in
theorem c_MD_jump {l : Launch} {D : va_G} {K : Nat → ClassId} {A : Nat → Prop} {q : Nat → Nat} {kd : Nat → Int32} {f1 f2 : Nat → Int64} {ou nk : Int32} {nf ns hi lo : Int64} {rc : Int32} {zi sd : Nat → Int32} {ix : Int32} {mm wt cd : Nat → Int32} (hI : ∀ k, k < 8 → ¬ kd k < 0 → kd k ≤ 3 ∧ okS (kd k) (f1 k) (f2 k)) {x y : Int32} : ctI l y_MD_jump prog_6_method_16_code 4 (some .boolean) 3 0 0 [.ref (q 0), .int x, .int y] D K A (mW K q kd f1 f2 ou nk nf ns hi lo rc zi sd ix mm wt cd) (fun r w => r = jpA kd x y ∧ MR K q kd (jp1 kd f1 f2 x y) (jp2 kd f1 f2 x y) rc zi sd ix wt cd w) := by
  refine mt_of (by decide) (Nat.le_of_ble_eq_true rfl) ?_
  intro p e s m below meth c ls B hw hl
  have hx := B.1
  have hb := B.2.1
  have hl : lv_has ls 4 [(0, .ref (q 0)), (1, .int x), (2, .int y)] := hl
  refine lv_aload_n hx hb d_MD_jump_0 rfl (lv_at hl 0 rfl) ?_
  refine lv_iload_n hx hb d_MD_jump_1 rfl (lv_at hl 1 rfl) ?_
  refine k_i (k_runV B hw c_MD_holds rfl rfl cf_MD_109 mw_0 rfl rfl ⟨Nat.le_of_ble_eq_true rfl, Nat.le_of_ble_eq_true rfl⟩ rfl hl.1 rfl (Nat.le_of_ble_eq_true rfl) d_MD_jump_2 ⟨Nat.le_of_ble_eq_true rfl, Nat.le_of_ble_eq_true rfl⟩) hw (fun r2 w1 H locs hq hw => ?_)
  obtain ⟨rfl, ew⟩ := hq
  rw [ew] at hw
  rcases hd_case kd x with ⟨hn, hz⟩ | ⟨k, hk8, rfl, hn, hkd, hz⟩
  · rw [hz]
    refine lv_if_eq (tgt := 18) hx hb d_MD_jump_5 rfl (fun h5 => ?_) (fun h5 => ?_)
    · refine lv_iconst (v := 0) hx hb d_MD_jump_18 (by decide) ?_
      exact r_z B hw (by decide) d_MD_jump_19 ⟨by unfold jpA; rw [onS_n hn], by unfold jp1 jp2; rw [onS_n hn, onS_n hn]; exact ⟨_, _, _, _, _, _, _, rfl⟩⟩
    · exact absurd rfl h5
  · rw [hz]
    have hk3 := k3of hkd (hI k hk8 hkd).1
    have hok := (hI k hk8 hkd).2
    refine lv_if_eq (tgt := 18) hx hb d_MD_jump_5 rfl (fun h5 => ?_) (fun h5 => ?_)
    · exact absurd h5 (by decide)
    · refine lv_iload_n hx hb d_MD_jump_8 rfl (lv_at hl 2 rfl) ?_
      refine lv_if_lt (tgt := 18) hx hb d_MD_jump_9 rfl (fun h9 => ?_) (fun h9 => ?_)
      · have ez : jpB y = false := if_pos h9
        refine lv_iconst (v := 0) hx hb d_MD_jump_18 (by decide) ?_
        exact r_z B hw (by decide) d_MD_jump_19 ⟨by unfold jpA; rw [onS_s hn, ez]; rfl, by unfold jp1 jp2; rw [onS_s hn, onS_s hn]; (try dsimp only); rw [ez]; exact ⟨_, _, _, _, _, _, _, rfl⟩⟩
      · have ez : jpB y = _ := if_neg h9
        refine lv_iload_n hx hb d_MD_jump_12 rfl (lv_at hl 2 rfl) ?_
        refine g_ldc B kc_MD_119 d_MD_jump_13 ?_
        refine lv_icmp_le (tgt := 20) hx hb d_MD_jump_15 rfl (fun h15 => ?_) (fun h15 => ?_)
        · rw [if_pos h15] at ez
          obtain ⟨N, hN, rfl⟩ := nI_of h9
          have h15 : N ≤ 65535 := (nI_leI (b := 65535) (by omega) (by omega)).mp h15
          refine lv_iconst (v := 0) hx hb d_MD_jump_20 (by decide) ?_
          refine lv_istore_n hx hb d_MD_jump_21 rfl hl (by decide) rfl (fun ls (hl : lv_has ls 4 [(3, .int _), (0, .ref _), (1, .int _), (2, .int _)]) => ?_)
          refine lp_w (σ := Nat × (Int64 × Int64) × Int32 × Int64 × Int64) (fun z => N - z.1) (fun z H locs ls => z.1 ≤ N ∧ mvN (kd k) N (f1 k, f2 k) = mvN (kd k) (N - z.1) z.2.1 ∧ okS (kd k) z.2.1.1 z.2.1.2 ∧ lv_has ls 4 [(3, .int (nI z.1)), (0, .ref (q 0)), (1, .int (nI k)), (2, .int (nI N))] ∧ wd D A (mW K q kd (vp_updL f1 k z.2.1.1) (vp_updL f2 k z.2.1.2) z.2.2.1 nk nf ns z.2.2.2.1 z.2.2.2.2 rc zi sd ix mm wt cd) s H locs) ?_ (0, (f1 k, f2 k), ou, hi, lo) _ _ _ ⟨by show 0 ≤ N; omega, rfl, hok, lv_sub hl [0, 1, 2, 3] rfl, by show wd D A (mW K q kd (vp_updL f1 k (f1 k)) (vp_updL f2 k (f2 k)) ou nk nf ns hi lo rc zi sd ix mm wt cd) s _ _; rw [updL_self, updL_self]; exact hw⟩
          rintro ⟨j, ⟨F, G⟩, o2, h2, l2⟩ H locs ls ⟨hj, hmv, hokj, hl, hw⟩ ih
          dsimp only at hj hmv hokj hl hw
          refine lv_iload_n hx hb d_MD_jump_22 rfl (lv_at hl 0 rfl) ?_
          refine lv_iload_n hx hb d_MD_jump_23 rfl (lv_at hl 3 rfl) ?_
          refine lv_icmp_ge (tgt := 38) hx hb d_MD_jump_24 rfl (fun h24 => ?_) (fun h24 => ?_)
          · have h24 : N ≤ j := (nI_leI (by omega) (by omega)).mp h24
            have hjN : j = N := by omega
            rw [hjN, Nat.sub_self] at hmv
            have hmv : mvN (kd k) N (f1 k, f2 k) = (F, G) := hmv
            refine lv_iconst (v := 1) hx hb d_MD_jump_38 (by decide) ?_
            exact r_z B hw (by decide) d_MD_jump_39 ⟨by unfold jpA; rw [onS_s hn, ez]; rfl, by unfold jp1 jp2; rw [onS_s hn, onS_s hn]; (try dsimp only); rw [ez, if_pos rfl, if_pos rfl, nI_clamp (by omega), hmv]; exact ⟨_, _, _, _, _, _, _, rfl⟩⟩
          · have h24 : j < N := Nat.lt_of_not_le (fun q => h24 ((nI_leI (by omega) (by omega)).mpr q))
            refine lv_aload_n hx hb d_MD_jump_27 rfl (lv_at hl 1 rfl) ?_
            refine lv_iload_n hx hb d_MD_jump_28 rfl (lv_at hl 2 rfl) ?_
            refine k_v (k_runV B hw (c_MD_step (k := k) hk8 hk3 (by rw [updL_s, updL_s]; exact hokj)) rfl rfl cf_MD_115 mw_0 rfl rfl ⟨Nat.le_of_ble_eq_true rfl, Nat.le_of_ble_eq_true rfl⟩ rfl hl.1 rfl (Nat.le_of_ble_eq_true rfl) d_MD_jump_29 ⟨Nat.le_of_ble_eq_true rfl, Nat.le_of_ble_eq_true rfl⟩) hw (fun w1 H locs hq hw => ?_)
            obtain ⟨h3, l3, ew⟩ := hq
            rw [ew, updL_s, updL_s, updL_updL, updL_updL] at hw
            refine lv_iinc (k := 0) hx hb d_MD_jump_32 hl rfl (show nI j + Int32.ofInt 1 = nI (j + 1) from (nI_succ j).symm) (by decide) rfl (fun ls (hl : lv_has ls 4 [(3, .int (nI (j + 1))), (0, .ref _), (1, .int _), (2, .int _)]) => ?_)
            refine lv_goto (tgt := 22) hx hb d_MD_jump_35 rfl ?_
            exact ih (j + 1, (mvF (kd k) F G, mvS (kd k) F G), _, _, _) _ _ _ (by show N - (j + 1) < N - j; omega) ⟨by show j + 1 ≤ N; omega, hmv.trans (mvN_go h24 _), okS_mv hokj, lv_sub hl [0, 1, 2, 3] rfl, hw⟩
        · rw [if_neg h15] at ez
          refine lv_iconst (v := 0) hx hb d_MD_jump_18 (by decide) ?_
          exact r_z B hw (by decide) d_MD_jump_19 ⟨by unfold jpA; rw [onS_s hn, ez]; rfl, by unfold jp1 jp2; rw [onS_s hn, onS_s hn]; (try dsimp only); rw [ez]; exact ⟨_, _, _, _, _, _, _, rfl⟩⟩
set_option maxRecDepth 100000 in
set_option maxHeartbeats 4000000 in
theorem c_MD_draw {l : Launch} {D : va_G} {K : Nat → ClassId} {A : Nat → Prop} {q : Nat → Nat} {kd : Nat → Int32} {f1 f2 : Nat → Int64} {ou nk : Int32} {nf ns hi lo : Int64} {rc : Int32} {zi sd : Nat → Int32} {ix : Int32} {mm wt cd : Nat → Int32} (hI : ∀ k, k < 8 → ¬ kd k < 0 → kd k ≤ 3 ∧ okS (kd k) (f1 k) (f2 k)) {x y : Int32} : ctI l y_MD_draw prog_6_method_18_code 3 (some .int) 4 0 0 [.ref (q 0), .int x, .int y] D K A (mW K q kd f1 f2 ou nk nf ns hi lo rc zi sd ix mm wt cd) (fun r w => r = drA kd f1 f2 x y ∧ MR K q kd (dr1 kd f1 f2 x y) (dr2 kd f1 f2 x y) rc zi sd ix wt cd w) := by
  refine mt_of (by decide) (Nat.le_of_ble_eq_true rfl) ?_
  intro p e s m below meth c ls B hw hl
  have hx := B.1
  have hb := B.2.1
  have hl : lv_has ls 3 [(0, .ref (q 0)), (1, .int x), (2, .int y)] := hl
  refine lv_aload_n hx hb d_MD_draw_0 rfl (lv_at hl 0 rfl) ?_
  refine lv_iload_n hx hb d_MD_draw_1 rfl (lv_at hl 1 rfl) ?_
  refine k_i (k_runV B hw c_MD_holds rfl rfl cf_MD_109 mw_0 rfl rfl ⟨Nat.le_of_ble_eq_true rfl, Nat.le_of_ble_eq_true rfl⟩ rfl hl.1 rfl (Nat.le_of_ble_eq_true rfl) d_MD_draw_2 ⟨Nat.le_of_ble_eq_true rfl, Nat.le_of_ble_eq_true rfl⟩) hw (fun r2 w1 H locs hq hw => ?_)
  obtain ⟨rfl, ew⟩ := hq
  rw [ew] at hw
  rcases hd_case kd x with ⟨hn, hz⟩ | ⟨k, hk8, rfl, hn, hkd, hz⟩
  · rw [hz]
    refine lv_if_eq (tgt := 13) hx hb d_MD_draw_5 rfl (fun h5 => ?_) (fun h5 => ?_)
    · refine lv_iconst (v := (-1)) hx hb d_MD_draw_13 (by decide) ?_
      refine lv_goto (tgt := 23) hx hb d_MD_draw_14 rfl ?_
      exact r_i B hw d_MD_draw_23 ⟨by unfold drA; rw [onS_n hn], by unfold dr1 dr2; rw [onS_n hn, onS_n hn]; exact ⟨_, _, _, _, _, _, _, rfl⟩⟩
    · exact absurd rfl h5
  · rw [hz]
    have hk3 := k3of hkd (hI k hk8 hkd).1
    have hok := (hI k hk8 hkd).2
    refine lv_if_eq (tgt := 13) hx hb d_MD_draw_5 rfl (fun h5 => ?_) (fun h5 => ?_)
    · exact absurd h5 (by decide)
    · refine lv_iload_n hx hb d_MD_draw_8 rfl (lv_at hl 2 rfl) ?_
      refine lv_iconst (v := 1) hx hb d_MD_draw_9 (by decide) ?_
      refine lv_icmp_ge (tgt := 17) hx hb d_MD_draw_10 rfl (fun h10 => ?_) (fun h10 => ?_)
      · have h10b := h10
        obtain ⟨N, hN0, hN, rfl⟩ := pos_of h10
        refine lv_aload_n hx hb d_MD_draw_17 rfl (lv_at hl 0 rfl) ?_
        refine lv_iload_n hx hb d_MD_draw_18 rfl (lv_at hl 1 rfl) ?_
        refine lv_iload_n hx hb d_MD_draw_19 rfl (lv_at hl 2 rfl) ?_
        refine k_i (k_runV B hw (c_MD_below hk8 hk3 hok hN0 hN) rfl rfl cf_MD_120 mw_0 rfl rfl ⟨Nat.le_of_ble_eq_true rfl, Nat.le_of_ble_eq_true rfl⟩ rfl hl.1 rfl (Nat.le_of_ble_eq_true rfl) d_MD_draw_20 ⟨Nat.le_of_ble_eq_true rfl, Nat.le_of_ble_eq_true rfl⟩) hw (fun r20 w1 H locs hq hw => ?_)
        have er := hq.1
        obtain ⟨o2, h2, l2, ew⟩ := hq.2
        rw [ew] at hw
        rw [er]
        exact r_i B hw d_MD_draw_23 ⟨by unfold drA; rw [onS_s hn]; exact (if_pos h10b).symm, by unfold dr1 dr2; rw [onS_s hn, onS_s hn]; (try dsimp only); rw [if_pos h10b, if_pos h10b]; exact ⟨_, _, _, _, _, _, _, rfl⟩⟩
      · refine lv_iconst (v := (-1)) hx hb d_MD_draw_13 (by decide) ?_
        refine lv_goto (tgt := 23) hx hb d_MD_draw_14 rfl ?_
        exact r_i B hw d_MD_draw_23 ⟨by unfold drA; rw [onS_s hn]; exact (if_neg h10).symm, by unfold dr1 dr2; rw [onS_s hn, onS_s hn]; (try dsimp only); rw [if_neg h10, if_neg h10]; exact ⟨_, _, _, _, _, _, _, rfl⟩⟩
set_option maxRecDepth 100000 in
set_option maxHeartbeats 4000000 in
theorem c_MD_same {l : Launch} {D : va_G} {K : Nat → ClassId} {A : Nat → Prop} {q : Nat → Nat} {kd : Nat → Int32} {f1 f2 : Nat → Int64} {ou nk : Int32} {nf ns hi lo : Int64} {rc : Int32} {zi sd : Nat → Int32} {ix : Int32} {mm wt cd : Nat → Int32} {x y : Int32} : ctI l y_MD_same prog_6_method_19_code 3 (some .boolean) 1 0 0 [.ref (q 0), .int x, .int y] D K A (mW K q kd f1 f2 ou nk nf ns hi lo rc zi sd ix mm wt cd) (fun r w => r = smA kd f1 f2 x y ∧ w = mW K q kd f1 f2 ou nk nf ns hi lo rc zi sd ix mm wt cd) := by
  refine mt_of (by decide) (Nat.le_of_ble_eq_true rfl) ?_
  intro p e s m below meth c ls B hw hl
  have hx := B.1
  have hb := B.2.1
  have hl : lv_has ls 3 [(0, .ref (q 0)), (1, .int x), (2, .int y)] := hl
  refine lv_aload_n hx hb d_MD_same_0 rfl (lv_at hl 0 rfl) ?_
  refine lv_iload_n hx hb d_MD_same_1 rfl (lv_at hl 1 rfl) ?_
  refine k_i (k_runV B hw c_MD_holds rfl rfl cf_MD_109 mw_0 rfl rfl ⟨Nat.le_of_ble_eq_true rfl, Nat.le_of_ble_eq_true rfl⟩ rfl hl.1 rfl (Nat.le_of_ble_eq_true rfl) d_MD_same_2 ⟨Nat.le_of_ble_eq_true rfl, Nat.le_of_ble_eq_true rfl⟩) hw (fun r2 w1 H locs hq hw => ?_)
  obtain ⟨rfl, ew⟩ := hq
  rw [ew] at hw
  rcases hd_case kd x with ⟨hn, hz⟩ | ⟨k, hk8, rfl, hn, hkd, hz⟩
  · rw [hz]
    refine lv_if_eq (tgt := 67) hx hb d_MD_same_5 rfl (fun h5 => ?_) (fun h5 => ?_)
    · refine lv_iconst (v := 0) hx hb d_MD_same_67 (by decide) ?_
      exact r_z B hw (by decide) d_MD_same_68 ⟨by unfold smA; rw [onS_n hn], rfl⟩
    · exact absurd rfl h5
  · rw [hz]
    refine lv_if_eq (tgt := 67) hx hb d_MD_same_5 rfl (fun h5 => ?_) (fun h5 => ?_)
    · exact absurd h5 (by decide)
    · refine lv_aload_n hx hb d_MD_same_8 rfl (lv_at hl 0 rfl) ?_
      refine lv_iload_n hx hb d_MD_same_9 rfl (lv_at hl 2 rfl) ?_
      refine k_i (k_runV B hw c_MD_holds rfl rfl cf_MD_109 mw_0 rfl rfl ⟨Nat.le_of_ble_eq_true rfl, Nat.le_of_ble_eq_true rfl⟩ rfl hl.1 rfl (Nat.le_of_ble_eq_true rfl) d_MD_same_10 ⟨Nat.le_of_ble_eq_true rfl, Nat.le_of_ble_eq_true rfl⟩) hw (fun r10 w1 H locs hq hw => ?_)
      obtain ⟨rfl, ew⟩ := hq
      rw [ew] at hw
      rcases hd_case kd y with ⟨hn2, hz2⟩ | ⟨k2, hk82, rfl, hn2, hkd2, hz2⟩
      · rw [hz2]
        refine lv_if_eq (tgt := 67) hx hb d_MD_same_13 rfl (fun h13 => ?_) (fun h13 => ?_)
        · refine lv_iconst (v := 0) hx hb d_MD_same_67 (by decide) ?_
          exact r_z B hw (by decide) d_MD_same_68 ⟨by unfold smA; rw [onS_s hn, onS_n hn2], rfl⟩
        · exact absurd rfl h13
      · rw [hz2]
        refine lv_if_eq (tgt := 67) hx hb d_MD_same_13 rfl (fun h13 => ?_) (fun h13 => ?_)
        · exact absurd h13 (by decide)
        · refine lv_aload_n hx hb d_MD_same_16 rfl (lv_at hl 0 rfl) ?_
          refine g_get B hw fl_MD_7 mw_0 rfl d_MD_same_17 ?_
          refine lv_iload_n hx hb d_MD_same_20 rfl (lv_at hl 1 rfl) ?_
          refine g_iald B hw mw_1 (vp_in_nI hk8 (by omega)) d_MD_same_21 ?_
          rw [nI_clamp (by omega)]
          refine lv_aload_n hx hb d_MD_same_22 rfl (lv_at hl 0 rfl) ?_
          refine g_get B hw fl_MD_7 mw_0 rfl d_MD_same_23 ?_
          refine lv_iload_n hx hb d_MD_same_26 rfl (lv_at hl 2 rfl) ?_
          refine g_iald B hw mw_1 (vp_in_nI hk82 (by omega)) d_MD_same_27 ?_
          rw [nI_clamp (by omega)]
          refine lv_icmp_ne (tgt := 67) hx hb d_MD_same_28 rfl (fun h28 => ?_) (fun h28 => ?_)
          · have ez : smA kd f1 f2 (nI k) (nI k2) = 0 := by unfold smA; rw [onS_s hn, onS_s hn2]; exact if_neg h28
            refine lv_iconst (v := 0) hx hb d_MD_same_67 (by decide) ?_
            exact r_z B hw (by decide) d_MD_same_68 ⟨ez.symm, rfl⟩
          · have ez : smA kd f1 f2 (nI k) (nI k2) = (if f1 k = f1 k2 then (if f2 k = f2 k2 then 1 else 0) else 0) := by unfold smA; rw [onS_s hn, onS_s hn2]; exact if_pos h28
            refine lv_aload_n hx hb d_MD_same_31 rfl (lv_at hl 0 rfl) ?_
            refine g_get B hw fl_MD_13 mw_0 rfl d_MD_same_32 ?_
            refine lv_iload_n hx hb d_MD_same_35 rfl (lv_at hl 1 rfl) ?_
            refine g_lald B hw mw_2 (vp_in_nI hk8 (by omega)) d_MD_same_36 ?_
            rw [nI_clamp (by omega)]
            refine lv_aload_n hx hb d_MD_same_37 rfl (lv_at hl 0 rfl) ?_
            refine g_get B hw fl_MD_13 mw_0 rfl d_MD_same_38 ?_
            refine lv_iload_n hx hb d_MD_same_41 rfl (lv_at hl 2 rfl) ?_
            refine g_lald B hw mw_2 (vp_in_nI hk82 (by omega)) d_MD_same_42 ?_
            rw [nI_clamp (by omega)]
            refine W.lcmp hx hb d_MD_same_43 ?_
            refine lv_if_ne (tgt := 67) hx hb d_MD_same_44 rfl (fun h44 => ?_) (fun h44 => ?_)
            · rw [lg_cmp_eq] at h44
              rw [if_neg h44] at ez
              refine lv_iconst (v := 0) hx hb d_MD_same_67 (by decide) ?_
              exact r_z B hw (by decide) d_MD_same_68 ⟨ez.symm, rfl⟩
            · rw [lg_cmp_eq] at h44
              rw [if_pos h44] at ez
              refine lv_aload_n hx hb d_MD_same_47 rfl (lv_at hl 0 rfl) ?_
              refine g_get B hw fl_MD_17 mw_0 rfl d_MD_same_48 ?_
              refine lv_iload_n hx hb d_MD_same_51 rfl (lv_at hl 1 rfl) ?_
              refine g_lald B hw mw_3 (vp_in_nI hk8 (by omega)) d_MD_same_52 ?_
              rw [nI_clamp (by omega)]
              refine lv_aload_n hx hb d_MD_same_53 rfl (lv_at hl 0 rfl) ?_
              refine g_get B hw fl_MD_17 mw_0 rfl d_MD_same_54 ?_
              refine lv_iload_n hx hb d_MD_same_57 rfl (lv_at hl 2 rfl) ?_
              refine g_lald B hw mw_3 (vp_in_nI hk82 (by omega)) d_MD_same_58 ?_
              rw [nI_clamp (by omega)]
              refine W.lcmp hx hb d_MD_same_59 ?_
              refine lv_if_ne (tgt := 67) hx hb d_MD_same_60 rfl (fun h60 => ?_) (fun h60 => ?_)
              · rw [lg_cmp_eq] at h60
                rw [if_neg h60] at ez
                refine lv_iconst (v := 0) hx hb d_MD_same_67 (by decide) ?_
                exact r_z B hw (by decide) d_MD_same_68 ⟨ez.symm, rfl⟩
              · rw [lg_cmp_eq] at h60
                rw [if_pos h60] at ez
                refine lv_iconst (v := 1) hx hb d_MD_same_63 (by decide) ?_
                refine lv_goto (tgt := 68) hx hb d_MD_same_64 rfl ?_
                exact r_z B hw (by decide) d_MD_same_68 ⟨ez.symm, rfl⟩
set_option maxRecDepth 100000 in
set_option maxHeartbeats 4000000 in
theorem c_MD_twin {l : Launch} {D : va_G} {K : Nat → ClassId} {A : Nat → Prop} {q : Nat → Nat} {kd : Nat → Int32} {f1 f2 : Nat → Int64} {ou nk : Int32} {nf ns hi lo : Int64} {rc : Int32} {zi sd : Nat → Int32} {ix : Int32} {mm wt cd : Nat → Int32} {x : Int32} : ctI l y_MD_twin prog_6_method_13_code 3 (some .int) 1 0 0 [.ref (q 0), .int x] D K A (mW K q kd f1 f2 ou nk nf ns hi lo rc zi sd ix mm wt cd) (fun r w => r = twA kd x ∧ MR K q (twK kd x) (twL kd f1 x) (twL kd f2 x) rc zi sd ix wt cd w) := by
  refine mt_of (by decide) (Nat.le_of_ble_eq_true rfl) ?_
  intro p e s m below meth c ls B hw hl
  have hx := B.1
  have hb := B.2.1
  have hl : lv_has ls 3 [(0, .ref (q 0)), (1, .int x)] := hl
  refine lv_aload_n hx hb d_MD_twin_0 rfl (lv_at hl 0 rfl) ?_
  refine k_i (k_runV B hw c_MD_freeSlot rfl rfl cf_MD_97 mw_0 rfl rfl ⟨Nat.le_of_ble_eq_true rfl, Nat.le_of_ble_eq_true rfl⟩ rfl hl.1 rfl (Nat.le_of_ble_eq_true rfl) d_MD_twin_1 ⟨Nat.le_of_ble_eq_true rfl, Nat.le_of_ble_eq_true rfl⟩) hw (fun r1 w1 H locs hq hw => ?_)
  obtain ⟨rfl, ew⟩ := hq
  rw [ew] at hw
  refine lv_istore_n hx hb d_MD_twin_4 rfl hl (by decide) rfl (fun ls (hl : lv_has ls 3 [(2, .int _), (0, .ref _), (1, .int _)]) => ?_)
  refine lv_aload_n hx hb d_MD_twin_5 rfl (lv_at hl 1 rfl) ?_
  refine lv_iload_n hx hb d_MD_twin_6 rfl (lv_at hl 2 rfl) ?_
  refine k_i (k_runV B hw c_MD_holds rfl rfl cf_MD_109 mw_0 rfl rfl ⟨Nat.le_of_ble_eq_true rfl, Nat.le_of_ble_eq_true rfl⟩ rfl hl.1 rfl (Nat.le_of_ble_eq_true rfl) d_MD_twin_7 ⟨Nat.le_of_ble_eq_true rfl, Nat.le_of_ble_eq_true rfl⟩) hw (fun r7 w1 H locs hq hw => ?_)
  obtain ⟨rfl, ew⟩ := hq
  rw [ew] at hw
  rcases hd_case kd x with ⟨hn, hz⟩ | ⟨k, hk8, rfl, hn, hkd, hz⟩
  · rw [hz]
    refine lv_if_eq (tgt := 17) hx hb d_MD_twin_10 rfl (fun h10 => ?_) (fun h10 => ?_)
    · refine lv_iconst (v := (-1)) hx hb d_MD_twin_17 (by decide) ?_
      exact r_i B hw d_MD_twin_18 ⟨by unfold twA; rw [onS_n hn], by unfold twK twL; rw [onS_n hn, onS_n hn, onS_n hn]; exact ⟨_, _, _, _, _, _, _, rfl⟩⟩
    · exact absurd rfl h10
  · rw [hz]
    refine lv_if_eq (tgt := 17) hx hb d_MD_twin_10 rfl (fun h10 => ?_) (fun h10 => ?_)
    · exact absurd h10 (by decide)
    · refine lv_iload_n hx hb d_MD_twin_13 rfl (lv_at hl 0 rfl) ?_
      refine lv_if_ge (tgt := 19) hx hb d_MD_twin_14 rfl (fun h14 => ?_) (fun h14 => ?_)
      · obtain ⟨kf, hkf, hkl, hfi, hge⟩ := fr_of h14
        refine lv_aload_n hx hb d_MD_twin_19 rfl (lv_at hl 1 rfl) ?_
        refine g_get B hw fl_MD_7 mw_0 rfl d_MD_twin_20 ?_
        refine lv_iload_n hx hb d_MD_twin_23 rfl (lv_at hl 0 rfl) ?_
        refine lv_aload_n hx hb d_MD_twin_24 rfl (lv_at hl 1 rfl) ?_
        refine g_get B hw fl_MD_7 mw_0 rfl d_MD_twin_25 ?_
        refine lv_iload_n hx hb d_MD_twin_28 rfl (lv_at hl 2 rfl) ?_
        refine g_iald B hw mw_1 (vp_in_nI hk8 (by omega)) d_MD_twin_29 ?_
        rw [nI_clamp (by omega)]
        refine g_iast B hw mw_1 (by rw [hfi]; exact vp_in_nI hkf (by omega)) d_MD_twin_30 (fun H locs (hw : wd D A (mW K q _ _ _ _ _ _ _ _ _ _ _ _ _ _ _ _) s H locs) => ?_)
        rw [hfi, nI_clamp (by omega)] at hw
        refine lv_aload_n hx hb d_MD_twin_31 rfl (lv_at hl 1 rfl) ?_
        refine g_get B hw fl_MD_13 mw_0 rfl d_MD_twin_32 ?_
        refine lv_iload_n hx hb d_MD_twin_35 rfl (lv_at hl 0 rfl) ?_
        refine lv_aload_n hx hb d_MD_twin_36 rfl (lv_at hl 1 rfl) ?_
        refine g_get B hw fl_MD_13 mw_0 rfl d_MD_twin_37 ?_
        refine lv_iload_n hx hb d_MD_twin_40 rfl (lv_at hl 2 rfl) ?_
        refine g_lald B hw mw_2 (vp_in_nI hk8 (by omega)) d_MD_twin_41 ?_
        rw [nI_clamp (by omega)]
        refine g_last B hw mw_2 (by rw [hfi]; exact vp_in_nI hkf (by omega)) d_MD_twin_42 (fun H locs (hw : wd D A (mW K q _ _ _ _ _ _ _ _ _ _ _ _ _ _ _ _) s H locs) => ?_)
        rw [hfi, nI_clamp (by omega)] at hw
        refine lv_aload_n hx hb d_MD_twin_43 rfl (lv_at hl 1 rfl) ?_
        refine g_get B hw fl_MD_17 mw_0 rfl d_MD_twin_44 ?_
        refine lv_iload_n hx hb d_MD_twin_47 rfl (lv_at hl 0 rfl) ?_
        refine lv_aload_n hx hb d_MD_twin_48 rfl (lv_at hl 1 rfl) ?_
        refine g_get B hw fl_MD_17 mw_0 rfl d_MD_twin_49 ?_
        refine lv_iload_n hx hb d_MD_twin_52 rfl (lv_at hl 2 rfl) ?_
        refine g_lald B hw mw_3 (vp_in_nI hk8 (by omega)) d_MD_twin_53 ?_
        rw [nI_clamp (by omega)]
        refine g_last B hw mw_3 (by rw [hfi]; exact vp_in_nI hkf (by omega)) d_MD_twin_54 (fun H locs (hw : wd D A (mW K q _ _ _ _ _ _ _ _ _ _ _ _ _ _ _ _) s H locs) => ?_)
        rw [hfi, nI_clamp (by omega)] at hw
        refine lv_iload_n hx hb d_MD_twin_55 rfl (lv_at hl 0 rfl) ?_
        exact r_i B hw d_MD_twin_56 ⟨by unfold twA; rw [onS_s hn]; exact (if_neg hge).symm, by unfold twK twL; rw [onS_s hn, onS_s hn, onS_s hn]; (try dsimp only); rw [if_neg hge, if_neg hge, if_neg hge, hfi, nI_clamp (by omega)]; exact ⟨_, _, _, _, _, _, _, rfl⟩⟩
      · have hge := fr_no h14
        refine lv_iconst (v := (-1)) hx hb d_MD_twin_17 (by decide) ?_
        exact r_i B hw d_MD_twin_18 ⟨by unfold twA; rw [onS_s hn]; exact (if_pos hge).symm, by unfold twK twL; rw [onS_s hn, onS_s hn, onS_s hn]; (try dsimp only); rw [if_pos hge, if_pos hge, if_pos hge]; exact ⟨_, _, _, _, _, _, _, rfl⟩⟩
set_option maxRecDepth 100000 in
set_option maxHeartbeats 4000000 in
theorem c_MD_make {l : Launch} {D : va_G} {K : Nat → ClassId} {A : Nat → Prop} {q : Nat → Nat} {kd : Nat → Int32} {f1 f2 : Nat → Int64} {ou nk : Int32} {nf ns hi lo : Int64} {rc : Int32} {zi sd : Nat → Int32} {ix : Int32} {mm wt cd : Nat → Int32} {c0 a0 b0 : Int32} : ctI l y_MD_make prog_6_method_12_code 5 (some .int) 2 0 0 [.ref (q 0), .int c0, .int a0, .int b0] D K A (mW K q kd f1 f2 ou nk nf ns hi lo rc zi sd ix mm wt cd) (fun r w => r = mkA kd c0 a0 b0 ∧ MR K q (mkK kd c0 a0 b0) (mk1 kd f1 c0 a0 b0) (mk2 kd f2 c0 a0 b0) rc zi sd ix wt cd w) := by
  refine mt_of (by decide) (Nat.le_of_ble_eq_true rfl) ?_
  intro p e s m below meth c ls B hw hl
  have hx := B.1
  have hb := B.2.1
  have hl : lv_has ls 5 [(0, .ref (q 0)), (1, .int c0), (2, .int a0), (3, .int b0)] := hl
  refine lv_aload_n hx hb d_MD_make_0 rfl (lv_at hl 0 rfl) ?_
  refine k_i (k_runV B hw c_MD_freeSlot rfl rfl cf_MD_97 mw_0 rfl rfl ⟨Nat.le_of_ble_eq_true rfl, Nat.le_of_ble_eq_true rfl⟩ rfl hl.1 rfl (Nat.le_of_ble_eq_true rfl) d_MD_make_1 ⟨Nat.le_of_ble_eq_true rfl, Nat.le_of_ble_eq_true rfl⟩) hw (fun r1 w1 H locs hq hw => ?_)
  obtain ⟨rfl, ew⟩ := hq
  rw [ew] at hw
  refine lv_istore hx hb d_MD_make_4 hl (by decide) rfl (fun ls (hl : lv_has ls 5 [(4, .int _), (0, .ref _), (1, .int _), (2, .int _), (3, .int _)]) => ?_)
  refine lv_iload_n hx hb d_MD_make_6 rfl (lv_at hl 2 rfl) ?_
  refine lv_if_lt (tgt := 20) hx hb d_MD_make_7 rfl (fun h7 => ?_) (fun h7 => ?_)
  · have ez : mkC kd c0 a0 b0 = 0 := if_pos (if_pos h7)
    refine lv_iconst (v := (-1)) hx hb d_MD_make_20 (by decide) ?_
    exact r_i B hw d_MD_make_21 ⟨by unfold mkA; rw [ez, if_pos rfl], by unfold mkK mk1 mk2; rw [ez, if_neg (by decide), if_neg (by decide), if_neg (by decide)]; exact ⟨_, _, _, _, _, _, _, rfl⟩⟩
  · refine lv_iload_n hx hb d_MD_make_10 rfl (lv_at hl 2 rfl) ?_
    refine lv_iconst (v := 3) hx hb d_MD_make_11 (by decide) ?_
    refine lv_icmp_gt (tgt := 20) hx hb d_MD_make_12 rfl (fun h12 => ?_) (fun h12 => ?_)
    · have ez : mkC kd c0 a0 b0 = 0 := if_pos (by unfold isK; rw [if_neg h7, if_pos h12])
      refine lv_iconst (v := (-1)) hx hb d_MD_make_20 (by decide) ?_
      exact r_i B hw d_MD_make_21 ⟨by unfold mkA; rw [ez, if_pos rfl], by unfold mkK mk1 mk2; rw [ez, if_neg (by decide), if_neg (by decide), if_neg (by decide)]; exact ⟨_, _, _, _, _, _, _, rfl⟩⟩
    · have ez : mkC kd c0 a0 b0 = _ := if_neg (by unfold isK; rw [if_neg h7, if_neg h12]; decide)
      refine lv_iload hx hb d_MD_make_15 (lv_at hl 0 rfl) ?_
      refine lv_if_ge (tgt := 22) hx hb d_MD_make_17 rfl (fun h17 => ?_) (fun h17 => ?_)
      · obtain ⟨kf, hkf, hkl, hfi, hge⟩ := fr_of h17
        rw [if_neg hge] at ez
        refine lv_aload_n hx hb d_MD_make_22 rfl (lv_at hl 1 rfl) ?_
        refine lv_iload_n hx hb d_MD_make_23 rfl (lv_at hl 2 rfl) ?_
        refine g_put B hw fl_MD_90 ck_MD mw_0 rfl rfl rfl (Nat.le_of_ble_eq_true rfl) d_MD_make_24 (fun H locs (hw : wd D A (mW K q _ _ _ _ _ _ _ _ _ _ _ _ _ _ _ _) s H locs) => ?_)
        refine lv_aload_n hx hb d_MD_make_27 rfl (lv_at hl 1 rfl) ?_
        refine lv_iload_n hx hb d_MD_make_28 rfl (lv_at hl 3 rfl) ?_
        refine lv_i2l hx hb d_MD_make_29 rfl ?_
        refine g_put B hw fl_MD_84 ck_MD mw_0 rfl rfl rfl (Nat.le_of_ble_eq_true rfl) d_MD_make_30 (fun H locs (hw : wd D A (mW K q _ _ _ _ _ _ _ _ _ _ _ _ _ _ _ _) s H locs) => ?_)
        refine lv_aload_n hx hb d_MD_make_33 rfl (lv_at hl 1 rfl) ?_
        refine lv_iload_n hx hb d_MD_make_34 rfl (lv_at hl 2 rfl) ?_
        refine lv_iconst (v := 2) hx hb d_MD_make_35 (by decide) ?_
        refine lv_icmp_ne (tgt := 46) hx hb d_MD_make_36 rfl (fun h36 => ?_) (fun h36 => ?_)
        · refine lv_iload_n hx hb d_MD_make_46 rfl (lv_at hl 4 rfl) ?_
          refine lv_i2l hx hb d_MD_make_47 rfl ?_
          refine g_put B hw fl_MD_87 ck_MD mw_0 rfl rfl rfl (Nat.le_of_ble_eq_true rfl) d_MD_make_48 (fun H locs (hw : wd D A (mW K q _ _ _ _ _ _ _ _ _ _ _ _ _ _ _ _) s H locs) => ?_)
          refine lv_iload_n hx hb d_MD_make_51 rfl (lv_at hl 2 rfl) ?_
          refine lv_if_ne (tgt := 84) hx hb d_MD_make_52 rfl (fun h52 => ?_) (fun h52 => ?_)
          · have y1 : fsd c0 a0 b0 = a0.toInt64 := if_neg h52
            have y2 : ssd c0 a0 b0 = b0.toInt64 := by unfold ssd; rw [if_neg h52, if_neg h36]
            refine lv_aload_n hx hb d_MD_make_84 rfl (lv_at hl 1 rfl) ?_
            refine k_i (k_runV B hw (c_MD_sound (k03 h7 h12)) rfl rfl cf_MD_101 mw_0 rfl rfl ⟨Nat.le_of_ble_eq_true rfl, Nat.le_of_ble_eq_true rfl⟩ rfl hl.1 rfl (Nat.le_of_ble_eq_true rfl) d_MD_make_85 ⟨Nat.le_of_ble_eq_true rfl, Nat.le_of_ble_eq_true rfl⟩) hw (fun r85 w1 H locs hq hw => ?_)
            have er := hq.1
            have ew := hq.2
            rw [ew] at hw
            have er2 : r85 = isSt c0 (fsd c0 a0 b0) (ssd c0 a0 b0) := by rw [er, y1, y2]
            rw [er2]
            refine lv_if_eq (tgt := 100) hx hb d_MD_make_88 rfl (fun h88 => ?_) (fun h88 => ?_)
            · rw [if_pos h88] at ez
              refine lv_bipush (v := (-2)) hx hb d_MD_make_100 (by decide) ?_
              exact r_i B hw d_MD_make_102 ⟨by unfold mkA; rw [ez, if_neg (by decide), if_pos rfl], by unfold mkK mk1 mk2; rw [ez, if_neg (by decide), if_neg (by decide), if_neg (by decide)]; exact ⟨_, _, _, _, _, _, _, rfl⟩⟩
            · rw [if_neg h88] at ez
              refine lv_aload_n hx hb d_MD_make_91 rfl (lv_at hl 1 rfl) ?_
              refine lv_iload hx hb d_MD_make_92 (lv_at hl 0 rfl) ?_
              rw [hfi]
              refine k_i (k_runV B hw (c_MD_settle hkf) rfl rfl cf_MD_105 mw_0 rfl rfl ⟨Nat.le_of_ble_eq_true rfl, Nat.le_of_ble_eq_true rfl⟩ rfl hl.1 rfl (Nat.le_of_ble_eq_true rfl) d_MD_make_94 ⟨Nat.le_of_ble_eq_true rfl, Nat.le_of_ble_eq_true rfl⟩) hw (fun r94 w1 H locs hq hw => ?_)
              obtain ⟨rfl, ew⟩ := hq
              rw [ew] at hw
              refine lv_goto (tgt := 102) hx hb d_MD_make_97 rfl ?_
              exact r_i B hw d_MD_make_102 ⟨by unfold mkA; rw [ez, if_neg (by decide), if_neg (by decide)]; exact hfi.symm, by unfold mkK mk1 mk2; rw [ez, if_pos rfl, if_pos rfl, if_pos rfl, hfi, nI_clamp (by omega), y1, y2]; exact ⟨_, _, _, _, _, _, _, rfl⟩⟩
          · have y1 : fsd c0 a0 b0 = jnd a0 b0 := if_pos h52
            have y2 : ssd c0 a0 b0 = 2 * jnd a0 b0 + 1 := if_pos h52
            refine lv_aload_n hx hb d_MD_make_55 rfl (lv_at hl 1 rfl) ?_
            refine lv_iload_n hx hb d_MD_make_56 rfl (lv_at hl 3 rfl) ?_
            refine lv_i2l hx hb d_MD_make_57 rfl ?_
            refine g_ldc2 B kc_MD_35 d_MD_make_58 ?_
            refine lv_lmul hx hb d_MD_make_61 ?_
            refine lv_iload_n hx hb d_MD_make_62 rfl (lv_at hl 4 rfl) ?_
            refine k_l (k_runS B hw c_MD_number rfl rfl cf_MD_71 ⟨Nat.le_of_ble_eq_true rfl, Nat.le_of_ble_eq_true rfl⟩ rfl hl.1 rfl (Nat.le_of_ble_eq_true rfl) d_MD_make_63 ⟨Nat.le_of_ble_eq_true rfl, Nat.le_of_ble_eq_true rfl⟩) hw (fun r63 w1 H locs hq hw => ?_)
            obtain ⟨rfl, ew⟩ := hq
            rw [ew] at hw
            refine lv_ladd hx hb d_MD_make_66 ?_
            rw [jnd_eq]
            refine g_put B hw fl_MD_84 ck_MD mw_0 rfl rfl rfl (Nat.le_of_ble_eq_true rfl) d_MD_make_67 (fun H locs (hw : wd D A (mW K q _ _ _ _ _ _ _ _ _ _ _ _ _ _ _ _) s H locs) => ?_)
            refine lv_aload_n hx hb d_MD_make_70 rfl (lv_at hl 1 rfl) ?_
            refine g_ldc2 B kc_MD_69 d_MD_make_71 ?_
            refine lv_aload_n hx hb d_MD_make_74 rfl (lv_at hl 1 rfl) ?_
            refine g_get B hw fl_MD_84 mw_0 rfl d_MD_make_75 ?_
            refine lv_lmul hx hb d_MD_make_78 ?_
            refine lv_lconst (v := 1) hx hb d_MD_make_79 (by decide) ?_
            refine lv_ladd hx hb d_MD_make_80 ?_
            refine g_put B hw fl_MD_87 ck_MD mw_0 rfl rfl rfl (Nat.le_of_ble_eq_true rfl) d_MD_make_81 (fun H locs (hw : wd D A (mW K q _ _ _ _ _ _ _ _ _ _ _ _ _ _ _ _) s H locs) => ?_)
            refine lv_aload_n hx hb d_MD_make_84 rfl (lv_at hl 1 rfl) ?_
            refine k_i (k_runV B hw (c_MD_sound (k03 h7 h12)) rfl rfl cf_MD_101 mw_0 rfl rfl ⟨Nat.le_of_ble_eq_true rfl, Nat.le_of_ble_eq_true rfl⟩ rfl hl.1 rfl (Nat.le_of_ble_eq_true rfl) d_MD_make_85 ⟨Nat.le_of_ble_eq_true rfl, Nat.le_of_ble_eq_true rfl⟩) hw (fun r85 w1 H locs hq hw => ?_)
            have er := hq.1
            have ew := hq.2
            rw [ew] at hw
            have er2 : r85 = isSt c0 (fsd c0 a0 b0) (ssd c0 a0 b0) := by rw [er, y1, y2]
            rw [er2]
            refine lv_if_eq (tgt := 100) hx hb d_MD_make_88 rfl (fun h88 => ?_) (fun h88 => ?_)
            · rw [if_pos h88] at ez
              refine lv_bipush (v := (-2)) hx hb d_MD_make_100 (by decide) ?_
              exact r_i B hw d_MD_make_102 ⟨by unfold mkA; rw [ez, if_neg (by decide), if_pos rfl], by unfold mkK mk1 mk2; rw [ez, if_neg (by decide), if_neg (by decide), if_neg (by decide)]; exact ⟨_, _, _, _, _, _, _, rfl⟩⟩
            · rw [if_neg h88] at ez
              refine lv_aload_n hx hb d_MD_make_91 rfl (lv_at hl 1 rfl) ?_
              refine lv_iload hx hb d_MD_make_92 (lv_at hl 0 rfl) ?_
              rw [hfi]
              refine k_i (k_runV B hw (c_MD_settle hkf) rfl rfl cf_MD_105 mw_0 rfl rfl ⟨Nat.le_of_ble_eq_true rfl, Nat.le_of_ble_eq_true rfl⟩ rfl hl.1 rfl (Nat.le_of_ble_eq_true rfl) d_MD_make_94 ⟨Nat.le_of_ble_eq_true rfl, Nat.le_of_ble_eq_true rfl⟩) hw (fun r94 w1 H locs hq hw => ?_)
              obtain ⟨rfl, ew⟩ := hq
              rw [ew] at hw
              refine lv_goto (tgt := 102) hx hb d_MD_make_97 rfl ?_
              exact r_i B hw d_MD_make_102 ⟨by unfold mkA; rw [ez, if_neg (by decide), if_neg (by decide)]; exact hfi.symm, by unfold mkK mk1 mk2; rw [ez, if_pos rfl, if_pos rfl, if_pos rfl, hfi, nI_clamp (by omega), y1, y2]; exact ⟨_, _, _, _, _, _, _, rfl⟩⟩
        · refine lv_iload_n hx hb d_MD_make_39 rfl (lv_at hl 4 rfl) ?_
          refine k_l (k_runS B hw c_MD_number rfl rfl cf_MD_71 ⟨Nat.le_of_ble_eq_true rfl, Nat.le_of_ble_eq_true rfl⟩ rfl hl.1 rfl (Nat.le_of_ble_eq_true rfl) d_MD_make_40 ⟨Nat.le_of_ble_eq_true rfl, Nat.le_of_ble_eq_true rfl⟩) hw (fun r40 w1 H locs hq hw => ?_)
          obtain ⟨rfl, ew⟩ := hq
          rw [ew] at hw
          refine lv_goto (tgt := 48) hx hb d_MD_make_43 rfl ?_
          refine g_put B hw fl_MD_87 ck_MD mw_0 rfl rfl rfl (Nat.le_of_ble_eq_true rfl) d_MD_make_48 (fun H locs (hw : wd D A (mW K q _ _ _ _ _ _ _ _ _ _ _ _ _ _ _ _) s H locs) => ?_)
          refine lv_iload_n hx hb d_MD_make_51 rfl (lv_at hl 2 rfl) ?_
          refine lv_if_ne (tgt := 84) hx hb d_MD_make_52 rfl (fun h52 => ?_) (fun h52 => ?_)
          · have y1 : fsd c0 a0 b0 = a0.toInt64 := if_neg h52
            have y2 : ssd c0 a0 b0 = nU b0 := by unfold ssd; rw [if_neg h52, if_pos h36]
            refine lv_aload_n hx hb d_MD_make_84 rfl (lv_at hl 1 rfl) ?_
            refine k_i (k_runV B hw (c_MD_sound (k03 h7 h12)) rfl rfl cf_MD_101 mw_0 rfl rfl ⟨Nat.le_of_ble_eq_true rfl, Nat.le_of_ble_eq_true rfl⟩ rfl hl.1 rfl (Nat.le_of_ble_eq_true rfl) d_MD_make_85 ⟨Nat.le_of_ble_eq_true rfl, Nat.le_of_ble_eq_true rfl⟩) hw (fun r85 w1 H locs hq hw => ?_)
            have er := hq.1
            have ew := hq.2
            rw [ew] at hw
            have er2 : r85 = isSt c0 (fsd c0 a0 b0) (ssd c0 a0 b0) := by rw [er, y1, y2]
            rw [er2]
            refine lv_if_eq (tgt := 100) hx hb d_MD_make_88 rfl (fun h88 => ?_) (fun h88 => ?_)
            · rw [if_pos h88] at ez
              refine lv_bipush (v := (-2)) hx hb d_MD_make_100 (by decide) ?_
              exact r_i B hw d_MD_make_102 ⟨by unfold mkA; rw [ez, if_neg (by decide), if_pos rfl], by unfold mkK mk1 mk2; rw [ez, if_neg (by decide), if_neg (by decide), if_neg (by decide)]; exact ⟨_, _, _, _, _, _, _, rfl⟩⟩
            · rw [if_neg h88] at ez
              refine lv_aload_n hx hb d_MD_make_91 rfl (lv_at hl 1 rfl) ?_
              refine lv_iload hx hb d_MD_make_92 (lv_at hl 0 rfl) ?_
              rw [hfi]
              refine k_i (k_runV B hw (c_MD_settle hkf) rfl rfl cf_MD_105 mw_0 rfl rfl ⟨Nat.le_of_ble_eq_true rfl, Nat.le_of_ble_eq_true rfl⟩ rfl hl.1 rfl (Nat.le_of_ble_eq_true rfl) d_MD_make_94 ⟨Nat.le_of_ble_eq_true rfl, Nat.le_of_ble_eq_true rfl⟩) hw (fun r94 w1 H locs hq hw => ?_)
              obtain ⟨rfl, ew⟩ := hq
              rw [ew] at hw
              refine lv_goto (tgt := 102) hx hb d_MD_make_97 rfl ?_
              exact r_i B hw d_MD_make_102 ⟨by unfold mkA; rw [ez, if_neg (by decide), if_neg (by decide)]; exact hfi.symm, by unfold mkK mk1 mk2; rw [ez, if_pos rfl, if_pos rfl, if_pos rfl, hfi, nI_clamp (by omega), y1, y2]; exact ⟨_, _, _, _, _, _, _, rfl⟩⟩
          · exact absurd (h36.symm.trans h52) (by decide)
      · rw [if_pos (fr_no h17)] at ez
        refine lv_iconst (v := (-1)) hx hb d_MD_make_20 (by decide) ?_
        exact r_i B hw d_MD_make_21 ⟨by unfold mkA; rw [ez, if_pos rfl], by unfold mkK mk1 mk2; rw [ez, if_neg (by decide), if_neg (by decide), if_neg (by decide)]; exact ⟨_, _, _, _, _, _, _, rfl⟩⟩
end
section
/-! The reference: records. -/
theorem blk_0 {sd : Nat → Int32} {b : Nat} {w : Nat → Int32} : blk sd b 0 w = sd := by
  funext t
  exact blk_out (by omega)
theorem blk_upd {sd : Nat → Int32} {b n : Nat} {w : Nat → Int32} {x : Int32} : upd (blk sd b n w) (b + n) x = blk sd b (n + 1) (upd w n x) := by
  funext t
  by_cases e : t = b + n
  · subst e
    rw [pk_us, blk_in (by omega), pk_us]
  · rw [pk_un e]
    by_cases h : b ≤ t ∧ t < b + n
    · obtain ⟨u, rfl⟩ : ∃ u, t = b + u := ⟨t - b, by omega⟩
      rw [blk_in (by omega), blk_in (by omega), pk_un (by omega)]
    · rw [blk_out (by omega), blk_out (by omega)]
theorem upd_upd {f : Nat → Int32} {k : Nat} {x y : Int32} : upd (upd f k x) k y = upd f k y := by
  funext j
  by_cases e : j = k
  · subst e; rw [pk_us, pk_us]
  · rw [pk_un e, pk_un e, pk_un e]
theorem sar32 (x : Int64) : (x >>> ((32 : Int32).toInt64 &&& 63)).toInt32 = (lus x 32).toInt32 := by
  apply uB_inj
  rw [uB_l2i, uB_l2i, lus32]
  have h1 : (x >>> ((32 : Int32).toInt64 &&& 63)).toInt = x.toInt / 4294967296 := by
    show (x >>> ((32 : Int32).toInt64 &&& 63)).toBitVec.toInt = _
    rw [Int64.toBitVec_shiftRight]
    show (x.toBitVec.sshiftRight (((32 : Int32).toInt64 &&& 63).toBitVec.smod 64).toNat).toInt = _
    rw [show (((32 : Int32).toInt64 &&& 63).toBitVec.smod 64).toNat = 32 by decide, BitVec.toInt_sshiftRight, Int.shiftRight_eq_div_pow]
    rfl
  have h2 := toInt_uL (x >>> ((32 : Int32).toInt64 &&& 63))
  have h3 := toInt_uL x
  have h4 := uL_lt (x >>> ((32 : Int32).toInt64 &&& 63))
  have h5 := uL_lt x
  rw [h1] at h2
  split at h2 <;> split at h3 <;> omega
def zN (sz : Nat → Nat) : Nat → Int32 := fun r => nI (sz r)
theorem zN_upd {sz : Nat → Nat} {r n : Nat} : upd (zN sz) r (nI n) = zN (updN sz r n) := by
  funext j
  by_cases e : j = r
  · subst e; rw [pk_us]; show _ = nI (updN sz j n j); rw [updN_s]
  · rw [pk_un e]; show nI (sz j) = nI (updN sz r n j); rw [updN_n e]
theorem ckF_blk {sd : Nat → Int32} {r n : Nat} {w : Nat → Int32} : ckF (wOf (blk sd (6 * r) n w) r) n = ckF w n := by
  unfold ckF
  rw [ckN_congr (w := wOf (blk sd (6 * r) n w) r) (v := w) n (fun t ht => blk_in ht)]
theorem isFL_1 {k : Int32} (h : k = 0) : isFL k = 1 := if_pos h
theorem isFL_0 {k : Int32} (h : ¬ k = 0) : isFL k = 0 := if_neg h
theorem sN2_l {k : Int32} (h : k = 0) : sN2 k = 3 := by unfold sN2; rw [isFL_1 h]; rfl
theorem sN2_s {k : Int32} (h : ¬ k = 0) : sN2 k = 2 := by unfold sN2; rw [isFL_0 h]; rfl
theorem sW2_l {k : Int32} (h : k = 0) (f : Int64) : sW2 k f = upd (upd (sW1 k) 1 (lus f 32).toInt32) (1 + 1) f.toInt32 := by unfold sW2; rw [isFL_1 h]; rfl
theorem sW2_s {k : Int32} (h : ¬ k = 0) (f : Int64) : sW2 k f = upd (sW1 k) 1 f.toInt32 := by unfold sW2; rw [isFL_0 h]; rfl
theorem sN3_l {k : Int32} (h : isSL k = 1) : sN3 k = sN2 k + 1 + 1 := by unfold sN3; rw [h]; rfl
theorem sN3_s {k : Int32} (h : isSL k = 0) : sN3 k = sN2 k + 1 := by unfold sN3; rw [h]; rfl
theorem sW3_l {k : Int32} (h : isSL k = 1) (f g : Int64) : sW3 k f g = upd (upd (sW2 k f) (sN2 k) (lus g 32).toInt32) (sN2 k + 1) g.toInt32 := by unfold sW3; rw [h]; rfl
theorem sW3_s {k : Int32} (h : isSL k = 0) (f g : Int64) : sW3 k f g = upd (sW2 k f) (sN2 k) g.toInt32 := by unfold sW3; rw [h]; rfl
theorem wOK_0 : wOK 0 = 6 := by decide
theorem wOK_2 : wOK 2 = 5 := by decide
theorem wOK_n {k : Int32} (h0 : ¬ k = 0) (h2 : ¬ k = 2) : wOK k = 4 := by
  unfold wOK
  rw [isFL_0 h0, show isSL k = 0 from by unfold isSL; rw [if_neg h0, if_neg h2]]
  rfl
theorem mrc_case {rn : Nat} (h6 : rn ≤ 6) (x : Int32) : (rcS rn x = none ∧ (x < 0 ∨ nI rn ≤ x)) ∨ ∃ r, r < rn ∧ x = nI r ∧ rcS rn (nI r) = some r := by
  by_cases h0 : x < 0
  · exact Or.inl ⟨if_pos h0, Or.inl h0⟩
  by_cases h8 : x < nI rn
  · obtain ⟨k, hk, rfl⟩ := slot_of h0 (by omega) h8
    refine Or.inr ⟨k, hk, rfl, ?_⟩
    unfold rcS
    rw [if_neg h0, if_pos h8, nI_clamp (by omega)]
  · refine Or.inl ⟨?_, Or.inr (Int32.not_lt.mp h8)⟩
    unfold rcS
    rw [if_neg h0, if_neg h8]
theorem mhw_case {rn : Nat} {sz : Nat → Nat} (h6 : rn ≤ 6) (hs : ∀ r, r < rn → sz r ≤ 6) (x y : Int32) : (hwB rn sz x y = false) ∨ (hwB rn sz x y = true ∧ ∃ r t, r < rn ∧ t < sz r ∧ x = nI r ∧ y = nI t ∧ rcS rn (nI r) = some r) := by
  rcases mrc_case h6 x with ⟨hn, -⟩ | ⟨r, hr, rfl, hn⟩
  · exact Or.inl (hw_none hn)
  · rcases hw_case (y := y) hn (hs r hr) with ⟨-, h⟩ | ⟨-, h, t, ht, e⟩
    · exact Or.inl h
    · exact Or.inr ⟨h, r, t, hr, ht, rfl, e, hn⟩
set_option maxRecDepth 100000 in
set_option maxHeartbeats 4000000 in
theorem c_MD_append {l : Launch} {D : va_G} {K : Nat → ClassId} {A : Nat → Prop} {q : Nat → Nat} {kd : Nat → Int32} {f1 f2 : Nat → Int64} {ou nk : Int32} {nf ns hi lo : Int64} {rn : Nat} {zi sd : Nat → Int32} {ix : Int32} {mm wt cd : Nat → Int32} {n : Nat} {w : Nat → Int32} (hr : rn < 6) (hn : n < 6) {x : Int32} : ctV l y_MD_append prog_6_method_20_code 2 0 0 0 [.ref (q 0), .int x] D K A ((mW K q kd f1 f2 ou nk nf ns hi lo (nI rn) (upd zi rn (nI n)) (blk sd (6 * rn) n w) ix mm wt cd)) (fun v => v = (mW K q kd f1 f2 ou nk nf ns hi lo (nI rn) (upd zi rn (nI (n + 1))) (blk sd (6 * rn) (n + 1) (upd w n x)) ix mm wt cd)) := by
  refine mt_of (by decide) (Nat.le_of_ble_eq_true rfl) ?_
  intro p e s m below meth c ls B hw hl
  have hx := B.1
  have hb := B.2.1
  have hl : lv_has ls 2 [(0, .ref (q 0)), (1, .int x)] := hl
  refine lv_aload_n hx hb d_MD_append_0 rfl (lv_at hl 0 rfl) ?_
  refine g_get B hw fl_MD_23 mw_0 rfl d_MD_append_1 ?_
  refine lv_bipush (v := 6) hx hb d_MD_append_4 (by decide) ?_
  refine lv_aload_n hx hb d_MD_append_6 rfl (lv_at hl 0 rfl) ?_
  refine g_get B hw fl_MD_123 mw_0 rfl d_MD_append_7 ?_
  refine lv_imul hx hb d_MD_append_10 ?_
  rw [show (6 : Int32) * nI rn = nI (6 * rn) from pk_mul 6 rn]
  refine lv_aload_n hx hb d_MD_append_11 rfl (lv_at hl 0 rfl) ?_
  refine g_get B hw fl_MD_20 mw_0 rfl d_MD_append_12 ?_
  refine lv_aload_n hx hb d_MD_append_15 rfl (lv_at hl 0 rfl) ?_
  refine g_get B hw fl_MD_123 mw_0 rfl d_MD_append_16 ?_
  refine g_iald B hw mw_4 (vp_in_nI hr (by omega)) d_MD_append_19 ?_
  rw [nI_clamp (by omega), pk_us]
  refine lv_iadd hx hb d_MD_append_20 ?_
  rw [nI_add]
  refine lv_iload_n hx hb d_MD_append_21 rfl (lv_at hl 1 rfl) ?_
  refine g_iast B hw mw_5 (vp_in_nI (by omega) (by omega)) d_MD_append_22 (fun H locs (hw : wd D A (mW K q _ _ _ _ _ _ _ _ _ _ _ _ _ _ _ _) s H locs) => ?_)
  rw [nI_clamp (by omega), blk_upd] at hw
  refine lv_aload_n hx hb d_MD_append_23 rfl (lv_at hl 0 rfl) ?_
  refine g_get B hw fl_MD_20 mw_0 rfl d_MD_append_24 ?_
  refine lv_aload_n hx hb d_MD_append_27 rfl (lv_at hl 0 rfl) ?_
  refine g_get B hw fl_MD_123 mw_0 rfl d_MD_append_28 ?_
  refine lv_dup2_11 hx hb d_MD_append_31 rfl rfl ?_
  refine g_iald B hw mw_4 (vp_in_nI hr (by omega)) d_MD_append_32 ?_
  rw [nI_clamp (by omega), pk_us]
  refine lv_iconst (v := 1) hx hb d_MD_append_33 (by decide) ?_
  refine lv_iadd hx hb d_MD_append_34 ?_
  rw [← nI_succ n]
  refine g_iast B hw mw_4 (vp_in_nI hr (by omega)) d_MD_append_35 (fun H locs (hw : wd D A (mW K q _ _ _ _ _ _ _ _ _ _ _ _ _ _ _ _) s H locs) => ?_)
  rw [nI_clamp (by omega), upd_upd] at hw
  exact r_v B hw d_MD_append_36 rfl
set_option maxRecDepth 100000 in
set_option maxHeartbeats 4000000 in
theorem c_MD_appendLong {l : Launch} {D : va_G} {K : Nat → ClassId} {A : Nat → Prop} {q : Nat → Nat} {kd : Nat → Int32} {f1 f2 : Nat → Int64} {ou nk : Int32} {nf ns hi lo : Int64} {rn : Nat} {zi sd : Nat → Int32} {ix : Int32} {mm wt cd : Nat → Int32} {n : Nat} {w : Nat → Int32} (hr : rn < 6) (hn : n + 1 < 6) {x : Int64} : ctV l y_MD_appendLong prog_6_method_21_code 3 1 0 0 [.ref (q 0), .long x] D K A ((mW K q kd f1 f2 ou nk nf ns hi lo (nI rn) (upd zi rn (nI n)) (blk sd (6 * rn) n w) ix mm wt cd)) (fun v => v = (mW K q kd f1 f2 ou nk nf ns hi lo (nI rn) (upd zi rn (nI (n + 1 + 1))) (blk sd (6 * rn) (n + 1 + 1) (upd (upd w n (lus x 32).toInt32) (n + 1) x.toInt32)) ix mm wt cd)) := by
  refine mt_of (by decide) (Nat.le_of_ble_eq_true rfl) ?_
  intro p e s m below meth c ls B hw hl
  have hx := B.1
  have hb := B.2.1
  have hl : lv_has ls 3 [(0, .ref (q 0)), (1, .long x)] := hl
  refine lv_aload_n hx hb d_MD_appendLong_0 rfl (lv_at hl 0 rfl) ?_
  refine lv_lload_n hx hb d_MD_appendLong_1 rfl (lv_at hl 1 rfl) ?_
  refine lv_bipush (v := 32) hx hb d_MD_appendLong_2 (by decide) ?_
  refine lv_lshr hx hb d_MD_appendLong_4 rfl ?_
  refine lv_l2i hx hb d_MD_appendLong_5 rfl ?_
  rw [sar32]
  refine k_v (k_runV B hw (c_MD_append hr (by omega)) rfl rfl cf_MD_126 mw_0 rfl rfl ⟨Nat.le_of_ble_eq_true rfl, Nat.le_of_ble_eq_true rfl⟩ rfl hl.1 rfl (Nat.le_of_ble_eq_true rfl) d_MD_appendLong_6 ⟨Nat.le_of_ble_eq_true rfl, Nat.le_of_ble_eq_true rfl⟩) hw (fun w1 H locs hq hw => ?_)
  rw [hq] at hw
  refine lv_aload_n hx hb d_MD_appendLong_9 rfl (lv_at hl 0 rfl) ?_
  refine lv_lload_n hx hb d_MD_appendLong_10 rfl (lv_at hl 1 rfl) ?_
  refine lv_l2i hx hb d_MD_appendLong_11 rfl ?_
  refine k_v (k_runV B hw (c_MD_append hr hn) rfl rfl cf_MD_126 mw_0 rfl rfl ⟨Nat.le_of_ble_eq_true rfl, Nat.le_of_ble_eq_true rfl⟩ rfl hl.1 rfl (Nat.le_of_ble_eq_true rfl) d_MD_appendLong_12 ⟨Nat.le_of_ble_eq_true rfl, Nat.le_of_ble_eq_true rfl⟩) hw (fun w1 H locs hq hw => ?_)
  rw [hq] at hw
  exact r_v B hw d_MD_appendLong_15 rfl
set_option maxRecDepth 100000 in
set_option maxHeartbeats 4000000 in
theorem c_MD_check {l : Launch} {D : va_G} {K : Nat → ClassId} {A : Nat → Prop} {q : Nat → Nat} {kd : Nat → Int32} {f1 f2 : Nat → Int64} {ou nk : Int32} {nf ns hi lo : Int64} {rn : Nat} {zi sd : Nat → Int32} {ix : Int32} {mm wt cd : Nat → Int32} {r z : Nat} (hr : r < 6) (hz : z ≤ 6) : ctI l y_MD_check prog_6_method_22_code 5 (some .int) 0 0 0 [.ref (q 0), .int (nI r), .int (nI z)] D K A ((mW K q kd f1 f2 ou nk nf ns hi lo (nI rn) zi sd ix mm wt cd)) (fun t v => t = ckF (wOf sd r) z ∧ v = (mW K q kd f1 f2 ou nk nf ns hi lo (nI rn) zi sd ix mm wt cd)) := by
  refine mt_of (by decide) (Nat.le_of_ble_eq_true rfl) ?_
  intro p e s m below meth c ls B hw hl
  have hx := B.1
  have hb := B.2.1
  have hl : lv_has ls 5 [(0, .ref (q 0)), (1, .int (nI r)), (2, .int (nI z))] := hl
  refine lv_iconst (v := 1) hx hb d_MD_check_0 (by decide) ?_
  refine lv_istore_n hx hb d_MD_check_1 rfl hl (by decide) rfl (fun ls (hl : lv_has ls 5 [(3, .int _), (0, .ref _), (1, .int _), (2, .int _)]) => ?_)
  refine lv_iconst (v := 0) hx hb d_MD_check_2 (by decide) ?_
  refine lv_istore hx hb d_MD_check_3 hl (by decide) rfl (fun ls (hl : lv_has ls 5 [(4, .int _), (3, .int _), (0, .ref _), (1, .int _), (2, .int _)]) => ?_)
  refine lp_w (σ := Nat) (fun i => z - i) (fun i H locs ls => i ≤ z ∧ lv_has ls 5 [(4, .int (nI i)), (3, .int (ckN (wOf sd r) i)), (0, .ref (q 0)), (1, .int (nI r)), (2, .int (nI z))] ∧ wd D A (mW K q kd f1 f2 ou nk nf ns hi lo (nI rn) zi sd ix mm wt cd) s H locs) ?_ 0 _ _ _ ⟨by omega, lv_sub hl [0, 1, 2, 3, 4] rfl, hw⟩
  rintro i H locs ls ⟨hi6, hl, hw⟩ ih
  refine lv_iload hx hb d_MD_check_5 (lv_at hl 0 rfl) ?_
  refine lv_iload_n hx hb d_MD_check_7 rfl (lv_at hl 4 rfl) ?_
  refine lv_icmp_ge (tgt := 35) hx hb d_MD_check_8 rfl (fun h8 => ?_) (fun h8 => ?_)
  · have h8 : z ≤ i := (nI_leI (a := z) (by omega) (by omega)).mp h8
    have hend : i = z := by omega
    refine lv_iload_n hx hb d_MD_check_35 rfl (lv_at hl 1 rfl) ?_
    refine lv_iload_n hx hb d_MD_check_36 rfl (lv_at hl 1 rfl) ?_
    refine lv_bipush (v := 15) hx hb d_MD_check_37 (by decide) ?_
    refine lv_iushr hx hb d_MD_check_39 rfl ?_
    refine lv_ixor hx hb d_MD_check_40 ?_
    exact r_i B hw d_MD_check_41 ⟨by rw [hend]; rfl, rfl⟩
  · have h8 : i < z := Nat.lt_of_not_le (fun q => h8 ((nI_leI (a := z) (by omega) (by omega)).mpr q))
    refine lv_bipush (v := 31) hx hb d_MD_check_11 (by decide) ?_
    refine lv_iload_n hx hb d_MD_check_13 rfl (lv_at hl 1 rfl) ?_
    refine lv_imul hx hb d_MD_check_14 ?_
    refine lv_aload_n hx hb d_MD_check_15 rfl (lv_at hl 2 rfl) ?_
    refine g_get B hw fl_MD_23 mw_0 rfl d_MD_check_16 ?_
    refine lv_bipush (v := 6) hx hb d_MD_check_19 (by decide) ?_
    refine lv_iload_n hx hb d_MD_check_21 rfl (lv_at hl 3 rfl) ?_
    refine lv_imul hx hb d_MD_check_22 ?_
    rw [show (6 : Int32) * nI r = nI (6 * r) from pk_mul 6 r]
    refine lv_iload hx hb d_MD_check_23 (lv_at hl 0 rfl) ?_
    refine lv_iadd hx hb d_MD_check_25 ?_
    rw [nI_add]
    refine g_iald B hw mw_5 (vp_in_nI (by omega) (by omega)) d_MD_check_26 ?_
    rw [nI_clamp (by omega)]
    refine lv_iadd hx hb d_MD_check_27 ?_
    refine lv_istore_n hx hb d_MD_check_28 rfl hl (by decide) rfl (fun ls (hl : lv_has ls 5 [(3, .int _), (4, .int _), (0, .ref _), (1, .int _), (2, .int _)]) => ?_)
    refine lv_iinc (k := 1) hx hb d_MD_check_29 hl rfl (show nI i + Int32.ofInt 1 = nI (i + 1) from (nI_succ i).symm) (by decide) rfl (fun ls (hl : lv_has ls 5 [(4, .int (nI (i + 1))), (3, .int _), (0, .ref _), (1, .int _), (2, .int _)]) => ?_)
    refine lv_goto (tgt := 5) hx hb d_MD_check_32 rfl ?_
    exact ih (i + 1) _ _ _ (by omega) ⟨by omega, lv_sub hl [0, 1, 2, 3, 4] rfl, hw⟩
set_option maxRecDepth 100000 in
set_option maxHeartbeats 4000000 in
theorem c_MD_save {l : Launch} {D : va_G} {K : Nat → ClassId} {A : Nat → Prop} {q : Nat → Nat} {kd : Nat → Int32} {f1 f2 : Nat → Int64} {ou nk : Int32} {nf ns hi lo : Int64} {rn : Nat} {sd : Nat → Int32} {ix : Int32} {mm wt cd : Nat → Int32} {sz : Nat → Nat} (h6 : rn ≤ 6) {x : Int32} : ctI l y_MD_save prog_6_method_23_code 3 (some .int) 2 0 0 [.ref (q 0), .int x] D K A ((mW K q kd f1 f2 ou nk nf ns hi lo (nI rn) (zN sz) sd ix mm wt cd)) (fun r w => r = saA kd rn x ∧ MR K q kd f1 f2 (nI (saR kd rn x)) (zN (saZ kd rn sz x)) (saD kd f1 f2 rn sd x) ix wt cd w) := by
  refine mt_of (by decide) (Nat.le_of_ble_eq_true rfl) ?_
  intro p e s m below meth c ls B hw hl
  have hx := B.1
  have hb := B.2.1
  have hl : lv_has ls 3 [(0, .ref (q 0)), (1, .int x)] := hl
  refine lv_aload_n hx hb d_MD_save_0 rfl (lv_at hl 0 rfl) ?_
  refine lv_iload_n hx hb d_MD_save_1 rfl (lv_at hl 1 rfl) ?_
  refine k_i (k_runV B hw c_MD_holds rfl rfl cf_MD_109 mw_0 rfl rfl ⟨Nat.le_of_ble_eq_true rfl, Nat.le_of_ble_eq_true rfl⟩ rfl hl.1 rfl (Nat.le_of_ble_eq_true rfl) d_MD_save_2 ⟨Nat.le_of_ble_eq_true rfl, Nat.le_of_ble_eq_true rfl⟩) hw (fun r2 w1 H locs hq hw => ?_)
  obtain ⟨rfl, ew⟩ := hq
  rw [ew] at hw
  rcases hd_case kd x with ⟨hn, hz⟩ | ⟨k, hk8, rfl, hn, hkd, hz⟩
  · rw [hz]
    refine lv_if_eq (tgt := 17) hx hb d_MD_save_5 rfl (fun b5 => ?_) (fun b5 => ?_)
    · refine lv_iconst (v := (-1)) hx hb d_MD_save_17 (by decide) ?_
      exact r_i B hw d_MD_save_18 ⟨by unfold saA; rw [onS_n hn], by unfold saR saZ saD; rw [onS_n hn, onS_n hn, onS_n hn]; exact ⟨_, _, _, _, _, _, _, rfl⟩⟩
    · exact absurd rfl b5
  · rw [hz]
    obtain ⟨c2, c3, c4⟩ := svN_le (kd k)
    refine lv_if_eq (tgt := 17) hx hb d_MD_save_5 rfl (fun b5 => ?_) (fun b5 => ?_)
    · exact absurd b5 (by decide)
    · refine lv_aload_n hx hb d_MD_save_8 rfl (lv_at hl 0 rfl) ?_
      refine g_get B hw fl_MD_123 mw_0 rfl d_MD_save_9 ?_
      refine lv_bipush (v := 6) hx hb d_MD_save_12 (by decide) ?_
      refine lv_icmp_ne (tgt := 19) hx hb d_MD_save_14 rfl (fun h14 => ?_) (fun h14 => ?_)
      · have h14 : rn < 6 := Nat.lt_of_not_le (fun z => h14 (by rw [show rn = 6 by omega]; rfl))
        refine lv_aload_n hx hb d_MD_save_19 rfl (lv_at hl 0 rfl) ?_
        refine g_get B hw fl_MD_20 mw_0 rfl d_MD_save_20 ?_
        refine lv_aload_n hx hb d_MD_save_23 rfl (lv_at hl 0 rfl) ?_
        refine g_get B hw fl_MD_123 mw_0 rfl d_MD_save_24 ?_
        refine lv_iconst (v := 0) hx hb d_MD_save_27 (by decide) ?_
        refine g_iast B hw mw_4 (vp_in_nI h14 (by omega)) d_MD_save_28 (fun H locs (hw : wd D A (mW K q _ _ _ _ _ _ _ _ _ _ _ _ _ _ _ _) s H locs) => ?_)
        rw [nI_clamp (by omega)] at hw
        have hw : wd D A (mW K q kd f1 f2 ou nk nf ns hi lo (nI rn) (upd (zN sz) rn (nI (0))) (blk sd (6 * rn) (0) (fun _ => 0)) ix mm wt cd) s H locs := by rw [blk_0]; exact hw
        refine lv_aload_n hx hb d_MD_save_29 rfl (lv_at hl 0 rfl) ?_
        refine g_ldc B kc_MD_129 d_MD_save_30 ?_
        refine lv_aload_n hx hb d_MD_save_32 rfl (lv_at hl 0 rfl) ?_
        refine g_get B hw fl_MD_7 mw_0 rfl d_MD_save_33 ?_
        refine lv_iload_n hx hb d_MD_save_36 rfl (lv_at hl 1 rfl) ?_
        refine g_iald B hw mw_1 (vp_in_nI hk8 (by omega)) d_MD_save_37 ?_
        rw [nI_clamp (by omega)]
        refine lv_iadd hx hb d_MD_save_38 ?_
        refine k_v (k_runV B hw (c_MD_append h14 (by omega)) rfl rfl cf_MD_126 mw_0 rfl rfl ⟨Nat.le_of_ble_eq_true rfl, Nat.le_of_ble_eq_true rfl⟩ rfl hl.1 rfl (Nat.le_of_ble_eq_true rfl) d_MD_save_39 ⟨Nat.le_of_ble_eq_true rfl, Nat.le_of_ble_eq_true rfl⟩) hw (fun w1 H locs hq hw => ?_)
        rw [hq] at hw
        have hw : wd D A (mW K q kd f1 f2 ou nk nf ns hi lo (nI rn) (upd (zN sz) rn (nI (1))) (blk sd (6 * rn) (1) (sW1 (kd k))) ix mm wt cd) s H locs := hw
        refine lv_aload_n hx hb d_MD_save_42 rfl (lv_at hl 0 rfl) ?_
        refine g_get B hw fl_MD_7 mw_0 rfl d_MD_save_43 ?_
        refine lv_iload_n hx hb d_MD_save_46 rfl (lv_at hl 1 rfl) ?_
        refine g_iald B hw mw_1 (vp_in_nI hk8 (by omega)) d_MD_save_47 ?_
        rw [nI_clamp (by omega)]
        refine lv_if_ne (tgt := 64) hx hb d_MD_save_48 rfl (fun h48 => ?_) (fun h48 => ?_)
        · refine lv_aload_n hx hb d_MD_save_64 rfl (lv_at hl 0 rfl) ?_
          refine lv_aload_n hx hb d_MD_save_65 rfl (lv_at hl 0 rfl) ?_
          refine g_get B hw fl_MD_13 mw_0 rfl d_MD_save_66 ?_
          refine lv_iload_n hx hb d_MD_save_69 rfl (lv_at hl 1 rfl) ?_
          refine g_lald B hw mw_2 (vp_in_nI hk8 (by omega)) d_MD_save_70 ?_
          rw [nI_clamp (by omega)]
          refine lv_l2i hx hb d_MD_save_71 rfl ?_
          refine k_v (k_runV B hw (c_MD_append h14 (by omega)) rfl rfl cf_MD_126 mw_0 rfl rfl ⟨Nat.le_of_ble_eq_true rfl, Nat.le_of_ble_eq_true rfl⟩ rfl hl.1 rfl (Nat.le_of_ble_eq_true rfl) d_MD_save_72 ⟨Nat.le_of_ble_eq_true rfl, Nat.le_of_ble_eq_true rfl⟩) hw (fun w1 H locs hq hw => ?_)
          rw [hq] at hw
          have hw : wd D A (mW K q kd f1 f2 ou nk nf ns hi lo (nI rn) (upd (zN sz) rn (nI (sN2 (kd k)))) (blk sd (6 * rn) (sN2 (kd k)) (sW2 (kd k) (f1 k))) ix mm wt cd) s H locs := by rw [sN2_s h48, sW2_s h48]; exact hw
          refine lv_aload_n hx hb d_MD_save_75 rfl (lv_at hl 0 rfl) ?_
          refine g_get B hw fl_MD_7 mw_0 rfl d_MD_save_76 ?_
          refine lv_iload_n hx hb d_MD_save_79 rfl (lv_at hl 1 rfl) ?_
          refine g_iald B hw mw_1 (vp_in_nI hk8 (by omega)) d_MD_save_80 ?_
          rw [nI_clamp (by omega)]
          refine lv_if_eq (tgt := 94) hx hb d_MD_save_81 rfl (fun h81 => ?_) (fun h81 => ?_)
          · have hsl : isSL (kd k) = 1 := if_pos h81
            refine lv_aload_n hx hb d_MD_save_94 rfl (lv_at hl 0 rfl) ?_
            refine lv_aload_n hx hb d_MD_save_95 rfl (lv_at hl 0 rfl) ?_
            refine g_get B hw fl_MD_17 mw_0 rfl d_MD_save_96 ?_
            refine lv_iload_n hx hb d_MD_save_99 rfl (lv_at hl 1 rfl) ?_
            refine g_lald B hw mw_3 (vp_in_nI hk8 (by omega)) d_MD_save_100 ?_
            rw [nI_clamp (by omega)]
            refine k_v (k_runV B hw (c_MD_appendLong h14 (by have := sN3_l hsl; omega)) rfl rfl cf_MD_130 mw_0 rfl rfl ⟨Nat.le_of_ble_eq_true rfl, Nat.le_of_ble_eq_true rfl⟩ rfl hl.1 rfl (Nat.le_of_ble_eq_true rfl) d_MD_save_101 ⟨Nat.le_of_ble_eq_true rfl, Nat.le_of_ble_eq_true rfl⟩) hw (fun w1 H locs hq hw => ?_)
            rw [hq] at hw
            have hw : wd D A (mW K q kd f1 f2 ou nk nf ns hi lo (nI rn) (upd (zN sz) rn (nI (sN3 (kd k)))) (blk sd (6 * rn) (sN3 (kd k)) (sW3 (kd k) (f1 k) (f2 k))) ix mm wt cd) s H locs := by rw [sN3_l hsl, sW3_l hsl]; exact hw
            refine lv_goto (tgt := 118) hx hb d_MD_save_104 rfl ?_
            refine lv_aload_n hx hb d_MD_save_118 rfl (lv_at hl 0 rfl) ?_
            refine lv_aload_n hx hb d_MD_save_119 rfl (lv_at hl 0 rfl) ?_
            refine g_get B hw fl_MD_123 mw_0 rfl d_MD_save_120 ?_
            refine lv_aload_n hx hb d_MD_save_123 rfl (lv_at hl 0 rfl) ?_
            refine g_get B hw fl_MD_20 mw_0 rfl d_MD_save_124 ?_
            refine lv_aload_n hx hb d_MD_save_127 rfl (lv_at hl 0 rfl) ?_
            refine g_get B hw fl_MD_123 mw_0 rfl d_MD_save_128 ?_
            refine g_iald B hw mw_4 (vp_in_nI h14 (by omega)) d_MD_save_131 ?_
            rw [nI_clamp (by omega), pk_us]
            refine k_i (k_runV B hw (c_MD_check h14 (by omega)) rfl rfl cf_MD_134 mw_0 rfl rfl ⟨Nat.le_of_ble_eq_true rfl, Nat.le_of_ble_eq_true rfl⟩ rfl hl.1 rfl (Nat.le_of_ble_eq_true rfl) d_MD_save_132 ⟨Nat.le_of_ble_eq_true rfl, Nat.le_of_ble_eq_true rfl⟩) hw (fun r132 w1 H locs hq hw => ?_)
            have er := hq.1
            have ew := hq.2
            rw [ew] at hw
            rw [er, ckF_blk]
            refine lv_istore_n hx hb d_MD_save_135 rfl hl (by decide) rfl (fun ls (hl : lv_has ls 3 [(2, .int _), (0, .ref _), (1, .int _)]) => ?_)
            refine lv_aload_n hx hb d_MD_save_136 rfl (lv_at hl 1 rfl) ?_
            refine lv_iload_n hx hb d_MD_save_137 rfl (lv_at hl 0 rfl) ?_
            refine k_v (k_runV B hw (c_MD_append h14 (by omega)) rfl rfl cf_MD_126 mw_0 rfl rfl ⟨Nat.le_of_ble_eq_true rfl, Nat.le_of_ble_eq_true rfl⟩ rfl hl.1 rfl (Nat.le_of_ble_eq_true rfl) d_MD_save_138 ⟨Nat.le_of_ble_eq_true rfl, Nat.le_of_ble_eq_true rfl⟩) hw (fun w1 H locs hq hw => ?_)
            rw [hq] at hw
            have hw : wd D A (mW K q kd f1 f2 ou nk nf ns hi lo (nI rn) (upd (zN sz) rn (nI (svN (kd k)))) (blk sd (6 * rn) (svN (kd k)) (svF (kd k) (f1 k) (f2 k))) ix mm wt cd) s H locs := hw
            refine lv_aload_n hx hb d_MD_save_141 rfl (lv_at hl 1 rfl) ?_
            refine lv_dup hx hb d_MD_save_142 rfl ?_
            refine g_get B hw fl_MD_123 mw_0 rfl d_MD_save_143 ?_
            refine lv_iconst (v := 1) hx hb d_MD_save_146 (by decide) ?_
            refine lv_iadd hx hb d_MD_save_147 ?_
            rw [← nI_succ rn]
            refine g_put B hw fl_MD_123 ck_MD mw_0 rfl rfl rfl (Nat.le_of_ble_eq_true rfl) d_MD_save_148 (fun H locs (hw : wd D A (mW K q _ _ _ _ _ _ _ _ _ _ _ _ _ _ _ _) s H locs) => ?_)
            refine lv_aload_n hx hb d_MD_save_151 rfl (lv_at hl 1 rfl) ?_
            refine g_get B hw fl_MD_123 mw_0 rfl d_MD_save_152 ?_
            refine lv_iconst (v := 1) hx hb d_MD_save_155 (by decide) ?_
            refine lv_isub hx hb d_MD_save_156 ?_
            rw [nI_pred]
            exact r_i B hw d_MD_save_157 ⟨by unfold saA; rw [onS_s hn]; exact (if_pos h14).symm, by unfold saR saZ saD; rw [onS_s hn, onS_s hn, onS_s hn]; (try dsimp only); rw [if_pos h14, if_pos h14, if_pos h14, ← zN_upd]; exact ⟨_, _, _, _, _, _, _, rfl⟩⟩
          · refine lv_aload_n hx hb d_MD_save_84 rfl (lv_at hl 0 rfl) ?_
            refine g_get B hw fl_MD_7 mw_0 rfl d_MD_save_85 ?_
            refine lv_iload_n hx hb d_MD_save_88 rfl (lv_at hl 1 rfl) ?_
            refine g_iald B hw mw_1 (vp_in_nI hk8 (by omega)) d_MD_save_89 ?_
            rw [nI_clamp (by omega)]
            refine lv_iconst (v := 2) hx hb d_MD_save_90 (by decide) ?_
            refine lv_icmp_ne (tgt := 107) hx hb d_MD_save_91 rfl (fun h91 => ?_) (fun h91 => ?_)
            · have hsl : isSL (kd k) = 0 := by unfold isSL; rw [if_neg h81, if_neg h91]
              refine lv_aload_n hx hb d_MD_save_107 rfl (lv_at hl 0 rfl) ?_
              refine lv_aload_n hx hb d_MD_save_108 rfl (lv_at hl 0 rfl) ?_
              refine g_get B hw fl_MD_17 mw_0 rfl d_MD_save_109 ?_
              refine lv_iload_n hx hb d_MD_save_112 rfl (lv_at hl 1 rfl) ?_
              refine g_lald B hw mw_3 (vp_in_nI hk8 (by omega)) d_MD_save_113 ?_
              rw [nI_clamp (by omega)]
              refine lv_l2i hx hb d_MD_save_114 rfl ?_
              refine k_v (k_runV B hw (c_MD_append h14 (by omega)) rfl rfl cf_MD_126 mw_0 rfl rfl ⟨Nat.le_of_ble_eq_true rfl, Nat.le_of_ble_eq_true rfl⟩ rfl hl.1 rfl (Nat.le_of_ble_eq_true rfl) d_MD_save_115 ⟨Nat.le_of_ble_eq_true rfl, Nat.le_of_ble_eq_true rfl⟩) hw (fun w1 H locs hq hw => ?_)
              rw [hq] at hw
              have hw : wd D A (mW K q kd f1 f2 ou nk nf ns hi lo (nI rn) (upd (zN sz) rn (nI (sN3 (kd k)))) (blk sd (6 * rn) (sN3 (kd k)) (sW3 (kd k) (f1 k) (f2 k))) ix mm wt cd) s H locs := by rw [sN3_s hsl, sW3_s hsl]; exact hw
              refine lv_aload_n hx hb d_MD_save_118 rfl (lv_at hl 0 rfl) ?_
              refine lv_aload_n hx hb d_MD_save_119 rfl (lv_at hl 0 rfl) ?_
              refine g_get B hw fl_MD_123 mw_0 rfl d_MD_save_120 ?_
              refine lv_aload_n hx hb d_MD_save_123 rfl (lv_at hl 0 rfl) ?_
              refine g_get B hw fl_MD_20 mw_0 rfl d_MD_save_124 ?_
              refine lv_aload_n hx hb d_MD_save_127 rfl (lv_at hl 0 rfl) ?_
              refine g_get B hw fl_MD_123 mw_0 rfl d_MD_save_128 ?_
              refine g_iald B hw mw_4 (vp_in_nI h14 (by omega)) d_MD_save_131 ?_
              rw [nI_clamp (by omega), pk_us]
              refine k_i (k_runV B hw (c_MD_check h14 (by omega)) rfl rfl cf_MD_134 mw_0 rfl rfl ⟨Nat.le_of_ble_eq_true rfl, Nat.le_of_ble_eq_true rfl⟩ rfl hl.1 rfl (Nat.le_of_ble_eq_true rfl) d_MD_save_132 ⟨Nat.le_of_ble_eq_true rfl, Nat.le_of_ble_eq_true rfl⟩) hw (fun r132 w1 H locs hq hw => ?_)
              have er := hq.1
              have ew := hq.2
              rw [ew] at hw
              rw [er, ckF_blk]
              refine lv_istore_n hx hb d_MD_save_135 rfl hl (by decide) rfl (fun ls (hl : lv_has ls 3 [(2, .int _), (0, .ref _), (1, .int _)]) => ?_)
              refine lv_aload_n hx hb d_MD_save_136 rfl (lv_at hl 1 rfl) ?_
              refine lv_iload_n hx hb d_MD_save_137 rfl (lv_at hl 0 rfl) ?_
              refine k_v (k_runV B hw (c_MD_append h14 (by omega)) rfl rfl cf_MD_126 mw_0 rfl rfl ⟨Nat.le_of_ble_eq_true rfl, Nat.le_of_ble_eq_true rfl⟩ rfl hl.1 rfl (Nat.le_of_ble_eq_true rfl) d_MD_save_138 ⟨Nat.le_of_ble_eq_true rfl, Nat.le_of_ble_eq_true rfl⟩) hw (fun w1 H locs hq hw => ?_)
              rw [hq] at hw
              have hw : wd D A (mW K q kd f1 f2 ou nk nf ns hi lo (nI rn) (upd (zN sz) rn (nI (svN (kd k)))) (blk sd (6 * rn) (svN (kd k)) (svF (kd k) (f1 k) (f2 k))) ix mm wt cd) s H locs := hw
              refine lv_aload_n hx hb d_MD_save_141 rfl (lv_at hl 1 rfl) ?_
              refine lv_dup hx hb d_MD_save_142 rfl ?_
              refine g_get B hw fl_MD_123 mw_0 rfl d_MD_save_143 ?_
              refine lv_iconst (v := 1) hx hb d_MD_save_146 (by decide) ?_
              refine lv_iadd hx hb d_MD_save_147 ?_
              rw [← nI_succ rn]
              refine g_put B hw fl_MD_123 ck_MD mw_0 rfl rfl rfl (Nat.le_of_ble_eq_true rfl) d_MD_save_148 (fun H locs (hw : wd D A (mW K q _ _ _ _ _ _ _ _ _ _ _ _ _ _ _ _) s H locs) => ?_)
              refine lv_aload_n hx hb d_MD_save_151 rfl (lv_at hl 1 rfl) ?_
              refine g_get B hw fl_MD_123 mw_0 rfl d_MD_save_152 ?_
              refine lv_iconst (v := 1) hx hb d_MD_save_155 (by decide) ?_
              refine lv_isub hx hb d_MD_save_156 ?_
              rw [nI_pred]
              exact r_i B hw d_MD_save_157 ⟨by unfold saA; rw [onS_s hn]; exact (if_pos h14).symm, by unfold saR saZ saD; rw [onS_s hn, onS_s hn, onS_s hn]; (try dsimp only); rw [if_pos h14, if_pos h14, if_pos h14, ← zN_upd]; exact ⟨_, _, _, _, _, _, _, rfl⟩⟩
            · have hsl : isSL (kd k) = 1 := by unfold isSL; rw [if_neg h81, if_pos h91]
              refine lv_aload_n hx hb d_MD_save_94 rfl (lv_at hl 0 rfl) ?_
              refine lv_aload_n hx hb d_MD_save_95 rfl (lv_at hl 0 rfl) ?_
              refine g_get B hw fl_MD_17 mw_0 rfl d_MD_save_96 ?_
              refine lv_iload_n hx hb d_MD_save_99 rfl (lv_at hl 1 rfl) ?_
              refine g_lald B hw mw_3 (vp_in_nI hk8 (by omega)) d_MD_save_100 ?_
              rw [nI_clamp (by omega)]
              refine k_v (k_runV B hw (c_MD_appendLong h14 (by have := sN3_l hsl; omega)) rfl rfl cf_MD_130 mw_0 rfl rfl ⟨Nat.le_of_ble_eq_true rfl, Nat.le_of_ble_eq_true rfl⟩ rfl hl.1 rfl (Nat.le_of_ble_eq_true rfl) d_MD_save_101 ⟨Nat.le_of_ble_eq_true rfl, Nat.le_of_ble_eq_true rfl⟩) hw (fun w1 H locs hq hw => ?_)
              rw [hq] at hw
              have hw : wd D A (mW K q kd f1 f2 ou nk nf ns hi lo (nI rn) (upd (zN sz) rn (nI (sN3 (kd k)))) (blk sd (6 * rn) (sN3 (kd k)) (sW3 (kd k) (f1 k) (f2 k))) ix mm wt cd) s H locs := by rw [sN3_l hsl, sW3_l hsl]; exact hw
              refine lv_goto (tgt := 118) hx hb d_MD_save_104 rfl ?_
              refine lv_aload_n hx hb d_MD_save_118 rfl (lv_at hl 0 rfl) ?_
              refine lv_aload_n hx hb d_MD_save_119 rfl (lv_at hl 0 rfl) ?_
              refine g_get B hw fl_MD_123 mw_0 rfl d_MD_save_120 ?_
              refine lv_aload_n hx hb d_MD_save_123 rfl (lv_at hl 0 rfl) ?_
              refine g_get B hw fl_MD_20 mw_0 rfl d_MD_save_124 ?_
              refine lv_aload_n hx hb d_MD_save_127 rfl (lv_at hl 0 rfl) ?_
              refine g_get B hw fl_MD_123 mw_0 rfl d_MD_save_128 ?_
              refine g_iald B hw mw_4 (vp_in_nI h14 (by omega)) d_MD_save_131 ?_
              rw [nI_clamp (by omega), pk_us]
              refine k_i (k_runV B hw (c_MD_check h14 (by omega)) rfl rfl cf_MD_134 mw_0 rfl rfl ⟨Nat.le_of_ble_eq_true rfl, Nat.le_of_ble_eq_true rfl⟩ rfl hl.1 rfl (Nat.le_of_ble_eq_true rfl) d_MD_save_132 ⟨Nat.le_of_ble_eq_true rfl, Nat.le_of_ble_eq_true rfl⟩) hw (fun r132 w1 H locs hq hw => ?_)
              have er := hq.1
              have ew := hq.2
              rw [ew] at hw
              rw [er, ckF_blk]
              refine lv_istore_n hx hb d_MD_save_135 rfl hl (by decide) rfl (fun ls (hl : lv_has ls 3 [(2, .int _), (0, .ref _), (1, .int _)]) => ?_)
              refine lv_aload_n hx hb d_MD_save_136 rfl (lv_at hl 1 rfl) ?_
              refine lv_iload_n hx hb d_MD_save_137 rfl (lv_at hl 0 rfl) ?_
              refine k_v (k_runV B hw (c_MD_append h14 (by omega)) rfl rfl cf_MD_126 mw_0 rfl rfl ⟨Nat.le_of_ble_eq_true rfl, Nat.le_of_ble_eq_true rfl⟩ rfl hl.1 rfl (Nat.le_of_ble_eq_true rfl) d_MD_save_138 ⟨Nat.le_of_ble_eq_true rfl, Nat.le_of_ble_eq_true rfl⟩) hw (fun w1 H locs hq hw => ?_)
              rw [hq] at hw
              have hw : wd D A (mW K q kd f1 f2 ou nk nf ns hi lo (nI rn) (upd (zN sz) rn (nI (svN (kd k)))) (blk sd (6 * rn) (svN (kd k)) (svF (kd k) (f1 k) (f2 k))) ix mm wt cd) s H locs := hw
              refine lv_aload_n hx hb d_MD_save_141 rfl (lv_at hl 1 rfl) ?_
              refine lv_dup hx hb d_MD_save_142 rfl ?_
              refine g_get B hw fl_MD_123 mw_0 rfl d_MD_save_143 ?_
              refine lv_iconst (v := 1) hx hb d_MD_save_146 (by decide) ?_
              refine lv_iadd hx hb d_MD_save_147 ?_
              rw [← nI_succ rn]
              refine g_put B hw fl_MD_123 ck_MD mw_0 rfl rfl rfl (Nat.le_of_ble_eq_true rfl) d_MD_save_148 (fun H locs (hw : wd D A (mW K q _ _ _ _ _ _ _ _ _ _ _ _ _ _ _ _) s H locs) => ?_)
              refine lv_aload_n hx hb d_MD_save_151 rfl (lv_at hl 1 rfl) ?_
              refine g_get B hw fl_MD_123 mw_0 rfl d_MD_save_152 ?_
              refine lv_iconst (v := 1) hx hb d_MD_save_155 (by decide) ?_
              refine lv_isub hx hb d_MD_save_156 ?_
              rw [nI_pred]
              exact r_i B hw d_MD_save_157 ⟨by unfold saA; rw [onS_s hn]; exact (if_pos h14).symm, by unfold saR saZ saD; rw [onS_s hn, onS_s hn, onS_s hn]; (try dsimp only); rw [if_pos h14, if_pos h14, if_pos h14, ← zN_upd]; exact ⟨_, _, _, _, _, _, _, rfl⟩⟩
        · refine lv_aload_n hx hb d_MD_save_51 rfl (lv_at hl 0 rfl) ?_
          refine lv_aload_n hx hb d_MD_save_52 rfl (lv_at hl 0 rfl) ?_
          refine g_get B hw fl_MD_13 mw_0 rfl d_MD_save_53 ?_
          refine lv_iload_n hx hb d_MD_save_56 rfl (lv_at hl 1 rfl) ?_
          refine g_lald B hw mw_2 (vp_in_nI hk8 (by omega)) d_MD_save_57 ?_
          rw [nI_clamp (by omega)]
          refine k_v (k_runV B hw (c_MD_appendLong h14 (by omega)) rfl rfl cf_MD_130 mw_0 rfl rfl ⟨Nat.le_of_ble_eq_true rfl, Nat.le_of_ble_eq_true rfl⟩ rfl hl.1 rfl (Nat.le_of_ble_eq_true rfl) d_MD_save_58 ⟨Nat.le_of_ble_eq_true rfl, Nat.le_of_ble_eq_true rfl⟩) hw (fun w1 H locs hq hw => ?_)
          rw [hq] at hw
          have hw : wd D A (mW K q kd f1 f2 ou nk nf ns hi lo (nI rn) (upd (zN sz) rn (nI (sN2 (kd k)))) (blk sd (6 * rn) (sN2 (kd k)) (sW2 (kd k) (f1 k))) ix mm wt cd) s H locs := by rw [sN2_l h48, sW2_l h48]; exact hw
          refine lv_goto (tgt := 75) hx hb d_MD_save_61 rfl ?_
          refine lv_aload_n hx hb d_MD_save_75 rfl (lv_at hl 0 rfl) ?_
          refine g_get B hw fl_MD_7 mw_0 rfl d_MD_save_76 ?_
          refine lv_iload_n hx hb d_MD_save_79 rfl (lv_at hl 1 rfl) ?_
          refine g_iald B hw mw_1 (vp_in_nI hk8 (by omega)) d_MD_save_80 ?_
          rw [nI_clamp (by omega)]
          refine lv_if_eq (tgt := 94) hx hb d_MD_save_81 rfl (fun h81 => ?_) (fun h81 => ?_)
          · have hsl : isSL (kd k) = 1 := if_pos h81
            refine lv_aload_n hx hb d_MD_save_94 rfl (lv_at hl 0 rfl) ?_
            refine lv_aload_n hx hb d_MD_save_95 rfl (lv_at hl 0 rfl) ?_
            refine g_get B hw fl_MD_17 mw_0 rfl d_MD_save_96 ?_
            refine lv_iload_n hx hb d_MD_save_99 rfl (lv_at hl 1 rfl) ?_
            refine g_lald B hw mw_3 (vp_in_nI hk8 (by omega)) d_MD_save_100 ?_
            rw [nI_clamp (by omega)]
            refine k_v (k_runV B hw (c_MD_appendLong h14 (by have := sN3_l hsl; omega)) rfl rfl cf_MD_130 mw_0 rfl rfl ⟨Nat.le_of_ble_eq_true rfl, Nat.le_of_ble_eq_true rfl⟩ rfl hl.1 rfl (Nat.le_of_ble_eq_true rfl) d_MD_save_101 ⟨Nat.le_of_ble_eq_true rfl, Nat.le_of_ble_eq_true rfl⟩) hw (fun w1 H locs hq hw => ?_)
            rw [hq] at hw
            have hw : wd D A (mW K q kd f1 f2 ou nk nf ns hi lo (nI rn) (upd (zN sz) rn (nI (sN3 (kd k)))) (blk sd (6 * rn) (sN3 (kd k)) (sW3 (kd k) (f1 k) (f2 k))) ix mm wt cd) s H locs := by rw [sN3_l hsl, sW3_l hsl]; exact hw
            refine lv_goto (tgt := 118) hx hb d_MD_save_104 rfl ?_
            refine lv_aload_n hx hb d_MD_save_118 rfl (lv_at hl 0 rfl) ?_
            refine lv_aload_n hx hb d_MD_save_119 rfl (lv_at hl 0 rfl) ?_
            refine g_get B hw fl_MD_123 mw_0 rfl d_MD_save_120 ?_
            refine lv_aload_n hx hb d_MD_save_123 rfl (lv_at hl 0 rfl) ?_
            refine g_get B hw fl_MD_20 mw_0 rfl d_MD_save_124 ?_
            refine lv_aload_n hx hb d_MD_save_127 rfl (lv_at hl 0 rfl) ?_
            refine g_get B hw fl_MD_123 mw_0 rfl d_MD_save_128 ?_
            refine g_iald B hw mw_4 (vp_in_nI h14 (by omega)) d_MD_save_131 ?_
            rw [nI_clamp (by omega), pk_us]
            refine k_i (k_runV B hw (c_MD_check h14 (by omega)) rfl rfl cf_MD_134 mw_0 rfl rfl ⟨Nat.le_of_ble_eq_true rfl, Nat.le_of_ble_eq_true rfl⟩ rfl hl.1 rfl (Nat.le_of_ble_eq_true rfl) d_MD_save_132 ⟨Nat.le_of_ble_eq_true rfl, Nat.le_of_ble_eq_true rfl⟩) hw (fun r132 w1 H locs hq hw => ?_)
            have er := hq.1
            have ew := hq.2
            rw [ew] at hw
            rw [er, ckF_blk]
            refine lv_istore_n hx hb d_MD_save_135 rfl hl (by decide) rfl (fun ls (hl : lv_has ls 3 [(2, .int _), (0, .ref _), (1, .int _)]) => ?_)
            refine lv_aload_n hx hb d_MD_save_136 rfl (lv_at hl 1 rfl) ?_
            refine lv_iload_n hx hb d_MD_save_137 rfl (lv_at hl 0 rfl) ?_
            refine k_v (k_runV B hw (c_MD_append h14 (by omega)) rfl rfl cf_MD_126 mw_0 rfl rfl ⟨Nat.le_of_ble_eq_true rfl, Nat.le_of_ble_eq_true rfl⟩ rfl hl.1 rfl (Nat.le_of_ble_eq_true rfl) d_MD_save_138 ⟨Nat.le_of_ble_eq_true rfl, Nat.le_of_ble_eq_true rfl⟩) hw (fun w1 H locs hq hw => ?_)
            rw [hq] at hw
            have hw : wd D A (mW K q kd f1 f2 ou nk nf ns hi lo (nI rn) (upd (zN sz) rn (nI (svN (kd k)))) (blk sd (6 * rn) (svN (kd k)) (svF (kd k) (f1 k) (f2 k))) ix mm wt cd) s H locs := hw
            refine lv_aload_n hx hb d_MD_save_141 rfl (lv_at hl 1 rfl) ?_
            refine lv_dup hx hb d_MD_save_142 rfl ?_
            refine g_get B hw fl_MD_123 mw_0 rfl d_MD_save_143 ?_
            refine lv_iconst (v := 1) hx hb d_MD_save_146 (by decide) ?_
            refine lv_iadd hx hb d_MD_save_147 ?_
            rw [← nI_succ rn]
            refine g_put B hw fl_MD_123 ck_MD mw_0 rfl rfl rfl (Nat.le_of_ble_eq_true rfl) d_MD_save_148 (fun H locs (hw : wd D A (mW K q _ _ _ _ _ _ _ _ _ _ _ _ _ _ _ _) s H locs) => ?_)
            refine lv_aload_n hx hb d_MD_save_151 rfl (lv_at hl 1 rfl) ?_
            refine g_get B hw fl_MD_123 mw_0 rfl d_MD_save_152 ?_
            refine lv_iconst (v := 1) hx hb d_MD_save_155 (by decide) ?_
            refine lv_isub hx hb d_MD_save_156 ?_
            rw [nI_pred]
            exact r_i B hw d_MD_save_157 ⟨by unfold saA; rw [onS_s hn]; exact (if_pos h14).symm, by unfold saR saZ saD; rw [onS_s hn, onS_s hn, onS_s hn]; (try dsimp only); rw [if_pos h14, if_pos h14, if_pos h14, ← zN_upd]; exact ⟨_, _, _, _, _, _, _, rfl⟩⟩
          · refine lv_aload_n hx hb d_MD_save_84 rfl (lv_at hl 0 rfl) ?_
            refine g_get B hw fl_MD_7 mw_0 rfl d_MD_save_85 ?_
            refine lv_iload_n hx hb d_MD_save_88 rfl (lv_at hl 1 rfl) ?_
            refine g_iald B hw mw_1 (vp_in_nI hk8 (by omega)) d_MD_save_89 ?_
            rw [nI_clamp (by omega)]
            refine lv_iconst (v := 2) hx hb d_MD_save_90 (by decide) ?_
            refine lv_icmp_ne (tgt := 107) hx hb d_MD_save_91 rfl (fun h91 => ?_) (fun h91 => ?_)
            · have hsl : isSL (kd k) = 0 := by unfold isSL; rw [if_neg h81, if_neg h91]
              refine lv_aload_n hx hb d_MD_save_107 rfl (lv_at hl 0 rfl) ?_
              refine lv_aload_n hx hb d_MD_save_108 rfl (lv_at hl 0 rfl) ?_
              refine g_get B hw fl_MD_17 mw_0 rfl d_MD_save_109 ?_
              refine lv_iload_n hx hb d_MD_save_112 rfl (lv_at hl 1 rfl) ?_
              refine g_lald B hw mw_3 (vp_in_nI hk8 (by omega)) d_MD_save_113 ?_
              rw [nI_clamp (by omega)]
              refine lv_l2i hx hb d_MD_save_114 rfl ?_
              refine k_v (k_runV B hw (c_MD_append h14 (by omega)) rfl rfl cf_MD_126 mw_0 rfl rfl ⟨Nat.le_of_ble_eq_true rfl, Nat.le_of_ble_eq_true rfl⟩ rfl hl.1 rfl (Nat.le_of_ble_eq_true rfl) d_MD_save_115 ⟨Nat.le_of_ble_eq_true rfl, Nat.le_of_ble_eq_true rfl⟩) hw (fun w1 H locs hq hw => ?_)
              rw [hq] at hw
              have hw : wd D A (mW K q kd f1 f2 ou nk nf ns hi lo (nI rn) (upd (zN sz) rn (nI (sN3 (kd k)))) (blk sd (6 * rn) (sN3 (kd k)) (sW3 (kd k) (f1 k) (f2 k))) ix mm wt cd) s H locs := by rw [sN3_s hsl, sW3_s hsl]; exact hw
              refine lv_aload_n hx hb d_MD_save_118 rfl (lv_at hl 0 rfl) ?_
              refine lv_aload_n hx hb d_MD_save_119 rfl (lv_at hl 0 rfl) ?_
              refine g_get B hw fl_MD_123 mw_0 rfl d_MD_save_120 ?_
              refine lv_aload_n hx hb d_MD_save_123 rfl (lv_at hl 0 rfl) ?_
              refine g_get B hw fl_MD_20 mw_0 rfl d_MD_save_124 ?_
              refine lv_aload_n hx hb d_MD_save_127 rfl (lv_at hl 0 rfl) ?_
              refine g_get B hw fl_MD_123 mw_0 rfl d_MD_save_128 ?_
              refine g_iald B hw mw_4 (vp_in_nI h14 (by omega)) d_MD_save_131 ?_
              rw [nI_clamp (by omega), pk_us]
              refine k_i (k_runV B hw (c_MD_check h14 (by omega)) rfl rfl cf_MD_134 mw_0 rfl rfl ⟨Nat.le_of_ble_eq_true rfl, Nat.le_of_ble_eq_true rfl⟩ rfl hl.1 rfl (Nat.le_of_ble_eq_true rfl) d_MD_save_132 ⟨Nat.le_of_ble_eq_true rfl, Nat.le_of_ble_eq_true rfl⟩) hw (fun r132 w1 H locs hq hw => ?_)
              have er := hq.1
              have ew := hq.2
              rw [ew] at hw
              rw [er, ckF_blk]
              refine lv_istore_n hx hb d_MD_save_135 rfl hl (by decide) rfl (fun ls (hl : lv_has ls 3 [(2, .int _), (0, .ref _), (1, .int _)]) => ?_)
              refine lv_aload_n hx hb d_MD_save_136 rfl (lv_at hl 1 rfl) ?_
              refine lv_iload_n hx hb d_MD_save_137 rfl (lv_at hl 0 rfl) ?_
              refine k_v (k_runV B hw (c_MD_append h14 (by omega)) rfl rfl cf_MD_126 mw_0 rfl rfl ⟨Nat.le_of_ble_eq_true rfl, Nat.le_of_ble_eq_true rfl⟩ rfl hl.1 rfl (Nat.le_of_ble_eq_true rfl) d_MD_save_138 ⟨Nat.le_of_ble_eq_true rfl, Nat.le_of_ble_eq_true rfl⟩) hw (fun w1 H locs hq hw => ?_)
              rw [hq] at hw
              have hw : wd D A (mW K q kd f1 f2 ou nk nf ns hi lo (nI rn) (upd (zN sz) rn (nI (svN (kd k)))) (blk sd (6 * rn) (svN (kd k)) (svF (kd k) (f1 k) (f2 k))) ix mm wt cd) s H locs := hw
              refine lv_aload_n hx hb d_MD_save_141 rfl (lv_at hl 1 rfl) ?_
              refine lv_dup hx hb d_MD_save_142 rfl ?_
              refine g_get B hw fl_MD_123 mw_0 rfl d_MD_save_143 ?_
              refine lv_iconst (v := 1) hx hb d_MD_save_146 (by decide) ?_
              refine lv_iadd hx hb d_MD_save_147 ?_
              rw [← nI_succ rn]
              refine g_put B hw fl_MD_123 ck_MD mw_0 rfl rfl rfl (Nat.le_of_ble_eq_true rfl) d_MD_save_148 (fun H locs (hw : wd D A (mW K q _ _ _ _ _ _ _ _ _ _ _ _ _ _ _ _) s H locs) => ?_)
              refine lv_aload_n hx hb d_MD_save_151 rfl (lv_at hl 1 rfl) ?_
              refine g_get B hw fl_MD_123 mw_0 rfl d_MD_save_152 ?_
              refine lv_iconst (v := 1) hx hb d_MD_save_155 (by decide) ?_
              refine lv_isub hx hb d_MD_save_156 ?_
              rw [nI_pred]
              exact r_i B hw d_MD_save_157 ⟨by unfold saA; rw [onS_s hn]; exact (if_pos h14).symm, by unfold saR saZ saD; rw [onS_s hn, onS_s hn, onS_s hn]; (try dsimp only); rw [if_pos h14, if_pos h14, if_pos h14, ← zN_upd]; exact ⟨_, _, _, _, _, _, _, rfl⟩⟩
            · have hsl : isSL (kd k) = 1 := by unfold isSL; rw [if_neg h81, if_pos h91]
              refine lv_aload_n hx hb d_MD_save_94 rfl (lv_at hl 0 rfl) ?_
              refine lv_aload_n hx hb d_MD_save_95 rfl (lv_at hl 0 rfl) ?_
              refine g_get B hw fl_MD_17 mw_0 rfl d_MD_save_96 ?_
              refine lv_iload_n hx hb d_MD_save_99 rfl (lv_at hl 1 rfl) ?_
              refine g_lald B hw mw_3 (vp_in_nI hk8 (by omega)) d_MD_save_100 ?_
              rw [nI_clamp (by omega)]
              refine k_v (k_runV B hw (c_MD_appendLong h14 (by have := sN3_l hsl; omega)) rfl rfl cf_MD_130 mw_0 rfl rfl ⟨Nat.le_of_ble_eq_true rfl, Nat.le_of_ble_eq_true rfl⟩ rfl hl.1 rfl (Nat.le_of_ble_eq_true rfl) d_MD_save_101 ⟨Nat.le_of_ble_eq_true rfl, Nat.le_of_ble_eq_true rfl⟩) hw (fun w1 H locs hq hw => ?_)
              rw [hq] at hw
              have hw : wd D A (mW K q kd f1 f2 ou nk nf ns hi lo (nI rn) (upd (zN sz) rn (nI (sN3 (kd k)))) (blk sd (6 * rn) (sN3 (kd k)) (sW3 (kd k) (f1 k) (f2 k))) ix mm wt cd) s H locs := by rw [sN3_l hsl, sW3_l hsl]; exact hw
              refine lv_goto (tgt := 118) hx hb d_MD_save_104 rfl ?_
              refine lv_aload_n hx hb d_MD_save_118 rfl (lv_at hl 0 rfl) ?_
              refine lv_aload_n hx hb d_MD_save_119 rfl (lv_at hl 0 rfl) ?_
              refine g_get B hw fl_MD_123 mw_0 rfl d_MD_save_120 ?_
              refine lv_aload_n hx hb d_MD_save_123 rfl (lv_at hl 0 rfl) ?_
              refine g_get B hw fl_MD_20 mw_0 rfl d_MD_save_124 ?_
              refine lv_aload_n hx hb d_MD_save_127 rfl (lv_at hl 0 rfl) ?_
              refine g_get B hw fl_MD_123 mw_0 rfl d_MD_save_128 ?_
              refine g_iald B hw mw_4 (vp_in_nI h14 (by omega)) d_MD_save_131 ?_
              rw [nI_clamp (by omega), pk_us]
              refine k_i (k_runV B hw (c_MD_check h14 (by omega)) rfl rfl cf_MD_134 mw_0 rfl rfl ⟨Nat.le_of_ble_eq_true rfl, Nat.le_of_ble_eq_true rfl⟩ rfl hl.1 rfl (Nat.le_of_ble_eq_true rfl) d_MD_save_132 ⟨Nat.le_of_ble_eq_true rfl, Nat.le_of_ble_eq_true rfl⟩) hw (fun r132 w1 H locs hq hw => ?_)
              have er := hq.1
              have ew := hq.2
              rw [ew] at hw
              rw [er, ckF_blk]
              refine lv_istore_n hx hb d_MD_save_135 rfl hl (by decide) rfl (fun ls (hl : lv_has ls 3 [(2, .int _), (0, .ref _), (1, .int _)]) => ?_)
              refine lv_aload_n hx hb d_MD_save_136 rfl (lv_at hl 1 rfl) ?_
              refine lv_iload_n hx hb d_MD_save_137 rfl (lv_at hl 0 rfl) ?_
              refine k_v (k_runV B hw (c_MD_append h14 (by omega)) rfl rfl cf_MD_126 mw_0 rfl rfl ⟨Nat.le_of_ble_eq_true rfl, Nat.le_of_ble_eq_true rfl⟩ rfl hl.1 rfl (Nat.le_of_ble_eq_true rfl) d_MD_save_138 ⟨Nat.le_of_ble_eq_true rfl, Nat.le_of_ble_eq_true rfl⟩) hw (fun w1 H locs hq hw => ?_)
              rw [hq] at hw
              have hw : wd D A (mW K q kd f1 f2 ou nk nf ns hi lo (nI rn) (upd (zN sz) rn (nI (svN (kd k)))) (blk sd (6 * rn) (svN (kd k)) (svF (kd k) (f1 k) (f2 k))) ix mm wt cd) s H locs := hw
              refine lv_aload_n hx hb d_MD_save_141 rfl (lv_at hl 1 rfl) ?_
              refine lv_dup hx hb d_MD_save_142 rfl ?_
              refine g_get B hw fl_MD_123 mw_0 rfl d_MD_save_143 ?_
              refine lv_iconst (v := 1) hx hb d_MD_save_146 (by decide) ?_
              refine lv_iadd hx hb d_MD_save_147 ?_
              rw [← nI_succ rn]
              refine g_put B hw fl_MD_123 ck_MD mw_0 rfl rfl rfl (Nat.le_of_ble_eq_true rfl) d_MD_save_148 (fun H locs (hw : wd D A (mW K q _ _ _ _ _ _ _ _ _ _ _ _ _ _ _ _) s H locs) => ?_)
              refine lv_aload_n hx hb d_MD_save_151 rfl (lv_at hl 1 rfl) ?_
              refine g_get B hw fl_MD_123 mw_0 rfl d_MD_save_152 ?_
              refine lv_iconst (v := 1) hx hb d_MD_save_155 (by decide) ?_
              refine lv_isub hx hb d_MD_save_156 ?_
              rw [nI_pred]
              exact r_i B hw d_MD_save_157 ⟨by unfold saA; rw [onS_s hn]; exact (if_pos h14).symm, by unfold saR saZ saD; rw [onS_s hn, onS_s hn, onS_s hn]; (try dsimp only); rw [if_pos h14, if_pos h14, if_pos h14, ← zN_upd]; exact ⟨_, _, _, _, _, _, _, rfl⟩⟩
      · have h14 : ¬ rn < 6 := by have := (nI_eq (b := 6) (by omega) (by omega)).mp h14; omega
        refine lv_iconst (v := (-1)) hx hb d_MD_save_17 (by decide) ?_
        exact r_i B hw d_MD_save_18 ⟨by unfold saA; rw [onS_s hn]; exact (if_neg h14).symm, by unfold saR saZ saD; rw [onS_s hn, onS_s hn, onS_s hn]; (try dsimp only); rw [if_neg h14, if_neg h14, if_neg h14]; exact ⟨_, _, _, _, _, _, _, rfl⟩⟩
set_option maxRecDepth 100000 in
set_option maxHeartbeats 4000000 in
theorem c_MD_isWord {l : Launch} {D : va_G} {K : Nat → ClassId} {A : Nat → Prop} {q : Nat → Nat} {kd : Nat → Int32} {f1 f2 : Nat → Int64} {ou nk : Int32} {nf ns hi lo : Int64} {rn : Nat} {sd : Nat → Int32} {ix : Int32} {mm wt cd : Nat → Int32} {sz : Nat → Nat} (h6 : rn ≤ 6) (hs : ∀ r, r < rn → sz r ≤ 6) {x y : Int32} : ctI l y_MD_isWord prog_6_method_24_code 3 (some .boolean) 0 0 0 [.ref (q 0), .int x, .int y] D K A ((mW K q kd f1 f2 ou nk nf ns hi lo (nI rn) (zN sz) sd ix mm wt cd)) (fun r w => r = bI (hwB rn sz x y) ∧ w = (mW K q kd f1 f2 ou nk nf ns hi lo (nI rn) (zN sz) sd ix mm wt cd)) := by
  refine mt_of (by decide) (Nat.le_of_ble_eq_true rfl) ?_
  intro p e s m below meth c ls B hw hl
  have hx := B.1
  have hb := B.2.1
  have hl : lv_has ls 3 [(0, .ref (q 0)), (1, .int x), (2, .int y)] := hl
  refine lv_iload_n hx hb d_MD_isWord_0 rfl (lv_at hl 1 rfl) ?_
  refine lv_if_lt (tgt := 30) hx hb d_MD_isWord_1 rfl (fun h1 => ?_) (fun h1 => ?_)
  · have ez : hwB rn sz x y = false := hw_none (if_pos h1)
    refine lv_iconst (v := 0) hx hb d_MD_isWord_30 (by decide) ?_
    exact r_z B hw (by decide) d_MD_isWord_31 ⟨by rw [ez]; rfl, rfl⟩
  · refine lv_iload_n hx hb d_MD_isWord_4 rfl (lv_at hl 1 rfl) ?_
    refine lv_aload_n hx hb d_MD_isWord_5 rfl (lv_at hl 0 rfl) ?_
    refine g_get B hw fl_MD_123 mw_0 rfl d_MD_isWord_6 ?_
    refine lv_icmp_ge (tgt := 30) hx hb d_MD_isWord_9 rfl (fun h9 => ?_) (fun h9 => ?_)
    · have ez : hwB rn sz x y = false := hw_none (by unfold rcS; rw [if_neg h1, if_neg (Int32.not_lt.mpr h9)])
      refine lv_iconst (v := 0) hx hb d_MD_isWord_30 (by decide) ?_
      exact r_z B hw (by decide) d_MD_isWord_31 ⟨by rw [ez]; rfl, rfl⟩
    · obtain ⟨r, hr, rfl⟩ := slot_of h1 (by omega) (Int32.not_le.mp h9)
      have hn : rcS rn (nI r) = some r := by unfold rcS; rw [if_neg h1, if_pos (Int32.not_le.mp h9), nI_clamp (by omega)]
      have ez : hwB rn sz (nI r) y = (if y < 0 then false else if nI (sz r) ≤ y then false else true) := by unfold hwB; rw [hn]
      refine lv_iload_n hx hb d_MD_isWord_12 rfl (lv_at hl 2 rfl) ?_
      refine lv_if_lt (tgt := 30) hx hb d_MD_isWord_13 rfl (fun h13 => ?_) (fun h13 => ?_)
      · rw [if_pos h13] at ez
        refine lv_iconst (v := 0) hx hb d_MD_isWord_30 (by decide) ?_
        exact r_z B hw (by decide) d_MD_isWord_31 ⟨by rw [ez]; rfl, rfl⟩
      · rw [if_neg h13] at ez
        refine lv_iload_n hx hb d_MD_isWord_16 rfl (lv_at hl 2 rfl) ?_
        refine lv_aload_n hx hb d_MD_isWord_17 rfl (lv_at hl 0 rfl) ?_
        refine g_get B hw fl_MD_20 mw_0 rfl d_MD_isWord_18 ?_
        refine lv_iload_n hx hb d_MD_isWord_21 rfl (lv_at hl 1 rfl) ?_
        refine g_iald B hw mw_4 (vp_in_nI (by omega) (by omega)) d_MD_isWord_22 ?_
        rw [nI_clamp (by omega), show zN sz r = nI (sz r) from rfl]
        refine lv_icmp_ge (tgt := 30) hx hb d_MD_isWord_23 rfl (fun h23 => ?_) (fun h23 => ?_)
        · rw [if_pos h23] at ez
          refine lv_iconst (v := 0) hx hb d_MD_isWord_30 (by decide) ?_
          exact r_z B hw (by decide) d_MD_isWord_31 ⟨by rw [ez]; rfl, rfl⟩
        · rw [if_neg h23] at ez
          refine lv_iconst (v := 1) hx hb d_MD_isWord_26 (by decide) ?_
          refine lv_goto (tgt := 31) hx hb d_MD_isWord_27 rfl ?_
          exact r_z B hw (by decide) d_MD_isWord_31 ⟨by rw [ez]; rfl, rfl⟩
set_option maxRecDepth 100000 in
set_option maxHeartbeats 4000000 in
theorem c_MD_length {l : Launch} {D : va_G} {K : Nat → ClassId} {A : Nat → Prop} {q : Nat → Nat} {kd : Nat → Int32} {f1 f2 : Nat → Int64} {ou nk : Int32} {nf ns hi lo : Int64} {rn : Nat} {sd : Nat → Int32} {ix : Int32} {mm wt cd : Nat → Int32} {sz : Nat → Nat} (h6 : rn ≤ 6) {x : Int32} : ctI l y_MD_length prog_6_method_25_code 2 (some .int) 0 0 0 [.ref (q 0), .int x] D K A ((mW K q kd f1 f2 ou nk nf ns hi lo (nI rn) (zN sz) sd ix mm wt cd)) (fun r w => r = lnA rn sz x ∧ w = (mW K q kd f1 f2 ou nk nf ns hi lo (nI rn) (zN sz) sd ix mm wt cd)) := by
  refine mt_of (by decide) (Nat.le_of_ble_eq_true rfl) ?_
  intro p e s m below meth c ls B hw hl
  have hx := B.1
  have hb := B.2.1
  have hl : lv_has ls 2 [(0, .ref (q 0)), (1, .int x)] := hl
  refine lv_iload_n hx hb d_MD_length_0 rfl (lv_at hl 1 rfl) ?_
  refine lv_if_lt (tgt := 12) hx hb d_MD_length_1 rfl (fun h1 => ?_) (fun h1 => ?_)
  · have hn : rcS rn x = none := if_pos h1
    refine lv_iconst (v := (-1)) hx hb d_MD_length_12 (by decide) ?_
    refine lv_goto (tgt := 22) hx hb d_MD_length_13 rfl ?_
    exact r_i B hw d_MD_length_22 ⟨by unfold lnA; rw [hn], rfl⟩
  · refine lv_iload_n hx hb d_MD_length_4 rfl (lv_at hl 1 rfl) ?_
    refine lv_aload_n hx hb d_MD_length_5 rfl (lv_at hl 0 rfl) ?_
    refine g_get B hw fl_MD_123 mw_0 rfl d_MD_length_6 ?_
    refine lv_icmp_lt (tgt := 16) hx hb d_MD_length_9 rfl (fun h9 => ?_) (fun h9 => ?_)
    · obtain ⟨r, hr, rfl⟩ := slot_of h1 (by omega) h9
      have hn : rcS rn (nI r) = some r := by unfold rcS; rw [if_neg h1, if_pos h9, nI_clamp (by omega)]
      refine lv_aload_n hx hb d_MD_length_16 rfl (lv_at hl 0 rfl) ?_
      refine g_get B hw fl_MD_20 mw_0 rfl d_MD_length_17 ?_
      refine lv_iload_n hx hb d_MD_length_20 rfl (lv_at hl 1 rfl) ?_
      refine g_iald B hw mw_4 (vp_in_nI (by omega) (by omega)) d_MD_length_21 ?_
      rw [nI_clamp (by omega), show zN sz r = nI (sz r) from rfl]
      exact r_i B hw d_MD_length_22 ⟨by unfold lnA; rw [hn], rfl⟩
    · have hn : rcS rn x = none := by unfold rcS; rw [if_neg h1, if_neg h9]
      refine lv_iconst (v := (-1)) hx hb d_MD_length_12 (by decide) ?_
      refine lv_goto (tgt := 22) hx hb d_MD_length_13 rfl ?_
      exact r_i B hw d_MD_length_22 ⟨by unfold lnA; rw [hn], rfl⟩
set_option maxRecDepth 100000 in
set_option maxHeartbeats 4000000 in
theorem c_MD_word {l : Launch} {D : va_G} {K : Nat → ClassId} {A : Nat → Prop} {q : Nat → Nat} {kd : Nat → Int32} {f1 f2 : Nat → Int64} {ou nk : Int32} {nf ns hi lo : Int64} {rn : Nat} {sd : Nat → Int32} {ix : Int32} {mm wt cd : Nat → Int32} {sz : Nat → Nat} (h6 : rn ≤ 6) (hs : ∀ r, r < rn → sz r ≤ 6) {x y : Int32} : ctI l y_MD_word prog_6_method_26_code 3 (some .int) 1 0 0 [.ref (q 0), .int x, .int y] D K A ((mW K q kd f1 f2 ou nk nf ns hi lo (nI rn) (zN sz) sd ix mm wt cd)) (fun r w => r = wdA rn sz sd x y ∧ w = (mW K q kd f1 f2 ou nk nf ns hi lo (nI rn) (zN sz) sd ix mm wt cd)) := by
  refine mt_of (by decide) (Nat.le_of_ble_eq_true rfl) ?_
  intro p e s m below meth c ls B hw hl
  have hx := B.1
  have hb := B.2.1
  have hl : lv_has ls 3 [(0, .ref (q 0)), (1, .int x), (2, .int y)] := hl
  refine lv_aload_n hx hb d_MD_word_0 rfl (lv_at hl 0 rfl) ?_
  refine lv_iload_n hx hb d_MD_word_1 rfl (lv_at hl 1 rfl) ?_
  refine lv_iload_n hx hb d_MD_word_2 rfl (lv_at hl 2 rfl) ?_
  refine k_i (k_runV B hw (c_MD_isWord h6 hs) rfl rfl cf_MD_137 mw_0 rfl rfl ⟨Nat.le_of_ble_eq_true rfl, Nat.le_of_ble_eq_true rfl⟩ rfl hl.1 rfl (Nat.le_of_ble_eq_true rfl) d_MD_word_3 ⟨Nat.le_of_ble_eq_true rfl, Nat.le_of_ble_eq_true rfl⟩) hw (fun r3 w1 H locs hq hw => ?_)
  obtain ⟨rfl, ew⟩ := hq
  rw [ew] at hw
  rcases mhw_case h6 hs x y with hb2 | ⟨hb2, r, t, hr, ht, rfl, rfl, hn⟩
  · rw [hb2, show bI false = 0 from rfl]
    refine lv_if_eq (tgt := 23) hx hb d_MD_word_6 rfl (fun b6 => ?_) (fun b6 => ?_)
    · refine lv_iconst (v := 0) hx hb d_MD_word_23 (by decide) ?_
      exact r_i B hw d_MD_word_24 ⟨by unfold wdA; rw [hb2]; rfl, rfl⟩
    · exact absurd rfl b6
  · rw [hb2, show bI true = 1 from rfl]
    have hs6 := hs r hr
    refine lv_if_eq (tgt := 23) hx hb d_MD_word_6 rfl (fun b6 => ?_) (fun b6 => ?_)
    · exact absurd b6 (by decide)
    · refine lv_aload_n hx hb d_MD_word_9 rfl (lv_at hl 0 rfl) ?_
      refine g_get B hw fl_MD_23 mw_0 rfl d_MD_word_10 ?_
      refine lv_bipush (v := 6) hx hb d_MD_word_13 (by decide) ?_
      refine lv_iload_n hx hb d_MD_word_15 rfl (lv_at hl 1 rfl) ?_
      refine lv_imul hx hb d_MD_word_16 ?_
      rw [show (6 : Int32) * nI r = nI (6 * r) from pk_mul 6 r]
      refine lv_iload_n hx hb d_MD_word_17 rfl (lv_at hl 2 rfl) ?_
      refine lv_iadd hx hb d_MD_word_18 ?_
      rw [nI_add]
      refine g_iald B hw mw_5 (vp_in_nI (by omega) (by omega)) d_MD_word_19 ?_
      rw [nI_clamp (by omega)]
      refine lv_goto (tgt := 24) hx hb d_MD_word_20 rfl ?_
      exact r_i B hw d_MD_word_24 ⟨by unfold wdA; rw [hb2, if_pos rfl, nI_clamp (by omega), nI_clamp (by omega)], rfl⟩
set_option maxRecDepth 100000 in
set_option maxHeartbeats 4000000 in
theorem c_MD_spoil {l : Launch} {D : va_G} {K : Nat → ClassId} {A : Nat → Prop} {q : Nat → Nat} {kd : Nat → Int32} {f1 f2 : Nat → Int64} {ou nk : Int32} {nf ns hi lo : Int64} {rn : Nat} {sd : Nat → Int32} {ix : Int32} {mm wt cd : Nat → Int32} {sz : Nat → Nat} (h6 : rn ≤ 6) (hs : ∀ r, r < rn → sz r ≤ 6) {x y mk : Int32} : ctI l y_MD_spoil prog_6_method_27_code 4 (some .boolean) 1 0 0 [.ref (q 0), .int x, .int y, .int mk] D K A ((mW K q kd f1 f2 ou nk nf ns hi lo (nI rn) (zN sz) sd ix mm wt cd)) (fun r w => r = bI (hwB rn sz x y) ∧ MR K q kd f1 f2 (nI rn) (zN sz) (spD rn sz sd x y mk) ix wt cd w) := by
  refine mt_of (by decide) (Nat.le_of_ble_eq_true rfl) ?_
  intro p e s m below meth c ls B hw hl
  have hx := B.1
  have hb := B.2.1
  have hl : lv_has ls 4 [(0, .ref (q 0)), (1, .int x), (2, .int y), (3, .int mk)] := hl
  refine lv_aload_n hx hb d_MD_spoil_0 rfl (lv_at hl 0 rfl) ?_
  refine lv_iload_n hx hb d_MD_spoil_1 rfl (lv_at hl 1 rfl) ?_
  refine lv_iload_n hx hb d_MD_spoil_2 rfl (lv_at hl 2 rfl) ?_
  refine k_i (k_runV B hw (c_MD_isWord h6 hs) rfl rfl cf_MD_137 mw_0 rfl rfl ⟨Nat.le_of_ble_eq_true rfl, Nat.le_of_ble_eq_true rfl⟩ rfl hl.1 rfl (Nat.le_of_ble_eq_true rfl) d_MD_spoil_3 ⟨Nat.le_of_ble_eq_true rfl, Nat.le_of_ble_eq_true rfl⟩) hw (fun r3 w1 H locs hq hw => ?_)
  obtain ⟨rfl, ew⟩ := hq
  rw [ew] at hw
  rcases mhw_case h6 hs x y with hb2 | ⟨hb2, r, t, hr, ht, rfl, rfl, hn⟩
  · rw [hb2, show bI false = 0 from rfl]
    refine lv_if_ne (tgt := 11) hx hb d_MD_spoil_6 rfl (fun b6 => ?_) (fun b6 => ?_)
    · exact absurd rfl b6
    · refine lv_iconst (v := 0) hx hb d_MD_spoil_9 (by decide) ?_
      exact r_z B hw (by decide) d_MD_spoil_10 ⟨by rfl, by unfold spD; rw [hb2]; exact ⟨_, _, _, _, _, _, _, rfl⟩⟩
  · rw [hb2, show bI true = 1 from rfl]
    have hs6 := hs r hr
    refine lv_if_ne (tgt := 11) hx hb d_MD_spoil_6 rfl (fun b6 => ?_) (fun b6 => ?_)
    · refine lv_aload_n hx hb d_MD_spoil_11 rfl (lv_at hl 0 rfl) ?_
      refine g_get B hw fl_MD_23 mw_0 rfl d_MD_spoil_12 ?_
      refine lv_bipush (v := 6) hx hb d_MD_spoil_15 (by decide) ?_
      refine lv_iload_n hx hb d_MD_spoil_17 rfl (lv_at hl 1 rfl) ?_
      refine lv_imul hx hb d_MD_spoil_18 ?_
      rw [show (6 : Int32) * nI r = nI (6 * r) from pk_mul 6 r]
      refine lv_iload_n hx hb d_MD_spoil_19 rfl (lv_at hl 2 rfl) ?_
      refine lv_iadd hx hb d_MD_spoil_20 ?_
      rw [nI_add]
      refine lv_aload_n hx hb d_MD_spoil_21 rfl (lv_at hl 0 rfl) ?_
      refine g_get B hw fl_MD_23 mw_0 rfl d_MD_spoil_22 ?_
      refine lv_bipush (v := 6) hx hb d_MD_spoil_25 (by decide) ?_
      refine lv_iload_n hx hb d_MD_spoil_27 rfl (lv_at hl 1 rfl) ?_
      refine lv_imul hx hb d_MD_spoil_28 ?_
      rw [show (6 : Int32) * nI r = nI (6 * r) from pk_mul 6 r]
      refine lv_iload_n hx hb d_MD_spoil_29 rfl (lv_at hl 2 rfl) ?_
      refine lv_iadd hx hb d_MD_spoil_30 ?_
      rw [nI_add]
      refine g_iald B hw mw_5 (vp_in_nI (by omega) (by omega)) d_MD_spoil_31 ?_
      rw [nI_clamp (by omega)]
      refine lv_iload_n hx hb d_MD_spoil_32 rfl (lv_at hl 3 rfl) ?_
      refine lv_ixor hx hb d_MD_spoil_33 ?_
      refine g_iast B hw mw_5 (vp_in_nI (by omega) (by omega)) d_MD_spoil_34 (fun H locs (hw : wd D A (mW K q _ _ _ _ _ _ _ _ _ _ _ _ _ _ _ _) s H locs) => ?_)
      rw [nI_clamp (by omega)] at hw
      refine lv_iconst (v := 1) hx hb d_MD_spoil_35 (by decide) ?_
      exact r_z B hw (by decide) d_MD_spoil_36 ⟨by rfl, by unfold spD; rw [hb2, if_pos rfl, nI_clamp (by omega), nI_clamp (by omega)]; exact ⟨_, _, _, _, _, _, _, rfl⟩⟩
    · exact absurd b6 (by decide)
set_option maxRecDepth 100000 in
set_option maxHeartbeats 4000000 in
theorem c_MD_cut {l : Launch} {D : va_G} {K : Nat → ClassId} {A : Nat → Prop} {q : Nat → Nat} {kd : Nat → Int32} {f1 f2 : Nat → Int64} {ou nk : Int32} {nf ns hi lo : Int64} {rn : Nat} {sd : Nat → Int32} {ix : Int32} {mm wt cd : Nat → Int32} {sz : Nat → Nat} (h6 : rn ≤ 6) (hs : ∀ r, r < rn → sz r ≤ 6) {x : Int32} : ctI l y_MD_cut prog_6_method_28_code 2 (some .boolean) 1 0 0 [.ref (q 0), .int x] D K A ((mW K q kd f1 f2 ou nk nf ns hi lo (nI rn) (zN sz) sd ix mm wt cd)) (fun r w => r = ctA rn sz x ∧ MR K q kd f1 f2 (nI rn) (zN (ctZ rn sz x)) sd ix wt cd w) := by
  refine mt_of (by decide) (Nat.le_of_ble_eq_true rfl) ?_
  intro p e s m below meth c ls B hw hl
  have hx := B.1
  have hb := B.2.1
  have hl : lv_has ls 2 [(0, .ref (q 0)), (1, .int x)] := hl
  refine lv_aload_n hx hb d_MD_cut_0 rfl (lv_at hl 0 rfl) ?_
  refine lv_iload_n hx hb d_MD_cut_1 rfl (lv_at hl 1 rfl) ?_
  refine lv_iconst (v := 0) hx hb d_MD_cut_2 (by decide) ?_
  refine k_i (k_runV B hw (c_MD_isWord h6 hs) rfl rfl cf_MD_137 mw_0 rfl rfl ⟨Nat.le_of_ble_eq_true rfl, Nat.le_of_ble_eq_true rfl⟩ rfl hl.1 rfl (Nat.le_of_ble_eq_true rfl) d_MD_cut_3 ⟨Nat.le_of_ble_eq_true rfl, Nat.le_of_ble_eq_true rfl⟩) hw (fun r3 w1 H locs hq hw => ?_)
  obtain ⟨rfl, ew⟩ := hq
  rw [ew] at hw
  rcases mhw_case h6 hs x 0 with hb2 | ⟨hb2, r, t, hr, ht, rfl, ht0, hn⟩
  · rw [hb2, show bI false = 0 from rfl]
    refine lv_if_ne (tgt := 11) hx hb d_MD_cut_6 rfl (fun b6 => ?_) (fun b6 => ?_)
    · exact absurd rfl b6
    · have hct : ctA rn sz x = 0 ∧ ctZ rn sz x = sz := by
        rcases mrc_case h6 x with ⟨hn, -⟩ | ⟨r, hr, rfl, hn⟩
        · exact ⟨by unfold ctA; rw [onR_n hn], by unfold ctZ; rw [onR_n hn]⟩
        · have hz0 : sz r = 0 := by
            rcases hw_case (y := 0) hn (hs r hr) with ⟨hc, -⟩ | ⟨-, h, -⟩
            · rw [if_neg (by decide)] at hc
              apply Nat.eq_zero_of_not_pos
              intro z
              rw [if_neg (fun y => by rw [show (0 : Int32) = nI 0 from rfl, nI_leI (by have := hs r hr; omega) (by omega)] at y; omega)] at hc
              exact absurd hc (by decide)
            · rw [hb2] at h; cases h
          exact ⟨by unfold ctA; rw [onR_s hn]; exact if_pos hz0, by unfold ctZ; rw [onR_s hn]; exact if_pos hz0⟩
      refine lv_iconst (v := 0) hx hb d_MD_cut_9 (by decide) ?_
      exact r_z B hw (by decide) d_MD_cut_10 ⟨hct.1.symm, by rw [hct.2]; exact ⟨_, _, _, _, _, _, _, rfl⟩⟩
  · rw [hb2, show bI true = 1 from rfl]
    have hs6 := hs r hr
    refine lv_if_ne (tgt := 11) hx hb d_MD_cut_6 rfl (fun b6 => ?_) (fun b6 => ?_)
    · refine lv_aload_n hx hb d_MD_cut_11 rfl (lv_at hl 0 rfl) ?_
      refine g_get B hw fl_MD_20 mw_0 rfl d_MD_cut_12 ?_
      refine lv_iload_n hx hb d_MD_cut_15 rfl (lv_at hl 1 rfl) ?_
      refine lv_dup2_11 hx hb d_MD_cut_16 rfl rfl ?_
      refine g_iald B hw mw_4 (vp_in_nI (by omega) (by omega)) d_MD_cut_17 ?_
      rw [nI_clamp (by omega), show zN sz r = nI (sz r) from rfl]
      refine lv_iconst (v := 1) hx hb d_MD_cut_18 (by decide) ?_
      refine lv_isub hx hb d_MD_cut_19 ?_
      rw [show nI (sz r) - 1 = nI (sz r - 1) from pk_sub (a := sz r) (b := 1) (by omega)]
      refine g_iast B hw mw_4 (vp_in_nI (by omega) (by omega)) d_MD_cut_20 (fun H locs (hw : wd D A (mW K q _ _ _ _ _ _ _ _ _ _ _ _ _ _ _ _) s H locs) => ?_)
      rw [nI_clamp (by omega), zN_upd] at hw
      refine lv_iconst (v := 1) hx hb d_MD_cut_21 (by decide) ?_
      exact r_z B hw (by decide) d_MD_cut_22 ⟨by unfold ctA; rw [onR_s hn]; exact (if_neg (by omega)).symm, by unfold ctZ; rw [onR_s hn]; (try dsimp only); rw [if_neg (by omega)]; exact ⟨_, _, _, _, _, _, _, rfl⟩⟩
    · exact absurd b6 (by decide)
set_option maxRecDepth 100000 in
set_option maxHeartbeats 4000000 in
theorem c_MD_twoWords {l : Launch} {D : va_G} {K : Nat → ClassId} {A : Nat → Prop} {q : Nat → Nat} {kd : Nat → Int32} {f1 f2 : Nat → Int64} {ou nk : Int32} {nf ns hi lo : Int64} {rn : Nat} {zi sd : Nat → Int32} {ix : Int32} {mm wt cd : Nat → Int32} {a : Nat} (ha : a + 1 < 36) : ctL l y_MD_twoWords prog_6_method_29_code 2 1 0 0 [.ref (q 0), .int (nI a)] D K A ((mW K q kd f1 f2 ou nk nf ns hi lo (nI rn) zi sd ix mm wt cd)) (fun r w => r = jnd (sd a) (sd (a + 1)) ∧ w = (mW K q kd f1 f2 ou nk nf ns hi lo (nI rn) zi sd ix mm wt cd)) := by
  refine mt_of (by decide) (Nat.le_of_ble_eq_true rfl) ?_
  intro p e s m below meth c ls B hw hl
  have hx := B.1
  have hb := B.2.1
  have hl : lv_has ls 2 [(0, .ref (q 0)), (1, .int (nI a))] := hl
  refine lv_aload_n hx hb d_MD_twoWords_0 rfl (lv_at hl 0 rfl) ?_
  refine g_get B hw fl_MD_23 mw_0 rfl d_MD_twoWords_1 ?_
  refine lv_iload_n hx hb d_MD_twoWords_4 rfl (lv_at hl 1 rfl) ?_
  refine g_iald B hw mw_5 (vp_in_nI (by omega) (by omega)) d_MD_twoWords_5 ?_
  rw [nI_clamp (by omega)]
  refine lv_i2l hx hb d_MD_twoWords_6 rfl ?_
  refine g_ldc2 B kc_MD_35 d_MD_twoWords_7 ?_
  refine lv_lmul hx hb d_MD_twoWords_10 ?_
  refine lv_aload_n hx hb d_MD_twoWords_11 rfl (lv_at hl 0 rfl) ?_
  refine g_get B hw fl_MD_23 mw_0 rfl d_MD_twoWords_12 ?_
  refine lv_iload_n hx hb d_MD_twoWords_15 rfl (lv_at hl 1 rfl) ?_
  refine lv_iconst (v := 1) hx hb d_MD_twoWords_16 (by decide) ?_
  refine lv_iadd hx hb d_MD_twoWords_17 ?_
  rw [← nI_succ a]
  refine g_iald B hw mw_5 (vp_in_nI (by omega) (by omega)) d_MD_twoWords_18 ?_
  rw [nI_clamp (by omega)]
  refine k_l (k_runS B hw c_MD_number rfl rfl cf_MD_71 ⟨Nat.le_of_ble_eq_true rfl, Nat.le_of_ble_eq_true rfl⟩ rfl hl.1 rfl (Nat.le_of_ble_eq_true rfl) d_MD_twoWords_19 ⟨Nat.le_of_ble_eq_true rfl, Nat.le_of_ble_eq_true rfl⟩) hw (fun r19 w1 H locs hq hw => ?_)
  obtain ⟨rfl, ew⟩ := hq
  rw [ew] at hw
  refine lv_ladd hx hb d_MD_twoWords_22 ?_
  rw [jnd_eq]
  exact r_l B hw d_MD_twoWords_23 ⟨rfl, rfl⟩
end
