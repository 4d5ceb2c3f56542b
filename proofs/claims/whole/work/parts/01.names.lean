/-! Names: classes, fields, methods, the words of the tables by their places. Printed by wip/whole/names.py out of the Statement. -/
abbrev RL : String := "NumberStreamsLaw"
def T_NS : u_T := fun k => match k with
  | 0 => ("NumberStreams", "slots", "[LNumberStreams$Stream;", true)
  | 1 => ("NumberStreams", "records", "[LNumberStreams$Saved;", true)
  | 2 => ("NumberStreams", "recordCount", "I", false)
  | 3 => ("NumberStreams", "points", "LNumberStreams$Points;", true)
  | 4 => ("NumberStreams", "weights", "[I", true)
  | _ => ("NumberStreams", "cards", "[I", true)
def t_NS : Nat → FieldType := fun k => match k with
  | 0 => .array (.object "NumberStreams$Stream")
  | 1 => .array (.object "NumberStreams$Saved")
  | 2 => .int
  | 3 => .object "NumberStreams$Points"
  | 4 => .array .int
  | _ => .array .int
theorem tt_NS : ∀ k, k < 6 → parseFieldDescriptor (T_NS k).2.2.1 = some (t_NS k) := by decide +kernel
theorem tn_NS : ∀ a, a < 6 → ∀ b, b < 6 → a ≠ b → (T_NS a).2.1 ≠ (T_NS b).2.1 := by decide +kernel
def T_PT : u_T := fun k => match k with
  | 0 => ("NumberStreams$Points", "directions", "[[I", true)
  | _ => ("NumberStreams$Points", "index", "I", false)
def t_PT : Nat → FieldType := fun k => match k with
  | 0 => .array (.array .int)
  | _ => .int
theorem tt_PT : ∀ k, k < 2 → parseFieldDescriptor (T_PT k).2.2.1 = some (t_PT k) := by decide +kernel
theorem tn_PT : ∀ a, a < 2 → ∀ b, b < 2 → a ≠ b → (T_PT a).2.1 ≠ (T_PT b).2.1 := by decide +kernel
def T_SV : u_T := fun k => match k with
  | 0 => ("NumberStreams$Saved", "words", "[I", true)
  | _ => ("NumberStreams$Saved", "count", "I", false)
def t_SV : Nat → FieldType := fun k => match k with
  | 0 => .array .int
  | _ => .int
theorem tt_SV : ∀ k, k < 2 → parseFieldDescriptor (T_SV k).2.2.1 = some (t_SV k) := by decide +kernel
theorem tn_SV : ∀ a, a < 2 → ∀ b, b < 2 → a ≠ b → (T_SV a).2.1 ≠ (T_SV b).2.1 := by decide +kernel
def T_ST : u_T := fun k => match k with
  | 0 => ("NumberStreams$Stream", "kind", "I", true)
  | 1 => ("NumberStreams$Stream", "first", "J", false)
  | _ => ("NumberStreams$Stream", "second", "J", false)
def t_ST : Nat → FieldType := fun k => match k with
  | 0 => .int
  | 1 => .long
  | _ => .long
theorem tt_ST : ∀ k, k < 3 → parseFieldDescriptor (T_ST k).2.2.1 = some (t_ST k) := by decide +kernel
theorem tn_ST : ∀ a, a < 3 → ∀ b, b < 3 → a ≠ b → (T_ST a).2.1 ≠ (T_ST b).2.1 := by decide +kernel
def T_MD : u_T := fun k => match k with
  | 0 => ("NumberStreamsModel", "kind", "[I", false)
  | 1 => ("NumberStreamsModel", "first", "[J", false)
  | 2 => ("NumberStreamsModel", "second", "[J", false)
  | 3 => ("NumberStreamsModel", "out", "I", false)
  | 4 => ("NumberStreamsModel", "newKind", "I", false)
  | 5 => ("NumberStreamsModel", "newFirst", "J", false)
  | 6 => ("NumberStreamsModel", "newSecond", "J", false)
  | 7 => ("NumberStreamsModel", "high", "J", false)
  | 8 => ("NumberStreamsModel", "low", "J", false)
  | 9 => ("NumberStreamsModel", "records", "I", false)
  | 10 => ("NumberStreamsModel", "size", "[I", false)
  | 11 => ("NumberStreamsModel", "stored", "[I", false)
  | 12 => ("NumberStreamsModel", "index", "I", false)
  | 13 => ("NumberStreamsModel", "m", "[I", false)
  | 14 => ("NumberStreamsModel", "weight", "[I", false)
  | _ => ("NumberStreamsModel", "cards", "[I", false)
def t_MD : Nat → FieldType := fun k => match k with
  | 0 => .array .int
  | 1 => .array .long
  | 2 => .array .long
  | 3 => .int
  | 4 => .int
  | 5 => .long
  | 6 => .long
  | 7 => .long
  | 8 => .long
  | 9 => .int
  | 10 => .array .int
  | 11 => .array .int
  | 12 => .int
  | 13 => .array .int
  | 14 => .array .int
  | _ => .array .int
theorem tt_MD : ∀ k, k < 16 → parseFieldDescriptor (T_MD k).2.2.1 = some (t_MD k) := by decide +kernel
theorem tn_MD : ∀ a, a < 16 → ∀ b, b < 16 → a ≠ b → (T_MD a).2.1 ≠ (T_MD b).2.1 := by decide +kernel
abbrev vwCl : List vw_C := [("NumberStreams", T_NS, 6), ("NumberStreams$Points", T_PT, 2), ("NumberStreams$Saved", T_SV, 2), ("NumberStreams$Stream", T_ST, 3), ("NumberStreamsModel", T_MD, 16)]
/-- the words of the tables that every later state keeps -/
def tsW : List Cond := lw_tbl.filter goodWord
theorem ts_in {w : Cond} (h : w ∈ tables_1) (g : goodWord w = true) : w ∈ tsW := List.mem_filter.mpr ⟨List.mem_append_right _ h, g⟩
theorem ts_sel {w : Cond} (h : w ∈ k2_sels lw_privs) (g : goodWord w = true) : w ∈ tsW := List.mem_filter.mpr ⟨List.mem_append_left _ h, g⟩
theorem ts_good {w : Cond} (h : w ∈ tsW) : goodWord w = true := (List.mem_filter.mp h).2
abbrev y_NS_init : MethodName := ⟨"NumberStreams", "<init>", "()V"⟩
theorem co_NS_init : Cond.code y_NS_init prog_1_method_1_code 2 none ∈ tsW := ts_in (List.mem_append_left _ (List.mem_of_getElem? (i := 11) rfl)) rfl
abbrev y_PT_init : MethodName := ⟨"NumberStreams$Points", "<init>", "()V"⟩
theorem co_PT_init : Cond.code y_PT_init prog_2_method_1_code 2 none ∈ tsW := ts_in (List.mem_append_left _ (List.mem_of_getElem? (i := 23) rfl)) rfl
abbrev y_PT_startRow : MethodName := ⟨"NumberStreams$Points", "startRow", "(IIII)V"⟩
theorem co_PT_startRow : Cond.code y_PT_startRow prog_2_method_2_code 5 none ∈ tsW := ts_in (List.mem_append_left _ (List.mem_of_getElem? (i := 30) rfl)) rfl
abbrev y_PT_growRow : MethodName := ⟨"NumberStreams$Points", "growRow", "(III)V"⟩
theorem co_PT_growRow : Cond.code y_PT_growRow prog_2_method_3_code 8 none ∈ tsW := ts_in (List.mem_append_left _ (List.mem_of_getElem? (i := 34) rfl)) rfl
abbrev y_PT_alignRow : MethodName := ⟨"NumberStreams$Points", "alignRow", "(I)V"⟩
theorem co_PT_alignRow : Cond.code y_PT_alignRow prog_2_method_4_code 3 none ∈ tsW := ts_in (List.mem_append_left _ (List.mem_of_getElem? (i := 38) rfl)) rfl
abbrev y_NS_make : MethodName := ⟨"NumberStreams", "make", "(III)I"⟩
theorem co_NS_make : Cond.code y_NS_make prog_1_method_2_code 9 (some .int) ∈ tsW := ts_in (List.mem_append_left _ (List.mem_of_getElem? (i := 70) rfl)) rfl
abbrev y_NS_leastFreeSlot : MethodName := ⟨"NumberStreams", "leastFreeSlot", "()I"⟩
theorem co_NS_leastFreeSlot : Cond.code y_NS_leastFreeSlot prog_1_method_23_code 2 (some .int) ∈ tsW := ts_in (List.mem_append_left _ (List.mem_of_getElem? (i := 74) rfl)) rfl
abbrev y_ST_isKind : MethodName := ⟨"NumberStreams$Stream", "isKind", "(I)Z"⟩
theorem co_ST_isKind : Cond.code y_ST_isKind prog_4_method_2_code 1 (some .boolean) ∈ tsW := ts_in (List.mem_append_left _ (List.mem_of_getElem? (i := 77) rfl)) rfl
abbrev y_ST_firstOfSeed : MethodName := ⟨"NumberStreams$Stream", "firstOfSeed", "(III)J"⟩
theorem co_ST_firstOfSeed : Cond.code y_ST_firstOfSeed prog_4_method_5_code 3 (some .long) ∈ tsW := ts_in (List.mem_append_left _ (List.mem_of_getElem? (i := 80) rfl)) rfl
abbrev y_NS_joined : MethodName := ⟨"NumberStreams", "joined", "(II)J"⟩
theorem co_NS_joined : Cond.code y_NS_joined prog_1_method_28_code 2 (some .long) ∈ tsW := ts_in (List.mem_append_left _ (List.mem_of_getElem? (i := 83) rfl)) rfl
abbrev y_NS_asNumber : MethodName := ⟨"NumberStreams", "asNumber", "(I)J"⟩
theorem co_NS_asNumber : Cond.code y_NS_asNumber prog_1_method_27_code 1 (some .long) ∈ tsW := ts_in (List.mem_append_left _ (List.mem_of_getElem? (i := 86) rfl)) rfl
abbrev y_ST_secondOfSeed : MethodName := ⟨"NumberStreams$Stream", "secondOfSeed", "(III)J"⟩
theorem co_ST_secondOfSeed : Cond.code y_ST_secondOfSeed prog_4_method_6_code 3 (some .long) ∈ tsW := ts_in (List.mem_append_left _ (List.mem_of_getElem? (i := 90) rfl)) rfl
abbrev y_ST_isState : MethodName := ⟨"NumberStreams$Stream", "isState", "(IJJ)Z"⟩
theorem co_ST_isState : Cond.code y_ST_isState prog_4_method_7_code 5 (some .boolean) ∈ tsW := ts_in (List.mem_append_left _ (List.mem_of_getElem? (i := 95) rfl)) rfl
abbrev y_ST_isRemainder : MethodName := ⟨"NumberStreams$Stream", "isRemainder", "(J)Z"⟩
theorem co_ST_isRemainder : Cond.code y_ST_isRemainder prog_4_method_8_code 2 (some .boolean) ∈ tsW := ts_in (List.mem_append_left _ (List.mem_of_getElem? (i := 98) rfl)) rfl
abbrev y_ST_init : MethodName := ⟨"NumberStreams$Stream", "<init>", "(IJJ)V"⟩
theorem co_ST_init : Cond.code y_ST_init prog_4_method_1_code 6 none ∈ tsW := ts_in (List.mem_append_left _ (List.mem_of_getElem? (i := 103) rfl)) rfl
abbrev y_NS_twin : MethodName := ⟨"NumberStreams", "twin", "(I)I"⟩
theorem co_NS_twin : Cond.code y_NS_twin prog_1_method_3_code 4 (some .int) ∈ tsW := ts_in (List.mem_append_left _ (List.mem_of_getElem? (i := 124) rfl)) rfl
abbrev y_NS_streamAt : MethodName := ⟨"NumberStreams", "streamAt", "(I)LNumberStreams$Stream;"⟩
theorem co_NS_streamAt : Cond.code y_NS_streamAt prog_1_method_22_code 2 (some (.object "NumberStreams$Stream")) ∈ tsW := ts_in (List.mem_append_left _ (List.mem_of_getElem? (i := 128) rfl)) rfl
abbrev y_NS_release : MethodName := ⟨"NumberStreams", "release", "(I)Z"⟩
theorem co_NS_release : Cond.code y_NS_release prog_1_method_4_code 2 (some .boolean) ∈ tsW := ts_in (List.mem_append_left _ (List.mem_of_getElem? (i := 132) rfl)) rfl
abbrev y_NS_next : MethodName := ⟨"NumberStreams", "next", "(I)J"⟩
theorem co_NS_next : Cond.code y_NS_next prog_1_method_5_code 3 (some .long) ∈ tsW := ts_in (List.mem_append_left _ (List.mem_of_getElem? (i := 136) rfl)) rfl
abbrev y_ST_step : MethodName := ⟨"NumberStreams$Stream", "step", "()I"⟩
theorem co_ST_step : Cond.code y_ST_step prog_4_method_9_code 2 (some .int) ∈ tsW := ts_in (List.mem_append_left _ (List.mem_of_getElem? (i := 141) rfl)) rfl
abbrev y_ST_output : MethodName := ⟨"NumberStreams$Stream", "output", "()I"⟩
theorem co_ST_output : Cond.code y_ST_output prog_4_method_12_code 1 (some .int) ∈ tsW := ts_in (List.mem_append_left _ (List.mem_of_getElem? (i := 145) rfl)) rfl
abbrev y_JI_rotateRight : MethodName := ⟨"java/lang/Integer", "rotateRight", "(II)I"⟩
theorem co_JI_rotateRight : Cond.code y_JI_rotateRight prog_7_method_51_code 2 (some .int) ∈ tsW := ts_in (List.mem_append_left _ (List.mem_of_getElem? (i := 148) rfl)) rfl
abbrev y_JI_rotateLeft : MethodName := ⟨"java/lang/Integer", "rotateLeft", "(II)I"⟩
theorem co_JI_rotateLeft : Cond.code y_JI_rotateLeft prog_7_method_50_code 2 (some .int) ∈ tsW := ts_in (List.mem_append_left _ (List.mem_of_getElem? (i := 152) rfl)) rfl
abbrev y_ST_mixedCounter : MethodName := ⟨"NumberStreams$Stream", "mixedCounter", "()I"⟩
theorem co_ST_mixedCounter : Cond.code y_ST_mixedCounter prog_4_method_14_code 7 (some .int) ∈ tsW := ts_in (List.mem_append_left _ (List.mem_of_getElem? (i := 156) rfl)) rfl
abbrev y_ST_nextRemainder : MethodName := ⟨"NumberStreams$Stream", "nextRemainder", "()J"⟩
theorem co_ST_nextRemainder : Cond.code y_ST_nextRemainder prog_4_method_15_code 1 (some .long) ∈ tsW := ts_in (List.mem_append_left _ (List.mem_of_getElem? (i := 162) rfl)) rfl
abbrev y_ST_move : MethodName := ⟨"NumberStreams$Stream", "move", "()V"⟩
theorem co_ST_move : Cond.code y_ST_move prog_4_method_11_code 3 none ∈ tsW := ts_in (List.mem_append_left _ (List.mem_of_getElem? (i := 168) rfl)) rfl
abbrev y_ST_moveRotations : MethodName := ⟨"NumberStreams$Stream", "moveRotations", "()V"⟩
theorem co_ST_moveRotations : Cond.code y_ST_moveRotations prog_4_method_13_code 3 none ∈ tsW := ts_in (List.mem_append_left _ (List.mem_of_getElem? (i := 173) rfl)) rfl
abbrev y_NS_jump : MethodName := ⟨"NumberStreams", "jump", "(II)Z"⟩
theorem co_NS_jump : Cond.code y_NS_jump prog_1_method_6_code 5 (some .boolean) ∈ tsW := ts_in (List.mem_append_left _ (List.mem_of_getElem? (i := 178) rfl)) rfl
abbrev y_NS_draw : MethodName := ⟨"NumberStreams", "draw", "(II)I"⟩
theorem co_NS_draw : Cond.code y_NS_draw prog_1_method_7_code 4 (some .int) ∈ tsW := ts_in (List.mem_append_left _ (List.mem_of_getElem? (i := 184) rfl)) rfl
abbrev y_ST_drawnBelow : MethodName := ⟨"NumberStreams$Stream", "drawnBelow", "(I)I"⟩
theorem co_ST_drawnBelow : Cond.code y_ST_drawnBelow prog_4_method_10_code 7 (some .int) ∈ tsW := ts_in (List.mem_append_left _ (List.mem_of_getElem? (i := 188) rfl)) rfl
abbrev y_NS_same : MethodName := ⟨"NumberStreams", "same", "(II)Z"⟩
theorem co_NS_same : Cond.code y_NS_same prog_1_method_8_code 5 (some .boolean) ∈ tsW := ts_in (List.mem_append_left _ (List.mem_of_getElem? (i := 194) rfl)) rfl
abbrev y_NS_save : MethodName := ⟨"NumberStreams", "save", "(I)I"⟩
theorem co_NS_save : Cond.code y_NS_save prog_1_method_9_code 4 (some .int) ∈ tsW := ts_in (List.mem_append_left _ (List.mem_of_getElem? (i := 198) rfl)) rfl
abbrev y_SV_init : MethodName := ⟨"NumberStreams$Saved", "<init>", "(LNumberStreams$Stream;)V"⟩
theorem co_SV_init : Cond.code y_SV_init prog_3_method_1_code 2 none ∈ tsW := ts_in (List.mem_append_left _ (List.mem_of_getElem? (i := 202) rfl)) rfl
abbrev y_SV_append : MethodName := ⟨"NumberStreams$Saved", "append", "(I)V"⟩
theorem co_SV_append : Cond.code y_SV_append prog_3_method_2_code 2 none ∈ tsW := ts_in (List.mem_append_left _ (List.mem_of_getElem? (i := 208) rfl)) rfl
abbrev y_ST_isFirstLong : MethodName := ⟨"NumberStreams$Stream", "isFirstLong", "(I)Z"⟩
theorem co_ST_isFirstLong : Cond.code y_ST_isFirstLong prog_4_method_3_code 1 (some .boolean) ∈ tsW := ts_in (List.mem_append_left _ (List.mem_of_getElem? (i := 211) rfl)) rfl
abbrev y_SV_appendPart : MethodName := ⟨"NumberStreams$Saved", "appendPart", "(JZ)V"⟩
theorem co_SV_appendPart : Cond.code y_SV_appendPart prog_3_method_3_code 4 none ∈ tsW := ts_in (List.mem_append_left _ (List.mem_of_getElem? (i := 215) rfl)) rfl
abbrev y_ST_isSecondLong : MethodName := ⟨"NumberStreams$Stream", "isSecondLong", "(I)Z"⟩
theorem co_ST_isSecondLong : Cond.code y_ST_isSecondLong prog_4_method_4_code 1 (some .boolean) ∈ tsW := ts_in (List.mem_append_left _ (List.mem_of_getElem? (i := 218) rfl)) rfl
abbrev y_SV_checkOfFirst : MethodName := ⟨"NumberStreams$Saved", "checkOfFirst", "(I)I"⟩
theorem co_SV_checkOfFirst : Cond.code y_SV_checkOfFirst prog_3_method_4_code 4 (some .int) ∈ tsW := ts_in (List.mem_append_left _ (List.mem_of_getElem? (i := 222) rfl)) rfl
abbrev y_NS_length : MethodName := ⟨"NumberStreams", "length", "(I)I"⟩
theorem co_NS_length : Cond.code y_NS_length prog_1_method_10_code 3 (some .int) ∈ tsW := ts_in (List.mem_append_left _ (List.mem_of_getElem? (i := 235) rfl)) rfl
abbrev y_NS_recordAt : MethodName := ⟨"NumberStreams", "recordAt", "(I)LNumberStreams$Saved;"⟩
theorem co_NS_recordAt : Cond.code y_NS_recordAt prog_1_method_24_code 2 (some (.object "NumberStreams$Saved")) ∈ tsW := ts_in (List.mem_append_left _ (List.mem_of_getElem? (i := 239) rfl)) rfl
abbrev y_NS_word : MethodName := ⟨"NumberStreams", "word", "(II)I"⟩
theorem co_NS_word : Cond.code y_NS_word prog_1_method_11_code 4 (some .int) ∈ tsW := ts_in (List.mem_append_right _ (List.mem_append_left _ (List.mem_of_getElem? (i := 3) rfl))) rfl
abbrev y_SV_hasWord : MethodName := ⟨"NumberStreams$Saved", "hasWord", "(I)Z"⟩
theorem co_SV_hasWord : Cond.code y_SV_hasWord prog_3_method_5_code 2 (some .boolean) ∈ tsW := ts_in (List.mem_append_right _ (List.mem_append_left _ (List.mem_of_getElem? (i := 7) rfl))) rfl
abbrev y_NS_spoil : MethodName := ⟨"NumberStreams", "spoil", "(III)Z"⟩
theorem co_NS_spoil : Cond.code y_NS_spoil prog_1_method_12_code 5 (some .boolean) ∈ tsW := ts_in (List.mem_append_right _ (List.mem_append_left _ (List.mem_of_getElem? (i := 11) rfl))) rfl
abbrev y_NS_cut : MethodName := ⟨"NumberStreams", "cut", "(I)Z"⟩
theorem co_NS_cut : Cond.code y_NS_cut prog_1_method_13_code 3 (some .boolean) ∈ tsW := ts_in (List.mem_append_right _ (List.mem_append_left _ (List.mem_of_getElem? (i := 15) rfl))) rfl
abbrev y_NS_restore : MethodName := ⟨"NumberStreams", "restore", "(I)I"⟩
theorem co_NS_restore : Cond.code y_NS_restore prog_1_method_14_code 5 (some .int) ∈ tsW := ts_in (List.mem_append_right _ (List.mem_append_left _ (List.mem_of_getElem? (i := 19) rfl))) rfl
abbrev y_SV_fault : MethodName := ⟨"NumberStreams$Saved", "fault", "()I"⟩
theorem co_SV_fault : Cond.code y_SV_fault prog_3_method_6_code 1 (some .int) ∈ tsW := ts_in (List.mem_append_right _ (List.mem_append_left _ (List.mem_of_getElem? (i := 23) rfl))) rfl
abbrev y_SV_kind : MethodName := ⟨"NumberStreams$Saved", "kind", "()I"⟩
theorem co_SV_kind : Cond.code y_SV_kind prog_3_method_9_code 1 (some .int) ∈ tsW := ts_in (List.mem_append_right _ (List.mem_append_left _ (List.mem_of_getElem? (i := 27) rfl))) rfl
abbrev y_SV_wordsOfKind : MethodName := ⟨"NumberStreams$Saved", "wordsOfKind", "(I)I"⟩
theorem co_SV_wordsOfKind : Cond.code y_SV_wordsOfKind prog_3_method_7_code 1 (some .int) ∈ tsW := ts_in (List.mem_append_right _ (List.mem_append_left _ (List.mem_of_getElem? (i := 31) rfl))) rfl
abbrev y_SV_wordsOfPart : MethodName := ⟨"NumberStreams$Saved", "wordsOfPart", "(Z)I"⟩
theorem co_SV_wordsOfPart : Cond.code y_SV_wordsOfPart prog_3_method_8_code 1 (some .int) ∈ tsW := ts_in (List.mem_append_right _ (List.mem_append_left _ (List.mem_of_getElem? (i := 34) rfl))) rfl
abbrev y_SV_first : MethodName := ⟨"NumberStreams$Saved", "first", "()J"⟩
theorem co_SV_first : Cond.code y_SV_first prog_3_method_10_code 1 (some .long) ∈ tsW := ts_in (List.mem_append_right _ (List.mem_append_left _ (List.mem_of_getElem? (i := 38) rfl))) rfl
abbrev y_SV_partAt : MethodName := ⟨"NumberStreams$Saved", "partAt", "(IZ)J"⟩
theorem co_SV_partAt : Cond.code y_SV_partAt prog_3_method_12_code 3 (some .long) ∈ tsW := ts_in (List.mem_append_right _ (List.mem_append_left _ (List.mem_of_getElem? (i := 42) rfl))) rfl
abbrev y_SV_second : MethodName := ⟨"NumberStreams$Saved", "second", "()J"⟩
theorem co_SV_second : Cond.code y_SV_second prog_3_method_11_code 2 (some .long) ∈ tsW := ts_in (List.mem_append_right _ (List.mem_append_left _ (List.mem_of_getElem? (i := 47) rfl))) rfl
abbrev y_NS_seek : MethodName := ⟨"NumberStreams", "seek", "(I)Z"⟩
theorem co_NS_seek : Cond.code y_NS_seek prog_1_method_15_code 2 (some .boolean) ∈ tsW := ts_in (List.mem_append_right _ (List.mem_append_left _ (List.mem_of_getElem? (i := 55) rfl))) rfl
abbrev y_NS_advance : MethodName := ⟨"NumberStreams", "advance", "()I"⟩
theorem co_NS_advance : Cond.code y_NS_advance prog_1_method_16_code 1 (some .int) ∈ tsW := ts_in (List.mem_append_right _ (List.mem_append_left _ (List.mem_of_getElem? (i := 60) rfl))) rfl
abbrev y_NS_coordinate : MethodName := ⟨"NumberStreams", "coordinate", "(I)J"⟩
theorem co_NS_coordinate : Cond.code y_NS_coordinate prog_1_method_17_code 2 (some .long) ∈ tsW := ts_in (List.mem_append_right _ (List.mem_append_left _ (List.mem_of_getElem? (i := 64) rfl))) rfl
abbrev y_PT_joinedDirections : MethodName := ⟨"NumberStreams$Points", "joinedDirections", "(I)I"⟩
theorem co_PT_joinedDirections : Cond.code y_PT_joinedDirections prog_2_method_5_code 5 (some .int) ∈ tsW := ts_in (List.mem_append_right _ (List.mem_append_left _ (List.mem_of_getElem? (i := 68) rfl))) rfl
abbrev y_PT_turnedDigits : MethodName := ⟨"NumberStreams$Points", "turnedDigits", "(II)I"⟩
theorem co_PT_turnedDigits : Cond.code y_PT_turnedDigits prog_2_method_6_code 6 (some .int) ∈ tsW := ts_in (List.mem_append_right _ (List.mem_append_left _ (List.mem_of_getElem? (i := 72) rfl))) rfl
abbrev y_NS_weigh : MethodName := ⟨"NumberStreams", "weigh", "(II)Z"⟩
theorem co_NS_weigh : Cond.code y_NS_weigh prog_1_method_18_code 3 (some .boolean) ∈ tsW := ts_in (List.mem_append_right _ (List.mem_append_left _ (List.mem_of_getElem? (i := 76) rfl))) rfl
abbrev y_NS_pick : MethodName := ⟨"NumberStreams", "pick", "(I)I"⟩
theorem co_NS_pick : Cond.code y_NS_pick prog_1_method_19_code 4 (some .int) ∈ tsW := ts_in (List.mem_append_right _ (List.mem_append_left _ (List.mem_of_getElem? (i := 81) rfl))) rfl
abbrev y_NS_totalWeight : MethodName := ⟨"NumberStreams", "totalWeight", "()I"⟩
theorem co_NS_totalWeight : Cond.code y_NS_totalWeight prog_1_method_25_code 3 (some .int) ∈ tsW := ts_in (List.mem_append_right _ (List.mem_append_left _ (List.mem_of_getElem? (i := 85) rfl))) rfl
abbrev y_NS_outcomeAt : MethodName := ⟨"NumberStreams", "outcomeAt", "(I)I"⟩
theorem co_NS_outcomeAt : Cond.code y_NS_outcomeAt prog_1_method_26_code 4 (some .int) ∈ tsW := ts_in (List.mem_append_right _ (List.mem_append_left _ (List.mem_of_getElem? (i := 89) rfl))) rfl
abbrev y_NS_shuffle : MethodName := ⟨"NumberStreams", "shuffle", "(I)Z"⟩
theorem co_NS_shuffle : Cond.code y_NS_shuffle prog_1_method_20_code 6 (some .boolean) ∈ tsW := ts_in (List.mem_append_right _ (List.mem_append_left _ (List.mem_of_getElem? (i := 93) rfl))) rfl
abbrev y_NS_card : MethodName := ⟨"NumberStreams", "card", "(I)I"⟩
theorem co_NS_card : Cond.code y_NS_card prog_1_method_21_code 2 (some .int) ∈ tsW := ts_in (List.mem_append_right _ (List.mem_append_left _ (List.mem_of_getElem? (i := 97) rfl))) rfl
abbrev y_MD_init : MethodName := ⟨"NumberStreamsModel", "<init>", "()V"⟩
theorem co_MD_init : Cond.code y_MD_init prog_6_method_1_code 2 none ∈ tsW := ts_in (List.mem_append_right _ (List.mem_append_left _ (List.mem_of_getElem? (i := 102) rfl))) rfl
abbrev y_MD_make : MethodName := ⟨"NumberStreamsModel", "make", "(III)I"⟩
theorem co_MD_make : Cond.code y_MD_make prog_6_method_12_code 5 (some .int) ∈ tsW := ts_in (List.mem_append_right _ (List.mem_append_left _ (List.mem_of_getElem? (i := 157) rfl))) rfl
abbrev y_MD_freeSlot : MethodName := ⟨"NumberStreamsModel", "freeSlot", "()I"⟩
theorem co_MD_freeSlot : Cond.code y_MD_freeSlot prog_6_method_8_code 2 (some .int) ∈ tsW := ts_in (List.mem_append_right _ (List.mem_append_left _ (List.mem_of_getElem? (i := 161) rfl))) rfl
abbrev y_MD_number : MethodName := ⟨"NumberStreamsModel", "number", "(I)J"⟩
theorem co_MD_number : Cond.code y_MD_number prog_6_method_2_code 3 (some .long) ∈ tsW := ts_in (List.mem_append_right _ (List.mem_append_left _ (List.mem_of_getElem? (i := 164) rfl))) rfl
abbrev y_MD_sound : MethodName := ⟨"NumberStreamsModel", "sound", "()Z"⟩
theorem co_MD_sound : Cond.code y_MD_sound prog_6_method_10_code 2 (some .boolean) ∈ tsW := ts_in (List.mem_append_right _ (List.mem_append_left _ (List.mem_of_getElem? (i := 170) rfl))) rfl
abbrev y_MD_residue : MethodName := ⟨"NumberStreamsModel", "residue", "(J)Z"⟩
theorem co_MD_residue : Cond.code y_MD_residue prog_6_method_9_code 2 (some .boolean) ∈ tsW := ts_in (List.mem_append_right _ (List.mem_append_left _ (List.mem_of_getElem? (i := 173) rfl))) rfl
abbrev y_MD_settle : MethodName := ⟨"NumberStreamsModel", "settle", "(I)I"⟩
theorem co_MD_settle : Cond.code y_MD_settle prog_6_method_11_code 2 (some .int) ∈ tsW := ts_in (List.mem_append_right _ (List.mem_append_left _ (List.mem_of_getElem? (i := 178) rfl))) rfl
abbrev y_MD_twin : MethodName := ⟨"NumberStreamsModel", "twin", "(I)I"⟩
theorem co_MD_twin : Cond.code y_MD_twin prog_6_method_13_code 3 (some .int) ∈ tsW := ts_in (List.mem_append_right _ (List.mem_append_left _ (List.mem_of_getElem? (i := 182) rfl))) rfl
abbrev y_MD_holds : MethodName := ⟨"NumberStreamsModel", "holds", "(I)Z"⟩
theorem co_MD_holds : Cond.code y_MD_holds prog_6_method_7_code 2 (some .boolean) ∈ tsW := ts_in (List.mem_append_right _ (List.mem_append_left _ (List.mem_of_getElem? (i := 186) rfl))) rfl
abbrev y_MD_release : MethodName := ⟨"NumberStreamsModel", "release", "(I)Z"⟩
theorem co_MD_release : Cond.code y_MD_release prog_6_method_14_code 2 (some .boolean) ∈ tsW := ts_in (List.mem_append_right _ (List.mem_append_left _ (List.mem_of_getElem? (i := 190) rfl))) rfl
abbrev y_MD_next : MethodName := ⟨"NumberStreamsModel", "next", "(I)J"⟩
theorem co_MD_next : Cond.code y_MD_next prog_6_method_15_code 2 (some .long) ∈ tsW := ts_in (List.mem_append_right _ (List.mem_append_left _ (List.mem_of_getElem? (i := 194) rfl))) rfl
abbrev y_MD_step : MethodName := ⟨"NumberStreamsModel", "step", "(I)V"⟩
theorem co_MD_step : Cond.code y_MD_step prog_6_method_5_code 8 none ∈ tsW := ts_in (List.mem_append_right _ (List.mem_append_left _ (List.mem_of_getElem? (i := 199) rfl))) rfl
abbrev y_MD_rotl : MethodName := ⟨"NumberStreamsModel", "rotl", "(II)I"⟩
theorem co_MD_rotl : Cond.code y_MD_rotl prog_6_method_3_code 4 (some .int) ∈ tsW := ts_in (List.mem_append_right _ (List.mem_append_left _ (List.mem_of_getElem? (i := 202) rfl))) rfl
abbrev y_MD_rounds : MethodName := ⟨"NumberStreamsModel", "rounds", "(IJ)V"⟩
theorem co_MD_rounds : Cond.code y_MD_rounds prog_6_method_6_code 8 none ∈ tsW := ts_in (List.mem_append_right _ (List.mem_append_left _ (List.mem_of_getElem? (i := 208) rfl))) rfl
abbrev y_MD_multiply : MethodName := ⟨"NumberStreamsModel", "multiply", "(JJ)V"⟩
theorem co_MD_multiply : Cond.code y_MD_multiply prog_6_method_4_code 19 none ∈ tsW := ts_in (List.mem_append_right _ (List.mem_append_left _ (List.mem_of_getElem? (i := 213) rfl))) rfl
abbrev y_MD_jump : MethodName := ⟨"NumberStreamsModel", "jump", "(II)Z"⟩
theorem co_MD_jump : Cond.code y_MD_jump prog_6_method_16_code 4 (some .boolean) ∈ tsW := ts_in (List.mem_append_right _ (List.mem_append_left _ (List.mem_of_getElem? (i := 223) rfl))) rfl
abbrev y_MD_draw : MethodName := ⟨"NumberStreamsModel", "draw", "(II)I"⟩
theorem co_MD_draw : Cond.code y_MD_draw prog_6_method_18_code 3 (some .int) ∈ tsW := ts_in (List.mem_append_right _ (List.mem_append_left _ (List.mem_of_getElem? (i := 228) rfl))) rfl
abbrev y_MD_below : MethodName := ⟨"NumberStreamsModel", "below", "(II)I"⟩
theorem co_MD_below : Cond.code y_MD_below prog_6_method_17_code 6 (some .int) ∈ tsW := ts_in (List.mem_append_right _ (List.mem_append_left _ (List.mem_of_getElem? (i := 232) rfl))) rfl
abbrev y_MD_same : MethodName := ⟨"NumberStreamsModel", "same", "(II)Z"⟩
theorem co_MD_same : Cond.code y_MD_same prog_6_method_19_code 3 (some .boolean) ∈ tsW := ts_in (List.mem_append_right _ (List.mem_append_left _ (List.mem_of_getElem? (i := 236) rfl))) rfl
abbrev y_MD_save : MethodName := ⟨"NumberStreamsModel", "save", "(I)I"⟩
theorem co_MD_save : Cond.code y_MD_save prog_6_method_23_code 3 (some .int) ∈ tsW := ts_in (List.mem_append_right _ (List.mem_append_right _ (List.mem_of_getElem? (i := 0) rfl))) rfl
abbrev y_MD_append : MethodName := ⟨"NumberStreamsModel", "append", "(I)V"⟩
theorem co_MD_append : Cond.code y_MD_append prog_6_method_20_code 2 none ∈ tsW := ts_in (List.mem_append_right _ (List.mem_append_right _ (List.mem_of_getElem? (i := 5) rfl))) rfl
abbrev y_MD_appendLong : MethodName := ⟨"NumberStreamsModel", "appendLong", "(J)V"⟩
theorem co_MD_appendLong : Cond.code y_MD_appendLong prog_6_method_21_code 3 none ∈ tsW := ts_in (List.mem_append_right _ (List.mem_append_right _ (List.mem_of_getElem? (i := 9) rfl))) rfl
abbrev y_MD_check : MethodName := ⟨"NumberStreamsModel", "check", "(II)I"⟩
theorem co_MD_check : Cond.code y_MD_check prog_6_method_22_code 5 (some .int) ∈ tsW := ts_in (List.mem_append_right _ (List.mem_append_right _ (List.mem_of_getElem? (i := 13) rfl))) rfl
abbrev y_MD_length : MethodName := ⟨"NumberStreamsModel", "length", "(I)I"⟩
theorem co_MD_length : Cond.code y_MD_length prog_6_method_25_code 2 (some .int) ∈ tsW := ts_in (List.mem_append_right _ (List.mem_append_right _ (List.mem_of_getElem? (i := 17) rfl))) rfl
abbrev y_MD_word : MethodName := ⟨"NumberStreamsModel", "word", "(II)I"⟩
theorem co_MD_word : Cond.code y_MD_word prog_6_method_26_code 3 (some .int) ∈ tsW := ts_in (List.mem_append_right _ (List.mem_append_right _ (List.mem_of_getElem? (i := 21) rfl))) rfl
abbrev y_MD_isWord : MethodName := ⟨"NumberStreamsModel", "isWord", "(II)Z"⟩
theorem co_MD_isWord : Cond.code y_MD_isWord prog_6_method_24_code 3 (some .boolean) ∈ tsW := ts_in (List.mem_append_right _ (List.mem_append_right _ (List.mem_of_getElem? (i := 25) rfl))) rfl
abbrev y_MD_spoil : MethodName := ⟨"NumberStreamsModel", "spoil", "(III)Z"⟩
theorem co_MD_spoil : Cond.code y_MD_spoil prog_6_method_27_code 4 (some .boolean) ∈ tsW := ts_in (List.mem_append_right _ (List.mem_append_right _ (List.mem_of_getElem? (i := 29) rfl))) rfl
abbrev y_MD_cut : MethodName := ⟨"NumberStreamsModel", "cut", "(I)Z"⟩
theorem co_MD_cut : Cond.code y_MD_cut prog_6_method_28_code 2 (some .boolean) ∈ tsW := ts_in (List.mem_append_right _ (List.mem_append_right _ (List.mem_of_getElem? (i := 33) rfl))) rfl
abbrev y_MD_restore : MethodName := ⟨"NumberStreamsModel", "restore", "(I)I"⟩
theorem co_MD_restore : Cond.code y_MD_restore prog_6_method_30_code 6 (some .int) ∈ tsW := ts_in (List.mem_append_right _ (List.mem_append_right _ (List.mem_of_getElem? (i := 37) rfl))) rfl
abbrev y_MD_twoWords : MethodName := ⟨"NumberStreamsModel", "twoWords", "(I)J"⟩
theorem co_MD_twoWords : Cond.code y_MD_twoWords prog_6_method_29_code 2 (some .long) ∈ tsW := ts_in (List.mem_append_right _ (List.mem_append_right _ (List.mem_of_getElem? (i := 41) rfl))) rfl
abbrev y_MD_seek : MethodName := ⟨"NumberStreamsModel", "seek", "(I)Z"⟩
theorem co_MD_seek : Cond.code y_MD_seek prog_6_method_31_code 2 (some .boolean) ∈ tsW := ts_in (List.mem_append_right _ (List.mem_append_right _ (List.mem_of_getElem? (i := 45) rfl))) rfl
abbrev y_MD_advance : MethodName := ⟨"NumberStreamsModel", "advance", "()I"⟩
theorem co_MD_advance : Cond.code y_MD_advance prog_6_method_32_code 1 (some .int) ∈ tsW := ts_in (List.mem_append_right _ (List.mem_append_right _ (List.mem_of_getElem? (i := 50) rfl))) rfl
abbrev y_MD_coordinate : MethodName := ⟨"NumberStreamsModel", "coordinate", "(I)J"⟩
theorem co_MD_coordinate : Cond.code y_MD_coordinate prog_6_method_35_code 5 (some .long) ∈ tsW := ts_in (List.mem_append_right _ (List.mem_append_right _ (List.mem_of_getElem? (i := 54) rfl))) rfl
abbrev y_MD_turned : MethodName := ⟨"NumberStreamsModel", "turned", "(II)J"⟩
theorem co_MD_turned : Cond.code y_MD_turned prog_6_method_34_code 7 (some .long) ∈ tsW := ts_in (List.mem_append_right _ (List.mem_append_right _ (List.mem_of_getElem? (i := 58) rfl))) rfl
abbrev y_MD_inner : MethodName := ⟨"NumberStreamsModel", "inner", "(I)V"⟩
theorem co_MD_inner : Cond.code y_MD_inner prog_6_method_33_code 6 none ∈ tsW := ts_in (List.mem_append_right _ (List.mem_append_right _ (List.mem_of_getElem? (i := 62) rfl))) rfl
abbrev y_MD_weigh : MethodName := ⟨"NumberStreamsModel", "weigh", "(II)Z"⟩
theorem co_MD_weigh : Cond.code y_MD_weigh prog_6_method_36_code 3 (some .boolean) ∈ tsW := ts_in (List.mem_append_right _ (List.mem_append_right _ (List.mem_of_getElem? (i := 66) rfl))) rfl
abbrev y_MD_pick : MethodName := ⟨"NumberStreamsModel", "pick", "(I)I"⟩
theorem co_MD_pick : Cond.code y_MD_pick prog_6_method_37_code 5 (some .int) ∈ tsW := ts_in (List.mem_append_right _ (List.mem_append_right _ (List.mem_of_getElem? (i := 71) rfl))) rfl
abbrev y_MD_shuffle : MethodName := ⟨"NumberStreamsModel", "shuffle", "(I)Z"⟩
theorem co_MD_shuffle : Cond.code y_MD_shuffle prog_6_method_38_code 5 (some .boolean) ∈ tsW := ts_in (List.mem_append_right _ (List.mem_append_right _ (List.mem_of_getElem? (i := 75) rfl))) rfl
abbrev y_MD_card : MethodName := ⟨"NumberStreamsModel", "card", "(I)I"⟩
theorem co_MD_card : Cond.code y_MD_card prog_6_method_39_code 2 (some .int) ∈ tsW := ts_in (List.mem_append_right _ (List.mem_append_right _ (List.mem_of_getElem? (i := 79) rfl))) rfl
theorem in_LW : (Jvm.Cond.initialized "NumberStreamsLaw") ∈ tsW := ts_in (List.mem_append_left _ (List.mem_of_getElem? (i := 0) rfl)) rfl
theorem in_NS : (Jvm.Cond.initialized "NumberStreams") ∈ tsW := ts_in (List.mem_append_left _ (List.mem_of_getElem? (i := 1) rfl)) rfl
theorem in_PT : (Jvm.Cond.initialized "NumberStreams$Points") ∈ tsW := ts_in (List.mem_append_left _ (List.mem_of_getElem? (i := 2) rfl)) rfl
theorem in_MD : (Jvm.Cond.initialized "NumberStreamsModel") ∈ tsW := ts_in (List.mem_append_left _ (List.mem_of_getElem? (i := 3) rfl)) rfl
theorem in_ST : (Jvm.Cond.initialized "NumberStreams$Stream") ∈ tsW := ts_in (List.mem_append_left _ (List.mem_of_getElem? (i := 4) rfl)) rfl
theorem in_JI : (Jvm.Cond.initialized "java/lang/Integer") ∈ tsW := ts_in (List.mem_append_left _ (List.mem_of_getElem? (i := 5) rfl)) rfl
theorem in_SV : (Jvm.Cond.initialized "NumberStreams$Saved") ∈ tsW := ts_in (List.mem_append_left _ (List.mem_of_getElem? (i := 6) rfl)) rfl
theorem sa_ST_isKind : (Jvm.Cond.static ({ cls := "NumberStreams$Stream", name := "isKind", desc := "(I)Z" } : Jvm.MethodName)) ∈ tsW := ts_in (List.mem_append_left _ (List.mem_of_getElem? (i := 76) rfl)) rfl
theorem sa_ST_firstOfSeed : (Jvm.Cond.static ({ cls := "NumberStreams$Stream", name := "firstOfSeed", desc := "(III)J" } : Jvm.MethodName)) ∈ tsW := ts_in (List.mem_append_left _ (List.mem_of_getElem? (i := 79) rfl)) rfl
theorem sa_NS_joined : (Jvm.Cond.static ({ cls := "NumberStreams", name := "joined", desc := "(II)J" } : Jvm.MethodName)) ∈ tsW := ts_in (List.mem_append_left _ (List.mem_of_getElem? (i := 82) rfl)) rfl
theorem sa_NS_asNumber : (Jvm.Cond.static ({ cls := "NumberStreams", name := "asNumber", desc := "(I)J" } : Jvm.MethodName)) ∈ tsW := ts_in (List.mem_append_left _ (List.mem_of_getElem? (i := 85) rfl)) rfl
theorem sa_ST_secondOfSeed : (Jvm.Cond.static ({ cls := "NumberStreams$Stream", name := "secondOfSeed", desc := "(III)J" } : Jvm.MethodName)) ∈ tsW := ts_in (List.mem_append_left _ (List.mem_of_getElem? (i := 89) rfl)) rfl
theorem sa_ST_isState : (Jvm.Cond.static ({ cls := "NumberStreams$Stream", name := "isState", desc := "(IJJ)Z" } : Jvm.MethodName)) ∈ tsW := ts_in (List.mem_append_left _ (List.mem_of_getElem? (i := 94) rfl)) rfl
theorem sa_ST_isRemainder : (Jvm.Cond.static ({ cls := "NumberStreams$Stream", name := "isRemainder", desc := "(J)Z" } : Jvm.MethodName)) ∈ tsW := ts_in (List.mem_append_left _ (List.mem_of_getElem? (i := 97) rfl)) rfl
theorem sa_JI_rotateRight : (Jvm.Cond.static ({ cls := "java/lang/Integer", name := "rotateRight", desc := "(II)I" } : Jvm.MethodName)) ∈ tsW := ts_in (List.mem_append_left _ (List.mem_of_getElem? (i := 147) rfl)) rfl
theorem sa_JI_rotateLeft : (Jvm.Cond.static ({ cls := "java/lang/Integer", name := "rotateLeft", desc := "(II)I" } : Jvm.MethodName)) ∈ tsW := ts_in (List.mem_append_left _ (List.mem_of_getElem? (i := 151) rfl)) rfl
theorem sa_ST_isFirstLong : (Jvm.Cond.static ({ cls := "NumberStreams$Stream", name := "isFirstLong", desc := "(I)Z" } : Jvm.MethodName)) ∈ tsW := ts_in (List.mem_append_left _ (List.mem_of_getElem? (i := 210) rfl)) rfl
theorem sa_ST_isSecondLong : (Jvm.Cond.static ({ cls := "NumberStreams$Stream", name := "isSecondLong", desc := "(I)Z" } : Jvm.MethodName)) ∈ tsW := ts_in (List.mem_append_left _ (List.mem_of_getElem? (i := 217) rfl)) rfl
theorem sa_SV_wordsOfKind : (Jvm.Cond.static ({ cls := "NumberStreams$Saved", name := "wordsOfKind", desc := "(I)I" } : Jvm.MethodName)) ∈ tsW := ts_in (List.mem_append_right _ (List.mem_append_left _ (List.mem_of_getElem? (i := 30) rfl))) rfl
theorem sa_SV_wordsOfPart : (Jvm.Cond.static ({ cls := "NumberStreams$Saved", name := "wordsOfPart", desc := "(Z)I" } : Jvm.MethodName)) ∈ tsW := ts_in (List.mem_append_right _ (List.mem_append_left _ (List.mem_of_getElem? (i := 33) rfl))) rfl
theorem sa_MD_number : (Jvm.Cond.static ({ cls := "NumberStreamsModel", name := "number", desc := "(I)J" } : Jvm.MethodName)) ∈ tsW := ts_in (List.mem_append_right _ (List.mem_append_left _ (List.mem_of_getElem? (i := 163) rfl))) rfl
theorem sa_MD_residue : (Jvm.Cond.static ({ cls := "NumberStreamsModel", name := "residue", desc := "(J)Z" } : Jvm.MethodName)) ∈ tsW := ts_in (List.mem_append_right _ (List.mem_append_left _ (List.mem_of_getElem? (i := 172) rfl))) rfl
theorem sa_MD_rotl : (Jvm.Cond.static ({ cls := "NumberStreamsModel", name := "rotl", desc := "(II)I" } : Jvm.MethodName)) ∈ tsW := ts_in (List.mem_append_right _ (List.mem_append_left _ (List.mem_of_getElem? (i := 201) rfl))) rfl
theorem im_NS_init : (Jvm.Cond.instanceMethod ({ cls := "NumberStreams", name := "<init>", desc := "()V" } : Jvm.MethodName)) ∈ tsW := ts_in (List.mem_append_left _ (List.mem_of_getElem? (i := 10) rfl)) rfl
theorem im_OB_init : (Jvm.Cond.instanceMethod ({ cls := "java/lang/Object", name := "<init>", desc := "()V" } : Jvm.MethodName)) ∈ tsW := ts_in (List.mem_append_left _ (List.mem_of_getElem? (i := 13) rfl)) rfl
theorem im_PT_init : (Jvm.Cond.instanceMethod ({ cls := "NumberStreams$Points", name := "<init>", desc := "()V" } : Jvm.MethodName)) ∈ tsW := ts_in (List.mem_append_left _ (List.mem_of_getElem? (i := 22) rfl)) rfl
theorem im_PT_startRow : (Jvm.Cond.instanceMethod ({ cls := "NumberStreams$Points", name := "startRow", desc := "(IIII)V" } : Jvm.MethodName)) ∈ tsW := ts_in (List.mem_append_left _ (List.mem_of_getElem? (i := 29) rfl)) rfl
theorem im_PT_growRow : (Jvm.Cond.instanceMethod ({ cls := "NumberStreams$Points", name := "growRow", desc := "(III)V" } : Jvm.MethodName)) ∈ tsW := ts_in (List.mem_append_left _ (List.mem_of_getElem? (i := 33) rfl)) rfl
theorem im_PT_alignRow : (Jvm.Cond.instanceMethod ({ cls := "NumberStreams$Points", name := "alignRow", desc := "(I)V" } : Jvm.MethodName)) ∈ tsW := ts_in (List.mem_append_left _ (List.mem_of_getElem? (i := 37) rfl)) rfl
theorem im_NS_make : (Jvm.Cond.instanceMethod ({ cls := "NumberStreams", name := "make", desc := "(III)I" } : Jvm.MethodName)) ∈ tsW := ts_in (List.mem_append_left _ (List.mem_of_getElem? (i := 68) rfl)) rfl
theorem im_NS_leastFreeSlot : (Jvm.Cond.instanceMethod ({ cls := "NumberStreams", name := "leastFreeSlot", desc := "()I" } : Jvm.MethodName)) ∈ tsW := ts_in (List.mem_append_left _ (List.mem_of_getElem? (i := 73) rfl)) rfl
theorem im_ST_init : (Jvm.Cond.instanceMethod ({ cls := "NumberStreams$Stream", name := "<init>", desc := "(IJJ)V" } : Jvm.MethodName)) ∈ tsW := ts_in (List.mem_append_left _ (List.mem_of_getElem? (i := 102) rfl)) rfl
theorem im_NS_twin : (Jvm.Cond.instanceMethod ({ cls := "NumberStreams", name := "twin", desc := "(I)I" } : Jvm.MethodName)) ∈ tsW := ts_in (List.mem_append_left _ (List.mem_of_getElem? (i := 122) rfl)) rfl
theorem im_NS_streamAt : (Jvm.Cond.instanceMethod ({ cls := "NumberStreams", name := "streamAt", desc := "(I)LNumberStreams$Stream;" } : Jvm.MethodName)) ∈ tsW := ts_in (List.mem_append_left _ (List.mem_of_getElem? (i := 127) rfl)) rfl
theorem im_NS_release : (Jvm.Cond.instanceMethod ({ cls := "NumberStreams", name := "release", desc := "(I)Z" } : Jvm.MethodName)) ∈ tsW := ts_in (List.mem_append_left _ (List.mem_of_getElem? (i := 130) rfl)) rfl
theorem im_NS_next : (Jvm.Cond.instanceMethod ({ cls := "NumberStreams", name := "next", desc := "(I)J" } : Jvm.MethodName)) ∈ tsW := ts_in (List.mem_append_left _ (List.mem_of_getElem? (i := 134) rfl)) rfl
theorem im_ST_step : (Jvm.Cond.instanceMethod ({ cls := "NumberStreams$Stream", name := "step", desc := "()I" } : Jvm.MethodName)) ∈ tsW := ts_in (List.mem_append_left _ (List.mem_of_getElem? (i := 139) rfl)) rfl
theorem im_ST_output : (Jvm.Cond.instanceMethod ({ cls := "NumberStreams$Stream", name := "output", desc := "()I" } : Jvm.MethodName)) ∈ tsW := ts_in (List.mem_append_left _ (List.mem_of_getElem? (i := 144) rfl)) rfl
theorem im_ST_mixedCounter : (Jvm.Cond.instanceMethod ({ cls := "NumberStreams$Stream", name := "mixedCounter", desc := "()I" } : Jvm.MethodName)) ∈ tsW := ts_in (List.mem_append_left _ (List.mem_of_getElem? (i := 155) rfl)) rfl
theorem im_ST_nextRemainder : (Jvm.Cond.instanceMethod ({ cls := "NumberStreams$Stream", name := "nextRemainder", desc := "()J" } : Jvm.MethodName)) ∈ tsW := ts_in (List.mem_append_left _ (List.mem_of_getElem? (i := 161) rfl)) rfl
theorem im_ST_move : (Jvm.Cond.instanceMethod ({ cls := "NumberStreams$Stream", name := "move", desc := "()V" } : Jvm.MethodName)) ∈ tsW := ts_in (List.mem_append_left _ (List.mem_of_getElem? (i := 166) rfl)) rfl
theorem im_ST_moveRotations : (Jvm.Cond.instanceMethod ({ cls := "NumberStreams$Stream", name := "moveRotations", desc := "()V" } : Jvm.MethodName)) ∈ tsW := ts_in (List.mem_append_left _ (List.mem_of_getElem? (i := 172) rfl)) rfl
theorem im_NS_jump : (Jvm.Cond.instanceMethod ({ cls := "NumberStreams", name := "jump", desc := "(II)Z" } : Jvm.MethodName)) ∈ tsW := ts_in (List.mem_append_left _ (List.mem_of_getElem? (i := 176) rfl)) rfl
theorem im_NS_draw : (Jvm.Cond.instanceMethod ({ cls := "NumberStreams", name := "draw", desc := "(II)I" } : Jvm.MethodName)) ∈ tsW := ts_in (List.mem_append_left _ (List.mem_of_getElem? (i := 182) rfl)) rfl
theorem im_ST_drawnBelow : (Jvm.Cond.instanceMethod ({ cls := "NumberStreams$Stream", name := "drawnBelow", desc := "(I)I" } : Jvm.MethodName)) ∈ tsW := ts_in (List.mem_append_left _ (List.mem_of_getElem? (i := 186) rfl)) rfl
theorem im_NS_same : (Jvm.Cond.instanceMethod ({ cls := "NumberStreams", name := "same", desc := "(II)Z" } : Jvm.MethodName)) ∈ tsW := ts_in (List.mem_append_left _ (List.mem_of_getElem? (i := 192) rfl)) rfl
theorem im_NS_save : (Jvm.Cond.instanceMethod ({ cls := "NumberStreams", name := "save", desc := "(I)I" } : Jvm.MethodName)) ∈ tsW := ts_in (List.mem_append_left _ (List.mem_of_getElem? (i := 196) rfl)) rfl
theorem im_SV_init : (Jvm.Cond.instanceMethod ({ cls := "NumberStreams$Saved", name := "<init>", desc := "(LNumberStreams$Stream;)V" } : Jvm.MethodName)) ∈ tsW := ts_in (List.mem_append_left _ (List.mem_of_getElem? (i := 201) rfl)) rfl
theorem im_SV_append : (Jvm.Cond.instanceMethod ({ cls := "NumberStreams$Saved", name := "append", desc := "(I)V" } : Jvm.MethodName)) ∈ tsW := ts_in (List.mem_append_left _ (List.mem_of_getElem? (i := 207) rfl)) rfl
theorem im_SV_appendPart : (Jvm.Cond.instanceMethod ({ cls := "NumberStreams$Saved", name := "appendPart", desc := "(JZ)V" } : Jvm.MethodName)) ∈ tsW := ts_in (List.mem_append_left _ (List.mem_of_getElem? (i := 214) rfl)) rfl
theorem im_SV_checkOfFirst : (Jvm.Cond.instanceMethod ({ cls := "NumberStreams$Saved", name := "checkOfFirst", desc := "(I)I" } : Jvm.MethodName)) ∈ tsW := ts_in (List.mem_append_left _ (List.mem_of_getElem? (i := 221) rfl)) rfl
theorem im_NS_length : (Jvm.Cond.instanceMethod ({ cls := "NumberStreams", name := "length", desc := "(I)I" } : Jvm.MethodName)) ∈ tsW := ts_in (List.mem_append_left _ (List.mem_of_getElem? (i := 233) rfl)) rfl
theorem im_NS_recordAt : (Jvm.Cond.instanceMethod ({ cls := "NumberStreams", name := "recordAt", desc := "(I)LNumberStreams$Saved;" } : Jvm.MethodName)) ∈ tsW := ts_in (List.mem_append_left _ (List.mem_of_getElem? (i := 238) rfl)) rfl
theorem im_NS_word : (Jvm.Cond.instanceMethod ({ cls := "NumberStreams", name := "word", desc := "(II)I" } : Jvm.MethodName)) ∈ tsW := ts_in (List.mem_append_right _ (List.mem_append_left _ (List.mem_of_getElem? (i := 1) rfl))) rfl
theorem im_SV_hasWord : (Jvm.Cond.instanceMethod ({ cls := "NumberStreams$Saved", name := "hasWord", desc := "(I)Z" } : Jvm.MethodName)) ∈ tsW := ts_in (List.mem_append_right _ (List.mem_append_left _ (List.mem_of_getElem? (i := 5) rfl))) rfl
theorem im_NS_spoil : (Jvm.Cond.instanceMethod ({ cls := "NumberStreams", name := "spoil", desc := "(III)Z" } : Jvm.MethodName)) ∈ tsW := ts_in (List.mem_append_right _ (List.mem_append_left _ (List.mem_of_getElem? (i := 9) rfl))) rfl
theorem im_NS_cut : (Jvm.Cond.instanceMethod ({ cls := "NumberStreams", name := "cut", desc := "(I)Z" } : Jvm.MethodName)) ∈ tsW := ts_in (List.mem_append_right _ (List.mem_append_left _ (List.mem_of_getElem? (i := 13) rfl))) rfl
theorem im_NS_restore : (Jvm.Cond.instanceMethod ({ cls := "NumberStreams", name := "restore", desc := "(I)I" } : Jvm.MethodName)) ∈ tsW := ts_in (List.mem_append_right _ (List.mem_append_left _ (List.mem_of_getElem? (i := 17) rfl))) rfl
theorem im_SV_fault : (Jvm.Cond.instanceMethod ({ cls := "NumberStreams$Saved", name := "fault", desc := "()I" } : Jvm.MethodName)) ∈ tsW := ts_in (List.mem_append_right _ (List.mem_append_left _ (List.mem_of_getElem? (i := 21) rfl))) rfl
theorem im_SV_kind : (Jvm.Cond.instanceMethod ({ cls := "NumberStreams$Saved", name := "kind", desc := "()I" } : Jvm.MethodName)) ∈ tsW := ts_in (List.mem_append_right _ (List.mem_append_left _ (List.mem_of_getElem? (i := 25) rfl))) rfl
theorem im_SV_first : (Jvm.Cond.instanceMethod ({ cls := "NumberStreams$Saved", name := "first", desc := "()J" } : Jvm.MethodName)) ∈ tsW := ts_in (List.mem_append_right _ (List.mem_append_left _ (List.mem_of_getElem? (i := 36) rfl))) rfl
theorem im_SV_partAt : (Jvm.Cond.instanceMethod ({ cls := "NumberStreams$Saved", name := "partAt", desc := "(IZ)J" } : Jvm.MethodName)) ∈ tsW := ts_in (List.mem_append_right _ (List.mem_append_left _ (List.mem_of_getElem? (i := 41) rfl))) rfl
theorem im_SV_second : (Jvm.Cond.instanceMethod ({ cls := "NumberStreams$Saved", name := "second", desc := "()J" } : Jvm.MethodName)) ∈ tsW := ts_in (List.mem_append_right _ (List.mem_append_left _ (List.mem_of_getElem? (i := 45) rfl))) rfl
theorem im_NS_seek : (Jvm.Cond.instanceMethod ({ cls := "NumberStreams", name := "seek", desc := "(I)Z" } : Jvm.MethodName)) ∈ tsW := ts_in (List.mem_append_right _ (List.mem_append_left _ (List.mem_of_getElem? (i := 53) rfl))) rfl
theorem im_NS_advance : (Jvm.Cond.instanceMethod ({ cls := "NumberStreams", name := "advance", desc := "()I" } : Jvm.MethodName)) ∈ tsW := ts_in (List.mem_append_right _ (List.mem_append_left _ (List.mem_of_getElem? (i := 58) rfl))) rfl
theorem im_NS_coordinate : (Jvm.Cond.instanceMethod ({ cls := "NumberStreams", name := "coordinate", desc := "(I)J" } : Jvm.MethodName)) ∈ tsW := ts_in (List.mem_append_right _ (List.mem_append_left _ (List.mem_of_getElem? (i := 62) rfl))) rfl
theorem im_PT_joinedDirections : (Jvm.Cond.instanceMethod ({ cls := "NumberStreams$Points", name := "joinedDirections", desc := "(I)I" } : Jvm.MethodName)) ∈ tsW := ts_in (List.mem_append_right _ (List.mem_append_left _ (List.mem_of_getElem? (i := 66) rfl))) rfl
theorem im_PT_turnedDigits : (Jvm.Cond.instanceMethod ({ cls := "NumberStreams$Points", name := "turnedDigits", desc := "(II)I" } : Jvm.MethodName)) ∈ tsW := ts_in (List.mem_append_right _ (List.mem_append_left _ (List.mem_of_getElem? (i := 70) rfl))) rfl
theorem im_NS_weigh : (Jvm.Cond.instanceMethod ({ cls := "NumberStreams", name := "weigh", desc := "(II)Z" } : Jvm.MethodName)) ∈ tsW := ts_in (List.mem_append_right _ (List.mem_append_left _ (List.mem_of_getElem? (i := 74) rfl))) rfl
theorem im_NS_pick : (Jvm.Cond.instanceMethod ({ cls := "NumberStreams", name := "pick", desc := "(I)I" } : Jvm.MethodName)) ∈ tsW := ts_in (List.mem_append_right _ (List.mem_append_left _ (List.mem_of_getElem? (i := 79) rfl))) rfl
theorem im_NS_totalWeight : (Jvm.Cond.instanceMethod ({ cls := "NumberStreams", name := "totalWeight", desc := "()I" } : Jvm.MethodName)) ∈ tsW := ts_in (List.mem_append_right _ (List.mem_append_left _ (List.mem_of_getElem? (i := 84) rfl))) rfl
theorem im_NS_outcomeAt : (Jvm.Cond.instanceMethod ({ cls := "NumberStreams", name := "outcomeAt", desc := "(I)I" } : Jvm.MethodName)) ∈ tsW := ts_in (List.mem_append_right _ (List.mem_append_left _ (List.mem_of_getElem? (i := 88) rfl))) rfl
theorem im_NS_shuffle : (Jvm.Cond.instanceMethod ({ cls := "NumberStreams", name := "shuffle", desc := "(I)Z" } : Jvm.MethodName)) ∈ tsW := ts_in (List.mem_append_right _ (List.mem_append_left _ (List.mem_of_getElem? (i := 91) rfl))) rfl
theorem im_NS_card : (Jvm.Cond.instanceMethod ({ cls := "NumberStreams", name := "card", desc := "(I)I" } : Jvm.MethodName)) ∈ tsW := ts_in (List.mem_append_right _ (List.mem_append_left _ (List.mem_of_getElem? (i := 95) rfl))) rfl
theorem im_MD_init : (Jvm.Cond.instanceMethod ({ cls := "NumberStreamsModel", name := "<init>", desc := "()V" } : Jvm.MethodName)) ∈ tsW := ts_in (List.mem_append_right _ (List.mem_append_left _ (List.mem_of_getElem? (i := 101) rfl))) rfl
theorem im_MD_make : (Jvm.Cond.instanceMethod ({ cls := "NumberStreamsModel", name := "make", desc := "(III)I" } : Jvm.MethodName)) ∈ tsW := ts_in (List.mem_append_right _ (List.mem_append_left _ (List.mem_of_getElem? (i := 155) rfl))) rfl
theorem im_MD_freeSlot : (Jvm.Cond.instanceMethod ({ cls := "NumberStreamsModel", name := "freeSlot", desc := "()I" } : Jvm.MethodName)) ∈ tsW := ts_in (List.mem_append_right _ (List.mem_append_left _ (List.mem_of_getElem? (i := 160) rfl))) rfl
theorem im_MD_sound : (Jvm.Cond.instanceMethod ({ cls := "NumberStreamsModel", name := "sound", desc := "()Z" } : Jvm.MethodName)) ∈ tsW := ts_in (List.mem_append_right _ (List.mem_append_left _ (List.mem_of_getElem? (i := 169) rfl))) rfl
theorem im_MD_settle : (Jvm.Cond.instanceMethod ({ cls := "NumberStreamsModel", name := "settle", desc := "(I)I" } : Jvm.MethodName)) ∈ tsW := ts_in (List.mem_append_right _ (List.mem_append_left _ (List.mem_of_getElem? (i := 177) rfl))) rfl
theorem im_MD_twin : (Jvm.Cond.instanceMethod ({ cls := "NumberStreamsModel", name := "twin", desc := "(I)I" } : Jvm.MethodName)) ∈ tsW := ts_in (List.mem_append_right _ (List.mem_append_left _ (List.mem_of_getElem? (i := 180) rfl))) rfl
theorem im_MD_holds : (Jvm.Cond.instanceMethod ({ cls := "NumberStreamsModel", name := "holds", desc := "(I)Z" } : Jvm.MethodName)) ∈ tsW := ts_in (List.mem_append_right _ (List.mem_append_left _ (List.mem_of_getElem? (i := 185) rfl))) rfl
theorem im_MD_release : (Jvm.Cond.instanceMethod ({ cls := "NumberStreamsModel", name := "release", desc := "(I)Z" } : Jvm.MethodName)) ∈ tsW := ts_in (List.mem_append_right _ (List.mem_append_left _ (List.mem_of_getElem? (i := 188) rfl))) rfl
theorem im_MD_next : (Jvm.Cond.instanceMethod ({ cls := "NumberStreamsModel", name := "next", desc := "(I)J" } : Jvm.MethodName)) ∈ tsW := ts_in (List.mem_append_right _ (List.mem_append_left _ (List.mem_of_getElem? (i := 192) rfl))) rfl
theorem im_MD_step : (Jvm.Cond.instanceMethod ({ cls := "NumberStreamsModel", name := "step", desc := "(I)V" } : Jvm.MethodName)) ∈ tsW := ts_in (List.mem_append_right _ (List.mem_append_left _ (List.mem_of_getElem? (i := 198) rfl))) rfl
theorem im_MD_rounds : (Jvm.Cond.instanceMethod ({ cls := "NumberStreamsModel", name := "rounds", desc := "(IJ)V" } : Jvm.MethodName)) ∈ tsW := ts_in (List.mem_append_right _ (List.mem_append_left _ (List.mem_of_getElem? (i := 207) rfl))) rfl
theorem im_MD_multiply : (Jvm.Cond.instanceMethod ({ cls := "NumberStreamsModel", name := "multiply", desc := "(JJ)V" } : Jvm.MethodName)) ∈ tsW := ts_in (List.mem_append_right _ (List.mem_append_left _ (List.mem_of_getElem? (i := 212) rfl))) rfl
theorem im_MD_jump : (Jvm.Cond.instanceMethod ({ cls := "NumberStreamsModel", name := "jump", desc := "(II)Z" } : Jvm.MethodName)) ∈ tsW := ts_in (List.mem_append_right _ (List.mem_append_left _ (List.mem_of_getElem? (i := 221) rfl))) rfl
theorem im_MD_draw : (Jvm.Cond.instanceMethod ({ cls := "NumberStreamsModel", name := "draw", desc := "(II)I" } : Jvm.MethodName)) ∈ tsW := ts_in (List.mem_append_right _ (List.mem_append_left _ (List.mem_of_getElem? (i := 226) rfl))) rfl
theorem im_MD_below : (Jvm.Cond.instanceMethod ({ cls := "NumberStreamsModel", name := "below", desc := "(II)I" } : Jvm.MethodName)) ∈ tsW := ts_in (List.mem_append_right _ (List.mem_append_left _ (List.mem_of_getElem? (i := 231) rfl))) rfl
theorem im_MD_same : (Jvm.Cond.instanceMethod ({ cls := "NumberStreamsModel", name := "same", desc := "(II)Z" } : Jvm.MethodName)) ∈ tsW := ts_in (List.mem_append_right _ (List.mem_append_left _ (List.mem_of_getElem? (i := 234) rfl))) rfl
theorem im_MD_save : (Jvm.Cond.instanceMethod ({ cls := "NumberStreamsModel", name := "save", desc := "(I)I" } : Jvm.MethodName)) ∈ tsW := ts_in (List.mem_append_right _ (List.mem_append_left _ (List.mem_of_getElem? (i := 238) rfl))) rfl
theorem im_MD_append : (Jvm.Cond.instanceMethod ({ cls := "NumberStreamsModel", name := "append", desc := "(I)V" } : Jvm.MethodName)) ∈ tsW := ts_in (List.mem_append_right _ (List.mem_append_right _ (List.mem_of_getElem? (i := 4) rfl))) rfl
theorem im_MD_appendLong : (Jvm.Cond.instanceMethod ({ cls := "NumberStreamsModel", name := "appendLong", desc := "(J)V" } : Jvm.MethodName)) ∈ tsW := ts_in (List.mem_append_right _ (List.mem_append_right _ (List.mem_of_getElem? (i := 8) rfl))) rfl
theorem im_MD_check : (Jvm.Cond.instanceMethod ({ cls := "NumberStreamsModel", name := "check", desc := "(II)I" } : Jvm.MethodName)) ∈ tsW := ts_in (List.mem_append_right _ (List.mem_append_right _ (List.mem_of_getElem? (i := 12) rfl))) rfl
theorem im_MD_length : (Jvm.Cond.instanceMethod ({ cls := "NumberStreamsModel", name := "length", desc := "(I)I" } : Jvm.MethodName)) ∈ tsW := ts_in (List.mem_append_right _ (List.mem_append_right _ (List.mem_of_getElem? (i := 15) rfl))) rfl
theorem im_MD_word : (Jvm.Cond.instanceMethod ({ cls := "NumberStreamsModel", name := "word", desc := "(II)I" } : Jvm.MethodName)) ∈ tsW := ts_in (List.mem_append_right _ (List.mem_append_right _ (List.mem_of_getElem? (i := 19) rfl))) rfl
theorem im_MD_isWord : (Jvm.Cond.instanceMethod ({ cls := "NumberStreamsModel", name := "isWord", desc := "(II)Z" } : Jvm.MethodName)) ∈ tsW := ts_in (List.mem_append_right _ (List.mem_append_right _ (List.mem_of_getElem? (i := 24) rfl))) rfl
theorem im_MD_spoil : (Jvm.Cond.instanceMethod ({ cls := "NumberStreamsModel", name := "spoil", desc := "(III)Z" } : Jvm.MethodName)) ∈ tsW := ts_in (List.mem_append_right _ (List.mem_append_right _ (List.mem_of_getElem? (i := 27) rfl))) rfl
theorem im_MD_cut : (Jvm.Cond.instanceMethod ({ cls := "NumberStreamsModel", name := "cut", desc := "(I)Z" } : Jvm.MethodName)) ∈ tsW := ts_in (List.mem_append_right _ (List.mem_append_right _ (List.mem_of_getElem? (i := 31) rfl))) rfl
theorem im_MD_restore : (Jvm.Cond.instanceMethod ({ cls := "NumberStreamsModel", name := "restore", desc := "(I)I" } : Jvm.MethodName)) ∈ tsW := ts_in (List.mem_append_right _ (List.mem_append_right _ (List.mem_of_getElem? (i := 35) rfl))) rfl
theorem im_MD_twoWords : (Jvm.Cond.instanceMethod ({ cls := "NumberStreamsModel", name := "twoWords", desc := "(I)J" } : Jvm.MethodName)) ∈ tsW := ts_in (List.mem_append_right _ (List.mem_append_right _ (List.mem_of_getElem? (i := 40) rfl))) rfl
theorem im_MD_seek : (Jvm.Cond.instanceMethod ({ cls := "NumberStreamsModel", name := "seek", desc := "(I)Z" } : Jvm.MethodName)) ∈ tsW := ts_in (List.mem_append_right _ (List.mem_append_right _ (List.mem_of_getElem? (i := 43) rfl))) rfl
theorem im_MD_advance : (Jvm.Cond.instanceMethod ({ cls := "NumberStreamsModel", name := "advance", desc := "()I" } : Jvm.MethodName)) ∈ tsW := ts_in (List.mem_append_right _ (List.mem_append_right _ (List.mem_of_getElem? (i := 48) rfl))) rfl
theorem im_MD_coordinate : (Jvm.Cond.instanceMethod ({ cls := "NumberStreamsModel", name := "coordinate", desc := "(I)J" } : Jvm.MethodName)) ∈ tsW := ts_in (List.mem_append_right _ (List.mem_append_right _ (List.mem_of_getElem? (i := 52) rfl))) rfl
theorem im_MD_turned : (Jvm.Cond.instanceMethod ({ cls := "NumberStreamsModel", name := "turned", desc := "(II)J" } : Jvm.MethodName)) ∈ tsW := ts_in (List.mem_append_right _ (List.mem_append_right _ (List.mem_of_getElem? (i := 57) rfl))) rfl
theorem im_MD_inner : (Jvm.Cond.instanceMethod ({ cls := "NumberStreamsModel", name := "inner", desc := "(I)V" } : Jvm.MethodName)) ∈ tsW := ts_in (List.mem_append_right _ (List.mem_append_right _ (List.mem_of_getElem? (i := 61) rfl))) rfl
theorem im_MD_weigh : (Jvm.Cond.instanceMethod ({ cls := "NumberStreamsModel", name := "weigh", desc := "(II)Z" } : Jvm.MethodName)) ∈ tsW := ts_in (List.mem_append_right _ (List.mem_append_right _ (List.mem_of_getElem? (i := 64) rfl))) rfl
theorem im_MD_pick : (Jvm.Cond.instanceMethod ({ cls := "NumberStreamsModel", name := "pick", desc := "(I)I" } : Jvm.MethodName)) ∈ tsW := ts_in (List.mem_append_right _ (List.mem_append_right _ (List.mem_of_getElem? (i := 69) rfl))) rfl
theorem im_MD_shuffle : (Jvm.Cond.instanceMethod ({ cls := "NumberStreamsModel", name := "shuffle", desc := "(I)Z" } : Jvm.MethodName)) ∈ tsW := ts_in (List.mem_append_right _ (List.mem_append_right _ (List.mem_of_getElem? (i := 73) rfl))) rfl
theorem im_MD_card : (Jvm.Cond.instanceMethod ({ cls := "NumberStreamsModel", name := "card", desc := "(I)I" } : Jvm.MethodName)) ∈ tsW := ts_in (List.mem_append_right _ (List.mem_append_right _ (List.mem_of_getElem? (i := 77) rfl))) rfl
theorem se_NS_make : (Jvm.Cond.selects "NumberStreams" ({ cls := "NumberStreams", name := "make", desc := "(III)I" } : Jvm.MethodName) ({ cls := "NumberStreams", name := "make", desc := "(III)I" } : Jvm.MethodName)) ∈ tsW := ts_in (List.mem_append_left _ (List.mem_of_getElem? (i := 69) rfl)) rfl
theorem se_NS_twin : (Jvm.Cond.selects "NumberStreams" ({ cls := "NumberStreams", name := "twin", desc := "(I)I" } : Jvm.MethodName) ({ cls := "NumberStreams", name := "twin", desc := "(I)I" } : Jvm.MethodName)) ∈ tsW := ts_in (List.mem_append_left _ (List.mem_of_getElem? (i := 123) rfl)) rfl
theorem se_NS_release : (Jvm.Cond.selects "NumberStreams" ({ cls := "NumberStreams", name := "release", desc := "(I)Z" } : Jvm.MethodName) ({ cls := "NumberStreams", name := "release", desc := "(I)Z" } : Jvm.MethodName)) ∈ tsW := ts_in (List.mem_append_left _ (List.mem_of_getElem? (i := 131) rfl)) rfl
theorem se_NS_next : (Jvm.Cond.selects "NumberStreams" ({ cls := "NumberStreams", name := "next", desc := "(I)J" } : Jvm.MethodName) ({ cls := "NumberStreams", name := "next", desc := "(I)J" } : Jvm.MethodName)) ∈ tsW := ts_in (List.mem_append_left _ (List.mem_of_getElem? (i := 135) rfl)) rfl
theorem se_ST_step : (Jvm.Cond.selects "NumberStreams$Stream" ({ cls := "NumberStreams$Stream", name := "step", desc := "()I" } : Jvm.MethodName) ({ cls := "NumberStreams$Stream", name := "step", desc := "()I" } : Jvm.MethodName)) ∈ tsW := ts_in (List.mem_append_left _ (List.mem_of_getElem? (i := 140) rfl)) rfl
theorem se_ST_move : (Jvm.Cond.selects "NumberStreams$Stream" ({ cls := "NumberStreams$Stream", name := "move", desc := "()V" } : Jvm.MethodName) ({ cls := "NumberStreams$Stream", name := "move", desc := "()V" } : Jvm.MethodName)) ∈ tsW := ts_in (List.mem_append_left _ (List.mem_of_getElem? (i := 167) rfl)) rfl
theorem se_NS_jump : (Jvm.Cond.selects "NumberStreams" ({ cls := "NumberStreams", name := "jump", desc := "(II)Z" } : Jvm.MethodName) ({ cls := "NumberStreams", name := "jump", desc := "(II)Z" } : Jvm.MethodName)) ∈ tsW := ts_in (List.mem_append_left _ (List.mem_of_getElem? (i := 177) rfl)) rfl
theorem se_NS_draw : (Jvm.Cond.selects "NumberStreams" ({ cls := "NumberStreams", name := "draw", desc := "(II)I" } : Jvm.MethodName) ({ cls := "NumberStreams", name := "draw", desc := "(II)I" } : Jvm.MethodName)) ∈ tsW := ts_in (List.mem_append_left _ (List.mem_of_getElem? (i := 183) rfl)) rfl
theorem se_ST_drawnBelow : (Jvm.Cond.selects "NumberStreams$Stream" ({ cls := "NumberStreams$Stream", name := "drawnBelow", desc := "(I)I" } : Jvm.MethodName) ({ cls := "NumberStreams$Stream", name := "drawnBelow", desc := "(I)I" } : Jvm.MethodName)) ∈ tsW := ts_in (List.mem_append_left _ (List.mem_of_getElem? (i := 187) rfl)) rfl
theorem se_NS_same : (Jvm.Cond.selects "NumberStreams" ({ cls := "NumberStreams", name := "same", desc := "(II)Z" } : Jvm.MethodName) ({ cls := "NumberStreams", name := "same", desc := "(II)Z" } : Jvm.MethodName)) ∈ tsW := ts_in (List.mem_append_left _ (List.mem_of_getElem? (i := 193) rfl)) rfl
theorem se_NS_save : (Jvm.Cond.selects "NumberStreams" ({ cls := "NumberStreams", name := "save", desc := "(I)I" } : Jvm.MethodName) ({ cls := "NumberStreams", name := "save", desc := "(I)I" } : Jvm.MethodName)) ∈ tsW := ts_in (List.mem_append_left _ (List.mem_of_getElem? (i := 197) rfl)) rfl
theorem se_NS_length : (Jvm.Cond.selects "NumberStreams" ({ cls := "NumberStreams", name := "length", desc := "(I)I" } : Jvm.MethodName) ({ cls := "NumberStreams", name := "length", desc := "(I)I" } : Jvm.MethodName)) ∈ tsW := ts_in (List.mem_append_left _ (List.mem_of_getElem? (i := 234) rfl)) rfl
theorem se_NS_word : (Jvm.Cond.selects "NumberStreams" ({ cls := "NumberStreams", name := "word", desc := "(II)I" } : Jvm.MethodName) ({ cls := "NumberStreams", name := "word", desc := "(II)I" } : Jvm.MethodName)) ∈ tsW := ts_in (List.mem_append_right _ (List.mem_append_left _ (List.mem_of_getElem? (i := 2) rfl))) rfl
theorem se_SV_hasWord : (Jvm.Cond.selects "NumberStreams$Saved" ({ cls := "NumberStreams$Saved", name := "hasWord", desc := "(I)Z" } : Jvm.MethodName) ({ cls := "NumberStreams$Saved", name := "hasWord", desc := "(I)Z" } : Jvm.MethodName)) ∈ tsW := ts_in (List.mem_append_right _ (List.mem_append_left _ (List.mem_of_getElem? (i := 6) rfl))) rfl
theorem se_NS_spoil : (Jvm.Cond.selects "NumberStreams" ({ cls := "NumberStreams", name := "spoil", desc := "(III)Z" } : Jvm.MethodName) ({ cls := "NumberStreams", name := "spoil", desc := "(III)Z" } : Jvm.MethodName)) ∈ tsW := ts_in (List.mem_append_right _ (List.mem_append_left _ (List.mem_of_getElem? (i := 10) rfl))) rfl
theorem se_NS_cut : (Jvm.Cond.selects "NumberStreams" ({ cls := "NumberStreams", name := "cut", desc := "(I)Z" } : Jvm.MethodName) ({ cls := "NumberStreams", name := "cut", desc := "(I)Z" } : Jvm.MethodName)) ∈ tsW := ts_in (List.mem_append_right _ (List.mem_append_left _ (List.mem_of_getElem? (i := 14) rfl))) rfl
theorem se_NS_restore : (Jvm.Cond.selects "NumberStreams" ({ cls := "NumberStreams", name := "restore", desc := "(I)I" } : Jvm.MethodName) ({ cls := "NumberStreams", name := "restore", desc := "(I)I" } : Jvm.MethodName)) ∈ tsW := ts_in (List.mem_append_right _ (List.mem_append_left _ (List.mem_of_getElem? (i := 18) rfl))) rfl
theorem se_SV_fault : (Jvm.Cond.selects "NumberStreams$Saved" ({ cls := "NumberStreams$Saved", name := "fault", desc := "()I" } : Jvm.MethodName) ({ cls := "NumberStreams$Saved", name := "fault", desc := "()I" } : Jvm.MethodName)) ∈ tsW := ts_in (List.mem_append_right _ (List.mem_append_left _ (List.mem_of_getElem? (i := 22) rfl))) rfl
theorem se_SV_kind : (Jvm.Cond.selects "NumberStreams$Saved" ({ cls := "NumberStreams$Saved", name := "kind", desc := "()I" } : Jvm.MethodName) ({ cls := "NumberStreams$Saved", name := "kind", desc := "()I" } : Jvm.MethodName)) ∈ tsW := ts_in (List.mem_append_right _ (List.mem_append_left _ (List.mem_of_getElem? (i := 26) rfl))) rfl
theorem se_SV_first : (Jvm.Cond.selects "NumberStreams$Saved" ({ cls := "NumberStreams$Saved", name := "first", desc := "()J" } : Jvm.MethodName) ({ cls := "NumberStreams$Saved", name := "first", desc := "()J" } : Jvm.MethodName)) ∈ tsW := ts_in (List.mem_append_right _ (List.mem_append_left _ (List.mem_of_getElem? (i := 37) rfl))) rfl
theorem se_SV_second : (Jvm.Cond.selects "NumberStreams$Saved" ({ cls := "NumberStreams$Saved", name := "second", desc := "()J" } : Jvm.MethodName) ({ cls := "NumberStreams$Saved", name := "second", desc := "()J" } : Jvm.MethodName)) ∈ tsW := ts_in (List.mem_append_right _ (List.mem_append_left _ (List.mem_of_getElem? (i := 46) rfl))) rfl
theorem se_NS_seek : (Jvm.Cond.selects "NumberStreams" ({ cls := "NumberStreams", name := "seek", desc := "(I)Z" } : Jvm.MethodName) ({ cls := "NumberStreams", name := "seek", desc := "(I)Z" } : Jvm.MethodName)) ∈ tsW := ts_in (List.mem_append_right _ (List.mem_append_left _ (List.mem_of_getElem? (i := 54) rfl))) rfl
theorem se_NS_advance : (Jvm.Cond.selects "NumberStreams" ({ cls := "NumberStreams", name := "advance", desc := "()I" } : Jvm.MethodName) ({ cls := "NumberStreams", name := "advance", desc := "()I" } : Jvm.MethodName)) ∈ tsW := ts_in (List.mem_append_right _ (List.mem_append_left _ (List.mem_of_getElem? (i := 59) rfl))) rfl
theorem se_NS_coordinate : (Jvm.Cond.selects "NumberStreams" ({ cls := "NumberStreams", name := "coordinate", desc := "(I)J" } : Jvm.MethodName) ({ cls := "NumberStreams", name := "coordinate", desc := "(I)J" } : Jvm.MethodName)) ∈ tsW := ts_in (List.mem_append_right _ (List.mem_append_left _ (List.mem_of_getElem? (i := 63) rfl))) rfl
theorem se_PT_joinedDirections : (Jvm.Cond.selects "NumberStreams$Points" ({ cls := "NumberStreams$Points", name := "joinedDirections", desc := "(I)I" } : Jvm.MethodName) ({ cls := "NumberStreams$Points", name := "joinedDirections", desc := "(I)I" } : Jvm.MethodName)) ∈ tsW := ts_in (List.mem_append_right _ (List.mem_append_left _ (List.mem_of_getElem? (i := 67) rfl))) rfl
theorem se_PT_turnedDigits : (Jvm.Cond.selects "NumberStreams$Points" ({ cls := "NumberStreams$Points", name := "turnedDigits", desc := "(II)I" } : Jvm.MethodName) ({ cls := "NumberStreams$Points", name := "turnedDigits", desc := "(II)I" } : Jvm.MethodName)) ∈ tsW := ts_in (List.mem_append_right _ (List.mem_append_left _ (List.mem_of_getElem? (i := 71) rfl))) rfl
theorem se_NS_weigh : (Jvm.Cond.selects "NumberStreams" ({ cls := "NumberStreams", name := "weigh", desc := "(II)Z" } : Jvm.MethodName) ({ cls := "NumberStreams", name := "weigh", desc := "(II)Z" } : Jvm.MethodName)) ∈ tsW := ts_in (List.mem_append_right _ (List.mem_append_left _ (List.mem_of_getElem? (i := 75) rfl))) rfl
theorem se_NS_pick : (Jvm.Cond.selects "NumberStreams" ({ cls := "NumberStreams", name := "pick", desc := "(I)I" } : Jvm.MethodName) ({ cls := "NumberStreams", name := "pick", desc := "(I)I" } : Jvm.MethodName)) ∈ tsW := ts_in (List.mem_append_right _ (List.mem_append_left _ (List.mem_of_getElem? (i := 80) rfl))) rfl
theorem se_NS_shuffle : (Jvm.Cond.selects "NumberStreams" ({ cls := "NumberStreams", name := "shuffle", desc := "(I)Z" } : Jvm.MethodName) ({ cls := "NumberStreams", name := "shuffle", desc := "(I)Z" } : Jvm.MethodName)) ∈ tsW := ts_in (List.mem_append_right _ (List.mem_append_left _ (List.mem_of_getElem? (i := 92) rfl))) rfl
theorem se_NS_card : (Jvm.Cond.selects "NumberStreams" ({ cls := "NumberStreams", name := "card", desc := "(I)I" } : Jvm.MethodName) ({ cls := "NumberStreams", name := "card", desc := "(I)I" } : Jvm.MethodName)) ∈ tsW := ts_in (List.mem_append_right _ (List.mem_append_left _ (List.mem_of_getElem? (i := 96) rfl))) rfl
theorem se_MD_make : (Jvm.Cond.selects "NumberStreamsModel" ({ cls := "NumberStreamsModel", name := "make", desc := "(III)I" } : Jvm.MethodName) ({ cls := "NumberStreamsModel", name := "make", desc := "(III)I" } : Jvm.MethodName)) ∈ tsW := ts_in (List.mem_append_right _ (List.mem_append_left _ (List.mem_of_getElem? (i := 156) rfl))) rfl
theorem se_MD_twin : (Jvm.Cond.selects "NumberStreamsModel" ({ cls := "NumberStreamsModel", name := "twin", desc := "(I)I" } : Jvm.MethodName) ({ cls := "NumberStreamsModel", name := "twin", desc := "(I)I" } : Jvm.MethodName)) ∈ tsW := ts_in (List.mem_append_right _ (List.mem_append_left _ (List.mem_of_getElem? (i := 181) rfl))) rfl
theorem se_MD_release : (Jvm.Cond.selects "NumberStreamsModel" ({ cls := "NumberStreamsModel", name := "release", desc := "(I)Z" } : Jvm.MethodName) ({ cls := "NumberStreamsModel", name := "release", desc := "(I)Z" } : Jvm.MethodName)) ∈ tsW := ts_in (List.mem_append_right _ (List.mem_append_left _ (List.mem_of_getElem? (i := 189) rfl))) rfl
theorem se_MD_next : (Jvm.Cond.selects "NumberStreamsModel" ({ cls := "NumberStreamsModel", name := "next", desc := "(I)J" } : Jvm.MethodName) ({ cls := "NumberStreamsModel", name := "next", desc := "(I)J" } : Jvm.MethodName)) ∈ tsW := ts_in (List.mem_append_right _ (List.mem_append_left _ (List.mem_of_getElem? (i := 193) rfl))) rfl
theorem se_MD_jump : (Jvm.Cond.selects "NumberStreamsModel" ({ cls := "NumberStreamsModel", name := "jump", desc := "(II)Z" } : Jvm.MethodName) ({ cls := "NumberStreamsModel", name := "jump", desc := "(II)Z" } : Jvm.MethodName)) ∈ tsW := ts_in (List.mem_append_right _ (List.mem_append_left _ (List.mem_of_getElem? (i := 222) rfl))) rfl
theorem se_MD_draw : (Jvm.Cond.selects "NumberStreamsModel" ({ cls := "NumberStreamsModel", name := "draw", desc := "(II)I" } : Jvm.MethodName) ({ cls := "NumberStreamsModel", name := "draw", desc := "(II)I" } : Jvm.MethodName)) ∈ tsW := ts_in (List.mem_append_right _ (List.mem_append_left _ (List.mem_of_getElem? (i := 227) rfl))) rfl
theorem se_MD_same : (Jvm.Cond.selects "NumberStreamsModel" ({ cls := "NumberStreamsModel", name := "same", desc := "(II)Z" } : Jvm.MethodName) ({ cls := "NumberStreamsModel", name := "same", desc := "(II)Z" } : Jvm.MethodName)) ∈ tsW := ts_in (List.mem_append_right _ (List.mem_append_left _ (List.mem_of_getElem? (i := 235) rfl))) rfl
theorem se_MD_save : (Jvm.Cond.selects "NumberStreamsModel" ({ cls := "NumberStreamsModel", name := "save", desc := "(I)I" } : Jvm.MethodName) ({ cls := "NumberStreamsModel", name := "save", desc := "(I)I" } : Jvm.MethodName)) ∈ tsW := ts_in (List.mem_append_right _ (List.mem_append_left _ (List.mem_of_getElem? (i := 239) rfl))) rfl
theorem se_MD_length : (Jvm.Cond.selects "NumberStreamsModel" ({ cls := "NumberStreamsModel", name := "length", desc := "(I)I" } : Jvm.MethodName) ({ cls := "NumberStreamsModel", name := "length", desc := "(I)I" } : Jvm.MethodName)) ∈ tsW := ts_in (List.mem_append_right _ (List.mem_append_right _ (List.mem_of_getElem? (i := 16) rfl))) rfl
theorem se_MD_word : (Jvm.Cond.selects "NumberStreamsModel" ({ cls := "NumberStreamsModel", name := "word", desc := "(II)I" } : Jvm.MethodName) ({ cls := "NumberStreamsModel", name := "word", desc := "(II)I" } : Jvm.MethodName)) ∈ tsW := ts_in (List.mem_append_right _ (List.mem_append_right _ (List.mem_of_getElem? (i := 20) rfl))) rfl
theorem se_MD_spoil : (Jvm.Cond.selects "NumberStreamsModel" ({ cls := "NumberStreamsModel", name := "spoil", desc := "(III)Z" } : Jvm.MethodName) ({ cls := "NumberStreamsModel", name := "spoil", desc := "(III)Z" } : Jvm.MethodName)) ∈ tsW := ts_in (List.mem_append_right _ (List.mem_append_right _ (List.mem_of_getElem? (i := 28) rfl))) rfl
theorem se_MD_cut : (Jvm.Cond.selects "NumberStreamsModel" ({ cls := "NumberStreamsModel", name := "cut", desc := "(I)Z" } : Jvm.MethodName) ({ cls := "NumberStreamsModel", name := "cut", desc := "(I)Z" } : Jvm.MethodName)) ∈ tsW := ts_in (List.mem_append_right _ (List.mem_append_right _ (List.mem_of_getElem? (i := 32) rfl))) rfl
theorem se_MD_restore : (Jvm.Cond.selects "NumberStreamsModel" ({ cls := "NumberStreamsModel", name := "restore", desc := "(I)I" } : Jvm.MethodName) ({ cls := "NumberStreamsModel", name := "restore", desc := "(I)I" } : Jvm.MethodName)) ∈ tsW := ts_in (List.mem_append_right _ (List.mem_append_right _ (List.mem_of_getElem? (i := 36) rfl))) rfl
theorem se_MD_seek : (Jvm.Cond.selects "NumberStreamsModel" ({ cls := "NumberStreamsModel", name := "seek", desc := "(I)Z" } : Jvm.MethodName) ({ cls := "NumberStreamsModel", name := "seek", desc := "(I)Z" } : Jvm.MethodName)) ∈ tsW := ts_in (List.mem_append_right _ (List.mem_append_right _ (List.mem_of_getElem? (i := 44) rfl))) rfl
theorem se_MD_advance : (Jvm.Cond.selects "NumberStreamsModel" ({ cls := "NumberStreamsModel", name := "advance", desc := "()I" } : Jvm.MethodName) ({ cls := "NumberStreamsModel", name := "advance", desc := "()I" } : Jvm.MethodName)) ∈ tsW := ts_in (List.mem_append_right _ (List.mem_append_right _ (List.mem_of_getElem? (i := 49) rfl))) rfl
theorem se_MD_coordinate : (Jvm.Cond.selects "NumberStreamsModel" ({ cls := "NumberStreamsModel", name := "coordinate", desc := "(I)J" } : Jvm.MethodName) ({ cls := "NumberStreamsModel", name := "coordinate", desc := "(I)J" } : Jvm.MethodName)) ∈ tsW := ts_in (List.mem_append_right _ (List.mem_append_right _ (List.mem_of_getElem? (i := 53) rfl))) rfl
theorem se_MD_weigh : (Jvm.Cond.selects "NumberStreamsModel" ({ cls := "NumberStreamsModel", name := "weigh", desc := "(II)Z" } : Jvm.MethodName) ({ cls := "NumberStreamsModel", name := "weigh", desc := "(II)Z" } : Jvm.MethodName)) ∈ tsW := ts_in (List.mem_append_right _ (List.mem_append_right _ (List.mem_of_getElem? (i := 65) rfl))) rfl
theorem se_MD_pick : (Jvm.Cond.selects "NumberStreamsModel" ({ cls := "NumberStreamsModel", name := "pick", desc := "(I)I" } : Jvm.MethodName) ({ cls := "NumberStreamsModel", name := "pick", desc := "(I)I" } : Jvm.MethodName)) ∈ tsW := ts_in (List.mem_append_right _ (List.mem_append_right _ (List.mem_of_getElem? (i := 70) rfl))) rfl
theorem se_MD_shuffle : (Jvm.Cond.selects "NumberStreamsModel" ({ cls := "NumberStreamsModel", name := "shuffle", desc := "(I)Z" } : Jvm.MethodName) ({ cls := "NumberStreamsModel", name := "shuffle", desc := "(I)Z" } : Jvm.MethodName)) ∈ tsW := ts_in (List.mem_append_right _ (List.mem_append_right _ (List.mem_of_getElem? (i := 74) rfl))) rfl
theorem se_MD_card : (Jvm.Cond.selects "NumberStreamsModel" ({ cls := "NumberStreamsModel", name := "card", desc := "(I)I" } : Jvm.MethodName) ({ cls := "NumberStreamsModel", name := "card", desc := "(I)I" } : Jvm.MethodName)) ∈ tsW := ts_in (List.mem_append_right _ (List.mem_append_right _ (List.mem_of_getElem? (i := 78) rfl))) rfl
theorem ml_LW_9 : (Jvm.Cond.methodLink "NumberStreamsLaw" (9 : Nat) ({ cls := "NumberStreams", name := "<init>", desc := "()V" } : Jvm.MethodName)) ∈ tsW := ts_in (List.mem_append_left _ (List.mem_of_getElem? (i := 9) rfl)) rfl
theorem ml_NS_1 : (Jvm.Cond.methodLink "NumberStreams" (1 : Nat) ({ cls := "java/lang/Object", name := "<init>", desc := "()V" } : Jvm.MethodName)) ∈ tsW := ts_in (List.mem_append_left _ (List.mem_of_getElem? (i := 12) rfl)) rfl
theorem ml_NS_27 : (Jvm.Cond.methodLink "NumberStreams" (27 : Nat) ({ cls := "NumberStreams$Points", name := "<init>", desc := "()V" } : Jvm.MethodName)) ∈ tsW := ts_in (List.mem_append_left _ (List.mem_of_getElem? (i := 21) rfl)) rfl
theorem ml_PT_1 : (Jvm.Cond.methodLink "NumberStreams$Points" (1 : Nat) ({ cls := "java/lang/Object", name := "<init>", desc := "()V" } : Jvm.MethodName)) ∈ tsW := ts_in (List.mem_append_left _ (List.mem_of_getElem? (i := 24) rfl)) rfl
theorem ml_PT_18 : (Jvm.Cond.methodLink "NumberStreams$Points" (18 : Nat) ({ cls := "NumberStreams$Points", name := "startRow", desc := "(IIII)V" } : Jvm.MethodName)) ∈ tsW := ts_in (List.mem_append_left _ (List.mem_of_getElem? (i := 27) rfl)) rfl
theorem ml_PT_22 : (Jvm.Cond.methodLink "NumberStreams$Points" (22 : Nat) ({ cls := "NumberStreams$Points", name := "growRow", desc := "(III)V" } : Jvm.MethodName)) ∈ tsW := ts_in (List.mem_append_left _ (List.mem_of_getElem? (i := 31) rfl)) rfl
theorem ml_PT_26 : (Jvm.Cond.methodLink "NumberStreams$Points" (26 : Nat) ({ cls := "NumberStreams$Points", name := "alignRow", desc := "(I)V" } : Jvm.MethodName)) ∈ tsW := ts_in (List.mem_append_left _ (List.mem_of_getElem? (i := 35) rfl)) rfl
theorem ml_LW_13 : (Jvm.Cond.methodLink "NumberStreamsLaw" (13 : Nat) ({ cls := "NumberStreams", name := "make", desc := "(III)I" } : Jvm.MethodName)) ∈ tsW := ts_in (List.mem_append_left _ (List.mem_of_getElem? (i := 67) rfl)) rfl
theorem ml_NS_39 : (Jvm.Cond.methodLink "NumberStreams" (39 : Nat) ({ cls := "NumberStreams", name := "leastFreeSlot", desc := "()I" } : Jvm.MethodName)) ∈ tsW := ts_in (List.mem_append_left _ (List.mem_of_getElem? (i := 71) rfl)) rfl
theorem ml_NS_43 : (Jvm.Cond.methodLink "NumberStreams" (43 : Nat) ({ cls := "NumberStreams$Stream", name := "isKind", desc := "(I)Z" } : Jvm.MethodName)) ∈ tsW := ts_in (List.mem_append_left _ (List.mem_of_getElem? (i := 75) rfl)) rfl
theorem ml_NS_47 : (Jvm.Cond.methodLink "NumberStreams" (47 : Nat) ({ cls := "NumberStreams$Stream", name := "firstOfSeed", desc := "(III)J" } : Jvm.MethodName)) ∈ tsW := ts_in (List.mem_append_left _ (List.mem_of_getElem? (i := 78) rfl)) rfl
theorem ml_NS_80 : (Jvm.Cond.methodLink "NumberStreams" (80 : Nat) ({ cls := "NumberStreams", name := "asNumber", desc := "(I)J" } : Jvm.MethodName)) ∈ tsW := ts_in (List.mem_append_left _ (List.mem_of_getElem? (i := 84) rfl)) rfl
theorem ml_NS_51 : (Jvm.Cond.methodLink "NumberStreams" (51 : Nat) ({ cls := "NumberStreams$Stream", name := "secondOfSeed", desc := "(III)J" } : Jvm.MethodName)) ∈ tsW := ts_in (List.mem_append_left _ (List.mem_of_getElem? (i := 88) rfl)) rfl
theorem ml_NS_54 : (Jvm.Cond.methodLink "NumberStreams" (54 : Nat) ({ cls := "NumberStreams$Stream", name := "isState", desc := "(IJJ)Z" } : Jvm.MethodName)) ∈ tsW := ts_in (List.mem_append_left _ (List.mem_of_getElem? (i := 93) rfl)) rfl
theorem ml_ST_32 : (Jvm.Cond.methodLink "NumberStreams$Stream" (32 : Nat) ({ cls := "NumberStreams$Stream", name := "isRemainder", desc := "(J)Z" } : Jvm.MethodName)) ∈ tsW := ts_in (List.mem_append_left _ (List.mem_of_getElem? (i := 96) rfl)) rfl
theorem ml_NS_58 : (Jvm.Cond.methodLink "NumberStreams" (58 : Nat) ({ cls := "NumberStreams$Stream", name := "<init>", desc := "(IJJ)V" } : Jvm.MethodName)) ∈ tsW := ts_in (List.mem_append_left _ (List.mem_of_getElem? (i := 101) rfl)) rfl
theorem ml_ST_1 : (Jvm.Cond.methodLink "NumberStreams$Stream" (1 : Nat) ({ cls := "java/lang/Object", name := "<init>", desc := "()V" } : Jvm.MethodName)) ∈ tsW := ts_in (List.mem_append_left _ (List.mem_of_getElem? (i := 104) rfl)) rfl
theorem ml_LW_18 : (Jvm.Cond.methodLink "NumberStreamsLaw" (18 : Nat) ({ cls := "NumberStreams", name := "twin", desc := "(I)I" } : Jvm.MethodName)) ∈ tsW := ts_in (List.mem_append_left _ (List.mem_of_getElem? (i := 121) rfl)) rfl
theorem ml_NS_61 : (Jvm.Cond.methodLink "NumberStreams" (61 : Nat) ({ cls := "NumberStreams", name := "streamAt", desc := "(I)LNumberStreams$Stream;" } : Jvm.MethodName)) ∈ tsW := ts_in (List.mem_append_left _ (List.mem_of_getElem? (i := 125) rfl)) rfl
theorem ml_LW_23 : (Jvm.Cond.methodLink "NumberStreamsLaw" (23 : Nat) ({ cls := "NumberStreams", name := "release", desc := "(I)Z" } : Jvm.MethodName)) ∈ tsW := ts_in (List.mem_append_left _ (List.mem_of_getElem? (i := 129) rfl)) rfl
theorem ml_LW_28 : (Jvm.Cond.methodLink "NumberStreamsLaw" (28 : Nat) ({ cls := "NumberStreams", name := "next", desc := "(I)J" } : Jvm.MethodName)) ∈ tsW := ts_in (List.mem_append_left _ (List.mem_of_getElem? (i := 133) rfl)) rfl
theorem ml_NS_77 : (Jvm.Cond.methodLink "NumberStreams" (77 : Nat) ({ cls := "NumberStreams$Stream", name := "step", desc := "()I" } : Jvm.MethodName)) ∈ tsW := ts_in (List.mem_append_left _ (List.mem_of_getElem? (i := 138) rfl)) rfl
theorem ml_ST_38 : (Jvm.Cond.methodLink "NumberStreams$Stream" (38 : Nat) ({ cls := "NumberStreams$Stream", name := "output", desc := "()I" } : Jvm.MethodName)) ∈ tsW := ts_in (List.mem_append_left _ (List.mem_of_getElem? (i := 142) rfl)) rfl
theorem ml_ST_61 : (Jvm.Cond.methodLink "NumberStreams$Stream" (61 : Nat) ({ cls := "java/lang/Integer", name := "rotateRight", desc := "(II)I" } : Jvm.MethodName)) ∈ tsW := ts_in (List.mem_append_left _ (List.mem_of_getElem? (i := 146) rfl)) rfl
theorem ml_ST_68 : (Jvm.Cond.methodLink "NumberStreams$Stream" (68 : Nat) ({ cls := "java/lang/Integer", name := "rotateLeft", desc := "(II)I" } : Jvm.MethodName)) ∈ tsW := ts_in (List.mem_append_left _ (List.mem_of_getElem? (i := 150) rfl)) rfl
theorem ml_ST_71 : (Jvm.Cond.methodLink "NumberStreams$Stream" (71 : Nat) ({ cls := "NumberStreams$Stream", name := "mixedCounter", desc := "()I" } : Jvm.MethodName)) ∈ tsW := ts_in (List.mem_append_left _ (List.mem_of_getElem? (i := 153) rfl)) rfl
theorem ml_ST_57 : (Jvm.Cond.methodLink "NumberStreams$Stream" (57 : Nat) ({ cls := "NumberStreams$Stream", name := "nextRemainder", desc := "()J" } : Jvm.MethodName)) ∈ tsW := ts_in (List.mem_append_left _ (List.mem_of_getElem? (i := 159) rfl)) rfl
theorem ml_ST_42 : (Jvm.Cond.methodLink "NumberStreams$Stream" (42 : Nat) ({ cls := "NumberStreams$Stream", name := "move", desc := "()V" } : Jvm.MethodName)) ∈ tsW := ts_in (List.mem_append_left _ (List.mem_of_getElem? (i := 165) rfl)) rfl
theorem ml_ST_52 : (Jvm.Cond.methodLink "NumberStreams$Stream" (52 : Nat) ({ cls := "NumberStreams$Stream", name := "moveRotations", desc := "()V" } : Jvm.MethodName)) ∈ tsW := ts_in (List.mem_append_left _ (List.mem_of_getElem? (i := 170) rfl)) rfl
theorem ml_LW_33 : (Jvm.Cond.methodLink "NumberStreamsLaw" (33 : Nat) ({ cls := "NumberStreams", name := "jump", desc := "(II)Z" } : Jvm.MethodName)) ∈ tsW := ts_in (List.mem_append_left _ (List.mem_of_getElem? (i := 175) rfl)) rfl
theorem ml_NS_85 : (Jvm.Cond.methodLink "NumberStreams" (85 : Nat) ({ cls := "NumberStreams$Stream", name := "move", desc := "()V" } : Jvm.MethodName)) ∈ tsW := ts_in (List.mem_append_left _ (List.mem_of_getElem? (i := 180) rfl)) rfl
theorem ml_LW_38 : (Jvm.Cond.methodLink "NumberStreamsLaw" (38 : Nat) ({ cls := "NumberStreams", name := "draw", desc := "(II)I" } : Jvm.MethodName)) ∈ tsW := ts_in (List.mem_append_left _ (List.mem_of_getElem? (i := 181) rfl)) rfl
theorem ml_NS_88 : (Jvm.Cond.methodLink "NumberStreams" (88 : Nat) ({ cls := "NumberStreams$Stream", name := "drawnBelow", desc := "(I)I" } : Jvm.MethodName)) ∈ tsW := ts_in (List.mem_append_left _ (List.mem_of_getElem? (i := 185) rfl)) rfl
theorem ml_ST_47 : (Jvm.Cond.methodLink "NumberStreams$Stream" (47 : Nat) ({ cls := "NumberStreams$Stream", name := "step", desc := "()I" } : Jvm.MethodName)) ∈ tsW := ts_in (List.mem_append_left _ (List.mem_of_getElem? (i := 190) rfl)) rfl
theorem ml_LW_43 : (Jvm.Cond.methodLink "NumberStreamsLaw" (43 : Nat) ({ cls := "NumberStreams", name := "same", desc := "(II)Z" } : Jvm.MethodName)) ∈ tsW := ts_in (List.mem_append_left _ (List.mem_of_getElem? (i := 191) rfl)) rfl
theorem ml_LW_47 : (Jvm.Cond.methodLink "NumberStreamsLaw" (47 : Nat) ({ cls := "NumberStreams", name := "save", desc := "(I)I" } : Jvm.MethodName)) ∈ tsW := ts_in (List.mem_append_left _ (List.mem_of_getElem? (i := 195) rfl)) rfl
theorem ml_NS_92 : (Jvm.Cond.methodLink "NumberStreams" (92 : Nat) ({ cls := "NumberStreams$Saved", name := "<init>", desc := "(LNumberStreams$Stream;)V" } : Jvm.MethodName)) ∈ tsW := ts_in (List.mem_append_left _ (List.mem_of_getElem? (i := 200) rfl)) rfl
theorem ml_SV_1 : (Jvm.Cond.methodLink "NumberStreams$Saved" (1 : Nat) ({ cls := "java/lang/Object", name := "<init>", desc := "()V" } : Jvm.MethodName)) ∈ tsW := ts_in (List.mem_append_left _ (List.mem_of_getElem? (i := 203) rfl)) rfl
theorem ml_SV_23 : (Jvm.Cond.methodLink "NumberStreams$Saved" (23 : Nat) ({ cls := "NumberStreams$Saved", name := "append", desc := "(I)V" } : Jvm.MethodName)) ∈ tsW := ts_in (List.mem_append_left _ (List.mem_of_getElem? (i := 205) rfl)) rfl
theorem ml_SV_31 : (Jvm.Cond.methodLink "NumberStreams$Saved" (31 : Nat) ({ cls := "NumberStreams$Stream", name := "isFirstLong", desc := "(I)Z" } : Jvm.MethodName)) ∈ tsW := ts_in (List.mem_append_left _ (List.mem_of_getElem? (i := 209) rfl)) rfl
theorem ml_SV_35 : (Jvm.Cond.methodLink "NumberStreams$Saved" (35 : Nat) ({ cls := "NumberStreams$Saved", name := "appendPart", desc := "(JZ)V" } : Jvm.MethodName)) ∈ tsW := ts_in (List.mem_append_left _ (List.mem_of_getElem? (i := 212) rfl)) rfl
theorem ml_SV_42 : (Jvm.Cond.methodLink "NumberStreams$Saved" (42 : Nat) ({ cls := "NumberStreams$Stream", name := "isSecondLong", desc := "(I)Z" } : Jvm.MethodName)) ∈ tsW := ts_in (List.mem_append_left _ (List.mem_of_getElem? (i := 216) rfl)) rfl
theorem ml_SV_45 : (Jvm.Cond.methodLink "NumberStreams$Saved" (45 : Nat) ({ cls := "NumberStreams$Saved", name := "checkOfFirst", desc := "(I)I" } : Jvm.MethodName)) ∈ tsW := ts_in (List.mem_append_left _ (List.mem_of_getElem? (i := 219) rfl)) rfl
theorem ml_LW_51 : (Jvm.Cond.methodLink "NumberStreamsLaw" (51 : Nat) ({ cls := "NumberStreams", name := "length", desc := "(I)I" } : Jvm.MethodName)) ∈ tsW := ts_in (List.mem_append_left _ (List.mem_of_getElem? (i := 232) rfl)) rfl
theorem ml_NS_95 : (Jvm.Cond.methodLink "NumberStreams" (95 : Nat) ({ cls := "NumberStreams", name := "recordAt", desc := "(I)LNumberStreams$Saved;" } : Jvm.MethodName)) ∈ tsW := ts_in (List.mem_append_left _ (List.mem_of_getElem? (i := 236) rfl)) rfl
theorem ml_LW_55 : (Jvm.Cond.methodLink "NumberStreamsLaw" (55 : Nat) ({ cls := "NumberStreams", name := "word", desc := "(II)I" } : Jvm.MethodName)) ∈ tsW := ts_in (List.mem_append_right _ (List.mem_append_left _ (List.mem_of_getElem? (i := 0) rfl))) rfl
theorem ml_NS_102 : (Jvm.Cond.methodLink "NumberStreams" (102 : Nat) ({ cls := "NumberStreams$Saved", name := "hasWord", desc := "(I)Z" } : Jvm.MethodName)) ∈ tsW := ts_in (List.mem_append_right _ (List.mem_append_left _ (List.mem_of_getElem? (i := 4) rfl))) rfl
theorem ml_LW_59 : (Jvm.Cond.methodLink "NumberStreamsLaw" (59 : Nat) ({ cls := "NumberStreams", name := "spoil", desc := "(III)Z" } : Jvm.MethodName)) ∈ tsW := ts_in (List.mem_append_right _ (List.mem_append_left _ (List.mem_of_getElem? (i := 8) rfl))) rfl
theorem ml_LW_64 : (Jvm.Cond.methodLink "NumberStreamsLaw" (64 : Nat) ({ cls := "NumberStreams", name := "cut", desc := "(I)Z" } : Jvm.MethodName)) ∈ tsW := ts_in (List.mem_append_right _ (List.mem_append_left _ (List.mem_of_getElem? (i := 12) rfl))) rfl
theorem ml_LW_68 : (Jvm.Cond.methodLink "NumberStreamsLaw" (68 : Nat) ({ cls := "NumberStreams", name := "restore", desc := "(I)I" } : Jvm.MethodName)) ∈ tsW := ts_in (List.mem_append_right _ (List.mem_append_left _ (List.mem_of_getElem? (i := 16) rfl))) rfl
theorem ml_NS_108 : (Jvm.Cond.methodLink "NumberStreams" (108 : Nat) ({ cls := "NumberStreams$Saved", name := "fault", desc := "()I" } : Jvm.MethodName)) ∈ tsW := ts_in (List.mem_append_right _ (List.mem_append_left _ (List.mem_of_getElem? (i := 20) rfl))) rfl
theorem ml_SV_49 : (Jvm.Cond.methodLink "NumberStreams$Saved" (49 : Nat) ({ cls := "NumberStreams$Saved", name := "kind", desc := "()I" } : Jvm.MethodName)) ∈ tsW := ts_in (List.mem_append_right _ (List.mem_append_left _ (List.mem_of_getElem? (i := 24) rfl))) rfl
theorem ml_SV_52 : (Jvm.Cond.methodLink "NumberStreams$Saved" (52 : Nat) ({ cls := "NumberStreams$Stream", name := "isKind", desc := "(I)Z" } : Jvm.MethodName)) ∈ tsW := ts_in (List.mem_append_right _ (List.mem_append_left _ (List.mem_of_getElem? (i := 28) rfl))) rfl
theorem ml_SV_55 : (Jvm.Cond.methodLink "NumberStreams$Saved" (55 : Nat) ({ cls := "NumberStreams$Saved", name := "wordsOfKind", desc := "(I)I" } : Jvm.MethodName)) ∈ tsW := ts_in (List.mem_append_right _ (List.mem_append_left _ (List.mem_of_getElem? (i := 29) rfl))) rfl
theorem ml_SV_67 : (Jvm.Cond.methodLink "NumberStreams$Saved" (67 : Nat) ({ cls := "NumberStreams$Saved", name := "wordsOfPart", desc := "(Z)I" } : Jvm.MethodName)) ∈ tsW := ts_in (List.mem_append_right _ (List.mem_append_left _ (List.mem_of_getElem? (i := 32) rfl))) rfl
theorem ml_SV_58 : (Jvm.Cond.methodLink "NumberStreams$Saved" (58 : Nat) ({ cls := "NumberStreams$Saved", name := "first", desc := "()J" } : Jvm.MethodName)) ∈ tsW := ts_in (List.mem_append_right _ (List.mem_append_left _ (List.mem_of_getElem? (i := 35) rfl))) rfl
theorem ml_SV_71 : (Jvm.Cond.methodLink "NumberStreams$Saved" (71 : Nat) ({ cls := "NumberStreams$Saved", name := "partAt", desc := "(IZ)J" } : Jvm.MethodName)) ∈ tsW := ts_in (List.mem_append_right _ (List.mem_append_left _ (List.mem_of_getElem? (i := 39) rfl))) rfl
theorem ml_SV_61 : (Jvm.Cond.methodLink "NumberStreams$Saved" (61 : Nat) ({ cls := "NumberStreams$Saved", name := "second", desc := "()J" } : Jvm.MethodName)) ∈ tsW := ts_in (List.mem_append_right _ (List.mem_append_left _ (List.mem_of_getElem? (i := 44) rfl))) rfl
theorem ml_SV_63 : (Jvm.Cond.methodLink "NumberStreams$Saved" (63 : Nat) ({ cls := "NumberStreams$Stream", name := "isState", desc := "(IJJ)Z" } : Jvm.MethodName)) ∈ tsW := ts_in (List.mem_append_right _ (List.mem_append_left _ (List.mem_of_getElem? (i := 48) rfl))) rfl
theorem ml_NS_111 : (Jvm.Cond.methodLink "NumberStreams" (111 : Nat) ({ cls := "NumberStreams$Saved", name := "kind", desc := "()I" } : Jvm.MethodName)) ∈ tsW := ts_in (List.mem_append_right _ (List.mem_append_left _ (List.mem_of_getElem? (i := 49) rfl))) rfl
theorem ml_NS_113 : (Jvm.Cond.methodLink "NumberStreams" (113 : Nat) ({ cls := "NumberStreams$Saved", name := "first", desc := "()J" } : Jvm.MethodName)) ∈ tsW := ts_in (List.mem_append_right _ (List.mem_append_left _ (List.mem_of_getElem? (i := 50) rfl))) rfl
theorem ml_NS_116 : (Jvm.Cond.methodLink "NumberStreams" (116 : Nat) ({ cls := "NumberStreams$Saved", name := "second", desc := "()J" } : Jvm.MethodName)) ∈ tsW := ts_in (List.mem_append_right _ (List.mem_append_left _ (List.mem_of_getElem? (i := 51) rfl))) rfl
theorem ml_LW_72 : (Jvm.Cond.methodLink "NumberStreamsLaw" (72 : Nat) ({ cls := "NumberStreams", name := "seek", desc := "(I)Z" } : Jvm.MethodName)) ∈ tsW := ts_in (List.mem_append_right _ (List.mem_append_left _ (List.mem_of_getElem? (i := 52) rfl))) rfl
theorem ml_LW_76 : (Jvm.Cond.methodLink "NumberStreamsLaw" (76 : Nat) ({ cls := "NumberStreams", name := "advance", desc := "()I" } : Jvm.MethodName)) ∈ tsW := ts_in (List.mem_append_right _ (List.mem_append_left _ (List.mem_of_getElem? (i := 57) rfl))) rfl
theorem ml_LW_81 : (Jvm.Cond.methodLink "NumberStreamsLaw" (81 : Nat) ({ cls := "NumberStreams", name := "coordinate", desc := "(I)J" } : Jvm.MethodName)) ∈ tsW := ts_in (List.mem_append_right _ (List.mem_append_left _ (List.mem_of_getElem? (i := 61) rfl))) rfl
theorem ml_NS_122 : (Jvm.Cond.methodLink "NumberStreams" (122 : Nat) ({ cls := "NumberStreams$Points", name := "joinedDirections", desc := "(I)I" } : Jvm.MethodName)) ∈ tsW := ts_in (List.mem_append_right _ (List.mem_append_left _ (List.mem_of_getElem? (i := 65) rfl))) rfl
theorem ml_NS_125 : (Jvm.Cond.methodLink "NumberStreams" (125 : Nat) ({ cls := "NumberStreams$Points", name := "turnedDigits", desc := "(II)I" } : Jvm.MethodName)) ∈ tsW := ts_in (List.mem_append_right _ (List.mem_append_left _ (List.mem_of_getElem? (i := 69) rfl))) rfl
theorem ml_LW_85 : (Jvm.Cond.methodLink "NumberStreamsLaw" (85 : Nat) ({ cls := "NumberStreams", name := "weigh", desc := "(II)Z" } : Jvm.MethodName)) ∈ tsW := ts_in (List.mem_append_right _ (List.mem_append_left _ (List.mem_of_getElem? (i := 73) rfl))) rfl
theorem ml_LW_89 : (Jvm.Cond.methodLink "NumberStreamsLaw" (89 : Nat) ({ cls := "NumberStreams", name := "pick", desc := "(I)I" } : Jvm.MethodName)) ∈ tsW := ts_in (List.mem_append_right _ (List.mem_append_left _ (List.mem_of_getElem? (i := 78) rfl))) rfl
theorem ml_NS_130 : (Jvm.Cond.methodLink "NumberStreams" (130 : Nat) ({ cls := "NumberStreams", name := "totalWeight", desc := "()I" } : Jvm.MethodName)) ∈ tsW := ts_in (List.mem_append_right _ (List.mem_append_left _ (List.mem_of_getElem? (i := 82) rfl))) rfl
theorem ml_NS_133 : (Jvm.Cond.methodLink "NumberStreams" (133 : Nat) ({ cls := "NumberStreams", name := "outcomeAt", desc := "(I)I" } : Jvm.MethodName)) ∈ tsW := ts_in (List.mem_append_right _ (List.mem_append_left _ (List.mem_of_getElem? (i := 86) rfl))) rfl
theorem ml_LW_93 : (Jvm.Cond.methodLink "NumberStreamsLaw" (93 : Nat) ({ cls := "NumberStreams", name := "shuffle", desc := "(I)Z" } : Jvm.MethodName)) ∈ tsW := ts_in (List.mem_append_right _ (List.mem_append_left _ (List.mem_of_getElem? (i := 90) rfl))) rfl
theorem ml_LW_97 : (Jvm.Cond.methodLink "NumberStreamsLaw" (97 : Nat) ({ cls := "NumberStreams", name := "card", desc := "(I)I" } : Jvm.MethodName)) ∈ tsW := ts_in (List.mem_append_right _ (List.mem_append_left _ (List.mem_of_getElem? (i := 94) rfl))) rfl
theorem ml_LW_12 : (Jvm.Cond.methodLink "NumberStreamsLaw" (12 : Nat) ({ cls := "NumberStreamsModel", name := "<init>", desc := "()V" } : Jvm.MethodName)) ∈ tsW := ts_in (List.mem_append_right _ (List.mem_append_left _ (List.mem_of_getElem? (i := 100) rfl))) rfl
theorem ml_MD_1 : (Jvm.Cond.methodLink "NumberStreamsModel" (1 : Nat) ({ cls := "java/lang/Object", name := "<init>", desc := "()V" } : Jvm.MethodName)) ∈ tsW := ts_in (List.mem_append_right _ (List.mem_append_left _ (List.mem_of_getElem? (i := 103) rfl))) rfl
theorem ml_LW_17 : (Jvm.Cond.methodLink "NumberStreamsLaw" (17 : Nat) ({ cls := "NumberStreamsModel", name := "make", desc := "(III)I" } : Jvm.MethodName)) ∈ tsW := ts_in (List.mem_append_right _ (List.mem_append_left _ (List.mem_of_getElem? (i := 154) rfl))) rfl
theorem ml_MD_97 : (Jvm.Cond.methodLink "NumberStreamsModel" (97 : Nat) ({ cls := "NumberStreamsModel", name := "freeSlot", desc := "()I" } : Jvm.MethodName)) ∈ tsW := ts_in (List.mem_append_right _ (List.mem_append_left _ (List.mem_of_getElem? (i := 158) rfl))) rfl
theorem ml_MD_71 : (Jvm.Cond.methodLink "NumberStreamsModel" (71 : Nat) ({ cls := "NumberStreamsModel", name := "number", desc := "(I)J" } : Jvm.MethodName)) ∈ tsW := ts_in (List.mem_append_right _ (List.mem_append_left _ (List.mem_of_getElem? (i := 162) rfl))) rfl
theorem ml_MD_101 : (Jvm.Cond.methodLink "NumberStreamsModel" (101 : Nat) ({ cls := "NumberStreamsModel", name := "sound", desc := "()Z" } : Jvm.MethodName)) ∈ tsW := ts_in (List.mem_append_right _ (List.mem_append_left _ (List.mem_of_getElem? (i := 167) rfl))) rfl
theorem ml_MD_93 : (Jvm.Cond.methodLink "NumberStreamsModel" (93 : Nat) ({ cls := "NumberStreamsModel", name := "residue", desc := "(J)Z" } : Jvm.MethodName)) ∈ tsW := ts_in (List.mem_append_right _ (List.mem_append_left _ (List.mem_of_getElem? (i := 171) rfl))) rfl
theorem ml_MD_105 : (Jvm.Cond.methodLink "NumberStreamsModel" (105 : Nat) ({ cls := "NumberStreamsModel", name := "settle", desc := "(I)I" } : Jvm.MethodName)) ∈ tsW := ts_in (List.mem_append_right _ (List.mem_append_left _ (List.mem_of_getElem? (i := 175) rfl))) rfl
theorem ml_LW_22 : (Jvm.Cond.methodLink "NumberStreamsLaw" (22 : Nat) ({ cls := "NumberStreamsModel", name := "twin", desc := "(I)I" } : Jvm.MethodName)) ∈ tsW := ts_in (List.mem_append_right _ (List.mem_append_left _ (List.mem_of_getElem? (i := 179) rfl))) rfl
theorem ml_MD_109 : (Jvm.Cond.methodLink "NumberStreamsModel" (109 : Nat) ({ cls := "NumberStreamsModel", name := "holds", desc := "(I)Z" } : Jvm.MethodName)) ∈ tsW := ts_in (List.mem_append_right _ (List.mem_append_left _ (List.mem_of_getElem? (i := 183) rfl))) rfl
theorem ml_LW_27 : (Jvm.Cond.methodLink "NumberStreamsLaw" (27 : Nat) ({ cls := "NumberStreamsModel", name := "release", desc := "(I)Z" } : Jvm.MethodName)) ∈ tsW := ts_in (List.mem_append_right _ (List.mem_append_left _ (List.mem_of_getElem? (i := 187) rfl))) rfl
theorem ml_LW_32 : (Jvm.Cond.methodLink "NumberStreamsLaw" (32 : Nat) ({ cls := "NumberStreamsModel", name := "next", desc := "(I)J" } : Jvm.MethodName)) ∈ tsW := ts_in (List.mem_append_right _ (List.mem_append_left _ (List.mem_of_getElem? (i := 191) rfl))) rfl
theorem ml_MD_115 : (Jvm.Cond.methodLink "NumberStreamsModel" (115 : Nat) ({ cls := "NumberStreamsModel", name := "step", desc := "(I)V" } : Jvm.MethodName)) ∈ tsW := ts_in (List.mem_append_right _ (List.mem_append_left _ (List.mem_of_getElem? (i := 196) rfl))) rfl
theorem ml_MD_46 : (Jvm.Cond.methodLink "NumberStreamsModel" (46 : Nat) ({ cls := "NumberStreamsModel", name := "rotl", desc := "(II)I" } : Jvm.MethodName)) ∈ tsW := ts_in (List.mem_append_right _ (List.mem_append_left _ (List.mem_of_getElem? (i := 200) rfl))) rfl
theorem ml_MD_57 : (Jvm.Cond.methodLink "NumberStreamsModel" (57 : Nat) ({ cls := "NumberStreamsModel", name := "rounds", desc := "(IJ)V" } : Jvm.MethodName)) ∈ tsW := ts_in (List.mem_append_right _ (List.mem_append_left _ (List.mem_of_getElem? (i := 205) rfl))) rfl
theorem ml_MD_77 : (Jvm.Cond.methodLink "NumberStreamsModel" (77 : Nat) ({ cls := "NumberStreamsModel", name := "multiply", desc := "(JJ)V" } : Jvm.MethodName)) ∈ tsW := ts_in (List.mem_append_right _ (List.mem_append_left _ (List.mem_of_getElem? (i := 210) rfl))) rfl
theorem ml_LW_37 : (Jvm.Cond.methodLink "NumberStreamsLaw" (37 : Nat) ({ cls := "NumberStreamsModel", name := "jump", desc := "(II)Z" } : Jvm.MethodName)) ∈ tsW := ts_in (List.mem_append_right _ (List.mem_append_left _ (List.mem_of_getElem? (i := 220) rfl))) rfl
theorem ml_LW_42 : (Jvm.Cond.methodLink "NumberStreamsLaw" (42 : Nat) ({ cls := "NumberStreamsModel", name := "draw", desc := "(II)I" } : Jvm.MethodName)) ∈ tsW := ts_in (List.mem_append_right _ (List.mem_append_left _ (List.mem_of_getElem? (i := 225) rfl))) rfl
theorem ml_MD_120 : (Jvm.Cond.methodLink "NumberStreamsModel" (120 : Nat) ({ cls := "NumberStreamsModel", name := "below", desc := "(II)I" } : Jvm.MethodName)) ∈ tsW := ts_in (List.mem_append_right _ (List.mem_append_left _ (List.mem_of_getElem? (i := 229) rfl))) rfl
theorem ml_LW_46 : (Jvm.Cond.methodLink "NumberStreamsLaw" (46 : Nat) ({ cls := "NumberStreamsModel", name := "same", desc := "(II)Z" } : Jvm.MethodName)) ∈ tsW := ts_in (List.mem_append_right _ (List.mem_append_left _ (List.mem_of_getElem? (i := 233) rfl))) rfl
theorem ml_LW_50 : (Jvm.Cond.methodLink "NumberStreamsLaw" (50 : Nat) ({ cls := "NumberStreamsModel", name := "save", desc := "(I)I" } : Jvm.MethodName)) ∈ tsW := ts_in (List.mem_append_right _ (List.mem_append_left _ (List.mem_of_getElem? (i := 237) rfl))) rfl
theorem ml_MD_126 : (Jvm.Cond.methodLink "NumberStreamsModel" (126 : Nat) ({ cls := "NumberStreamsModel", name := "append", desc := "(I)V" } : Jvm.MethodName)) ∈ tsW := ts_in (List.mem_append_right _ (List.mem_append_right _ (List.mem_of_getElem? (i := 2) rfl))) rfl
theorem ml_MD_130 : (Jvm.Cond.methodLink "NumberStreamsModel" (130 : Nat) ({ cls := "NumberStreamsModel", name := "appendLong", desc := "(J)V" } : Jvm.MethodName)) ∈ tsW := ts_in (List.mem_append_right _ (List.mem_append_right _ (List.mem_of_getElem? (i := 6) rfl))) rfl
theorem ml_MD_134 : (Jvm.Cond.methodLink "NumberStreamsModel" (134 : Nat) ({ cls := "NumberStreamsModel", name := "check", desc := "(II)I" } : Jvm.MethodName)) ∈ tsW := ts_in (List.mem_append_right _ (List.mem_append_right _ (List.mem_of_getElem? (i := 10) rfl))) rfl
theorem ml_LW_54 : (Jvm.Cond.methodLink "NumberStreamsLaw" (54 : Nat) ({ cls := "NumberStreamsModel", name := "length", desc := "(I)I" } : Jvm.MethodName)) ∈ tsW := ts_in (List.mem_append_right _ (List.mem_append_right _ (List.mem_of_getElem? (i := 14) rfl))) rfl
theorem ml_LW_58 : (Jvm.Cond.methodLink "NumberStreamsLaw" (58 : Nat) ({ cls := "NumberStreamsModel", name := "word", desc := "(II)I" } : Jvm.MethodName)) ∈ tsW := ts_in (List.mem_append_right _ (List.mem_append_right _ (List.mem_of_getElem? (i := 18) rfl))) rfl
theorem ml_MD_137 : (Jvm.Cond.methodLink "NumberStreamsModel" (137 : Nat) ({ cls := "NumberStreamsModel", name := "isWord", desc := "(II)Z" } : Jvm.MethodName)) ∈ tsW := ts_in (List.mem_append_right _ (List.mem_append_right _ (List.mem_of_getElem? (i := 22) rfl))) rfl
theorem ml_LW_63 : (Jvm.Cond.methodLink "NumberStreamsLaw" (63 : Nat) ({ cls := "NumberStreamsModel", name := "spoil", desc := "(III)Z" } : Jvm.MethodName)) ∈ tsW := ts_in (List.mem_append_right _ (List.mem_append_right _ (List.mem_of_getElem? (i := 26) rfl))) rfl
theorem ml_LW_67 : (Jvm.Cond.methodLink "NumberStreamsLaw" (67 : Nat) ({ cls := "NumberStreamsModel", name := "cut", desc := "(I)Z" } : Jvm.MethodName)) ∈ tsW := ts_in (List.mem_append_right _ (List.mem_append_right _ (List.mem_of_getElem? (i := 30) rfl))) rfl
theorem ml_LW_71 : (Jvm.Cond.methodLink "NumberStreamsLaw" (71 : Nat) ({ cls := "NumberStreamsModel", name := "restore", desc := "(I)I" } : Jvm.MethodName)) ∈ tsW := ts_in (List.mem_append_right _ (List.mem_append_right _ (List.mem_of_getElem? (i := 34) rfl))) rfl
theorem ml_MD_141 : (Jvm.Cond.methodLink "NumberStreamsModel" (141 : Nat) ({ cls := "NumberStreamsModel", name := "twoWords", desc := "(I)J" } : Jvm.MethodName)) ∈ tsW := ts_in (List.mem_append_right _ (List.mem_append_right _ (List.mem_of_getElem? (i := 38) rfl))) rfl
theorem ml_LW_75 : (Jvm.Cond.methodLink "NumberStreamsLaw" (75 : Nat) ({ cls := "NumberStreamsModel", name := "seek", desc := "(I)Z" } : Jvm.MethodName)) ∈ tsW := ts_in (List.mem_append_right _ (List.mem_append_right _ (List.mem_of_getElem? (i := 42) rfl))) rfl
theorem ml_LW_80 : (Jvm.Cond.methodLink "NumberStreamsLaw" (80 : Nat) ({ cls := "NumberStreamsModel", name := "advance", desc := "()I" } : Jvm.MethodName)) ∈ tsW := ts_in (List.mem_append_right _ (List.mem_append_right _ (List.mem_of_getElem? (i := 47) rfl))) rfl
theorem ml_LW_84 : (Jvm.Cond.methodLink "NumberStreamsLaw" (84 : Nat) ({ cls := "NumberStreamsModel", name := "coordinate", desc := "(I)J" } : Jvm.MethodName)) ∈ tsW := ts_in (List.mem_append_right _ (List.mem_append_right _ (List.mem_of_getElem? (i := 51) rfl))) rfl
theorem ml_MD_148 : (Jvm.Cond.methodLink "NumberStreamsModel" (148 : Nat) ({ cls := "NumberStreamsModel", name := "turned", desc := "(II)J" } : Jvm.MethodName)) ∈ tsW := ts_in (List.mem_append_right _ (List.mem_append_right _ (List.mem_of_getElem? (i := 55) rfl))) rfl
theorem ml_MD_152 : (Jvm.Cond.methodLink "NumberStreamsModel" (152 : Nat) ({ cls := "NumberStreamsModel", name := "inner", desc := "(I)V" } : Jvm.MethodName)) ∈ tsW := ts_in (List.mem_append_right _ (List.mem_append_right _ (List.mem_of_getElem? (i := 59) rfl))) rfl
theorem ml_LW_88 : (Jvm.Cond.methodLink "NumberStreamsLaw" (88 : Nat) ({ cls := "NumberStreamsModel", name := "weigh", desc := "(II)Z" } : Jvm.MethodName)) ∈ tsW := ts_in (List.mem_append_right _ (List.mem_append_right _ (List.mem_of_getElem? (i := 63) rfl))) rfl
theorem ml_LW_92 : (Jvm.Cond.methodLink "NumberStreamsLaw" (92 : Nat) ({ cls := "NumberStreamsModel", name := "pick", desc := "(I)I" } : Jvm.MethodName)) ∈ tsW := ts_in (List.mem_append_right _ (List.mem_append_right _ (List.mem_of_getElem? (i := 68) rfl))) rfl
theorem ml_LW_96 : (Jvm.Cond.methodLink "NumberStreamsLaw" (96 : Nat) ({ cls := "NumberStreamsModel", name := "shuffle", desc := "(I)Z" } : Jvm.MethodName)) ∈ tsW := ts_in (List.mem_append_right _ (List.mem_append_right _ (List.mem_of_getElem? (i := 72) rfl))) rfl
theorem ml_LW_100 : (Jvm.Cond.methodLink "NumberStreamsLaw" (100 : Nat) ({ cls := "NumberStreamsModel", name := "card", desc := "(I)I" } : Jvm.MethodName)) ∈ tsW := ts_in (List.mem_append_right _ (List.mem_append_right _ (List.mem_of_getElem? (i := 76) rfl))) rfl
theorem fk_PT_11 : (Jvm.Cond.fieldLink "NumberStreams$Points" (11 : Nat) "NumberStreams$Points" "directions" "[[I") ∈ tsW := ts_in (List.mem_append_left _ (List.mem_of_getElem? (i := 39) rfl)) rfl
theorem fk_PT_14 : (Jvm.Cond.fieldLink "NumberStreams$Points" (14 : Nat) "NumberStreams$Points" "index" "I") ∈ tsW := ts_in (List.mem_append_left _ (List.mem_of_getElem? (i := 40) rfl)) rfl
theorem fk_NS_119 : (Jvm.Cond.fieldLink "NumberStreams" (119 : Nat) "NumberStreams$Points" "index" "I") ∈ tsW := ts_in (List.mem_append_left _ (List.mem_of_getElem? (i := 41) rfl)) rfl
theorem fk_NS_11 : (Jvm.Cond.fieldLink "NumberStreams" (11 : Nat) "NumberStreams" "slots" "[LNumberStreams$Stream;") ∈ tsW := ts_in (List.mem_append_left _ (List.mem_of_getElem? (i := 48) rfl)) rfl
theorem fk_NS_17 : (Jvm.Cond.fieldLink "NumberStreams" (17 : Nat) "NumberStreams" "records" "[LNumberStreams$Saved;") ∈ tsW := ts_in (List.mem_append_left _ (List.mem_of_getElem? (i := 49) rfl)) rfl
theorem fk_NS_21 : (Jvm.Cond.fieldLink "NumberStreams" (21 : Nat) "NumberStreams" "recordCount" "I") ∈ tsW := ts_in (List.mem_append_left _ (List.mem_of_getElem? (i := 50) rfl)) rfl
theorem fk_NS_28 : (Jvm.Cond.fieldLink "NumberStreams" (28 : Nat) "NumberStreams" "points" "LNumberStreams$Points;") ∈ tsW := ts_in (List.mem_append_left _ (List.mem_of_getElem? (i := 51) rfl)) rfl
theorem fk_NS_32 : (Jvm.Cond.fieldLink "NumberStreams" (32 : Nat) "NumberStreams" "weights" "[I") ∈ tsW := ts_in (List.mem_append_left _ (List.mem_of_getElem? (i := 52) rfl)) rfl
theorem fk_NS_36 : (Jvm.Cond.fieldLink "NumberStreams" (36 : Nat) "NumberStreams" "cards" "[I") ∈ tsW := ts_in (List.mem_append_left _ (List.mem_of_getElem? (i := 53) rfl)) rfl
theorem fk_ST_7 : (Jvm.Cond.fieldLink "NumberStreams$Stream" (7 : Nat) "NumberStreams$Stream" "kind" "I") ∈ tsW := ts_in (List.mem_append_left _ (List.mem_of_getElem? (i := 105) rfl)) rfl
theorem fk_SV_18 : (Jvm.Cond.fieldLink "NumberStreams$Saved" (18 : Nat) "NumberStreams$Stream" "kind" "I") ∈ tsW := ts_in (List.mem_append_left _ (List.mem_of_getElem? (i := 106) rfl)) rfl
theorem fk_NS_65 : (Jvm.Cond.fieldLink "NumberStreams" (65 : Nat) "NumberStreams$Stream" "kind" "I") ∈ tsW := ts_in (List.mem_append_left _ (List.mem_of_getElem? (i := 107) rfl)) rfl
theorem fk_ST_13 : (Jvm.Cond.fieldLink "NumberStreams$Stream" (13 : Nat) "NumberStreams$Stream" "first" "J") ∈ tsW := ts_in (List.mem_append_left _ (List.mem_of_getElem? (i := 108) rfl)) rfl
theorem fk_SV_27 : (Jvm.Cond.fieldLink "NumberStreams$Saved" (27 : Nat) "NumberStreams$Stream" "first" "J") ∈ tsW := ts_in (List.mem_append_left _ (List.mem_of_getElem? (i := 109) rfl)) rfl
theorem fk_NS_68 : (Jvm.Cond.fieldLink "NumberStreams" (68 : Nat) "NumberStreams$Stream" "first" "J") ∈ tsW := ts_in (List.mem_append_left _ (List.mem_of_getElem? (i := 110) rfl)) rfl
theorem fk_ST_17 : (Jvm.Cond.fieldLink "NumberStreams$Stream" (17 : Nat) "NumberStreams$Stream" "second" "J") ∈ tsW := ts_in (List.mem_append_left _ (List.mem_of_getElem? (i := 111) rfl)) rfl
theorem fk_SV_39 : (Jvm.Cond.fieldLink "NumberStreams$Saved" (39 : Nat) "NumberStreams$Stream" "second" "J") ∈ tsW := ts_in (List.mem_append_left _ (List.mem_of_getElem? (i := 112) rfl)) rfl
theorem fk_NS_72 : (Jvm.Cond.fieldLink "NumberStreams" (72 : Nat) "NumberStreams$Stream" "second" "J") ∈ tsW := ts_in (List.mem_append_left _ (List.mem_of_getElem? (i := 113) rfl)) rfl
theorem fk_SV_9 : (Jvm.Cond.fieldLink "NumberStreams$Saved" (9 : Nat) "NumberStreams$Saved" "words" "[I") ∈ tsW := ts_in (List.mem_append_left _ (List.mem_of_getElem? (i := 223) rfl)) rfl
theorem fk_NS_105 : (Jvm.Cond.fieldLink "NumberStreams" (105 : Nat) "NumberStreams$Saved" "words" "[I") ∈ tsW := ts_in (List.mem_append_left _ (List.mem_of_getElem? (i := 224) rfl)) rfl
theorem fk_SV_13 : (Jvm.Cond.fieldLink "NumberStreams$Saved" (13 : Nat) "NumberStreams$Saved" "count" "I") ∈ tsW := ts_in (List.mem_append_left _ (List.mem_of_getElem? (i := 225) rfl)) rfl
theorem fk_NS_99 : (Jvm.Cond.fieldLink "NumberStreams" (99 : Nat) "NumberStreams$Saved" "count" "I") ∈ tsW := ts_in (List.mem_append_left _ (List.mem_of_getElem? (i := 226) rfl)) rfl
theorem fk_MD_7 : (Jvm.Cond.fieldLink "NumberStreamsModel" (7 : Nat) "NumberStreamsModel" "kind" "[I") ∈ tsW := ts_in (List.mem_append_right _ (List.mem_append_left _ (List.mem_of_getElem? (i := 104) rfl))) rfl
theorem fk_MD_13 : (Jvm.Cond.fieldLink "NumberStreamsModel" (13 : Nat) "NumberStreamsModel" "first" "[J") ∈ tsW := ts_in (List.mem_append_right _ (List.mem_append_left _ (List.mem_of_getElem? (i := 105) rfl))) rfl
theorem fk_MD_17 : (Jvm.Cond.fieldLink "NumberStreamsModel" (17 : Nat) "NumberStreamsModel" "second" "[J") ∈ tsW := ts_in (List.mem_append_right _ (List.mem_append_left _ (List.mem_of_getElem? (i := 106) rfl))) rfl
theorem fk_MD_50 : (Jvm.Cond.fieldLink "NumberStreamsModel" (50 : Nat) "NumberStreamsModel" "out" "I") ∈ tsW := ts_in (List.mem_append_right _ (List.mem_append_left _ (List.mem_of_getElem? (i := 107) rfl))) rfl
theorem fk_MD_90 : (Jvm.Cond.fieldLink "NumberStreamsModel" (90 : Nat) "NumberStreamsModel" "newKind" "I") ∈ tsW := ts_in (List.mem_append_right _ (List.mem_append_left _ (List.mem_of_getElem? (i := 108) rfl))) rfl
theorem fk_MD_84 : (Jvm.Cond.fieldLink "NumberStreamsModel" (84 : Nat) "NumberStreamsModel" "newFirst" "J") ∈ tsW := ts_in (List.mem_append_right _ (List.mem_append_left _ (List.mem_of_getElem? (i := 109) rfl))) rfl
theorem fk_MD_87 : (Jvm.Cond.fieldLink "NumberStreamsModel" (87 : Nat) "NumberStreamsModel" "newSecond" "J") ∈ tsW := ts_in (List.mem_append_right _ (List.mem_append_left _ (List.mem_of_getElem? (i := 110) rfl))) rfl
theorem fk_MD_43 : (Jvm.Cond.fieldLink "NumberStreamsModel" (43 : Nat) "NumberStreamsModel" "high" "J") ∈ tsW := ts_in (List.mem_append_right _ (List.mem_append_left _ (List.mem_of_getElem? (i := 111) rfl))) rfl
theorem fk_MD_39 : (Jvm.Cond.fieldLink "NumberStreamsModel" (39 : Nat) "NumberStreamsModel" "low" "J") ∈ tsW := ts_in (List.mem_append_right _ (List.mem_append_left _ (List.mem_of_getElem? (i := 112) rfl))) rfl
theorem fk_MD_123 : (Jvm.Cond.fieldLink "NumberStreamsModel" (123 : Nat) "NumberStreamsModel" "records" "I") ∈ tsW := ts_in (List.mem_append_right _ (List.mem_append_left _ (List.mem_of_getElem? (i := 113) rfl))) rfl
theorem fk_MD_20 : (Jvm.Cond.fieldLink "NumberStreamsModel" (20 : Nat) "NumberStreamsModel" "size" "[I") ∈ tsW := ts_in (List.mem_append_right _ (List.mem_append_left _ (List.mem_of_getElem? (i := 114) rfl))) rfl
theorem fk_MD_23 : (Jvm.Cond.fieldLink "NumberStreamsModel" (23 : Nat) "NumberStreamsModel" "stored" "[I") ∈ tsW := ts_in (List.mem_append_right _ (List.mem_append_left _ (List.mem_of_getElem? (i := 115) rfl))) rfl
theorem fk_MD_145 : (Jvm.Cond.fieldLink "NumberStreamsModel" (145 : Nat) "NumberStreamsModel" "index" "I") ∈ tsW := ts_in (List.mem_append_right _ (List.mem_append_left _ (List.mem_of_getElem? (i := 116) rfl))) rfl
theorem fk_MD_26 : (Jvm.Cond.fieldLink "NumberStreamsModel" (26 : Nat) "NumberStreamsModel" "m" "[I") ∈ tsW := ts_in (List.mem_append_right _ (List.mem_append_left _ (List.mem_of_getElem? (i := 117) rfl))) rfl
theorem fk_MD_29 : (Jvm.Cond.fieldLink "NumberStreamsModel" (29 : Nat) "NumberStreamsModel" "weight" "[I") ∈ tsW := ts_in (List.mem_append_right _ (List.mem_append_left _ (List.mem_of_getElem? (i := 118) rfl))) rfl
theorem fk_MD_32 : (Jvm.Cond.fieldLink "NumberStreamsModel" (32 : Nat) "NumberStreamsModel" "cards" "[I") ∈ tsW := ts_in (List.mem_append_right _ (List.mem_append_left _ (List.mem_of_getElem? (i := 119) rfl))) rfl
theorem kc_ST_67 : (Jvm.Cond.constant "NumberStreams$Stream" (67 : Nat) (-1640531525 : Int32)) ∈ tsW := ts_in (List.mem_append_left _ (List.mem_of_getElem? (i := 149) rfl)) rfl
theorem kc_ST_76 : (Jvm.Cond.constant "NumberStreams$Stream" (76 : Nat) (1640531527 : Int32)) ∈ tsW := ts_in (List.mem_append_left _ (List.mem_of_getElem? (i := 158) rfl)) rfl
theorem kc_NS_84 : (Jvm.Cond.constant "NumberStreams" (84 : Nat) (65535 : Int32)) ∈ tsW := ts_in (List.mem_append_left _ (List.mem_of_getElem? (i := 179) rfl)) rfl
theorem kc_SV_17 : (Jvm.Cond.constant "NumberStreams$Saved" (17 : Nat) (24301824 : Int32)) ∈ tsW := ts_in (List.mem_append_left _ (List.mem_of_getElem? (i := 204) rfl)) rfl
theorem kc_NS_118 : (Jvm.Cond.constant "NumberStreams" (118 : Nat) (1048575 : Int32)) ∈ tsW := ts_in (List.mem_append_right _ (List.mem_append_left _ (List.mem_of_getElem? (i := 56) rfl))) rfl
theorem kc_NS_129 : (Jvm.Cond.constant "NumberStreams" (129 : Nat) (1000000 : Int32)) ∈ tsW := ts_in (List.mem_append_right _ (List.mem_append_left _ (List.mem_of_getElem? (i := 77) rfl))) rfl
theorem kc_MD_56 : (Jvm.Cond.constant "NumberStreamsModel" (56 : Nat) (-1640531525 : Int32)) ∈ tsW := ts_in (List.mem_append_right _ (List.mem_append_left _ (List.mem_of_getElem? (i := 204) rfl))) rfl
theorem kc_MD_81 : (Jvm.Cond.constant "NumberStreamsModel" (81 : Nat) (-1640531527 : Int32)) ∈ tsW := ts_in (List.mem_append_right _ (List.mem_append_left _ (List.mem_of_getElem? (i := 215) rfl))) rfl
theorem kc_MD_119 : (Jvm.Cond.constant "NumberStreamsModel" (119 : Nat) (65535 : Int32)) ∈ tsW := ts_in (List.mem_append_right _ (List.mem_append_left _ (List.mem_of_getElem? (i := 224) rfl))) rfl
theorem kc_MD_129 : (Jvm.Cond.constant "NumberStreamsModel" (129 : Nat) (24301824 : Int32)) ∈ tsW := ts_in (List.mem_append_right _ (List.mem_append_right _ (List.mem_of_getElem? (i := 1) rfl))) rfl
theorem kc_MD_144 : (Jvm.Cond.constant "NumberStreamsModel" (144 : Nat) (1048575 : Int32)) ∈ tsW := ts_in (List.mem_append_right _ (List.mem_append_right _ (List.mem_of_getElem? (i := 46) rfl))) rfl
theorem kc_MD_155 : (Jvm.Cond.constant "NumberStreamsModel" (155 : Nat) (1000000 : Int32)) ∈ tsW := ts_in (List.mem_append_right _ (List.mem_append_right _ (List.mem_of_getElem? (i := 67) rfl))) rfl
theorem kc_NS_136 : (Jvm.Cond.constantLong "NumberStreams" (136 : Nat) (4294967295 : Int64)) ∈ tsW := ts_in (List.mem_append_left _ (List.mem_of_getElem? (i := 87) rfl)) rfl
theorem kc_ST_26 : (Jvm.Cond.constantLong "NumberStreams$Stream" (26 : Nat) (2 : Int64)) ∈ tsW := ts_in (List.mem_append_left _ (List.mem_of_getElem? (i := 91) rfl)) rfl
theorem kc_ST_36 : (Jvm.Cond.constantLong "NumberStreams$Stream" (36 : Nat) (2147483647 : Int64)) ∈ tsW := ts_in (List.mem_append_left _ (List.mem_of_getElem? (i := 99) rfl)) rfl
theorem kc_NS_75 : (Jvm.Cond.constantLong "NumberStreams" (75 : Nat) (-1 : Int64)) ∈ tsW := ts_in (List.mem_append_left _ (List.mem_of_getElem? (i := 137) rfl)) rfl
theorem kc_ST_74 : (Jvm.Cond.constantLong "NumberStreams$Stream" (74 : Nat) (3528905107 : Int64)) ∈ tsW := ts_in (List.mem_append_left _ (List.mem_of_getElem? (i := 157) rfl)) rfl
theorem kc_ST_77 : (Jvm.Cond.constantLong "NumberStreams$Stream" (77 : Nat) (1403580 : Int64)) ∈ tsW := ts_in (List.mem_append_left _ (List.mem_of_getElem? (i := 163) rfl)) rfl
theorem kc_ST_79 : (Jvm.Cond.constantLong "NumberStreams$Stream" (79 : Nat) (810728 : Int64)) ∈ tsW := ts_in (List.mem_append_left _ (List.mem_of_getElem? (i := 164) rfl)) rfl
theorem kc_ST_50 : (Jvm.Cond.constantLong "NumberStreams$Stream" (50 : Nat) (6364136223846793005 : Int64)) ∈ tsW := ts_in (List.mem_append_left _ (List.mem_of_getElem? (i := 169) rfl)) rfl
theorem kc_ST_55 : (Jvm.Cond.constantLong "NumberStreams$Stream" (55 : Nat) (9223372036854775807 : Int64)) ∈ tsW := ts_in (List.mem_append_left _ (List.mem_of_getElem? (i := 174) rfl)) rfl
theorem kc_ST_45 : (Jvm.Cond.constantLong "NumberStreams$Stream" (45 : Nat) (4294967296 : Int64)) ∈ tsW := ts_in (List.mem_append_left _ (List.mem_of_getElem? (i := 189) rfl)) rfl
theorem kc_MD_35 : (Jvm.Cond.constantLong "NumberStreamsModel" (35 : Nat) (4294967296 : Int64)) ∈ tsW := ts_in (List.mem_append_right _ (List.mem_append_left _ (List.mem_of_getElem? (i := 165) rfl))) rfl
theorem kc_MD_69 : (Jvm.Cond.constantLong "NumberStreamsModel" (69 : Nat) (2 : Int64)) ∈ tsW := ts_in (List.mem_append_right _ (List.mem_append_left _ (List.mem_of_getElem? (i := 166) rfl))) rfl
theorem kc_MD_82 : (Jvm.Cond.constantLong "NumberStreamsModel" (82 : Nat) (2147483646 : Int64)) ∈ tsW := ts_in (List.mem_append_right _ (List.mem_append_left _ (List.mem_of_getElem? (i := 174) rfl))) rfl
theorem kc_MD_113 : (Jvm.Cond.constantLong "NumberStreamsModel" (113 : Nat) (-1 : Int64)) ∈ tsW := ts_in (List.mem_append_right _ (List.mem_append_left _ (List.mem_of_getElem? (i := 195) rfl))) rfl
theorem kc_MD_54 : (Jvm.Cond.constantLong "NumberStreamsModel" (54 : Nat) (6364136223846793005 : Int64)) ∈ tsW := ts_in (List.mem_append_right _ (List.mem_append_left _ (List.mem_of_getElem? (i := 203) rfl))) rfl
theorem kc_MD_75 : (Jvm.Cond.constantLong "NumberStreamsModel" (75 : Nat) (3528905107 : Int64)) ∈ tsW := ts_in (List.mem_append_right _ (List.mem_append_left _ (List.mem_of_getElem? (i := 209) rfl))) rfl
theorem kc_MD_37 : (Jvm.Cond.constantLong "NumberStreamsModel" (37 : Nat) (65536 : Int64)) ∈ tsW := ts_in (List.mem_append_right _ (List.mem_append_left _ (List.mem_of_getElem? (i := 214) rfl))) rfl
theorem kc_MD_61 : (Jvm.Cond.constantLong "NumberStreamsModel" (61 : Nat) (9223372036854775807 : Int64)) ∈ tsW := ts_in (List.mem_append_right _ (List.mem_append_left _ (List.mem_of_getElem? (i := 216) rfl))) rfl
theorem kc_MD_63 : (Jvm.Cond.constantLong "NumberStreamsModel" (63 : Nat) (1403580 : Int64)) ∈ tsW := ts_in (List.mem_append_right _ (List.mem_append_left _ (List.mem_of_getElem? (i := 217) rfl))) rfl
theorem kc_MD_65 : (Jvm.Cond.constantLong "NumberStreamsModel" (65 : Nat) (810728 : Int64)) ∈ tsW := ts_in (List.mem_append_right _ (List.mem_append_left _ (List.mem_of_getElem? (i := 218) rfl))) rfl
theorem kc_MD_67 : (Jvm.Cond.constantLong "NumberStreamsModel" (67 : Nat) (2147483647 : Int64)) ∈ tsW := ts_in (List.mem_append_right _ (List.mem_append_left _ (List.mem_of_getElem? (i := 219) rfl))) rfl
theorem cl_LW_7 : (Jvm.Cond.classLink "NumberStreamsLaw" (7 : Nat) "NumberStreams") ∈ tsW := ts_in (List.mem_append_left _ (List.mem_of_getElem? (i := 7) rfl)) rfl
theorem cl_NS_9 : (Jvm.Cond.classLink "NumberStreams" (9 : Nat) "NumberStreams$Stream") ∈ tsW := ts_in (List.mem_append_left _ (List.mem_of_getElem? (i := 15) rfl)) rfl
theorem cl_NS_15 : (Jvm.Cond.classLink "NumberStreams" (15 : Nat) "NumberStreams$Saved") ∈ tsW := ts_in (List.mem_append_left _ (List.mem_of_getElem? (i := 17) rfl)) rfl
theorem cl_NS_25 : (Jvm.Cond.classLink "NumberStreams" (25 : Nat) "NumberStreams$Points") ∈ tsW := ts_in (List.mem_append_left _ (List.mem_of_getElem? (i := 19) rfl)) rfl
theorem cl_PT_9 : (Jvm.Cond.classLink "NumberStreams$Points" (9 : Nat) "[[I") ∈ tsW := ts_in (List.mem_append_left _ (List.mem_of_getElem? (i := 25) rfl)) rfl
theorem cl_LW_10 : (Jvm.Cond.classLink "NumberStreamsLaw" (10 : Nat) "NumberStreamsModel") ∈ tsW := ts_in (List.mem_append_right _ (List.mem_append_left _ (List.mem_of_getElem? (i := 98) rfl))) rfl
theorem ib_NS : (Jvm.Cond.instantiable "NumberStreams" (6 : Nat)) ∈ tsW := ts_in (List.mem_append_left _ (List.mem_of_getElem? (i := 8) rfl)) rfl
theorem ib_PT : (Jvm.Cond.instantiable "NumberStreams$Points" (2 : Nat)) ∈ tsW := ts_in (List.mem_append_left _ (List.mem_of_getElem? (i := 20) rfl)) rfl
theorem ib_ST : (Jvm.Cond.instantiable "NumberStreams$Stream" (3 : Nat)) ∈ tsW := ts_in (List.mem_append_left _ (List.mem_of_getElem? (i := 100) rfl)) rfl
theorem ib_SV : (Jvm.Cond.instantiable "NumberStreams$Saved" (2 : Nat)) ∈ tsW := ts_in (List.mem_append_left _ (List.mem_of_getElem? (i := 199) rfl)) rfl
theorem ib_MD : (Jvm.Cond.instantiable "NumberStreamsModel" (16 : Nat)) ∈ tsW := ts_in (List.mem_append_right _ (List.mem_append_left _ (List.mem_of_getElem? (i := 99) rfl))) rfl
theorem ac_int : (Jvm.Cond.arrayClass Jvm.ClassFile.FieldType.int) ∈ tsW := ts_in (List.mem_append_left _ (List.mem_of_getElem? (i := 47) rfl)) rfl
theorem ac_long : (Jvm.Cond.arrayClass Jvm.ClassFile.FieldType.long) ∈ tsW := ts_in (List.mem_append_right _ (List.mem_append_left _ (List.mem_of_getElem? (i := 153) rfl))) rfl
theorem se_PT_startRow : Cond.selects "NumberStreams$Points" y_PT_startRow y_PT_startRow ∈ tsW := ts_sel (List.mem_of_getElem? (i := 0) rfl) rfl
theorem se_PT_growRow : Cond.selects "NumberStreams$Points" y_PT_growRow y_PT_growRow ∈ tsW := ts_sel (List.mem_of_getElem? (i := 1) rfl) rfl
theorem se_PT_alignRow : Cond.selects "NumberStreams$Points" y_PT_alignRow y_PT_alignRow ∈ tsW := ts_sel (List.mem_of_getElem? (i := 2) rfl) rfl
theorem se_NS_leastFreeSlot : Cond.selects "NumberStreams" y_NS_leastFreeSlot y_NS_leastFreeSlot ∈ tsW := ts_sel (List.mem_of_getElem? (i := 3) rfl) rfl
theorem se_NS_streamAt : Cond.selects "NumberStreams" y_NS_streamAt y_NS_streamAt ∈ tsW := ts_sel (List.mem_of_getElem? (i := 4) rfl) rfl
theorem se_ST_output : Cond.selects "NumberStreams$Stream" y_ST_output y_ST_output ∈ tsW := ts_sel (List.mem_of_getElem? (i := 5) rfl) rfl
theorem se_ST_mixedCounter : Cond.selects "NumberStreams$Stream" y_ST_mixedCounter y_ST_mixedCounter ∈ tsW := ts_sel (List.mem_of_getElem? (i := 6) rfl) rfl
theorem se_ST_nextRemainder : Cond.selects "NumberStreams$Stream" y_ST_nextRemainder y_ST_nextRemainder ∈ tsW := ts_sel (List.mem_of_getElem? (i := 7) rfl) rfl
theorem se_ST_moveRotations : Cond.selects "NumberStreams$Stream" y_ST_moveRotations y_ST_moveRotations ∈ tsW := ts_sel (List.mem_of_getElem? (i := 8) rfl) rfl
theorem se_SV_append : Cond.selects "NumberStreams$Saved" y_SV_append y_SV_append ∈ tsW := ts_sel (List.mem_of_getElem? (i := 9) rfl) rfl
theorem se_SV_appendPart : Cond.selects "NumberStreams$Saved" y_SV_appendPart y_SV_appendPart ∈ tsW := ts_sel (List.mem_of_getElem? (i := 10) rfl) rfl
theorem se_SV_checkOfFirst : Cond.selects "NumberStreams$Saved" y_SV_checkOfFirst y_SV_checkOfFirst ∈ tsW := ts_sel (List.mem_of_getElem? (i := 11) rfl) rfl
theorem se_NS_recordAt : Cond.selects "NumberStreams" y_NS_recordAt y_NS_recordAt ∈ tsW := ts_sel (List.mem_of_getElem? (i := 12) rfl) rfl
theorem se_SV_partAt : Cond.selects "NumberStreams$Saved" y_SV_partAt y_SV_partAt ∈ tsW := ts_sel (List.mem_of_getElem? (i := 13) rfl) rfl
theorem se_NS_totalWeight : Cond.selects "NumberStreams" y_NS_totalWeight y_NS_totalWeight ∈ tsW := ts_sel (List.mem_of_getElem? (i := 14) rfl) rfl
theorem se_NS_outcomeAt : Cond.selects "NumberStreams" y_NS_outcomeAt y_NS_outcomeAt ∈ tsW := ts_sel (List.mem_of_getElem? (i := 15) rfl) rfl
theorem se_MD_freeSlot : Cond.selects "NumberStreamsModel" y_MD_freeSlot y_MD_freeSlot ∈ tsW := ts_sel (List.mem_of_getElem? (i := 16) rfl) rfl
theorem se_MD_sound : Cond.selects "NumberStreamsModel" y_MD_sound y_MD_sound ∈ tsW := ts_sel (List.mem_of_getElem? (i := 17) rfl) rfl
theorem se_MD_settle : Cond.selects "NumberStreamsModel" y_MD_settle y_MD_settle ∈ tsW := ts_sel (List.mem_of_getElem? (i := 18) rfl) rfl
theorem se_MD_holds : Cond.selects "NumberStreamsModel" y_MD_holds y_MD_holds ∈ tsW := ts_sel (List.mem_of_getElem? (i := 19) rfl) rfl
theorem se_MD_step : Cond.selects "NumberStreamsModel" y_MD_step y_MD_step ∈ tsW := ts_sel (List.mem_of_getElem? (i := 20) rfl) rfl
theorem se_MD_rounds : Cond.selects "NumberStreamsModel" y_MD_rounds y_MD_rounds ∈ tsW := ts_sel (List.mem_of_getElem? (i := 21) rfl) rfl
theorem se_MD_multiply : Cond.selects "NumberStreamsModel" y_MD_multiply y_MD_multiply ∈ tsW := ts_sel (List.mem_of_getElem? (i := 22) rfl) rfl
theorem se_MD_below : Cond.selects "NumberStreamsModel" y_MD_below y_MD_below ∈ tsW := ts_sel (List.mem_of_getElem? (i := 23) rfl) rfl
theorem se_MD_append : Cond.selects "NumberStreamsModel" y_MD_append y_MD_append ∈ tsW := ts_sel (List.mem_of_getElem? (i := 24) rfl) rfl
theorem se_MD_appendLong : Cond.selects "NumberStreamsModel" y_MD_appendLong y_MD_appendLong ∈ tsW := ts_sel (List.mem_of_getElem? (i := 25) rfl) rfl
theorem se_MD_check : Cond.selects "NumberStreamsModel" y_MD_check y_MD_check ∈ tsW := ts_sel (List.mem_of_getElem? (i := 26) rfl) rfl
theorem se_MD_isWord : Cond.selects "NumberStreamsModel" y_MD_isWord y_MD_isWord ∈ tsW := ts_sel (List.mem_of_getElem? (i := 27) rfl) rfl
theorem se_MD_twoWords : Cond.selects "NumberStreamsModel" y_MD_twoWords y_MD_twoWords ∈ tsW := ts_sel (List.mem_of_getElem? (i := 28) rfl) rfl
theorem se_MD_turned : Cond.selects "NumberStreamsModel" y_MD_turned y_MD_turned ∈ tsW := ts_sel (List.mem_of_getElem? (i := 29) rfl) rfl
theorem se_MD_inner : Cond.selects "NumberStreamsModel" y_MD_inner y_MD_inner ∈ tsW := ts_sel (List.mem_of_getElem? (i := 30) rfl) rfl
theorem mn_ST_20 : (Jvm.Cond.methodLinkNest "NumberStreams$Stream" (20 : Nat) ({ cls := "NumberStreams", name := "joined", desc := "(II)J" } : Jvm.MethodName) "NumberStreams") ∈ lw_tbl := List.mem_append_right _ (List.mem_append_left _ (List.mem_of_getElem? (i := 81) rfl))
theorem mn_ST_28 : (Jvm.Cond.methodLinkNest "NumberStreams$Stream" (28 : Nat) ({ cls := "NumberStreams", name := "asNumber", desc := "(I)J" } : Jvm.MethodName) "NumberStreams") ∈ lw_tbl := List.mem_append_right _ (List.mem_append_left _ (List.mem_of_getElem? (i := 92) rfl))
theorem mn_SV_75 : (Jvm.Cond.methodLinkNest "NumberStreams$Saved" (75 : Nat) ({ cls := "NumberStreams", name := "joined", desc := "(II)J" } : Jvm.MethodName) "NumberStreams") ∈ lw_tbl := List.mem_append_right _ (List.mem_append_right _ (List.mem_append_left _ (List.mem_of_getElem? (i := 43) rfl)))
theorem ao_ST : (Jvm.Cond.arrayOver (Jvm.ClassFile.FieldType.object "NumberStreams$Stream")) ∈ lw_tbl := List.mem_append_right _ (List.mem_append_left _ (List.mem_of_getElem? (i := 16) rfl))
theorem ao_SV : (Jvm.Cond.arrayOver (Jvm.ClassFile.FieldType.object "NumberStreams$Saved")) ∈ lw_tbl := List.mem_append_right _ (List.mem_append_left _ (List.mem_of_getElem? (i := 18) rfl))
theorem ao_g : (Jvm.Cond.arrayOver (Jvm.ClassFile.FieldType.array Jvm.ClassFile.FieldType.int)) ∈ lw_tbl := List.mem_append_right _ (List.mem_append_left _ (List.mem_of_getElem? (i := 26) rfl))
theorem co_OB_init : (Jvm.Cond.code ({ cls := "java/lang/Object", name := "<init>", desc := "()V" } : Jvm.MethodName) object_method_1_code (1 : Nat) (Option.none : Option Jvm.ClassFile.FieldType)) ∈ tsW := ts_in (List.mem_append_left _ (List.mem_of_getElem? (i := 14) rfl)) rfl
theorem li_NS : ∀ w ∈ u_ws "NumberStreams" T_NS 6, w ∈ tsW := by
  intro w h
  obtain ⟨k, hk, rfl⟩ := List.mem_map.mp h
  have hk := List.mem_range.mp hk
  rcases (by omega : k = 0 ∨ k = 1 ∨ k = 2 ∨ k = 3 ∨ k = 4 ∨ k = 5) with rfl | rfl | rfl | rfl | rfl | rfl
  · exact ts_in (List.mem_append_left _ (List.mem_of_getElem? (i := 54) rfl)) rfl
  · exact ts_in (List.mem_append_left _ (List.mem_of_getElem? (i := 56) rfl)) rfl
  · exact ts_in (List.mem_append_left _ (List.mem_of_getElem? (i := 58) rfl)) rfl
  · exact ts_in (List.mem_append_left _ (List.mem_of_getElem? (i := 60) rfl)) rfl
  · exact ts_in (List.mem_append_left _ (List.mem_of_getElem? (i := 62) rfl)) rfl
  · exact ts_in (List.mem_append_left _ (List.mem_of_getElem? (i := 64) rfl)) rfl
theorem li_PT : ∀ w ∈ u_ws "NumberStreams$Points" T_PT 2, w ∈ tsW := by
  intro w h
  obtain ⟨k, hk, rfl⟩ := List.mem_map.mp h
  have hk := List.mem_range.mp hk
  rcases (by omega : k = 0 ∨ k = 1) with rfl | rfl
  · exact ts_in (List.mem_append_left _ (List.mem_of_getElem? (i := 42) rfl)) rfl
  · exact ts_in (List.mem_append_left _ (List.mem_of_getElem? (i := 44) rfl)) rfl
theorem li_SV : ∀ w ∈ u_ws "NumberStreams$Saved" T_SV 2, w ∈ tsW := by
  intro w h
  obtain ⟨k, hk, rfl⟩ := List.mem_map.mp h
  have hk := List.mem_range.mp hk
  rcases (by omega : k = 0 ∨ k = 1) with rfl | rfl
  · exact ts_in (List.mem_append_left _ (List.mem_of_getElem? (i := 227) rfl)) rfl
  · exact ts_in (List.mem_append_left _ (List.mem_of_getElem? (i := 229) rfl)) rfl
theorem li_ST : ∀ w ∈ u_ws "NumberStreams$Stream" T_ST 3, w ∈ tsW := by
  intro w h
  obtain ⟨k, hk, rfl⟩ := List.mem_map.mp h
  have hk := List.mem_range.mp hk
  rcases (by omega : k = 0 ∨ k = 1 ∨ k = 2) with rfl | rfl | rfl
  · exact ts_in (List.mem_append_left _ (List.mem_of_getElem? (i := 114) rfl)) rfl
  · exact ts_in (List.mem_append_left _ (List.mem_of_getElem? (i := 116) rfl)) rfl
  · exact ts_in (List.mem_append_left _ (List.mem_of_getElem? (i := 118) rfl)) rfl
theorem li_MD : ∀ w ∈ u_ws "NumberStreamsModel" T_MD 16, w ∈ tsW := by
  intro w h
  obtain ⟨k, hk, rfl⟩ := List.mem_map.mp h
  have hk := List.mem_range.mp hk
  rcases (by omega : k = 0 ∨ k = 1 ∨ k = 2 ∨ k = 3 ∨ k = 4 ∨ k = 5 ∨ k = 6 ∨ k = 7 ∨ k = 8 ∨ k = 9 ∨ k = 10 ∨ k = 11 ∨ k = 12 ∨ k = 13 ∨ k = 14 ∨ k = 15) with rfl | rfl | rfl | rfl | rfl | rfl | rfl | rfl | rfl | rfl | rfl | rfl | rfl | rfl | rfl | rfl
  · exact ts_in (List.mem_append_right _ (List.mem_append_left _ (List.mem_of_getElem? (i := 120) rfl))) rfl
  · exact ts_in (List.mem_append_right _ (List.mem_append_left _ (List.mem_of_getElem? (i := 122) rfl))) rfl
  · exact ts_in (List.mem_append_right _ (List.mem_append_left _ (List.mem_of_getElem? (i := 124) rfl))) rfl
  · exact ts_in (List.mem_append_right _ (List.mem_append_left _ (List.mem_of_getElem? (i := 126) rfl))) rfl
  · exact ts_in (List.mem_append_right _ (List.mem_append_left _ (List.mem_of_getElem? (i := 128) rfl))) rfl
  · exact ts_in (List.mem_append_right _ (List.mem_append_left _ (List.mem_of_getElem? (i := 130) rfl))) rfl
  · exact ts_in (List.mem_append_right _ (List.mem_append_left _ (List.mem_of_getElem? (i := 132) rfl))) rfl
  · exact ts_in (List.mem_append_right _ (List.mem_append_left _ (List.mem_of_getElem? (i := 134) rfl))) rfl
  · exact ts_in (List.mem_append_right _ (List.mem_append_left _ (List.mem_of_getElem? (i := 136) rfl))) rfl
  · exact ts_in (List.mem_append_right _ (List.mem_append_left _ (List.mem_of_getElem? (i := 138) rfl))) rfl
  · exact ts_in (List.mem_append_right _ (List.mem_append_left _ (List.mem_of_getElem? (i := 140) rfl))) rfl
  · exact ts_in (List.mem_append_right _ (List.mem_append_left _ (List.mem_of_getElem? (i := 142) rfl))) rfl
  · exact ts_in (List.mem_append_right _ (List.mem_append_left _ (List.mem_of_getElem? (i := 144) rfl))) rfl
  · exact ts_in (List.mem_append_right _ (List.mem_append_left _ (List.mem_of_getElem? (i := 146) rfl))) rfl
  · exact ts_in (List.mem_append_right _ (List.mem_append_left _ (List.mem_of_getElem? (i := 148) rfl))) rfl
  · exact ts_in (List.mem_append_right _ (List.mem_append_left _ (List.mem_of_getElem? (i := 150) rfl))) rfl
