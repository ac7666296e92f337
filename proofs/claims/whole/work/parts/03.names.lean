/-! MY NAMES: the words of the tables that go over a call, one list for all methods -/
def aw : List Cond := lw_tbl.filter goodWord
theorem aw_good {w : Cond} (h : w ∈ aw) : (w.onTables && w.keeps) = true ∨ ∃ ty, w = .arrayClass ty := good_of_word (List.mem_filter.mp h).2
theorem aw_1 {i : Nat} {w : Cond} (h : tables_1_1[i]? = some w) (g : goodWord w = true) : w ∈ aw := List.mem_filter.mpr ⟨List.mem_append_right _ (List.mem_append_left _ (List.mem_of_getElem? h)), g⟩
theorem aw_2 {i : Nat} {w : Cond} (h : tables_1_2[i]? = some w) (g : goodWord w = true) : w ∈ aw := List.mem_filter.mpr ⟨List.mem_append_right _ (List.mem_append_right _ (List.mem_append_left _ (List.mem_of_getElem? h))), g⟩
theorem aw_3 {i : Nat} {w : Cond} (h : tables_1_3[i]? = some w) (g : goodWord w = true) : w ∈ aw := List.mem_filter.mpr ⟨List.mem_append_right _ (List.mem_append_right _ (List.mem_append_right _ (List.mem_of_getElem? h))), g⟩
theorem aw_s {w : Cond} (h : (decide (w ∈ k2_sels lw_privs) && goodWord w) = true) : w ∈ aw := by
  rw [Bool.and_eq_true, decide_eq_true_eq] at h
  exact List.mem_filter.mpr ⟨List.mem_append_left _ h.1, h.2⟩
theorem gd_V {own C : String} {idx : Nat} {y : MethodName} {bytes : ByteArray} {maxL : Nat} {ret : Option FieldType} (h1 : Cond.methodLink own idx y ∈ aw) (h2 : Cond.instanceMethod y ∈ aw) (h3 : Cond.selects C y y ∈ aw) (h4 : Cond.initialized C ∈ aw) (h5 : Cond.code y bytes maxL ret ∈ aw) : GoodIn aw (wsV own idx C y (Cond.code y bytes maxL ret :: aw)) := by
  intro w hw
  have hm : w ∈ aw := by
    rcases List.mem_append.mp hw with h | h
    · rcases List.mem_cons.mp h with rfl | h
      · exact h1
      rcases List.mem_cons.mp h with rfl | h
      · exact h2
      rcases List.mem_cons.mp h with rfl | h
      · exact h3
      rcases List.mem_cons.mp h with rfl | h
      · exact h4
      exact absurd h List.not_mem_nil
    · rcases List.mem_cons.mp h with rfl | h
      · exact h5
      exact h
  exact ⟨hm, aw_good hm⟩
theorem gd_S {own : String} {idx : Nat} {y : MethodName} {bytes : ByteArray} {maxL : Nat} {ret : Option FieldType} (h1 : Cond.methodLink own idx y ∈ aw) (h2 : Cond.static y ∈ aw) (h4 : Cond.initialized y.cls ∈ aw) (h5 : Cond.code y bytes maxL ret ∈ aw) : GoodIn aw (va_wsS own idx y (Cond.code y bytes maxL ret :: aw)) := by
  intro w hw
  have hm : w ∈ aw := by
    rcases List.mem_append.mp hw with h | h
    · rcases List.mem_cons.mp h with rfl | h
      · exact h1
      rcases List.mem_cons.mp h with rfl | h
      · exact h2
      rcases List.mem_cons.mp h with rfl | h
      · exact h4
      exact absurd h List.not_mem_nil
    · rcases List.mem_cons.mp h with rfl | h
      · exact h5
      exact h
  exact ⟨hm, aw_good hm⟩
theorem cw_V {R : Room} {s : State} {args : Array Value} {own C : String} {index : Nat} {y : MethodName} {bytes : ByteArray} {maxL : Nat} {ret : Option FieldType} {rm : Room} (n : Nat) (hts : ∀ w ∈ aw, w.before args s = true) (h1 : Cond.methodLink own index y ∈ aw) (h2 : Cond.instanceMethod y ∈ aw) (h3 : Cond.selects C y y ∈ aw) (h4 : Cond.initialized C ∈ aw) (h5 : Cond.code y bytes maxL ret ∈ aw)
    (hd : y.cls = C ∧ y.cls ≠ "java/lang/invoke/MethodHandle" ∧ y.cls ≠ "java/lang/invoke/VarHandle" ∧ (parseMethodDescriptor y.desc).map (fun d => d.parameters.length) = some n) (hR : rm.frames + 1 ≤ R.frames ∧ 8 + (maxL + 11) + rm.locals ≤ R.locals) :
    CallW R s args own C index y bytes maxL ret (Cond.code y bytes maxL ret :: aw) rm rm.cells rm.slots n := cwV n hts (gd_V h1 h2 h3 h4 h5) rfl rfl rfl hd hR
theorem cw_S {R : Room} {s : State} {args : Array Value} {own : String} {index : Nat} {y : MethodName} {bytes : ByteArray} {maxL : Nat} {ret : Option FieldType} {rm : Room} (n : Nat) (hts : ∀ w ∈ aw, w.before args s = true) (h1 : Cond.methodLink own index y ∈ aw) (h2 : Cond.static y ∈ aw) (h4 : Cond.initialized y.cls ∈ aw) (h5 : Cond.code y bytes maxL ret ∈ aw)
    (hd : y.cls ≠ "java/lang/invoke/MethodHandle" ∧ y.cls ≠ "java/lang/invoke/VarHandle" ∧ (parseMethodDescriptor y.desc).map (fun d => d.parameters.length) = some n) (hR : rm.frames + 1 ≤ R.frames ∧ 8 + (maxL + 11) + rm.locals ≤ R.locals) :
    CallB R s args own index y bytes maxL ret (Cond.code y bytes maxL ret :: aw) rm rm.cells rm.slots n ∧ (Cond.static y).before args s = true := va_cwS n hts (gd_S h1 h2 h4 h5) rfl rfl rfl hd hR
/-- a method's room, by how deep its calls go -/
abbrev rmD (d : Nat) : Room := { frames := d, cells := 0, slots := 0, locals := 36 * d }

def F_Head : u_T := fun k => match k with
  | 0 => ("HeadDesk$Head", "values", "[I", true)
  | _ => ("HeadDesk$Head", "versions", "[I", true)
def t_Head : Nat → FieldType := fun k => match k with
  | 0 => .array .int
  | _ => .array .int
theorem n_Head : ∀ a, a < 2 → ∀ b, b < 2 → a ≠ b → (F_Head a).2.1 ≠ (F_Head b).2.1 := by decide +kernel
theorem k_Head : ∀ k, k < 2 → parseFieldDescriptor (F_Head k).2.2.1 = some (t_Head k) := by decide +kernel
theorem a_Head : ∀ w ∈ u_ws "HeadDesk$Head" F_Head 2, w ∈ aw := by decide +kernel
def F_Reader : u_T := fun k => match k with
  | 0 => ("HeadDesk$Reader", "tape", "LHeadDesk$Tape;", true)
  | 1 => ("HeadDesk$Reader", "nameStarts", "[I", true)
  | 2 => ("HeadDesk$Reader", "nameEnds", "[I", true)
  | 3 => ("HeadDesk$Reader", "draft", "LHeadDesk$Head;", false)
  | 4 => ("HeadDesk$Reader", "names", "I", false)
  | 5 => ("HeadDesk$Reader", "kind", "I", false)
  | 6 => ("HeadDesk$Reader", "place", "I", false)
  | 7 => ("HeadDesk$Reader", "stuck", "I", false)
  | 8 => ("HeadDesk$Reader", "number", "I", false)
  | 9 => ("HeadDesk$Reader", "wordStart", "I", false)
  | _ => ("HeadDesk$Reader", "wordEnd", "I", false)
def t_Reader : Nat → FieldType := fun k => match k with
  | 0 => (.object "HeadDesk$Tape")
  | 1 => .array .int
  | 2 => .array .int
  | 3 => (.object "HeadDesk$Head")
  | 4 => .int
  | 5 => .int
  | 6 => .int
  | 7 => .int
  | 8 => .int
  | 9 => .int
  | _ => .int
theorem n_Reader : ∀ a, a < 11 → ∀ b, b < 11 → a ≠ b → (F_Reader a).2.1 ≠ (F_Reader b).2.1 := by decide +kernel
theorem k_Reader : ∀ k, k < 11 → parseFieldDescriptor (F_Reader k).2.2.1 = some (t_Reader k) := by decide +kernel
theorem a_Reader : ∀ w ∈ u_ws "HeadDesk$Reader" F_Reader 11, w ∈ aw := by decide +kernel
def F_Tape : u_T := fun k => match k with
  | 0 => ("HeadDesk$Tape", "marks", "[C", true)
  | _ => ("HeadDesk$Tape", "length", "I", false)
def t_Tape : Nat → FieldType := fun k => match k with
  | 0 => .array .char
  | _ => .int
theorem n_Tape : ∀ a, a < 2 → ∀ b, b < 2 → a ≠ b → (F_Tape a).2.1 ≠ (F_Tape b).2.1 := by decide +kernel
theorem k_Tape : ∀ k, k < 2 → parseFieldDescriptor (F_Tape k).2.2.1 = some (t_Tape k) := by decide +kernel
theorem a_Tape : ∀ w ∈ u_ws "HeadDesk$Tape" F_Tape 2, w ∈ aw := by decide +kernel
def F_Desk : u_T := fun k => match k with
  | 0 => ("HeadDesk", "reader", "LHeadDesk$Reader;", true)
  | 1 => ("HeadDesk", "tape", "LHeadDesk$Tape;", true)
  | 2 => ("HeadDesk", "good", "LHeadDesk$Head;", false)
  | 3 => ("HeadDesk", "goodTexts", "I", false)
  | _ => ("HeadDesk", "latestFault", "I", false)
def t_Desk : Nat → FieldType := fun k => match k with
  | 0 => (.object "HeadDesk$Reader")
  | 1 => (.object "HeadDesk$Tape")
  | 2 => (.object "HeadDesk$Head")
  | 3 => .int
  | _ => .int
theorem n_Desk : ∀ a, a < 5 → ∀ b, b < 5 → a ≠ b → (F_Desk a).2.1 ≠ (F_Desk b).2.1 := by decide +kernel
theorem k_Desk : ∀ k, k < 5 → parseFieldDescriptor (F_Desk k).2.2.1 = some (t_Desk k) := by decide +kernel
theorem a_Desk : ∀ w ∈ u_ws "HeadDesk" F_Desk 5, w ∈ aw := by decide +kernel
def F_Mod : u_T := fun k => match k with
  | 0 => ("HeadDeskModel", "thrown", "I", false)
  | 1 => ("HeadDeskModel", "tape", "[I", true)
  | 2 => ("HeadDeskModel", "taped", "I", false)
  | 3 => ("HeadDeskModel", "fault", "I", false)
  | 4 => ("HeadDeskModel", "at", "I", false)
  | 5 => ("HeadDeskModel", "bad", "Z", false)
  | 6 => ("HeadDeskModel", "badPlace", "I", false)
  | 7 => ("HeadDeskModel", "path", "I", false)
  | 8 => ("HeadDeskModel", "variant", "I", false)
  | 9 => ("HeadDeskModel", "rangeKind", "I", false)
  | 10 => ("HeadDeskModel", "rangeA", "I", false)
  | 11 => ("HeadDeskModel", "rangeB", "I", false)
  | 12 => ("HeadDeskModel", "matches", "I", false)
  | 13 => ("HeadDeskModel", "maxAge", "I", false)
  | 14 => ("HeadDeskModel", "maxStale", "I", false)
  | 15 => ("HeadDeskModel", "minFresh", "I", false)
  | 16 => ("HeadDeskModel", "isHead", "Z", false)
  | 17 => ("HeadDeskModel", "star", "Z", false)
  | 18 => ("HeadDeskModel", "noCache", "Z", false)
  | 19 => ("HeadDeskModel", "onlyIfCached", "Z", false)
  | 20 => ("HeadDeskModel", "match", "[I", true)
  | 21 => ("HeadDeskModel", "length", "I", false)
  | 22 => ("HeadDeskModel", "keyMask", "I", false)
  | 23 => ("HeadDeskModel", "live", "I", false)
  | 24 => ("HeadDeskModel", "ifError", "I", false)
  | 25 => ("HeadDeskModel", "ifLate", "I", false)
  | 26 => ("HeadDeskModel", "noStore", "Z", false)
  | 27 => ("HeadDeskModel", "thingNoCache", "Z", false)
  | 28 => ("HeadDeskModel", "names", "I", false)
  | 29 => ("HeadDeskModel", "nameFrom", "[I", true)
  | 30 => ("HeadDeskModel", "nameTo", "[I", true)
  | 31 => ("HeadDeskModel", "kept", "[I", true)
  | 32 => ("HeadDeskModel", "keptMatch", "[I", true)
  | 33 => ("HeadDeskModel", "keptMatches", "I", false)
  | 34 => ("HeadDeskModel", "good", "I", false)
  | 35 => ("HeadDeskModel", "wordFrom", "I", false)
  | 36 => ("HeadDeskModel", "wordTo", "I", false)
  | _ => ("HeadDeskModel", "wordNumber", "I", false)
def t_Mod : Nat → FieldType := fun k => match k with
  | 0 => .int
  | 1 => .array .int
  | 2 => .int
  | 3 => .int
  | 4 => .int
  | 5 => .boolean
  | 6 => .int
  | 7 => .int
  | 8 => .int
  | 9 => .int
  | 10 => .int
  | 11 => .int
  | 12 => .int
  | 13 => .int
  | 14 => .int
  | 15 => .int
  | 16 => .boolean
  | 17 => .boolean
  | 18 => .boolean
  | 19 => .boolean
  | 20 => .array .int
  | 21 => .int
  | 22 => .int
  | 23 => .int
  | 24 => .int
  | 25 => .int
  | 26 => .boolean
  | 27 => .boolean
  | 28 => .int
  | 29 => .array .int
  | 30 => .array .int
  | 31 => .array .int
  | 32 => .array .int
  | 33 => .int
  | 34 => .int
  | 35 => .int
  | 36 => .int
  | _ => .int
theorem n_Mod : ∀ a, a < 38 → ∀ b, b < 38 → a ≠ b → (F_Mod a).2.1 ≠ (F_Mod b).2.1 := by decide +kernel
theorem k_Mod : ∀ k, k < 38 → parseFieldDescriptor (F_Mod k).2.2.1 = some (t_Mod k) := by decide +kernel
theorem a_Mod : ∀ w ∈ u_ws "HeadDeskModel" F_Mod 38, w ∈ aw := by decide +kernel
abbrev b_Desk_init : ByteArray := prog_1_method_1_code
abbrev y_Desk_init : MethodName := ⟨"HeadDesk", "<init>", "()V"⟩
abbrev w_Desk_init : List Cond := .code y_Desk_init b_Desk_init 1 none :: aw
abbrev b_Reader_init : ByteArray := prog_3_method_1_code
abbrev y_Reader_init : MethodName := ⟨"HeadDesk$Reader", "<init>", "()V"⟩
abbrev w_Reader_init : List Cond := .code y_Reader_init b_Reader_init 1 none :: aw
abbrev b_Tape_init : ByteArray := prog_4_method_1_code
abbrev y_Tape_init : MethodName := ⟨"HeadDesk$Tape", "<init>", "()V"⟩
abbrev w_Tape_init : List Cond := .code y_Tape_init b_Tape_init 1 none :: aw
abbrev b_Head_init : ByteArray := prog_2_method_1_code
abbrev y_Head_init : MethodName := ⟨"HeadDesk$Head", "<init>", "()V"⟩
abbrev w_Head_init : List Cond := .code y_Head_init b_Head_init 1 none :: aw
abbrev b_Desk_type : ByteArray := prog_1_method_2_code
abbrev y_Desk_type : MethodName := ⟨"HeadDesk", "type", "(JI)Z"⟩
abbrev w_Desk_type : List Cond := .code y_Desk_type b_Desk_type 4 (some .boolean) :: aw
abbrev b_Tape_append : ByteArray := prog_4_method_2_code
abbrev y_Tape_append : MethodName := ⟨"HeadDesk$Tape", "append", "(JI)Z"⟩
abbrev w_Tape_append : List Cond := .code y_Tape_append b_Tape_append 5 (some .boolean) :: aw
abbrev b_Tape_byteOf : ByteArray := prog_4_method_5_code
abbrev y_Tape_byteOf : MethodName := ⟨"HeadDesk$Tape", "byteOf", "(JI)I"⟩
abbrev w_Tape_byteOf : List Cond := .code y_Tape_byteOf b_Tape_byteOf 3 (some .int) :: aw
abbrev b_Tape_mayStand : ByteArray := prog_4_method_6_code
abbrev y_Tape_mayStand : MethodName := ⟨"HeadDesk$Tape", "mayStand", "(I)Z"⟩
abbrev w_Tape_mayStand : List Cond := .code y_Tape_mayStand b_Tape_mayStand 1 (some .boolean) :: aw
abbrev b_Desk_fault : ByteArray := prog_1_method_4_code
abbrev y_Desk_fault : MethodName := ⟨"HeadDesk", "fault", "()I"⟩
abbrev w_Desk_fault : List Cond := .code y_Desk_fault b_Desk_fault 1 (some .int) :: aw
abbrev b_Desk_told : ByteArray := prog_1_method_5_code
abbrev y_Desk_told : MethodName := ⟨"HeadDesk", "told", "(I)I"⟩
abbrev w_Desk_told : List Cond := .code y_Desk_told b_Desk_told 2 (some .int) :: aw
abbrev b_Head_get : ByteArray := prog_2_method_3_code
abbrev y_Head_get : MethodName := ⟨"HeadDesk$Head", "get", "(I)I"⟩
abbrev w_Head_get : List Cond := .code y_Head_get b_Head_get 2 (some .int) :: aw
abbrev b_Desk_matches : ByteArray := prog_1_method_6_code
abbrev y_Desk_matches : MethodName := ⟨"HeadDesk", "matches", "(I)Z"⟩
abbrev w_Desk_matches : List Cond := .code y_Desk_matches b_Desk_matches 2 (some .boolean) :: aw
abbrev b_Head_coversVersion : ByteArray := prog_2_method_8_code
abbrev y_Head_coversVersion : MethodName := ⟨"HeadDesk$Head", "coversVersion", "(I)Z"⟩
abbrev w_Head_coversVersion : List Cond := .code y_Head_coversVersion b_Head_coversVersion 2 (some .boolean) :: aw
abbrev b_Head_hasVersion : ByteArray := prog_2_method_9_code
abbrev y_Head_hasVersion : MethodName := ⟨"HeadDesk$Head", "hasVersion", "(I)Z"⟩
abbrev w_Head_hasVersion : List Cond := .code y_Head_hasVersion b_Head_hasVersion 3 (some .boolean) :: aw
abbrev b_Desk_bytes : ByteArray := prog_1_method_7_code
abbrev y_Desk_bytes : MethodName := ⟨"HeadDesk", "bytes", "(II)I"⟩
abbrev w_Desk_bytes : List Cond := .code y_Desk_bytes b_Desk_bytes 6 (some .int) :: aw
abbrev b_Head_firstByte : ByteArray := prog_2_method_10_code
abbrev y_Head_firstByte : MethodName := ⟨"HeadDesk$Head", "firstByte", "(I)I"⟩
abbrev w_Head_firstByte : List Cond := .code y_Head_firstByte b_Head_firstByte 2 (some .int) :: aw
abbrev b_Head_lastByte : ByteArray := prog_2_method_11_code
abbrev y_Head_lastByte : MethodName := ⟨"HeadDesk$Head", "lastByte", "(I)I"⟩
abbrev w_Head_lastByte : List Cond := .code y_Head_lastByte b_Head_lastByte 2 (some .int) :: aw
abbrev b_Desk_read : ByteArray := prog_1_method_3_code
abbrev y_Desk_read : MethodName := ⟨"HeadDesk", "read", "(I)I"⟩
abbrev w_Desk_read : List Cond := .code y_Desk_read b_Desk_read 3 (some .int) :: aw
abbrev b_Reader_readText : ByteArray := prog_3_method_4_code
abbrev y_Reader_readText : MethodName := ⟨"HeadDesk$Reader", "readText", "(I)Z"⟩
abbrev w_Reader_readText : List Cond := .code y_Reader_readText b_Reader_readText 3 (some .boolean) :: aw
abbrev b_Head_clear : ByteArray := prog_2_method_2_code
abbrev y_Head_clear : MethodName := ⟨"HeadDesk$Head", "clear", "()V"⟩
abbrev w_Head_clear : List Cond := .code y_Head_clear b_Head_clear 1 none :: aw
abbrev b_Reader_readFirstLine : ByteArray := prog_3_method_5_code
abbrev y_Reader_readFirstLine : MethodName := ⟨"HeadDesk$Reader", "readFirstLine", "()Z"⟩
abbrev w_Reader_readFirstLine : List Cond := .code y_Reader_readFirstLine b_Reader_readFirstLine 1 (some .boolean) :: aw
abbrev b_Reader_readVerb : ByteArray := prog_3_method_6_code
abbrev y_Reader_readVerb : MethodName := ⟨"HeadDesk$Reader", "readVerb", "()Z"⟩
abbrev w_Reader_readVerb : List Cond := .code y_Reader_readVerb b_Reader_readVerb 1 (some .boolean) :: aw
abbrev b_Head_set : ByteArray := prog_2_method_4_code
abbrev y_Head_set : MethodName := ⟨"HeadDesk$Head", "set", "(II)V"⟩
abbrev w_Head_set : List Cond := .code y_Head_set b_Head_set 3 none :: aw
abbrev b_Reader_takeAll : ByteArray := prog_3_method_23_code
abbrev y_Reader_takeAll : MethodName := ⟨"HeadDesk$Reader", "takeAll", "(Ljava/lang/String;)Z"⟩
abbrev w_Reader_takeAll : List Cond := .code y_Reader_takeAll b_Reader_takeAll 3 (some .boolean) :: aw
abbrev b_String_length : ByteArray := prog_11_method_54_code
abbrev y_String_length : MethodName := ⟨"java/lang/String", "length", "()I"⟩
abbrev w_String_length : List Cond := .code y_String_length b_String_length 1 (some .int) :: aw
abbrev b_String_coder : ByteArray := prog_11_method_152_code
abbrev y_String_coder : MethodName := ⟨"java/lang/String", "coder", "()B"⟩
abbrev w_String_coder : List Cond := .code y_String_coder b_String_coder 1 (some .byte) :: aw
abbrev b_Reader_mark : ByteArray := prog_3_method_19_code
abbrev y_Reader_mark : MethodName := ⟨"HeadDesk$Reader", "mark", "()I"⟩
abbrev w_Reader_mark : List Cond := .code y_Reader_mark b_Reader_mark 1 (some .int) :: aw
abbrev b_Tape_markAt : ByteArray := prog_4_method_4_code
abbrev y_Tape_markAt : MethodName := ⟨"HeadDesk$Tape", "markAt", "(I)I"⟩
abbrev w_Tape_markAt : List Cond := .code y_Tape_markAt b_Tape_markAt 2 (some .int) :: aw
abbrev b_String_charAt : ByteArray := prog_11_method_56_code
abbrev y_String_charAt : MethodName := ⟨"java/lang/String", "charAt", "(I)C"⟩
abbrev w_String_charAt : List Cond := .code y_String_charAt b_String_charAt 2 (some .char) :: aw
abbrev b_String_isLatin1 : ByteArray := prog_11_method_154_code
abbrev y_String_isLatin1 : MethodName := ⟨"java/lang/String", "isLatin1", "()Z"⟩
abbrev w_String_isLatin1 : List Cond := .code y_String_isLatin1 b_String_isLatin1 1 (some .boolean) :: aw
abbrev b_Latin_charAt : ByteArray := prog_12_method_2_code
abbrev y_Latin_charAt : MethodName := ⟨"java/lang/StringLatin1", "charAt", "([BI)C"⟩
abbrev w_Latin_charAt : List Cond := .code y_Latin_charAt b_Latin_charAt 2 (some .char) :: aw
abbrev b_String_checkIndex : ByteArray := prog_11_method_155_code
abbrev y_String_checkIndex : MethodName := ⟨"java/lang/String", "checkIndex", "(II)V"⟩
abbrev w_String_checkIndex : List Cond := .code y_String_checkIndex b_String_checkIndex 2 none :: aw
abbrev b_Prec_checkIndex : ByteArray := prog_16_method_11_code
abbrev y_Prec_checkIndex : MethodName := ⟨"jdk/internal/util/Preconditions", "checkIndex", "(IILjava/util/function/BiFunction;)I"⟩
abbrev w_Prec_checkIndex : List Cond := .code y_Prec_checkIndex b_Prec_checkIndex 3 (some .int) :: aw
abbrev b_Reader_stop : ByteArray := prog_3_method_20_code
abbrev y_Reader_stop : MethodName := ⟨"HeadDesk$Reader", "stop", "(I)Z"⟩
abbrev w_Reader_stop : List Cond := .code y_Reader_stop b_Reader_stop 2 (some .boolean) :: aw
abbrev b_Reader_take : ByteArray := prog_3_method_22_code
abbrev y_Reader_take : MethodName := ⟨"HeadDesk$Reader", "take", "(C)Z"⟩
abbrev w_Reader_take : List Cond := .code y_Reader_take b_Reader_take 2 (some .boolean) :: aw
abbrev b_Reader_readTarget : ByteArray := prog_3_method_7_code
abbrev y_Reader_readTarget : MethodName := ⟨"HeadDesk$Reader", "readTarget", "()Z"⟩
abbrev w_Reader_readTarget : List Cond := .code y_Reader_readTarget b_Reader_readTarget 1 (some .boolean) :: aw
abbrev b_Reader_takeNumber : ByteArray := prog_3_method_24_code
abbrev y_Reader_takeNumber : MethodName := ⟨"HeadDesk$Reader", "takeNumber", "(I)Z"⟩
abbrev w_Reader_takeNumber : List Cond := .code y_Reader_takeNumber b_Reader_takeNumber 4 (some .boolean) :: aw
abbrev b_Reader_isDigit : ByteArray := prog_3_method_28_code
abbrev y_Reader_isDigit : MethodName := ⟨"HeadDesk$Reader", "isDigit", "(I)Z"⟩
abbrev w_Reader_isDigit : List Cond := .code y_Reader_isDigit b_Reader_isDigit 1 (some .boolean) :: aw
abbrev b_Reader_skip : ByteArray := prog_3_method_21_code
abbrev y_Reader_skip : MethodName := ⟨"HeadDesk$Reader", "skip", "(C)Z"⟩
abbrev w_Reader_skip : List Cond := .code y_Reader_skip b_Reader_skip 2 (some .boolean) :: aw
abbrev b_Reader_readName : ByteArray := prog_3_method_8_code
abbrev y_Reader_readName : MethodName := ⟨"HeadDesk$Reader", "readName", "()Z"⟩
abbrev w_Reader_readName : List Cond := .code y_Reader_readName b_Reader_readName 1 (some .boolean) :: aw
abbrev b_Reader_takeLetters : ByteArray := prog_3_method_25_code
abbrev y_Reader_takeLetters : MethodName := ⟨"HeadDesk$Reader", "takeLetters", "(I)Z"⟩
abbrev w_Reader_takeLetters : List Cond := .code y_Reader_takeLetters b_Reader_takeLetters 3 (some .boolean) :: aw
abbrev b_Reader_isLetter : ByteArray := prog_3_method_29_code
abbrev y_Reader_isLetter : MethodName := ⟨"HeadDesk$Reader", "isLetter", "(I)Z"⟩
abbrev w_Reader_isLetter : List Cond := .code y_Reader_isLetter b_Reader_isLetter 1 (some .boolean) :: aw
abbrev b_Reader_wasThere : ByteArray := prog_3_method_9_code
abbrev y_Reader_wasThere : MethodName := ⟨"HeadDesk$Reader", "wasThere", "()Z"⟩
abbrev w_Reader_wasThere : List Cond := .code y_Reader_wasThere b_Reader_wasThere 2 (some .boolean) :: aw
abbrev b_Reader_isWordFrom : ByteArray := prog_3_method_27_code
abbrev y_Reader_isWordFrom : MethodName := ⟨"HeadDesk$Reader", "isWordFrom", "(II)Z"⟩
abbrev w_Reader_isWordFrom : List Cond := .code y_Reader_isWordFrom b_Reader_isWordFrom 4 (some .boolean) :: aw
abbrev b_Reader_readValue : ByteArray := prog_3_method_10_code
abbrev y_Reader_readValue : MethodName := ⟨"HeadDesk$Reader", "readValue", "()Z"⟩
abbrev w_Reader_readValue : List Cond := .code y_Reader_readValue b_Reader_readValue 1 (some .boolean) :: aw
abbrev b_Reader_isWord : ByteArray := prog_3_method_26_code
abbrev y_Reader_isWord : MethodName := ⟨"HeadDesk$Reader", "isWord", "(Ljava/lang/String;)Z"⟩
abbrev w_Reader_isWord : List Cond := .code y_Reader_isWord b_Reader_isWord 3 (some .boolean) :: aw
abbrev b_Reader_readList : ByteArray := prog_3_method_16_code
abbrev y_Reader_readList : MethodName := ⟨"HeadDesk$Reader", "readList", "()Z"⟩
abbrev w_Reader_readList : List Cond := .code y_Reader_readList b_Reader_readList 2 (some .boolean) :: aw
abbrev b_Reader_countBare : ByteArray := prog_3_method_17_code
abbrev y_Reader_countBare : MethodName := ⟨"HeadDesk$Reader", "countBare", "()V"⟩
abbrev w_Reader_countBare : List Cond := .code y_Reader_countBare b_Reader_countBare 1 none :: aw
abbrev b_Reader_countWithNumber : ByteArray := prog_3_method_18_code
abbrev y_Reader_countWithNumber : MethodName := ⟨"HeadDesk$Reader", "countWithNumber", "()V"⟩
abbrev w_Reader_countWithNumber : List Cond := .code y_Reader_countWithNumber b_Reader_countWithNumber 1 none :: aw
abbrev b_Reader_readRange : ByteArray := prog_3_method_12_code
abbrev y_Reader_readRange : MethodName := ⟨"HeadDesk$Reader", "readRange", "()Z"⟩
abbrev w_Reader_readRange : List Cond := .code y_Reader_readRange b_Reader_readRange 3 (some .boolean) :: aw
abbrev b_Head_setRange : ByteArray := prog_2_method_5_code
abbrev y_Head_setRange : MethodName := ⟨"HeadDesk$Head", "setRange", "(III)V"⟩
abbrev w_Head_setRange : List Cond := .code y_Head_setRange b_Head_setRange 4 none :: aw
abbrev b_Reader_readVersions : ByteArray := prog_3_method_13_code
abbrev y_Reader_readVersions : MethodName := ⟨"HeadDesk$Reader", "readVersions", "()Z"⟩
abbrev w_Reader_readVersions : List Cond := .code y_Reader_readVersions b_Reader_readVersions 2 (some .boolean) :: aw
abbrev b_Head_addVersion : ByteArray := prog_2_method_7_code
abbrev y_Head_addVersion : MethodName := ⟨"HeadDesk$Head", "addVersion", "(I)V"⟩
abbrev w_Head_addVersion : List Cond := .code y_Head_addVersion b_Head_addVersion 3 none :: aw
abbrev b_Reader_readLength : ByteArray := prog_3_method_14_code
abbrev y_Reader_readLength : MethodName := ⟨"HeadDesk$Reader", "readLength", "()Z"⟩
abbrev w_Reader_readLength : List Cond := .code y_Reader_readLength b_Reader_readLength 1 (some .boolean) :: aw
abbrev b_Reader_readKeys : ByteArray := prog_3_method_15_code
abbrev y_Reader_readKeys : MethodName := ⟨"HeadDesk$Reader", "readKeys", "()Z"⟩
abbrev w_Reader_readKeys : List Cond := .code y_Reader_readKeys b_Reader_readKeys 3 (some .boolean) :: aw
abbrev b_Head_addKey : ByteArray := prog_2_method_6_code
abbrev y_Head_addKey : MethodName := ⟨"HeadDesk$Head", "addKey", "(I)V"⟩
abbrev w_Head_addKey : List Cond := .code y_Head_addKey b_Head_addKey 2 none :: aw
abbrev b_Reader_readAnything : ByteArray := prog_3_method_11_code
abbrev y_Reader_readAnything : MethodName := ⟨"HeadDesk$Reader", "readAnything", "()Z"⟩
abbrev w_Reader_readAnything : List Cond := .code y_Reader_readAnything b_Reader_readAnything 2 (some .boolean) :: aw
abbrev b_Tape_empty : ByteArray := prog_4_method_3_code
abbrev y_Tape_empty : MethodName := ⟨"HeadDesk$Tape", "empty", "()V"⟩
abbrev w_Tape_empty : List Cond := .code y_Tape_empty b_Tape_empty 1 none :: aw
abbrev b_Reader_stuckAt : ByteArray := prog_3_method_2_code
abbrev y_Reader_stuckAt : MethodName := ⟨"HeadDesk$Reader", "stuckAt", "()I"⟩
abbrev w_Reader_stuckAt : List Cond := .code y_Reader_stuckAt b_Reader_stuckAt 1 (some .int) :: aw
abbrev b_Reader_trade : ByteArray := prog_3_method_3_code
abbrev y_Reader_trade : MethodName := ⟨"HeadDesk$Reader", "trade", "(LHeadDesk$Head;)LHeadDesk$Head;"⟩
abbrev w_Reader_trade : List Cond := .code y_Reader_trade b_Reader_trade 3 (some (.object "HeadDesk$Head")) :: aw
abbrev b_Mod_init : ByteArray := prog_6_method_1_code
abbrev y_Mod_init : MethodName := ⟨"HeadDeskModel", "<init>", "()V"⟩
abbrev w_Mod_init : List Cond := .code y_Mod_init b_Mod_init 1 none :: aw
abbrev b_Mod_thrown : ByteArray := prog_6_method_2_code
abbrev y_Mod_thrown : MethodName := ⟨"HeadDeskModel", "thrown", "()I"⟩
abbrev w_Mod_thrown : List Cond := .code y_Mod_thrown b_Mod_thrown 1 (some .int) :: aw
abbrev b_Mod_type : ByteArray := prog_6_method_3_code
abbrev y_Mod_type : MethodName := ⟨"HeadDeskModel", "type", "(JI)Z"⟩
abbrev w_Mod_type : List Cond := .code y_Mod_type b_Mod_type 6 (some .boolean) :: aw
abbrev b_Mod_read : ByteArray := prog_6_method_26_code
abbrev y_Mod_read : MethodName := ⟨"HeadDeskModel", "read", "(I)I"⟩
abbrev w_Mod_read : List Cond := .code y_Mod_read b_Mod_read 2 (some .int) :: aw
abbrev b_Mod_readText : ByteArray := prog_6_method_23_code
abbrev y_Mod_readText : MethodName := ⟨"HeadDeskModel", "readText", "(Z)Z"⟩
abbrev w_Mod_readText : List Cond := .code y_Mod_readText b_Mod_readText 2 (some .boolean) :: aw
abbrev b_Mod_see : ByteArray := prog_6_method_4_code
abbrev y_Mod_see : MethodName := ⟨"HeadDeskModel", "see", "()I"⟩
abbrev w_Mod_see : List Cond := .code y_Mod_see b_Mod_see 1 (some .int) :: aw
abbrev b_Mod_expectWord : ByteArray := prog_6_method_7_code
abbrev y_Mod_expectWord : MethodName := ⟨"HeadDeskModel", "expectWord", "(Ljava/lang/String;)Z"⟩
abbrev w_Mod_expectWord : List Cond := .code y_Mod_expectWord b_Mod_expectWord 3 (some .boolean) :: aw
abbrev b_Mod_expect : ByteArray := prog_6_method_6_code
abbrev y_Mod_expect : MethodName := ⟨"HeadDeskModel", "expect", "(I)Z"⟩
abbrev w_Mod_expect : List Cond := .code y_Mod_expect b_Mod_expect 2 (some .boolean) :: aw
abbrev b_Mod_wrong : ByteArray := prog_6_method_5_code
abbrev y_Mod_wrong : MethodName := ⟨"HeadDeskModel", "wrong", "(I)Z"⟩
abbrev w_Mod_wrong : List Cond := .code y_Mod_wrong b_Mod_wrong 2 (some .boolean) :: aw
abbrev b_Mod_target : ByteArray := prog_6_method_11_code
abbrev y_Mod_target : MethodName := ⟨"HeadDeskModel", "target", "(Z)V"⟩
abbrev w_Mod_target : List Cond := .code y_Mod_target b_Mod_target 2 none :: aw
abbrev b_Mod_number : ByteArray := prog_6_method_10_code
abbrev y_Mod_number : MethodName := ⟨"HeadDeskModel", "number", "(I)I"⟩
abbrev w_Mod_number : List Cond := .code y_Mod_number b_Mod_number 4 (some .int) :: aw
abbrev b_Mod_isDigit : ByteArray := prog_6_method_8_code
abbrev y_Mod_isDigit : MethodName := ⟨"HeadDeskModel", "isDigit", "(I)Z"⟩
abbrev w_Mod_isDigit : List Cond := .code y_Mod_isDigit b_Mod_isDigit 1 (some .boolean) :: aw
abbrev b_Mod_line : ByteArray := prog_6_method_24_code
abbrev y_Mod_line : MethodName := ⟨"HeadDeskModel", "line", "(Z)V"⟩
abbrev w_Mod_line : List Cond := .code y_Mod_line b_Mod_line 2 none :: aw
abbrev b_Mod_name : ByteArray := prog_6_method_12_code
abbrev y_Mod_name : MethodName := ⟨"HeadDeskModel", "name", "()Z"⟩
abbrev w_Mod_name : List Cond := .code y_Mod_name b_Mod_name 3 (some .boolean) :: aw
abbrev b_Mod_isSmall : ByteArray := prog_6_method_9_code
abbrev y_Mod_isSmall : MethodName := ⟨"HeadDeskModel", "isSmall", "(I)Z"⟩
abbrev w_Mod_isSmall : List Cond := .code y_Mod_isSmall b_Mod_isSmall 1 (some .boolean) :: aw
abbrev b_Mod_isSame : ByteArray := prog_6_method_13_code
abbrev y_Mod_isSame : MethodName := ⟨"HeadDeskModel", "isSame", "(IIII)Z"⟩
abbrev w_Mod_isSame : List Cond := .code y_Mod_isSame b_Mod_isSame 7 (some .boolean) :: aw
abbrev b_Mod_isNamed : ByteArray := prog_6_method_14_code
abbrev y_Mod_isNamed : MethodName := ⟨"HeadDeskModel", "isNamed", "(Ljava/lang/String;)Z"⟩
abbrev w_Mod_isNamed : List Cond := .code y_Mod_isNamed b_Mod_isNamed 5 (some .boolean) :: aw
abbrev b_Mod_range : ByteArray := prog_6_method_16_code
abbrev y_Mod_range : MethodName := ⟨"HeadDeskModel", "range", "()V"⟩
abbrev w_Mod_range : List Cond := .code y_Mod_range b_Mod_range 1 none :: aw
abbrev b_Mod_matching : ByteArray := prog_6_method_17_code
abbrev y_Mod_matching : MethodName := ⟨"HeadDeskModel", "matching", "()V"⟩
abbrev w_Mod_matching : List Cond := .code y_Mod_matching b_Mod_matching 3 none :: aw
abbrev b_Mod_list : ByteArray := prog_6_method_18_code
abbrev y_Mod_list : MethodName := ⟨"HeadDeskModel", "list", "(Z)V"⟩
abbrev w_Mod_list : List Cond := .code y_Mod_list b_Mod_list 3 none :: aw
abbrev b_Mod_requestWord : ByteArray := prog_6_method_20_code
abbrev y_Mod_requestWord : MethodName := ⟨"HeadDeskModel", "requestWord", "()V"⟩
abbrev w_Mod_requestWord : List Cond := .code y_Mod_requestWord b_Mod_requestWord 2 none :: aw
abbrev b_Mod_isWord : ByteArray := prog_6_method_19_code
abbrev y_Mod_isWord : MethodName := ⟨"HeadDeskModel", "isWord", "(Ljava/lang/String;)Z"⟩
abbrev w_Mod_isWord : List Cond := .code y_Mod_isWord b_Mod_isWord 4 (some .boolean) :: aw
abbrev b_Mod_thingWord : ByteArray := prog_6_method_21_code
abbrev y_Mod_thingWord : MethodName := ⟨"HeadDeskModel", "thingWord", "()V"⟩
abbrev w_Mod_thingWord : List Cond := .code y_Mod_thingWord b_Mod_thingWord 2 none :: aw
abbrev b_Mod_keyLetters : ByteArray := prog_6_method_22_code
abbrev y_Mod_keyLetters : MethodName := ⟨"HeadDeskModel", "keyLetters", "()V"⟩
abbrev w_Mod_keyLetters : List Cond := .code y_Mod_keyLetters b_Mod_keyLetters 3 none :: aw
abbrev b_Mod_anyValue : ByteArray := prog_6_method_15_code
abbrev y_Mod_anyValue : MethodName := ⟨"HeadDeskModel", "anyValue", "()V"⟩
abbrev w_Mod_anyValue : List Cond := .code y_Mod_anyValue b_Mod_anyValue 1 none :: aw
abbrev b_Mod_keep : ByteArray := prog_6_method_25_code
abbrev y_Mod_keep : MethodName := ⟨"HeadDeskModel", "keep", "(Z)V"⟩
abbrev w_Mod_keep : List Cond := .code y_Mod_keep b_Mod_keep 5 none :: aw
abbrev b_Mod_fault : ByteArray := prog_6_method_27_code
abbrev y_Mod_fault : MethodName := ⟨"HeadDeskModel", "fault", "()I"⟩
abbrev w_Mod_fault : List Cond := .code y_Mod_fault b_Mod_fault 1 (some .int) :: aw
abbrev b_Mod_told : ByteArray := prog_6_method_28_code
abbrev y_Mod_told : MethodName := ⟨"HeadDeskModel", "told", "(I)I"⟩
abbrev w_Mod_told : List Cond := .code y_Mod_told b_Mod_told 2 (some .int) :: aw
abbrev b_Mod_matches : ByteArray := prog_6_method_29_code
abbrev y_Mod_matches : MethodName := ⟨"HeadDeskModel", "matches", "(I)Z"⟩
abbrev w_Mod_matches : List Cond := .code y_Mod_matches b_Mod_matches 4 (some .boolean) :: aw
abbrev b_Mod_bytes : ByteArray := prog_6_method_30_code
abbrev y_Mod_bytes : MethodName := ⟨"HeadDeskModel", "bytes", "(II)I"⟩
abbrev w_Mod_bytes : List Cond := .code y_Mod_bytes b_Mod_bytes 5 (some .int) :: aw
abbrev vwCl : List vw_C := [("HeadDesk$Head", F_Head, 2), ("HeadDesk$Reader", F_Reader, 11), ("HeadDesk$Tape", F_Tape, 2), ("HeadDesk", F_Desk, 5), ("HeadDeskModel", F_Mod, 38)]
abbrev nJS : Nat := 36
abbrev lenJS : List Nat := [12, 3, 4, 3, 13, 8, 8, 14, 9, 7, 14, 22, 9, 5, 6, 13, 6, 4, 12, 4, 3, 3, 5, 6, 13, 13, 8, 14, 7, 9, 9, 8, 14, 22, 6, 4]
abbrev bytJS : List (List Int32) := [[110, 111, 32, 115, 117, 99, 104, 32, 107, 105, 110, 100], [80, 85, 84], [72, 69, 65, 68], [71, 69, 84], [99, 97, 99, 104, 101, 45, 99, 111, 110, 116, 114, 111, 108], [110, 111, 45, 99, 97, 99, 104, 101], [110, 111, 45, 115, 116, 111, 114, 101], [111, 110, 108, 121, 45, 105, 102, 45, 99, 97, 99, 104, 101, 100], [109, 97, 120, 45, 115, 116, 97, 108, 101], [109, 97, 120, 45, 97, 103, 101], [115, 116, 97, 108, 101, 45, 105, 102, 45, 101, 114, 114, 111, 114], [115, 116, 97, 108, 101, 45, 119, 104, 105, 108, 101, 45, 114, 101, 118, 97, 108, 105, 100, 97, 116, 101], [109, 105, 110, 45, 102, 114, 101, 115, 104], [114, 97, 110, 103, 101], [98, 121, 116, 101, 115, 61], [105, 102, 45, 110, 111, 110, 101, 45, 109, 97, 116, 99, 104], [108, 101, 110, 103, 116, 104], [107, 101, 121, 115], [110, 111, 32, 115, 117, 99, 104, 32, 116, 101, 120, 116], [72, 69, 65, 68], [71, 69, 84], [80, 85, 84], [114, 97, 110, 103, 101], [98, 121, 116, 101, 115, 61], [105, 102, 45, 110, 111, 110, 101, 45, 109, 97, 116, 99, 104], [99, 97, 99, 104, 101, 45, 99, 111, 110, 116, 114, 111, 108], [110, 111, 45, 99, 97, 99, 104, 101], [111, 110, 108, 121, 45, 105, 102, 45, 99, 97, 99, 104, 101, 100], [109, 97, 120, 45, 97, 103, 101], [109, 97, 120, 45, 115, 116, 97, 108, 101], [109, 105, 110, 45, 102, 114, 101, 115, 104], [110, 111, 45, 115, 116, 111, 114, 101], [115, 116, 97, 108, 101, 45, 105, 102, 45, 101, 114, 114, 111, 114], [115, 116, 97, 108, 101, 45, 119, 104, 105, 108, 101, 45, 114, 101, 118, 97, 108, 105, 100, 97, 116, 101], [108, 101, 110, 103, 116, 104], [107, 101, 121, 115]]
/-- the literals: the class, the entry, the text, the place -/
abbrev hx_strs : List (String × Nat × String × Nat) := [("HeadDesk", 43, "no such kind", 0), ("HeadDesk$Reader", 92, "PUT", 1), ("HeadDesk$Reader", 98, "HEAD", 2), ("HeadDesk$Reader", 100, "GET", 3), ("HeadDesk$Reader", 115, "cache-control", 4), ("HeadDesk$Reader", 169, "no-cache", 5), ("HeadDesk$Reader", 171, "no-store", 6), ("HeadDesk$Reader", 173, "only-if-cached", 7), ("HeadDesk$Reader", 175, "max-stale", 8), ("HeadDesk$Reader", 177, "max-age", 9), ("HeadDesk$Reader", 179, "stale-if-error", 10), ("HeadDesk$Reader", 181, "stale-while-revalidate", 11), ("HeadDesk$Reader", 183, "min-fresh", 12), ("HeadDesk$Reader", 123, "range", 13), ("HeadDesk$Reader", 146, "bytes=", 14), ("HeadDesk$Reader", 128, "if-none-match", 15), ("HeadDesk$Reader", 133, "length", 16), ("HeadDesk$Reader", 138, "keys", 17), ("HeadDesk", 59, "no such text", 18), ("HeadDeskModel", 187, "HEAD", 19), ("HeadDeskModel", 189, "GET", 20), ("HeadDeskModel", 191, "PUT", 21), ("HeadDeskModel", 204, "range", 22), ("HeadDeskModel", 93, "bytes=", 23), ("HeadDeskModel", 211, "if-none-match", 24), ("HeadDeskModel", 216, "cache-control", 25), ("HeadDeskModel", 130, "no-cache", 26), ("HeadDeskModel", 138, "only-if-cached", 27), ("HeadDeskModel", 143, "max-age", 28), ("HeadDeskModel", 148, "max-stale", 29), ("HeadDeskModel", 153, "min-fresh", 30), ("HeadDeskModel", 158, "no-store", 31), ("HeadDeskModel", 169, "stale-if-error", 32), ("HeadDeskModel", 174, "stale-while-revalidate", 33), ("HeadDeskModel", 221, "length", 34), ("HeadDeskModel", 222, "keys", 35)]
theorem st_0 : (("HeadDesk", 43, "no such kind", 0) : String × Nat × String × Nat) ∈ hx_strs := List.mem_of_getElem? (i := 0) rfl
theorem st_1 : (("HeadDesk$Reader", 92, "PUT", 1) : String × Nat × String × Nat) ∈ hx_strs := List.mem_of_getElem? (i := 1) rfl
theorem st_2 : (("HeadDesk$Reader", 98, "HEAD", 2) : String × Nat × String × Nat) ∈ hx_strs := List.mem_of_getElem? (i := 2) rfl
theorem st_3 : (("HeadDesk$Reader", 100, "GET", 3) : String × Nat × String × Nat) ∈ hx_strs := List.mem_of_getElem? (i := 3) rfl
theorem st_4 : (("HeadDesk$Reader", 115, "cache-control", 4) : String × Nat × String × Nat) ∈ hx_strs := List.mem_of_getElem? (i := 4) rfl
theorem st_5 : (("HeadDesk$Reader", 169, "no-cache", 5) : String × Nat × String × Nat) ∈ hx_strs := List.mem_of_getElem? (i := 5) rfl
theorem st_6 : (("HeadDesk$Reader", 171, "no-store", 6) : String × Nat × String × Nat) ∈ hx_strs := List.mem_of_getElem? (i := 6) rfl
theorem st_7 : (("HeadDesk$Reader", 173, "only-if-cached", 7) : String × Nat × String × Nat) ∈ hx_strs := List.mem_of_getElem? (i := 7) rfl
theorem st_8 : (("HeadDesk$Reader", 175, "max-stale", 8) : String × Nat × String × Nat) ∈ hx_strs := List.mem_of_getElem? (i := 8) rfl
theorem st_9 : (("HeadDesk$Reader", 177, "max-age", 9) : String × Nat × String × Nat) ∈ hx_strs := List.mem_of_getElem? (i := 9) rfl
theorem st_10 : (("HeadDesk$Reader", 179, "stale-if-error", 10) : String × Nat × String × Nat) ∈ hx_strs := List.mem_of_getElem? (i := 10) rfl
theorem st_11 : (("HeadDesk$Reader", 181, "stale-while-revalidate", 11) : String × Nat × String × Nat) ∈ hx_strs := List.mem_of_getElem? (i := 11) rfl
theorem st_12 : (("HeadDesk$Reader", 183, "min-fresh", 12) : String × Nat × String × Nat) ∈ hx_strs := List.mem_of_getElem? (i := 12) rfl
theorem st_13 : (("HeadDesk$Reader", 123, "range", 13) : String × Nat × String × Nat) ∈ hx_strs := List.mem_of_getElem? (i := 13) rfl
theorem st_14 : (("HeadDesk$Reader", 146, "bytes=", 14) : String × Nat × String × Nat) ∈ hx_strs := List.mem_of_getElem? (i := 14) rfl
theorem st_15 : (("HeadDesk$Reader", 128, "if-none-match", 15) : String × Nat × String × Nat) ∈ hx_strs := List.mem_of_getElem? (i := 15) rfl
theorem st_16 : (("HeadDesk$Reader", 133, "length", 16) : String × Nat × String × Nat) ∈ hx_strs := List.mem_of_getElem? (i := 16) rfl
theorem st_17 : (("HeadDesk$Reader", 138, "keys", 17) : String × Nat × String × Nat) ∈ hx_strs := List.mem_of_getElem? (i := 17) rfl
theorem st_18 : (("HeadDesk", 59, "no such text", 18) : String × Nat × String × Nat) ∈ hx_strs := List.mem_of_getElem? (i := 18) rfl
theorem st_19 : (("HeadDeskModel", 187, "HEAD", 19) : String × Nat × String × Nat) ∈ hx_strs := List.mem_of_getElem? (i := 19) rfl
theorem st_20 : (("HeadDeskModel", 189, "GET", 20) : String × Nat × String × Nat) ∈ hx_strs := List.mem_of_getElem? (i := 20) rfl
theorem st_21 : (("HeadDeskModel", 191, "PUT", 21) : String × Nat × String × Nat) ∈ hx_strs := List.mem_of_getElem? (i := 21) rfl
theorem st_22 : (("HeadDeskModel", 204, "range", 22) : String × Nat × String × Nat) ∈ hx_strs := List.mem_of_getElem? (i := 22) rfl
theorem st_23 : (("HeadDeskModel", 93, "bytes=", 23) : String × Nat × String × Nat) ∈ hx_strs := List.mem_of_getElem? (i := 23) rfl
theorem st_24 : (("HeadDeskModel", 211, "if-none-match", 24) : String × Nat × String × Nat) ∈ hx_strs := List.mem_of_getElem? (i := 24) rfl
theorem st_25 : (("HeadDeskModel", 216, "cache-control", 25) : String × Nat × String × Nat) ∈ hx_strs := List.mem_of_getElem? (i := 25) rfl
theorem st_26 : (("HeadDeskModel", 130, "no-cache", 26) : String × Nat × String × Nat) ∈ hx_strs := List.mem_of_getElem? (i := 26) rfl
theorem st_27 : (("HeadDeskModel", 138, "only-if-cached", 27) : String × Nat × String × Nat) ∈ hx_strs := List.mem_of_getElem? (i := 27) rfl
theorem st_28 : (("HeadDeskModel", 143, "max-age", 28) : String × Nat × String × Nat) ∈ hx_strs := List.mem_of_getElem? (i := 28) rfl
theorem st_29 : (("HeadDeskModel", 148, "max-stale", 29) : String × Nat × String × Nat) ∈ hx_strs := List.mem_of_getElem? (i := 29) rfl
theorem st_30 : (("HeadDeskModel", 153, "min-fresh", 30) : String × Nat × String × Nat) ∈ hx_strs := List.mem_of_getElem? (i := 30) rfl
theorem st_31 : (("HeadDeskModel", 158, "no-store", 31) : String × Nat × String × Nat) ∈ hx_strs := List.mem_of_getElem? (i := 31) rfl
theorem st_32 : (("HeadDeskModel", 169, "stale-if-error", 32) : String × Nat × String × Nat) ∈ hx_strs := List.mem_of_getElem? (i := 32) rfl
theorem st_33 : (("HeadDeskModel", 174, "stale-while-revalidate", 33) : String × Nat × String × Nat) ∈ hx_strs := List.mem_of_getElem? (i := 33) rfl
theorem st_34 : (("HeadDeskModel", 221, "length", 34) : String × Nat × String × Nat) ∈ hx_strs := List.mem_of_getElem? (i := 34) rfl
theorem st_35 : (("HeadDeskModel", 222, "keys", 35) : String × Nat × String × Nat) ∈ hx_strs := List.mem_of_getElem? (i := 35) rfl
abbrev t_PUT : List Int32 := [80, 85, 84]
abbrev t_HEAD : List Int32 := [72, 69, 65, 68]
abbrev t_GET : List Int32 := [71, 69, 84]
abbrev t_cache_control : List Int32 := [99, 97, 99, 104, 101, 45, 99, 111, 110, 116, 114, 111, 108]
abbrev t_no_cache : List Int32 := [110, 111, 45, 99, 97, 99, 104, 101]
abbrev t_no_store : List Int32 := [110, 111, 45, 115, 116, 111, 114, 101]
abbrev t_only_if_cached : List Int32 := [111, 110, 108, 121, 45, 105, 102, 45, 99, 97, 99, 104, 101, 100]
abbrev t_max_stale : List Int32 := [109, 97, 120, 45, 115, 116, 97, 108, 101]
abbrev t_max_age : List Int32 := [109, 97, 120, 45, 97, 103, 101]
abbrev t_stale_if_error : List Int32 := [115, 116, 97, 108, 101, 45, 105, 102, 45, 101, 114, 114, 111, 114]
abbrev t_stale_while_revalidate : List Int32 := [115, 116, 97, 108, 101, 45, 119, 104, 105, 108, 101, 45, 114, 101, 118, 97, 108, 105, 100, 97, 116, 101]
abbrev t_min_fresh : List Int32 := [109, 105, 110, 45, 102, 114, 101, 115, 104]
abbrev t_range : List Int32 := [114, 97, 110, 103, 101]
abbrev t_bytes : List Int32 := [98, 121, 116, 101, 115, 61]
abbrev t_if_none_match : List Int32 := [105, 102, 45, 110, 111, 110, 101, 45, 109, 97, 116, 99, 104]
abbrev t_length : List Int32 := [108, 101, 110, 103, 116, 104]
abbrev t_keys : List Int32 := [107, 101, 121, 115]
