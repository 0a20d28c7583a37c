-- ===== PART A: goes FIRST, ahead of the names: the tables' words, and 'selects' of the private methods out of them =====
/-- a private method of a class that the tables say can be made, by its rows of tables_1 -/
def lw_okq (q : MethodName × Nat) : Prop := (q.1.cls ≠ "java/lang/invoke/MethodHandle" ∧ q.1.cls ≠ "java/lang/invoke/VarHandle") ∧ Cond.instantiable q.1.cls q.2 ∈ tables_1 ∧ Cond.privateMethod q.1 ∈ tables_1 ∧ Cond.instanceMethod q.1 ∈ tables_1
theorem lw_p0 : lw_okq (⟨"WildCards", "append", "(I)V"⟩, 5) := ⟨⟨by decide +kernel, by decide +kernel⟩, List.mem_of_getElem? (i := 9) (by decide +kernel), List.mem_of_getElem? (i := 58) (by decide +kernel), List.mem_of_getElem? (i := 59) (by decide +kernel)⟩
theorem lw_p1 : lw_okq (⟨"WildCards$Reader", "readThing", "()V"⟩, 4) := ⟨⟨by decide +kernel, by decide +kernel⟩, List.mem_of_getElem? (i := 77) (by decide +kernel), List.mem_of_getElem? (i := 100) (by decide +kernel), List.mem_of_getElem? (i := 101) (by decide +kernel)⟩
theorem lw_p2 : lw_okq (⟨"WildCards$Reader", "byteAt", "(I)I"⟩, 4) := ⟨⟨by decide +kernel, by decide +kernel⟩, List.mem_of_getElem? (i := 77) (by decide +kernel), List.mem_of_getElem? (i := 104) (by decide +kernel), List.mem_of_getElem? (i := 105) (by decide +kernel)⟩
theorem lw_p3 : lw_okq (⟨"WildCards$Reader", "readBrackets", "()V"⟩, 4) := ⟨⟨by decide +kernel, by decide +kernel⟩, List.mem_of_getElem? (i := 77) (by decide +kernel), List.mem_of_getElem? (i := 126) (by decide +kernel), List.mem_of_getElem? (i := 127) (by decide +kernel)⟩
theorem lw_p4 : lw_okq (⟨"WildCards$Reader", "bracketsEndAt", "(I)Z"⟩, 4) := ⟨⟨by decide +kernel, by decide +kernel⟩, List.mem_of_getElem? (i := 77) (by decide +kernel), List.mem_of_getElem? (i := 130) (by decide +kernel), List.mem_of_getElem? (i := 131) (by decide +kernel)⟩
theorem lw_p5 : lw_okq (⟨"WildCards$Reader", "readTold", "(Z)V"⟩, 4) := ⟨⟨by decide +kernel, by decide +kernel⟩, List.mem_of_getElem? (i := 77) (by decide +kernel), List.mem_of_getElem? (i := 134) (by decide +kernel), List.mem_of_getElem? (i := 135) (by decide +kernel)⟩
theorem lw_p6 : lw_okq (⟨"WildCards$Reader", "readByte", "()I"⟩, 4) := ⟨⟨by decide +kernel, by decide +kernel⟩, List.mem_of_getElem? (i := 77) (by decide +kernel), List.mem_of_getElem? (i := 138) (by decide +kernel), List.mem_of_getElem? (i := 139) (by decide +kernel)⟩
theorem lw_p7 : lw_okq (⟨"WildCards", "lettersFit", "(II)Z"⟩, 5) := ⟨⟨by decide +kernel, by decide +kernel⟩, List.mem_of_getElem? (i := 9) (by decide +kernel), List.mem_of_getElem? (i := 157) (by decide +kernel), List.mem_of_getElem? (i := 158) (by decide +kernel)⟩
theorem lw_p8 : lw_okq (⟨"WildCardsModel", "put", "(I)V"⟩, 9) := ⟨⟨by decide +kernel, by decide +kernel⟩, List.mem_of_getElem? (i := 181) (by decide +kernel), List.mem_of_getElem? (i := 220) (by decide +kernel), List.mem_of_getElem? (i := 221) (by decide +kernel)⟩
theorem lw_p9 : lw_okq (⟨"WildCardsModel", "reckon", "(II)V"⟩, 9) := ⟨⟨by decide +kernel, by decide +kernel⟩, List.mem_of_getElem? (i := 181) (by decide +kernel), List.mem_of_getElem? (i := 240) (by decide +kernel), List.mem_of_getElem? (i := 241) (by decide +kernel)⟩
theorem lw_p10 : lw_okq (⟨"WildCardsModel", "suits", "(II)Z"⟩, 9) := ⟨⟨by decide +kernel, by decide +kernel⟩, List.mem_of_getElem? (i := 181) (by decide +kernel), List.mem_of_getElem? (i := 244) (by decide +kernel), List.mem_of_getElem? (i := 245) (by decide +kernel)⟩
theorem lw_p11 : lw_okq (⟨"WildCardsModel", "isOne", "(II)Z"⟩, 9) := ⟨⟨by decide +kernel, by decide +kernel⟩, List.mem_of_getElem? (i := 181) (by decide +kernel), List.mem_of_getElem? (i := 248) (by decide +kernel), List.mem_of_getElem? (i := 249) (by decide +kernel)⟩
theorem lw_p12 : lw_okq (⟨"WildCardsModel", "tells", "(I)I"⟩, 9) := ⟨⟨by decide +kernel, by decide +kernel⟩, List.mem_of_getElem? (i := 181) (by decide +kernel), List.mem_of_getElem? (i := 252) (by decide +kernel), List.mem_of_getElem? (i := 253) (by decide +kernel)⟩
def lw_privs_1 : List (MethodName × Nat) := [(⟨"WildCards", "append", "(I)V"⟩, 5), (⟨"WildCards$Reader", "readThing", "()V"⟩, 4), (⟨"WildCards$Reader", "byteAt", "(I)I"⟩, 4), (⟨"WildCards$Reader", "readBrackets", "()V"⟩, 4), (⟨"WildCards$Reader", "bracketsEndAt", "(I)Z"⟩, 4), (⟨"WildCards$Reader", "readTold", "(Z)V"⟩, 4), (⟨"WildCards$Reader", "readByte", "()I"⟩, 4), (⟨"WildCards", "lettersFit", "(II)Z"⟩, 5), (⟨"WildCardsModel", "put", "(I)V"⟩, 9), (⟨"WildCardsModel", "reckon", "(II)V"⟩, 9), (⟨"WildCardsModel", "suits", "(II)Z"⟩, 9), (⟨"WildCardsModel", "isOne", "(II)Z"⟩, 9), (⟨"WildCardsModel", "tells", "(I)I"⟩, 9)]
theorem lw_r1 : ∀ q ∈ lw_privs_1, lw_okq q := List.forall_mem_cons.mpr ⟨lw_p0, List.forall_mem_cons.mpr ⟨lw_p1, List.forall_mem_cons.mpr ⟨lw_p2, List.forall_mem_cons.mpr ⟨lw_p3, List.forall_mem_cons.mpr ⟨lw_p4, List.forall_mem_cons.mpr ⟨lw_p5, List.forall_mem_cons.mpr ⟨lw_p6, List.forall_mem_cons.mpr ⟨lw_p7, List.forall_mem_cons.mpr ⟨lw_p8, List.forall_mem_cons.mpr ⟨lw_p9, List.forall_mem_cons.mpr ⟨lw_p10, List.forall_mem_cons.mpr ⟨lw_p11, List.forall_mem_cons.mpr ⟨lw_p12, fun _ h => absurd h List.not_mem_nil⟩⟩⟩⟩⟩⟩⟩⟩⟩⟩⟩⟩⟩
def lw_privs : List (MethodName × Nat) := lw_privs_1
def lw_tbl : List Cond := k2_sels lw_privs ++ tables_1
theorem lw_privs_ok : ∀ q ∈ lw_privs, lw_okq q := lw_r1
/-! ===== BEGIN words of one list among another's, by their places ===== -/
theorem goodIn_r {big : List Cond} (ws : List Cond) (ps : List Nat) (hp : ws = ps.filterMap (fun i => big[i]?)) (h : ws.all goodWord = true) : GoodIn big ws := by
  intro w hw
  have h1 := List.all_eq_true.mp h w hw
  rw [hp] at hw
  obtain ⟨i, -, hi⟩ := List.mem_filterMap.mp hw
  have hm : w ∈ big := by first | exact List.mem_of_getElem? hi | exact List.getElem?_mem hi
  exact ⟨hm, good_of_word h1⟩
theorem goodIn_app {big a b : List Cond} (ha : GoodIn big a) (hb : GoodIn big b) : GoodIn big (a ++ b) := fun w h => (List.mem_append.mp h).elim (ha w) (hb w)
theorem goodIn_ca {big a b : List Cond} {c : Cond} (ha : GoodIn big (c :: a)) (hb : GoodIn big b) : GoodIn big (c :: (a ++ b)) := fun w h => (List.mem_cons.mp h).elim (fun e => ha w (List.mem_cons.mpr (Or.inl e))) (fun h => (List.mem_append.mp h).elim (fun h => ha w (List.mem_cons.mpr (Or.inr h))) (hb w))
theorem goodIn_sub {big ws : List Cond} (hm : ∀ w ∈ ws, w ∈ big) (h : ws.all goodWord = true) : GoodIn big ws := fun w hw => ⟨hm w hw, good_of_word (List.all_eq_true.mp h w hw)⟩
/-! ===== END ===== -/

/-! ===== BEGIN printed: names, fields, word lists, decode rows ===== -/
def RX0 : String := "WildCards$Reader"
def TX0 : u_T := fun k => match k with
  | 0 => ("WildCards$Reader", "bytes", "[I", true)
  | 1 => ("WildCards$Reader", "length", "I", true)
  | 2 => ("WildCards$Reader", "things", "LWildCards$Things;", true)
  | _ => ("WildCards$Reader", "at", "I", false)
def tyX0 : Nat → FieldType := fun k => match k with
  | 0 => .array .int
  | 1 => .int
  | 2 => .object "WildCards$Things"
  | _ => .int
abbrev wsX00 : List Cond := u_ws RX0 TX0 4
theorem nmX0 : ∀ a, a < 4 → ∀ b, b < 4 → a ≠ b → (TX0 a).2.1 ≠ (TX0 b).2.1 := by decide +kernel
theorem tyX0_ok : ∀ k, k < 4 → parseFieldDescriptor (TX0 k).2.2.1 = some (tyX0 k) := by decide +kernel
abbrev cX0_init : ByteArray := prog_2_method_1_code
def yX0_init : MethodName := ⟨RX0, "<init>", "([IILWildCards$Things;)V"⟩
abbrev cX0_readAll : ByteArray := prog_2_method_2_code
def yX0_readAll : MethodName := ⟨RX0, "readAll", "()V"⟩
abbrev cX0_readThing : ByteArray := prog_2_method_3_code
def yX0_readThing : MethodName := ⟨RX0, "readThing", "()V"⟩
abbrev cX0_readBrackets : ByteArray := prog_2_method_4_code
def yX0_readBrackets : MethodName := ⟨RX0, "readBrackets", "()V"⟩
abbrev cX0_readTold : ByteArray := prog_2_method_5_code
def yX0_readTold : MethodName := ⟨RX0, "readTold", "(Z)V"⟩
abbrev cX0_bracketsEndAt : ByteArray := prog_2_method_6_code
def yX0_bracketsEndAt : MethodName := ⟨RX0, "bracketsEndAt", "(I)Z"⟩
abbrev cX0_readByte : ByteArray := prog_2_method_7_code
def yX0_readByte : MethodName := ⟨RX0, "readByte", "()I"⟩
abbrev cX0_byteAt : ByteArray := prog_2_method_8_code
def yX0_byteAt : MethodName := ⟨RX0, "byteAt", "(I)I"⟩
def RX1 : String := "WildCards$Things"
def TX1 : u_T := fun k => match k with
  | 0 => ("WildCards$Things", "takers", "[J", true)
  | 1 => ("WildCards$Things", "loops", "[J", true)
  | 2 => ("WildCards$Things", "reached", "[J", true)
  | _ => ("WildCards$Things", "count", "I", false)
def tyX1 : Nat → FieldType := fun k => match k with
  | 0 => .array .long
  | 1 => .array .long
  | 2 => .array .long
  | _ => .int
abbrev wsX10 : List Cond := u_ws RX1 TX1 4
theorem nmX1 : ∀ a, a < 4 → ∀ b, b < 4 → a ≠ b → (TX1 a).2.1 ≠ (TX1 b).2.1 := by decide +kernel
theorem tyX1_ok : ∀ k, k < 4 → parseFieldDescriptor (TX1 k).2.2.1 = some (tyX1 k) := by decide +kernel
abbrev cX1_init : ByteArray := prog_3_method_1_code
def yX1_init : MethodName := ⟨RX1, "<init>", "()V"⟩
abbrev cX1_clear : ByteArray := prog_3_method_2_code
def yX1_clear : MethodName := ⟨RX1, "clear", "()V"⟩
abbrev cX1_addLoop : ByteArray := prog_3_method_3_code
def yX1_addLoop : MethodName := ⟨RX1, "addLoop", "()V"⟩
abbrev cX1_tell : ByteArray := prog_3_method_4_code
def yX1_tell : MethodName := ⟨RX1, "tell", "(IIZ)V"⟩
abbrev cX1_close : ByteArray := prog_3_method_5_code
def yX1_close : MethodName := ⟨RX1, "close", "()V"⟩
abbrev cX1_start : ByteArray := prog_3_method_6_code
def yX1_start : MethodName := ⟨RX1, "start", "()V"⟩
abbrev cX1_step : ByteArray := prog_3_method_7_code
def yX1_step : MethodName := ⟨RX1, "step", "(I)V"⟩
abbrev cX1_endIsReached : ByteArray := prog_3_method_8_code
def yX1_endIsReached : MethodName := ⟨RX1, "endIsReached", "()Z"⟩
abbrev cX1_bitOf : ByteArray := prog_3_method_9_code
def yX1_bitOf : MethodName := ⟨RX1, "bitOf", "(I)J"⟩
def RX2 : String := "WildCards"
def TX2 : u_T := fun k => match k with
  | 0 => ("WildCards", "tape", "[I", true)
  | 1 => ("WildCards", "tapeLength", "I", false)
  | 2 => ("WildCards", "letters", "[I", true)
  | 3 => ("WildCards", "letterCount", "I", false)
  | _ => ("WildCards", "things", "LWildCards$Things;", true)
def tyX2 : Nat → FieldType := fun k => match k with
  | 0 => .array .int
  | 1 => .int
  | 2 => .array .int
  | 3 => .int
  | _ => .object "WildCards$Things"
abbrev wsX20 : List Cond := u_ws RX2 TX2 5
theorem nmX2 : ∀ a, a < 5 → ∀ b, b < 5 → a ≠ b → (TX2 a).2.1 ≠ (TX2 b).2.1 := by decide +kernel
theorem tyX2_ok : ∀ k, k < 5 → parseFieldDescriptor (TX2 k).2.2.1 = some (tyX2 k) := by decide +kernel
abbrev cX2_init : ByteArray := prog_1_method_1_code
def yX2_init : MethodName := ⟨RX2, "<init>", "()V"⟩
abbrev cX2_feed : ByteArray := prog_1_method_2_code
def yX2_feed : MethodName := ⟨RX2, "feed", "(IIIII)Z"⟩
abbrev cX2_end : ByteArray := prog_1_method_3_code
def yX2_end : MethodName := ⟨RX2, "end", "(I)Z"⟩
abbrev cX2_pattern : ByteArray := prog_1_method_4_code
def yX2_pattern : MethodName := ⟨RX2, "pattern", "()I"⟩
abbrev cX2_word : ByteArray := prog_1_method_5_code
def yX2_word : MethodName := ⟨RX2, "word", "()I"⟩
abbrev cX2_fits : ByteArray := prog_1_method_6_code
def yX2_fits : MethodName := ⟨RX2, "fits", "()Z"⟩
abbrev cX2_fitsPart : ByteArray := prog_1_method_7_code
def yX2_fitsPart : MethodName := ⟨RX2, "fitsPart", "(II)Z"⟩
abbrev cX2_beginnings : ByteArray := prog_1_method_8_code
def yX2_beginnings : MethodName := ⟨RX2, "beginnings", "()I"⟩
abbrev cX2_append : ByteArray := prog_1_method_9_code
def yX2_append : MethodName := ⟨RX2, "append", "(I)V"⟩
abbrev cX2_lettersFit : ByteArray := prog_1_method_10_code
def yX2_lettersFit : MethodName := ⟨RX2, "lettersFit", "(II)Z"⟩
def RX3 : String := "WildCardsModel"
def TX3 : u_T := fun k => match k with
  | 0 => ("WildCardsModel", "tape", "[I", true)
  | 1 => ("WildCardsModel", "pattern", "[I", true)
  | 2 => ("WildCardsModel", "word", "[I", true)
  | 3 => ("WildCardsModel", "typed", "I", false)
  | 4 => ("WildCardsModel", "size", "I", false)
  | 5 => ("WildCardsModel", "length", "I", false)
  | 6 => ("WildCardsModel", "end", "I", false)
  | 7 => ("WildCardsModel", "told", "I", false)
  | _ => ("WildCardsModel", "fit", "[Z", true)
def tyX3 : Nat → FieldType := fun k => match k with
  | 0 => .array .int
  | 1 => .array .int
  | 2 => .array .int
  | 3 => .int
  | 4 => .int
  | 5 => .int
  | 6 => .int
  | 7 => .int
  | _ => .array .boolean
abbrev wsX30 : List Cond := u_ws RX3 TX3 9
theorem nmX3 : ∀ a, a < 9 → ∀ b, b < 9 → a ≠ b → (TX3 a).2.1 ≠ (TX3 b).2.1 := by decide +kernel
theorem tyX3_ok : ∀ k, k < 9 → parseFieldDescriptor (TX3 k).2.2.1 = some (tyX3 k) := by decide +kernel
abbrev cX3_init : ByteArray := prog_5_method_1_code
def yX3_init : MethodName := ⟨RX3, "<init>", "()V"⟩
abbrev cX3_put : ByteArray := prog_5_method_2_code
def yX3_put : MethodName := ⟨RX3, "put", "(I)V"⟩
abbrev cX3_feed : ByteArray := prog_5_method_3_code
def yX3_feed : MethodName := ⟨RX3, "feed", "(IIIII)Z"⟩
abbrev cX3_end : ByteArray := prog_5_method_4_code
def yX3_end : MethodName := ⟨RX3, "end", "(I)Z"⟩
abbrev cX3_pattern : ByteArray := prog_5_method_5_code
def yX3_pattern : MethodName := ⟨RX3, "pattern", "()I"⟩
abbrev cX3_word : ByteArray := prog_5_method_6_code
def yX3_word : MethodName := ⟨RX3, "word", "()I"⟩
abbrev cX3_fits : ByteArray := prog_5_method_11_code
def yX3_fits : MethodName := ⟨RX3, "fits", "()Z"⟩
def RJ9 : String := "java/lang/Math"
def TJ9 : u_T := fun k => match k with
  | _ => ("", "", "", false)
def tyJ9 : Nat → FieldType := fun k => match k with
  | _ => .int
abbrev wsJ90 : List Cond := u_ws RJ9 TJ9 0
theorem nmJ9 : ∀ a, a < 0 → ∀ b, b < 0 → a ≠ b → (TJ9 a).2.1 ≠ (TJ9 b).2.1 := by decide +kernel
theorem tyJ9_ok : ∀ k, k < 0 → parseFieldDescriptor (TJ9 k).2.2.1 = some (tyJ9 k) := by decide +kernel
abbrev cJ9_max_7cf53 : ByteArray := prog_6_method_65_code
def yJ9_max_7cf53 : MethodName := ⟨RJ9, "max", "(II)I"⟩
abbrev cJ9_min_7cf53 : ByteArray := prog_6_method_69_code
def yJ9_min_7cf53 : MethodName := ⟨RJ9, "min", "(II)I"⟩
def RJ10 : String := "java/lang/System"
def TJ10 : u_T := fun k => match k with
  | _ => ("", "", "", false)
def tyJ10 : Nat → FieldType := fun k => match k with
  | _ => .int
abbrev wsJ100 : List Cond := u_ws RJ10 TJ10 0
theorem nmJ10 : ∀ a, a < 0 → ∀ b, b < 0 → a ≠ b → (TJ10 a).2.1 ≠ (TJ10 b).2.1 := by decide +kernel
theorem tyJ10_ok : ∀ k, k < 0 → parseFieldDescriptor (TJ10 k).2.2.1 = some (tyJ10 k) := by decide +kernel
def RJ7 : String := "java/util/Arrays"
def TJ7 : u_T := fun k => match k with
  | _ => ("", "", "", false)
def tyJ7 : Nat → FieldType := fun k => match k with
  | _ => .int
abbrev wsJ70 : List Cond := u_ws RJ7 TJ7 0
theorem nmJ7 : ∀ a, a < 0 → ∀ b, b < 0 → a ≠ b → (TJ7 a).2.1 ≠ (TJ7 b).2.1 := by decide +kernel
theorem tyJ7_ok : ∀ k, k < 0 → parseFieldDescriptor (TJ7 k).2.2.1 = some (tyJ7 k) := by decide +kernel
abbrev cJ7_fill_d0a16 : ByteArray := prog_8_method_101_code
def yJ7_fill_d0a16 : MethodName := ⟨RJ7, "fill", "([JJ)V"⟩
def RL : String := "WildCardsLaw"
abbrev cL_law : ByteArray := code
def yL_law : MethodName := ⟨RL, "law", "([I)Z"⟩
def wsX0_init : List Cond := .code yX0_init cX0_init 4 none :: ([.methodLink RX0 3 objectInit, .instanceMethod objectInit, .code objectInit ⟨#[0xb1]⟩ 1 none, .fieldLink RX0 9 "WildCards$Reader" "bytes" "[I", .fieldLink RX0 15 "WildCards$Reader" "length" "I", .fieldLink RX0 19 "WildCards$Reader" "things" "LWildCards$Things;"] ++ wsX00)
def wsX0_byteAt : List Cond := .code yX0_byteAt cX0_byteAt 2 (some .int) :: ([.fieldLink RX0 15 "WildCards$Reader" "length" "I", .fieldLink RX0 9 "WildCards$Reader" "bytes" "[I"] ++ wsX00)
def wsX1_bitOf : List Cond := .code yX1_bitOf cX1_bitOf 1 (some .long) :: ([])
def wsX1_addLoop : List Cond := .code yX1_addLoop cX1_addLoop 1 none :: ([.fieldLink RX1 15 "WildCards$Things" "loops" "[J", .fieldLink RX1 27 "WildCards$Things" "count" "I", .methodLink RX1 31 yX1_bitOf, .static yX1_bitOf, .initialized RX1, .code yX1_bitOf cX1_bitOf 1 (some .long)] ++ wsX10)
def wsX1_tell : List Cond := .code yX1_tell cX1_tell 8 none :: ([.methodLink RX1 35 Lib.Math.max.name, .static Lib.Math.max.name, .initialized "java/lang/Math", .code Lib.Math.max.name Lib.Math.max.code 2 (some .int), .methodLink RX1 41 Lib.Math.min.name, .static Lib.Math.min.name, .code Lib.Math.min.name Lib.Math.min.code 2 (some .int), .fieldLink RX1 27 "WildCards$Things" "count" "I", .fieldLink RX1 11 "WildCards$Things" "takers" "[J", .constantLong RX1 44 (-1), .methodLink RX1 31 yX1_bitOf, .static yX1_bitOf, .initialized RX1, .code yX1_bitOf cX1_bitOf 1 (some .long)] ++ wsX10)
def wsX0_bracketsEndAt : List Cond := .code yX0_bracketsEndAt cX0_bracketsEndAt 3 (some .boolean) :: ([.methodLink RX0 29 yX0_byteAt, .instanceMethod yX0_byteAt, .selects RX0 yX0_byteAt yX0_byteAt, .initialized RX0, .code yX0_byteAt cX0_byteAt 2 (some .int), .fieldLink RX0 15 "WildCards$Reader" "length" "I", .fieldLink RX0 9 "WildCards$Reader" "bytes" "[I"] ++ wsX00)
def wsX0_readByte : List Cond := .code yX0_readByte cX0_readByte 2 (some .int) :: ([.fieldLink RX0 23 "WildCards$Reader" "at" "I", .fieldLink RX0 15 "WildCards$Reader" "length" "I", .methodLink RX0 29 yX0_byteAt, .instanceMethod yX0_byteAt, .selects RX0 yX0_byteAt yX0_byteAt, .initialized RX0, .code yX0_byteAt cX0_byteAt 2 (some .int), .fieldLink RX0 9 "WildCards$Reader" "bytes" "[I"] ++ wsX00)
def wsX0_readTold_r1 : List Cond := [Cond.fieldLink RX0 23 "WildCards$Reader" "at" "I", Cond.fieldLink RX0 19 "WildCards$Reader" "things" "LWildCards$Things;", Cond.methodLink RX0 45 yX0_readByte, Cond.instanceMethod yX0_readByte, Cond.selects RX0 yX0_readByte yX0_readByte, Cond.initialized RX0, Cond.code yX0_readByte cX0_readByte 2 (some .int), Cond.fieldLink RX0 15 "WildCards$Reader" "length" "I", Cond.methodLink RX0 29 yX0_byteAt, Cond.instanceMethod yX0_byteAt, Cond.selects RX0 yX0_byteAt yX0_byteAt, Cond.code yX0_byteAt cX0_byteAt 2 (some .int), Cond.fieldLink RX0 9 "WildCards$Reader" "bytes" "[I", Cond.methodLink RX0 52 yX0_bracketsEndAt, Cond.instanceMethod yX0_bracketsEndAt, Cond.selects RX0 yX0_bracketsEndAt yX0_bracketsEndAt, Cond.code yX0_bracketsEndAt cX0_bracketsEndAt 3 (some .boolean), Cond.methodLink RX0 38 yX1_tell, Cond.instanceMethod yX1_tell, Cond.selects RX1 yX1_tell yX1_tell, Cond.initialized RX1, Cond.code yX1_tell cX1_tell 8 none, Cond.methodLink RX1 35 Lib.Math.max.name, Cond.static Lib.Math.max.name]
def wsX0_readTold_r2 : List Cond := [Cond.initialized "java/lang/Math", Cond.code Lib.Math.max.name Lib.Math.max.code 2 (some .int), Cond.methodLink RX1 41 Lib.Math.min.name, Cond.static Lib.Math.min.name, Cond.code Lib.Math.min.name Lib.Math.min.code 2 (some .int), Cond.fieldLink RX1 27 "WildCards$Things" "count" "I", Cond.fieldLink RX1 11 "WildCards$Things" "takers" "[J", Cond.constantLong RX1 44 (-1), Cond.methodLink RX1 31 yX1_bitOf, Cond.static yX1_bitOf, Cond.code yX1_bitOf cX1_bitOf 1 (some .long)]
def wsX0_readTold : List Cond := .code yX0_readTold cX0_readTold 4 none :: ((wsX0_readTold_r1 ++ wsX0_readTold_r2) ++ wsX00 ++ wsX10)
def wsX0_readBrackets_r1 : List Cond := [Cond.fieldLink RX0 23 "WildCards$Reader" "at" "I", Cond.fieldLink RX0 19 "WildCards$Reader" "things" "LWildCards$Things;", Cond.fieldLink RX0 15 "WildCards$Reader" "length" "I", Cond.methodLink RX0 29 yX0_byteAt, Cond.instanceMethod yX0_byteAt, Cond.selects RX0 yX0_byteAt yX0_byteAt, Cond.initialized RX0, Cond.code yX0_byteAt cX0_byteAt 2 (some .int), Cond.fieldLink RX0 9 "WildCards$Reader" "bytes" "[I", Cond.methodLink RX0 38 yX1_tell, Cond.instanceMethod yX1_tell, Cond.selects RX1 yX1_tell yX1_tell, Cond.initialized RX1, Cond.code yX1_tell cX1_tell 8 none, Cond.methodLink RX1 35 Lib.Math.max.name, Cond.static Lib.Math.max.name, Cond.initialized "java/lang/Math", Cond.code Lib.Math.max.name Lib.Math.max.code 2 (some .int), Cond.methodLink RX1 41 Lib.Math.min.name, Cond.static Lib.Math.min.name, Cond.code Lib.Math.min.name Lib.Math.min.code 2 (some .int), Cond.fieldLink RX1 27 "WildCards$Things" "count" "I", Cond.fieldLink RX1 11 "WildCards$Things" "takers" "[J", Cond.constantLong RX1 44 (-1)]
def wsX0_readBrackets_r2 : List Cond := [Cond.methodLink RX1 31 yX1_bitOf, Cond.static yX1_bitOf, Cond.code yX1_bitOf cX1_bitOf 1 (some .long), Cond.methodLink RX0 52 yX0_bracketsEndAt, Cond.instanceMethod yX0_bracketsEndAt, Cond.selects RX0 yX0_bracketsEndAt yX0_bracketsEndAt, Cond.code yX0_bracketsEndAt cX0_bracketsEndAt 3 (some .boolean), Cond.methodLink RX0 56 yX0_readTold, Cond.instanceMethod yX0_readTold, Cond.selects RX0 yX0_readTold yX0_readTold, Cond.code yX0_readTold cX0_readTold 4 none, Cond.methodLink RX0 45 yX0_readByte, Cond.instanceMethod yX0_readByte, Cond.selects RX0 yX0_readByte yX0_readByte, Cond.code yX0_readByte cX0_readByte 2 (some .int)]
def wsX0_readBrackets : List Cond := .code yX0_readBrackets cX0_readBrackets 3 none :: ((wsX0_readBrackets_r1 ++ wsX0_readBrackets_r2) ++ wsX00 ++ wsX10)
def wsX1_close : List Cond := .code yX1_close cX1_close 1 none :: ([.fieldLink RX1 27 "WildCards$Things" "count" "I"] ++ wsX10)
def wsX0_readThing_r1 : List Cond := [Cond.fieldLink RX0 23 "WildCards$Reader" "at" "I", Cond.fieldLink RX0 19 "WildCards$Reader" "things" "LWildCards$Things;", Cond.methodLink RX0 29 yX0_byteAt, Cond.instanceMethod yX0_byteAt, Cond.selects RX0 yX0_byteAt yX0_byteAt, Cond.initialized RX0, Cond.code yX0_byteAt cX0_byteAt 2 (some .int), Cond.fieldLink RX0 15 "WildCards$Reader" "length" "I", Cond.fieldLink RX0 9 "WildCards$Reader" "bytes" "[I", Cond.methodLink RX0 33 yX1_addLoop, Cond.instanceMethod yX1_addLoop, Cond.selects RX1 yX1_addLoop yX1_addLoop, Cond.initialized RX1, Cond.code yX1_addLoop cX1_addLoop 1 none, Cond.fieldLink RX1 15 "WildCards$Things" "loops" "[J", Cond.fieldLink RX1 27 "WildCards$Things" "count" "I", Cond.methodLink RX1 31 yX1_bitOf, Cond.static yX1_bitOf, Cond.code yX1_bitOf cX1_bitOf 1 (some .long), Cond.methodLink RX0 38 yX1_tell, Cond.instanceMethod yX1_tell, Cond.selects RX1 yX1_tell yX1_tell, Cond.code yX1_tell cX1_tell 8 none, Cond.methodLink RX1 35 Lib.Math.max.name]
def wsX0_readThing_r2 : List Cond := [Cond.static Lib.Math.max.name, Cond.initialized "java/lang/Math", Cond.code Lib.Math.max.name Lib.Math.max.code 2 (some .int), Cond.methodLink RX1 41 Lib.Math.min.name, Cond.static Lib.Math.min.name, Cond.code Lib.Math.min.name Lib.Math.min.code 2 (some .int), Cond.fieldLink RX1 11 "WildCards$Things" "takers" "[J", Cond.constantLong RX1 44 (-1), Cond.methodLink RX0 42 yX0_readBrackets, Cond.instanceMethod yX0_readBrackets, Cond.selects RX0 yX0_readBrackets yX0_readBrackets, Cond.code yX0_readBrackets cX0_readBrackets 3 none, Cond.methodLink RX0 52 yX0_bracketsEndAt, Cond.instanceMethod yX0_bracketsEndAt, Cond.selects RX0 yX0_bracketsEndAt yX0_bracketsEndAt, Cond.code yX0_bracketsEndAt cX0_bracketsEndAt 3 (some .boolean), Cond.methodLink RX0 56 yX0_readTold, Cond.instanceMethod yX0_readTold, Cond.selects RX0 yX0_readTold yX0_readTold, Cond.code yX0_readTold cX0_readTold 4 none, Cond.methodLink RX0 45 yX0_readByte, Cond.instanceMethod yX0_readByte, Cond.selects RX0 yX0_readByte yX0_readByte, Cond.code yX0_readByte cX0_readByte 2 (some .int)]
def wsX0_readThing_r3 : List Cond := [Cond.methodLink RX0 49 yX1_close, Cond.instanceMethod yX1_close, Cond.selects RX1 yX1_close yX1_close, Cond.code yX1_close cX1_close 1 none]
def wsX0_readThing : List Cond := .code yX0_readThing cX0_readThing 3 none :: ((wsX0_readThing_r1 ++ (wsX0_readThing_r2 ++ wsX0_readThing_r3)) ++ wsX00 ++ wsX10)
def wsX0_readAll_r1 : List Cond := [Cond.fieldLink RX0 15 "WildCards$Reader" "length" "I", Cond.fieldLink RX0 23 "WildCards$Reader" "at" "I", Cond.methodLink RX0 26 yX0_readThing, Cond.instanceMethod yX0_readThing, Cond.selects RX0 yX0_readThing yX0_readThing, Cond.initialized RX0, Cond.code yX0_readThing cX0_readThing 3 none, Cond.fieldLink RX0 19 "WildCards$Reader" "things" "LWildCards$Things;", Cond.methodLink RX0 29 yX0_byteAt, Cond.instanceMethod yX0_byteAt, Cond.selects RX0 yX0_byteAt yX0_byteAt, Cond.code yX0_byteAt cX0_byteAt 2 (some .int), Cond.fieldLink RX0 9 "WildCards$Reader" "bytes" "[I", Cond.methodLink RX0 33 yX1_addLoop, Cond.instanceMethod yX1_addLoop, Cond.selects RX1 yX1_addLoop yX1_addLoop, Cond.initialized RX1, Cond.code yX1_addLoop cX1_addLoop 1 none, Cond.fieldLink RX1 15 "WildCards$Things" "loops" "[J", Cond.fieldLink RX1 27 "WildCards$Things" "count" "I", Cond.methodLink RX1 31 yX1_bitOf, Cond.static yX1_bitOf, Cond.code yX1_bitOf cX1_bitOf 1 (some .long), Cond.methodLink RX0 38 yX1_tell]
def wsX0_readAll_r2 : List Cond := [Cond.instanceMethod yX1_tell, Cond.selects RX1 yX1_tell yX1_tell, Cond.code yX1_tell cX1_tell 8 none, Cond.methodLink RX1 35 Lib.Math.max.name, Cond.static Lib.Math.max.name, Cond.initialized "java/lang/Math", Cond.code Lib.Math.max.name Lib.Math.max.code 2 (some .int), Cond.methodLink RX1 41 Lib.Math.min.name, Cond.static Lib.Math.min.name, Cond.code Lib.Math.min.name Lib.Math.min.code 2 (some .int), Cond.fieldLink RX1 11 "WildCards$Things" "takers" "[J", Cond.constantLong RX1 44 (-1), Cond.methodLink RX0 42 yX0_readBrackets, Cond.instanceMethod yX0_readBrackets, Cond.selects RX0 yX0_readBrackets yX0_readBrackets, Cond.code yX0_readBrackets cX0_readBrackets 3 none, Cond.methodLink RX0 52 yX0_bracketsEndAt, Cond.instanceMethod yX0_bracketsEndAt, Cond.selects RX0 yX0_bracketsEndAt yX0_bracketsEndAt, Cond.code yX0_bracketsEndAt cX0_bracketsEndAt 3 (some .boolean), Cond.methodLink RX0 56 yX0_readTold, Cond.instanceMethod yX0_readTold, Cond.selects RX0 yX0_readTold yX0_readTold, Cond.code yX0_readTold cX0_readTold 4 none]
def wsX0_readAll_r3 : List Cond := [Cond.methodLink RX0 45 yX0_readByte, Cond.instanceMethod yX0_readByte, Cond.selects RX0 yX0_readByte yX0_readByte, Cond.code yX0_readByte cX0_readByte 2 (some .int), Cond.methodLink RX0 49 yX1_close, Cond.instanceMethod yX1_close, Cond.selects RX1 yX1_close yX1_close, Cond.code yX1_close cX1_close 1 none]
def wsX0_readAll : List Cond := .code yX0_readAll cX0_readAll 2 none :: ((wsX0_readAll_r1 ++ (wsX0_readAll_r2 ++ wsX0_readAll_r3)) ++ wsX00 ++ wsX10)
def wsX1_init : List Cond := .code yX1_init cX1_init 1 none :: ([.methodLink RX1 5 objectInit, .instanceMethod objectInit, .code objectInit ⟨#[0xb1]⟩ 1 none, .arrayClass .long, .fieldLink RX1 11 "WildCards$Things" "takers" "[J", .fieldLink RX1 15 "WildCards$Things" "loops" "[J", .fieldLink RX1 18 "WildCards$Things" "reached" "[J"] ++ wsX10)
def wsJ7_fill_d0a16 : List Cond := .code yJ7_fill_d0a16 cJ7_fill_d0a16 5 none :: ([])
def wsX1_clear : List Cond := .code yX1_clear cX1_clear 1 none :: ([.fieldLink RX1 11 "WildCards$Things" "takers" "[J", .fieldLink RX1 15 "WildCards$Things" "loops" "[J", .fieldLink RX1 27 "WildCards$Things" "count" "I", .methodLink RX1 21 yJ7_fill_d0a16, .static yJ7_fill_d0a16, .initialized RJ7, .code yJ7_fill_d0a16 cJ7_fill_d0a16 5 none] ++ wsX10)
def wsX1_start : List Cond := .code yX1_start cX1_start 1 none :: ([.fieldLink RX1 18 "WildCards$Things" "reached" "[J", .methodLink RX1 21 yJ7_fill_d0a16, .static yJ7_fill_d0a16, .initialized RJ7, .code yJ7_fill_d0a16 cJ7_fill_d0a16 5 none] ++ wsX10)
def wsX1_step : List Cond := .code yX1_step cX1_step 10 none :: ([.fieldLink RX1 18 "WildCards$Things" "reached" "[J", .fieldLink RX1 11 "WildCards$Things" "takers" "[J", .fieldLink RX1 15 "WildCards$Things" "loops" "[J"] ++ wsX10)
def wsX1_endIsReached : List Cond := .code yX1_endIsReached cX1_endIsReached 1 (some .boolean) :: ([.fieldLink RX1 18 "WildCards$Things" "reached" "[J", .fieldLink RX1 27 "WildCards$Things" "count" "I", .methodLink RX1 31 yX1_bitOf, .static yX1_bitOf, .initialized RX1, .code yX1_bitOf cX1_bitOf 1 (some .long)] ++ wsX10)
def wsX2_init : List Cond := .code yX2_init cX2_init 1 none :: ([.methodLink RX2 1 objectInit, .instanceMethod objectInit, .code objectInit ⟨#[0xb1]⟩ 1 none, .arrayClass .int, .fieldLink RX2 9 "WildCards" "tape" "[I", .fieldLink RX2 13 "WildCards" "letters" "[I", .classLink RX2 16 RX1, .instantiable RX1 4, .initialized RX1, .fieldLink RX2 19 "WildCards" "things" "LWildCards$Things;", .methodLink RX2 18 yX1_init, .instanceMethod yX1_init, .code yX1_init cX1_init 1 none, .methodLink RX1 5 objectInit, .arrayClass .long, .fieldLink RX1 11 "WildCards$Things" "takers" "[J", .fieldLink RX1 15 "WildCards$Things" "loops" "[J", .fieldLink RX1 18 "WildCards$Things" "reached" "[J"] ++ wsX20 ++ wsX10)
def wsX2_append : List Cond := .code yX2_append cX2_append 3 none :: ([.fieldLink RX2 9 "WildCards" "tape" "[I", .fieldLink RX2 23 "WildCards" "tapeLength" "I"] ++ wsX20)
def wsX2_feed : List Cond := .code yX2_feed cX2_feed 6 (some .boolean) :: ([.fieldLink RX2 23 "WildCards" "tapeLength" "I", .methodLink RX2 27 yX2_append, .instanceMethod yX2_append, .selects RX2 yX2_append yX2_append, .initialized RX2, .code yX2_append cX2_append 3 none, .fieldLink RX2 9 "WildCards" "tape" "[I"] ++ wsX20)
def wsX2_end : List Cond := .code yX2_end cX2_end 2 (some .boolean) :: ([.fieldLink RX2 23 "WildCards" "tapeLength" "I"] ++ wsX20)
def wsX2_pattern_r1 : List Cond := [Cond.fieldLink RX2 23 "WildCards" "tapeLength" "I", Cond.fieldLink RX2 19 "WildCards" "things" "LWildCards$Things;", Cond.classLink RX2 34 RX0, Cond.instantiable RX0 4, Cond.initialized RX0, Cond.fieldLink RX2 9 "WildCards" "tape" "[I", Cond.methodLink RX2 31 yX1_clear, Cond.instanceMethod yX1_clear, Cond.selects RX1 yX1_clear yX1_clear, Cond.initialized RX1, Cond.code yX1_clear cX1_clear 1 none, Cond.fieldLink RX1 11 "WildCards$Things" "takers" "[J", Cond.fieldLink RX1 15 "WildCards$Things" "loops" "[J", Cond.fieldLink RX1 27 "WildCards$Things" "count" "I", Cond.methodLink RX1 21 yJ7_fill_d0a16, Cond.static yJ7_fill_d0a16, Cond.initialized RJ7, Cond.code yJ7_fill_d0a16 cJ7_fill_d0a16 5 none, Cond.methodLink RX2 36 yX0_init, Cond.instanceMethod yX0_init, Cond.code yX0_init cX0_init 4 none, Cond.methodLink RX0 3 objectInit, Cond.instanceMethod objectInit, Cond.code objectInit ⟨#[0xb1]⟩ 1 none]
def wsX2_pattern_r2 : List Cond := [Cond.fieldLink RX0 9 "WildCards$Reader" "bytes" "[I", Cond.fieldLink RX0 15 "WildCards$Reader" "length" "I", Cond.fieldLink RX0 19 "WildCards$Reader" "things" "LWildCards$Things;", Cond.methodLink RX2 39 yX0_readAll, Cond.instanceMethod yX0_readAll, Cond.selects RX0 yX0_readAll yX0_readAll, Cond.code yX0_readAll cX0_readAll 2 none, Cond.fieldLink RX0 23 "WildCards$Reader" "at" "I", Cond.methodLink RX0 26 yX0_readThing, Cond.instanceMethod yX0_readThing, Cond.selects RX0 yX0_readThing yX0_readThing, Cond.code yX0_readThing cX0_readThing 3 none, Cond.methodLink RX0 29 yX0_byteAt, Cond.instanceMethod yX0_byteAt, Cond.selects RX0 yX0_byteAt yX0_byteAt, Cond.code yX0_byteAt cX0_byteAt 2 (some .int), Cond.methodLink RX0 33 yX1_addLoop, Cond.instanceMethod yX1_addLoop, Cond.selects RX1 yX1_addLoop yX1_addLoop, Cond.code yX1_addLoop cX1_addLoop 1 none, Cond.methodLink RX1 31 yX1_bitOf, Cond.static yX1_bitOf, Cond.code yX1_bitOf cX1_bitOf 1 (some .long), Cond.methodLink RX0 38 yX1_tell]
def wsX2_pattern_r3 : List Cond := [Cond.instanceMethod yX1_tell, Cond.selects RX1 yX1_tell yX1_tell, Cond.code yX1_tell cX1_tell 8 none, Cond.methodLink RX1 35 Lib.Math.max.name, Cond.static Lib.Math.max.name, Cond.initialized "java/lang/Math", Cond.code Lib.Math.max.name Lib.Math.max.code 2 (some .int), Cond.methodLink RX1 41 Lib.Math.min.name, Cond.static Lib.Math.min.name, Cond.code Lib.Math.min.name Lib.Math.min.code 2 (some .int), Cond.constantLong RX1 44 (-1), Cond.methodLink RX0 42 yX0_readBrackets, Cond.instanceMethod yX0_readBrackets, Cond.selects RX0 yX0_readBrackets yX0_readBrackets, Cond.code yX0_readBrackets cX0_readBrackets 3 none, Cond.methodLink RX0 52 yX0_bracketsEndAt, Cond.instanceMethod yX0_bracketsEndAt, Cond.selects RX0 yX0_bracketsEndAt yX0_bracketsEndAt, Cond.code yX0_bracketsEndAt cX0_bracketsEndAt 3 (some .boolean), Cond.methodLink RX0 56 yX0_readTold, Cond.instanceMethod yX0_readTold, Cond.selects RX0 yX0_readTold yX0_readTold, Cond.code yX0_readTold cX0_readTold 4 none, Cond.methodLink RX0 45 yX0_readByte]
def wsX2_pattern_r4 : List Cond := [Cond.instanceMethod yX0_readByte, Cond.selects RX0 yX0_readByte yX0_readByte, Cond.code yX0_readByte cX0_readByte 2 (some .int), Cond.methodLink RX0 49 yX1_close, Cond.instanceMethod yX1_close, Cond.selects RX1 yX1_close yX1_close, Cond.code yX1_close cX1_close 1 none]
def wsX2_pattern : List Cond := .code yX2_pattern cX2_pattern 2 (some .int) :: ((wsX2_pattern_r1 ++ (wsX2_pattern_r2 ++ (wsX2_pattern_r3 ++ wsX2_pattern_r4))) ++ wsX20 ++ wsX00 ++ wsX10)
def wsX2_word : List Cond := .code yX2_word cX2_word 2 (some .int) :: ([.fieldLink RX2 23 "WildCards" "tapeLength" "I", .fieldLink RX2 9 "WildCards" "tape" "[I", .fieldLink RX2 13 "WildCards" "letters" "[I", .methodLink RX2 42 arraycopyName, .native arraycopyName, .static arraycopyName, .initialized "java/lang/System", .fieldLink RX2 48 "WildCards" "letterCount" "I"] ++ wsX20)
def wsX2_lettersFit_r1 : List Cond := [Cond.fieldLink RX2 19 "WildCards" "things" "LWildCards$Things;", Cond.fieldLink RX2 13 "WildCards" "letters" "[I", Cond.methodLink RX2 55 yX1_start, Cond.instanceMethod yX1_start, Cond.selects RX1 yX1_start yX1_start, Cond.initialized RX1, Cond.code yX1_start cX1_start 1 none, Cond.fieldLink RX1 18 "WildCards$Things" "reached" "[J", Cond.methodLink RX1 21 yJ7_fill_d0a16, Cond.static yJ7_fill_d0a16, Cond.initialized RJ7, Cond.code yJ7_fill_d0a16 cJ7_fill_d0a16 5 none, Cond.methodLink RX2 62 yX1_step, Cond.instanceMethod yX1_step, Cond.selects RX1 yX1_step yX1_step, Cond.code yX1_step cX1_step 10 none, Cond.fieldLink RX1 11 "WildCards$Things" "takers" "[J", Cond.fieldLink RX1 15 "WildCards$Things" "loops" "[J", Cond.methodLink RX2 58 yX1_endIsReached, Cond.instanceMethod yX1_endIsReached, Cond.selects RX1 yX1_endIsReached yX1_endIsReached, Cond.code yX1_endIsReached cX1_endIsReached 1 (some .boolean), Cond.fieldLink RX1 27 "WildCards$Things" "count" "I", Cond.methodLink RX1 31 yX1_bitOf]
def wsX2_lettersFit_r2 : List Cond := [Cond.static yX1_bitOf, Cond.code yX1_bitOf cX1_bitOf 1 (some .long)]
def wsX2_lettersFit : List Cond := .code yX2_lettersFit cX2_lettersFit 4 (some .boolean) :: ((wsX2_lettersFit_r1 ++ wsX2_lettersFit_r2) ++ wsX20 ++ wsX10)
def wsX2_fits_r1 : List Cond := [Cond.fieldLink RX2 48 "WildCards" "letterCount" "I", Cond.methodLink RX2 51 yX2_lettersFit, Cond.instanceMethod yX2_lettersFit, Cond.selects RX2 yX2_lettersFit yX2_lettersFit, Cond.initialized RX2, Cond.code yX2_lettersFit cX2_lettersFit 4 (some .boolean), Cond.fieldLink RX2 19 "WildCards" "things" "LWildCards$Things;", Cond.fieldLink RX2 13 "WildCards" "letters" "[I", Cond.methodLink RX2 55 yX1_start, Cond.instanceMethod yX1_start, Cond.selects RX1 yX1_start yX1_start, Cond.initialized RX1, Cond.code yX1_start cX1_start 1 none, Cond.fieldLink RX1 18 "WildCards$Things" "reached" "[J", Cond.methodLink RX1 21 yJ7_fill_d0a16, Cond.static yJ7_fill_d0a16, Cond.initialized RJ7, Cond.code yJ7_fill_d0a16 cJ7_fill_d0a16 5 none, Cond.methodLink RX2 62 yX1_step, Cond.instanceMethod yX1_step, Cond.selects RX1 yX1_step yX1_step, Cond.code yX1_step cX1_step 10 none, Cond.fieldLink RX1 11 "WildCards$Things" "takers" "[J", Cond.fieldLink RX1 15 "WildCards$Things" "loops" "[J"]
def wsX2_fits_r2 : List Cond := [Cond.methodLink RX2 58 yX1_endIsReached, Cond.instanceMethod yX1_endIsReached, Cond.selects RX1 yX1_endIsReached yX1_endIsReached, Cond.code yX1_endIsReached cX1_endIsReached 1 (some .boolean), Cond.fieldLink RX1 27 "WildCards$Things" "count" "I", Cond.methodLink RX1 31 yX1_bitOf, Cond.static yX1_bitOf, Cond.code yX1_bitOf cX1_bitOf 1 (some .long)]
def wsX2_fits : List Cond := .code yX2_fits cX2_fits 1 (some .boolean) :: ((wsX2_fits_r1 ++ wsX2_fits_r2) ++ wsX20 ++ wsX10)
def wsX2_fitsPart_r1 : List Cond := [Cond.fieldLink RX2 48 "WildCards" "letterCount" "I", Cond.methodLink RX2 51 yX2_lettersFit, Cond.instanceMethod yX2_lettersFit, Cond.selects RX2 yX2_lettersFit yX2_lettersFit, Cond.initialized RX2, Cond.code yX2_lettersFit cX2_lettersFit 4 (some .boolean), Cond.fieldLink RX2 19 "WildCards" "things" "LWildCards$Things;", Cond.fieldLink RX2 13 "WildCards" "letters" "[I", Cond.methodLink RX2 55 yX1_start, Cond.instanceMethod yX1_start, Cond.selects RX1 yX1_start yX1_start, Cond.initialized RX1, Cond.code yX1_start cX1_start 1 none, Cond.fieldLink RX1 18 "WildCards$Things" "reached" "[J", Cond.methodLink RX1 21 yJ7_fill_d0a16, Cond.static yJ7_fill_d0a16, Cond.initialized RJ7, Cond.code yJ7_fill_d0a16 cJ7_fill_d0a16 5 none, Cond.methodLink RX2 62 yX1_step, Cond.instanceMethod yX1_step, Cond.selects RX1 yX1_step yX1_step, Cond.code yX1_step cX1_step 10 none, Cond.fieldLink RX1 11 "WildCards$Things" "takers" "[J", Cond.fieldLink RX1 15 "WildCards$Things" "loops" "[J"]
def wsX2_fitsPart_r2 : List Cond := [Cond.methodLink RX2 58 yX1_endIsReached, Cond.instanceMethod yX1_endIsReached, Cond.selects RX1 yX1_endIsReached yX1_endIsReached, Cond.code yX1_endIsReached cX1_endIsReached 1 (some .boolean), Cond.fieldLink RX1 27 "WildCards$Things" "count" "I", Cond.methodLink RX1 31 yX1_bitOf, Cond.static yX1_bitOf, Cond.code yX1_bitOf cX1_bitOf 1 (some .long)]
def wsX2_fitsPart : List Cond := .code yX2_fitsPart cX2_fitsPart 3 (some .boolean) :: ((wsX2_fitsPart_r1 ++ wsX2_fitsPart_r2) ++ wsX20 ++ wsX10)
def wsX2_beginnings_r1 : List Cond := [Cond.fieldLink RX2 19 "WildCards" "things" "LWildCards$Things;", Cond.fieldLink RX2 48 "WildCards" "letterCount" "I", Cond.fieldLink RX2 13 "WildCards" "letters" "[I", Cond.methodLink RX2 55 yX1_start, Cond.instanceMethod yX1_start, Cond.selects RX1 yX1_start yX1_start, Cond.initialized RX1, Cond.code yX1_start cX1_start 1 none, Cond.fieldLink RX1 18 "WildCards$Things" "reached" "[J", Cond.methodLink RX1 21 yJ7_fill_d0a16, Cond.static yJ7_fill_d0a16, Cond.initialized RJ7, Cond.code yJ7_fill_d0a16 cJ7_fill_d0a16 5 none, Cond.methodLink RX2 58 yX1_endIsReached, Cond.instanceMethod yX1_endIsReached, Cond.selects RX1 yX1_endIsReached yX1_endIsReached, Cond.code yX1_endIsReached cX1_endIsReached 1 (some .boolean), Cond.fieldLink RX1 27 "WildCards$Things" "count" "I", Cond.methodLink RX1 31 yX1_bitOf, Cond.static yX1_bitOf, Cond.code yX1_bitOf cX1_bitOf 1 (some .long), Cond.methodLink RX2 62 yX1_step, Cond.instanceMethod yX1_step, Cond.selects RX1 yX1_step yX1_step]
def wsX2_beginnings_r2 : List Cond := [Cond.code yX1_step cX1_step 10 none, Cond.fieldLink RX1 11 "WildCards$Things" "takers" "[J", Cond.fieldLink RX1 15 "WildCards$Things" "loops" "[J"]
def wsX2_beginnings : List Cond := .code yX2_beginnings cX2_beginnings 3 (some .int) :: ((wsX2_beginnings_r1 ++ wsX2_beginnings_r2) ++ wsX20 ++ wsX10)
def wsX3_init : List Cond := .code yX3_init cX3_init 1 none :: ([.methodLink RX3 1 objectInit, .instanceMethod objectInit, .code objectInit ⟨#[0xb1]⟩ 1 none, .arrayClass .int, .fieldLink RX3 7 "WildCardsModel" "tape" "[I", .fieldLink RX3 13 "WildCardsModel" "pattern" "[I", .fieldLink RX3 16 "WildCardsModel" "word" "[I", .arrayClass .boolean, .fieldLink RX3 19 "WildCardsModel" "fit" "[Z"] ++ wsX30)
def wsX3_put : List Cond := .code yX3_put cX3_put 3 none :: ([.fieldLink RX3 7 "WildCardsModel" "tape" "[I", .fieldLink RX3 23 "WildCardsModel" "typed" "I"] ++ wsX30)
def wsX3_feed : List Cond := .code yX3_feed cX3_feed 6 (some .boolean) :: ([.fieldLink RX3 23 "WildCardsModel" "typed" "I", .methodLink RX3 27 yX3_put, .instanceMethod yX3_put, .selects RX3 yX3_put yX3_put, .initialized RX3, .code yX3_put cX3_put 3 none, .fieldLink RX3 7 "WildCardsModel" "tape" "[I"] ++ wsX30)
def wsX3_end : List Cond := .code yX3_end cX3_end 2 (some .boolean) :: ([.fieldLink RX3 23 "WildCardsModel" "typed" "I"] ++ wsX30)
def wsX3_pattern : List Cond := .code yX3_pattern cX3_pattern 2 (some .int) :: ([.fieldLink RX3 23 "WildCardsModel" "typed" "I", .fieldLink RX3 31 "WildCardsModel" "size" "I", .fieldLink RX3 13 "WildCardsModel" "pattern" "[I", .fieldLink RX3 7 "WildCardsModel" "tape" "[I"] ++ wsX30)
def wsX3_word : List Cond := .code yX3_word cX3_word 2 (some .int) :: ([.fieldLink RX3 23 "WildCardsModel" "typed" "I", .fieldLink RX3 34 "WildCardsModel" "length" "I", .fieldLink RX3 16 "WildCardsModel" "word" "[I", .fieldLink RX3 7 "WildCardsModel" "tape" "[I"] ++ wsX30)
def wsX3_fits : List Cond := .code yX3_fits cX3_fits 1 (some .boolean) :: ([.fieldLink RX3 34 "WildCardsModel" "length" "I", .fieldLink RX3 19 "WildCardsModel" "fit" "[Z"] ++ wsX30)
def wsJ9_max_7cf53 : List Cond := .code yJ9_max_7cf53 cJ9_max_7cf53 2 (some .int) :: ([])
def wsJ9_min_7cf53 : List Cond := .code yJ9_min_7cf53 cJ9_min_7cf53 2 (some .int) :: ([])
theorem dX0_init_0 : decode cX0_init 0 = .ok (.aload_n 0, 1) := by decide +kernel
theorem dX0_init_1 : decode cX0_init 1 = .ok (.invokespecial 3, 3) := by decide +kernel
theorem dX0_init_4 : decode cX0_init 4 = .ok (.aload_n 0, 1) := by decide +kernel
theorem dX0_init_5 : decode cX0_init 5 = .ok (.aload_n 1, 1) := by decide +kernel
theorem dX0_init_6 : decode cX0_init 6 = .ok (.putfield 9, 3) := by decide +kernel
theorem dX0_init_9 : decode cX0_init 9 = .ok (.aload_n 0, 1) := by decide +kernel
theorem dX0_init_10 : decode cX0_init 10 = .ok (.iload_n 2, 1) := by decide +kernel
theorem dX0_init_11 : decode cX0_init 11 = .ok (.putfield 15, 3) := by decide +kernel
theorem dX0_init_14 : decode cX0_init 14 = .ok (.aload_n 0, 1) := by decide +kernel
theorem dX0_init_15 : decode cX0_init 15 = .ok (.aload_n 3, 1) := by decide +kernel
theorem dX0_init_16 : decode cX0_init 16 = .ok (.putfield 19, 3) := by decide +kernel
theorem dX0_init_19 : decode cX0_init 19 = .ok (.return_, 1) := by decide +kernel
set_option maxRecDepth 20000 in
theorem ggX0_readAll_X0_readThing : GoodIn wsX0_readAll wsX0_readThing := goodIn_r _ [7, 2, 8, 9, 10, 11, 6, 12, 1, 13, 14, 15, 16, 17, 18, 19, 20, 21, 22, 23, 24, 25, 26, 27, 28, 29, 30, 31, 32, 33, 34, 35, 36, 37, 38, 39, 40, 41, 42, 43, 44, 45, 46, 47, 48, 49, 50, 51, 52, 53, 54, 55, 56, 57, 58, 59, 60, 61, 62, 63, 64] (by decide +kernel) (by decide +kernel)
set_option maxRecDepth 20000 in
theorem gX0_readAll_X0_readThing : GoodIn wsX0_readAll (wsV RX0 26 RX0 yX0_readThing wsX0_readThing) := goodIn_app (goodIn_of _ (by decide +kernel)) ggX0_readAll_X0_readThing
theorem dX0_readAll_0 : decode cX0_readAll 0 = .ok (.iconst 0, 1) := by decide +kernel
theorem dX0_readAll_1 : decode cX0_readAll 1 = .ok (.istore_n 1, 1) := by decide +kernel
theorem dX0_readAll_2 : decode cX0_readAll 2 = .ok (.iload_n 1, 1) := by decide +kernel
theorem dX0_readAll_3 : decode cX0_readAll 3 = .ok (.aload_n 0, 1) := by decide +kernel
theorem dX0_readAll_4 : decode cX0_readAll 4 = .ok (.getfield 15, 3) := by decide +kernel
theorem dX0_readAll_7 : decode cX0_readAll 7 = .ok (.if_icmp .ge 24, 3) := by decide +kernel
theorem dX0_readAll_10 : decode cX0_readAll 10 = .ok (.aload_n 0, 1) := by decide +kernel
theorem dX0_readAll_11 : decode cX0_readAll 11 = .ok (.getfield 23, 3) := by decide +kernel
theorem dX0_readAll_14 : decode cX0_readAll 14 = .ok (.aload_n 0, 1) := by decide +kernel
theorem dX0_readAll_15 : decode cX0_readAll 15 = .ok (.getfield 15, 3) := by decide +kernel
theorem dX0_readAll_18 : decode cX0_readAll 18 = .ok (.if_icmp .ge 13, 3) := by decide +kernel
theorem dX0_readAll_21 : decode cX0_readAll 21 = .ok (.aload_n 0, 1) := by decide +kernel
theorem dX0_readAll_22 : decode cX0_readAll 22 = .ok (.invokevirtual 26, 3) := by decide +kernel
theorem dX0_readAll_25 : decode cX0_readAll 25 = .ok (.iinc 1 1, 3) := by decide +kernel
theorem dX0_readAll_28 : decode cX0_readAll 28 = .ok (.goto (-26), 3) := by decide +kernel
theorem dX0_readAll_31 : decode cX0_readAll 31 = .ok (.return_, 1) := by decide +kernel
set_option maxRecDepth 20000 in
theorem ggX0_readThing_X0_byteAt : GoodIn wsX0_readThing wsX0_byteAt := goodIn_r _ [7, 8, 9, 53, 54, 55, 56] (by decide +kernel) (by decide +kernel)
set_option maxRecDepth 20000 in
theorem gX0_readThing_X0_byteAt : GoodIn wsX0_readThing (wsV RX0 29 RX0 yX0_byteAt wsX0_byteAt) := goodIn_app (goodIn_of _ (by decide +kernel)) ggX0_readThing_X0_byteAt
set_option maxRecDepth 20000 in
theorem ggX0_readThing_X1_addLoop : GoodIn wsX0_readThing wsX1_addLoop := goodIn_r _ [14, 15, 16, 17, 18, 13, 19, 57, 58, 59, 60] (by decide +kernel) (by decide +kernel)
set_option maxRecDepth 20000 in
theorem gX0_readThing_X1_addLoop : GoodIn wsX0_readThing (wsV RX0 33 RX1 yX1_addLoop wsX1_addLoop) := goodIn_app (goodIn_of _ (by decide +kernel)) ggX0_readThing_X1_addLoop
set_option maxRecDepth 20000 in
theorem ggX0_readThing_X1_tell : GoodIn wsX0_readThing wsX1_tell := goodIn_r _ [23, 24, 25, 26, 27, 28, 29, 30, 16, 31, 32, 17, 18, 13, 19, 57, 58, 59, 60] (by decide +kernel) (by decide +kernel)
set_option maxRecDepth 20000 in
theorem gX0_readThing_X1_tell : GoodIn wsX0_readThing (wsV RX0 38 RX1 yX1_tell wsX1_tell) := goodIn_app (goodIn_of _ (by decide +kernel)) ggX0_readThing_X1_tell
set_option maxRecDepth 20000 in
theorem ggX0_readThing_X0_readBrackets : GoodIn wsX0_readThing wsX0_readBrackets := goodIn_r _ [36, 1, 2, 8, 3, 4, 5, 6, 7, 9, 20, 21, 22, 13, 23, 24, 25, 26, 27, 28, 29, 30, 16, 31, 32, 17, 18, 19, 37, 38, 39, 40, 41, 42, 43, 44, 45, 46, 47, 48, 53, 54, 55, 56, 57, 58, 59, 60] (by decide +kernel) (by decide +kernel)
set_option maxRecDepth 20000 in
theorem gX0_readThing_X0_readBrackets : GoodIn wsX0_readThing (wsV RX0 42 RX0 yX0_readBrackets wsX0_readBrackets) := goodIn_app (goodIn_of _ (by decide +kernel)) ggX0_readThing_X0_readBrackets
set_option maxRecDepth 20000 in
theorem ggX0_readThing_X0_readByte : GoodIn wsX0_readThing wsX0_readByte := goodIn_r _ [48, 1, 8, 3, 4, 5, 6, 7, 9, 53, 54, 55, 56] (by decide +kernel) (by decide +kernel)
set_option maxRecDepth 20000 in
theorem gX0_readThing_X0_readByte : GoodIn wsX0_readThing (wsV RX0 45 RX0 yX0_readByte wsX0_readByte) := goodIn_app (goodIn_of _ (by decide +kernel)) ggX0_readThing_X0_readByte
set_option maxRecDepth 20000 in
theorem ggX0_readThing_X1_close : GoodIn wsX0_readThing wsX1_close := goodIn_r _ [52, 16, 57, 58, 59, 60] (by decide +kernel) (by decide +kernel)
set_option maxRecDepth 20000 in
theorem gX0_readThing_X1_close : GoodIn wsX0_readThing (wsV RX0 49 RX1 yX1_close wsX1_close) := goodIn_app (goodIn_of _ (by decide +kernel)) ggX0_readThing_X1_close
theorem dX0_readThing_0 : decode cX0_readThing 0 = .ok (.aload_n 0, 1) := by decide +kernel
theorem dX0_readThing_1 : decode cX0_readThing 1 = .ok (.aload_n 0, 1) := by decide +kernel
theorem dX0_readThing_2 : decode cX0_readThing 2 = .ok (.getfield 23, 3) := by decide +kernel
theorem dX0_readThing_5 : decode cX0_readThing 5 = .ok (.invokevirtual 29, 3) := by decide +kernel
theorem dX0_readThing_8 : decode cX0_readThing 8 = .ok (.istore_n 1, 1) := by decide +kernel
theorem dX0_readThing_9 : decode cX0_readThing 9 = .ok (.iload_n 1, 1) := by decide +kernel
theorem dX0_readThing_10 : decode cX0_readThing 10 = .ok (.bipush 42, 2) := by decide +kernel
theorem dX0_readThing_12 : decode cX0_readThing 12 = .ok (.if_icmp .ne 21, 3) := by decide +kernel
theorem dX0_readThing_15 : decode cX0_readThing 15 = .ok (.aload_n 0, 1) := by decide +kernel
theorem dX0_readThing_16 : decode cX0_readThing 16 = .ok (.dup, 1) := by decide +kernel
theorem dX0_readThing_17 : decode cX0_readThing 17 = .ok (.getfield 23, 3) := by decide +kernel
theorem dX0_readThing_20 : decode cX0_readThing 20 = .ok (.iconst 1, 1) := by decide +kernel
theorem dX0_readThing_21 : decode cX0_readThing 21 = .ok (.iadd, 1) := by decide +kernel
theorem dX0_readThing_22 : decode cX0_readThing 22 = .ok (.putfield 23, 3) := by decide +kernel
theorem dX0_readThing_25 : decode cX0_readThing 25 = .ok (.aload_n 0, 1) := by decide +kernel
theorem dX0_readThing_26 : decode cX0_readThing 26 = .ok (.getfield 19, 3) := by decide +kernel
theorem dX0_readThing_29 : decode cX0_readThing 29 = .ok (.invokevirtual 33, 3) := by decide +kernel
theorem dX0_readThing_32 : decode cX0_readThing 32 = .ok (.return_, 1) := by decide +kernel
theorem dX0_readThing_33 : decode cX0_readThing 33 = .ok (.iload_n 1, 1) := by decide +kernel
theorem dX0_readThing_34 : decode cX0_readThing 34 = .ok (.bipush 63, 2) := by decide +kernel
theorem dX0_readThing_36 : decode cX0_readThing 36 = .ok (.if_icmp .ne 28, 3) := by decide +kernel
theorem dX0_readThing_39 : decode cX0_readThing 39 = .ok (.aload_n 0, 1) := by decide +kernel
theorem dX0_readThing_40 : decode cX0_readThing 40 = .ok (.dup, 1) := by decide +kernel
theorem dX0_readThing_41 : decode cX0_readThing 41 = .ok (.getfield 23, 3) := by decide +kernel
theorem dX0_readThing_44 : decode cX0_readThing 44 = .ok (.iconst 1, 1) := by decide +kernel
theorem dX0_readThing_45 : decode cX0_readThing 45 = .ok (.iadd, 1) := by decide +kernel
theorem dX0_readThing_46 : decode cX0_readThing 46 = .ok (.putfield 23, 3) := by decide +kernel
theorem dX0_readThing_49 : decode cX0_readThing 49 = .ok (.aload_n 0, 1) := by decide +kernel
theorem dX0_readThing_50 : decode cX0_readThing 50 = .ok (.getfield 19, 3) := by decide +kernel
theorem dX0_readThing_53 : decode cX0_readThing 53 = .ok (.iconst 0, 1) := by decide +kernel
theorem dX0_readThing_54 : decode cX0_readThing 54 = .ok (.sipush 255, 3) := by decide +kernel
theorem dX0_readThing_57 : decode cX0_readThing 57 = .ok (.iconst 1, 1) := by decide +kernel
theorem dX0_readThing_58 : decode cX0_readThing 58 = .ok (.invokevirtual 38, 3) := by decide +kernel
theorem dX0_readThing_61 : decode cX0_readThing 61 = .ok (.goto 41, 3) := by decide +kernel
theorem dX0_readThing_64 : decode cX0_readThing 64 = .ok (.iload_n 1, 1) := by decide +kernel
theorem dX0_readThing_65 : decode cX0_readThing 65 = .ok (.bipush 91, 2) := by decide +kernel
theorem dX0_readThing_67 : decode cX0_readThing 67 = .ok (.if_icmp .ne 20, 3) := by decide +kernel
theorem dX0_readThing_70 : decode cX0_readThing 70 = .ok (.aload_n 0, 1) := by decide +kernel
theorem dX0_readThing_71 : decode cX0_readThing 71 = .ok (.dup, 1) := by decide +kernel
theorem dX0_readThing_72 : decode cX0_readThing 72 = .ok (.getfield 23, 3) := by decide +kernel
theorem dX0_readThing_75 : decode cX0_readThing 75 = .ok (.iconst 1, 1) := by decide +kernel
theorem dX0_readThing_76 : decode cX0_readThing 76 = .ok (.iadd, 1) := by decide +kernel
theorem dX0_readThing_77 : decode cX0_readThing 77 = .ok (.putfield 23, 3) := by decide +kernel
theorem dX0_readThing_80 : decode cX0_readThing 80 = .ok (.aload_n 0, 1) := by decide +kernel
theorem dX0_readThing_81 : decode cX0_readThing 81 = .ok (.invokevirtual 42, 3) := by decide +kernel
theorem dX0_readThing_84 : decode cX0_readThing 84 = .ok (.goto 18, 3) := by decide +kernel
theorem dX0_readThing_87 : decode cX0_readThing 87 = .ok (.aload_n 0, 1) := by decide +kernel
theorem dX0_readThing_88 : decode cX0_readThing 88 = .ok (.invokevirtual 45, 3) := by decide +kernel
theorem dX0_readThing_91 : decode cX0_readThing 91 = .ok (.istore_n 2, 1) := by decide +kernel
theorem dX0_readThing_92 : decode cX0_readThing 92 = .ok (.aload_n 0, 1) := by decide +kernel
theorem dX0_readThing_93 : decode cX0_readThing 93 = .ok (.getfield 19, 3) := by decide +kernel
theorem dX0_readThing_96 : decode cX0_readThing 96 = .ok (.iload_n 2, 1) := by decide +kernel
theorem dX0_readThing_97 : decode cX0_readThing 97 = .ok (.iload_n 2, 1) := by decide +kernel
theorem dX0_readThing_98 : decode cX0_readThing 98 = .ok (.iconst 1, 1) := by decide +kernel
theorem dX0_readThing_99 : decode cX0_readThing 99 = .ok (.invokevirtual 38, 3) := by decide +kernel
theorem dX0_readThing_102 : decode cX0_readThing 102 = .ok (.aload_n 0, 1) := by decide +kernel
theorem dX0_readThing_103 : decode cX0_readThing 103 = .ok (.getfield 19, 3) := by decide +kernel
theorem dX0_readThing_106 : decode cX0_readThing 106 = .ok (.invokevirtual 49, 3) := by decide +kernel
theorem dX0_readThing_109 : decode cX0_readThing 109 = .ok (.return_, 1) := by decide +kernel
set_option maxRecDepth 20000 in
theorem ggX0_readBrackets_X0_byteAt : GoodIn wsX0_readBrackets wsX0_byteAt := goodIn_r _ [8, 3, 9, 40, 41, 42, 43] (by decide +kernel) (by decide +kernel)
set_option maxRecDepth 20000 in
theorem gX0_readBrackets_X0_byteAt : GoodIn wsX0_readBrackets (wsV RX0 29 RX0 yX0_byteAt wsX0_byteAt) := goodIn_app (goodIn_of _ (by decide +kernel)) ggX0_readBrackets_X0_byteAt
set_option maxRecDepth 20000 in
theorem ggX0_readBrackets_X1_tell : GoodIn wsX0_readBrackets wsX1_tell := goodIn_r _ [14, 15, 16, 17, 18, 19, 20, 21, 22, 23, 24, 25, 26, 13, 27, 44, 45, 46, 47] (by decide +kernel) (by decide +kernel)
set_option maxRecDepth 20000 in
theorem gX0_readBrackets_X1_tell : GoodIn wsX0_readBrackets (wsV RX0 38 RX1 yX1_tell wsX1_tell) := goodIn_app (goodIn_of _ (by decide +kernel)) ggX0_readBrackets_X1_tell
set_option maxRecDepth 20000 in
theorem ggX0_readBrackets_X0_bracketsEndAt : GoodIn wsX0_readBrackets wsX0_bracketsEndAt := goodIn_r _ [31, 4, 5, 6, 7, 8, 3, 9, 40, 41, 42, 43] (by decide +kernel) (by decide +kernel)
set_option maxRecDepth 20000 in
theorem gX0_readBrackets_X0_bracketsEndAt : GoodIn wsX0_readBrackets (wsV RX0 52 RX0 yX0_bracketsEndAt wsX0_bracketsEndAt) := goodIn_app (goodIn_of _ (by decide +kernel)) ggX0_readBrackets_X0_bracketsEndAt
set_option maxRecDepth 20000 in
theorem ggX0_readBrackets_X0_readTold : GoodIn wsX0_readBrackets wsX0_readTold := goodIn_r _ [35, 1, 2, 36, 37, 38, 7, 39, 3, 4, 5, 6, 8, 9, 28, 29, 30, 31, 10, 11, 12, 13, 14, 15, 16, 17, 18, 19, 20, 21, 22, 23, 24, 25, 26, 27, 40, 41, 42, 43, 44, 45, 46, 47] (by decide +kernel) (by decide +kernel)
set_option maxRecDepth 20000 in
theorem gX0_readBrackets_X0_readTold : GoodIn wsX0_readBrackets (wsV RX0 56 RX0 yX0_readTold wsX0_readTold) := goodIn_app (goodIn_of _ (by decide +kernel)) ggX0_readBrackets_X0_readTold
theorem dX0_readBrackets_0 : decode cX0_readBrackets 0 = .ok (.aload_n 0, 1) := by decide +kernel
theorem dX0_readBrackets_1 : decode cX0_readBrackets 1 = .ok (.aload_n 0, 1) := by decide +kernel
theorem dX0_readBrackets_2 : decode cX0_readBrackets 2 = .ok (.getfield 23, 3) := by decide +kernel
theorem dX0_readBrackets_5 : decode cX0_readBrackets 5 = .ok (.invokevirtual 29, 3) := by decide +kernel
theorem dX0_readBrackets_8 : decode cX0_readBrackets 8 = .ok (.bipush 94, 2) := by decide +kernel
theorem dX0_readBrackets_10 : decode cX0_readBrackets 10 = .ok (.if_icmp .eq 7, 3) := by decide +kernel
theorem dX0_readBrackets_13 : decode cX0_readBrackets 13 = .ok (.iconst 1, 1) := by decide +kernel
theorem dX0_readBrackets_14 : decode cX0_readBrackets 14 = .ok (.goto 4, 3) := by decide +kernel
theorem dX0_readBrackets_17 : decode cX0_readBrackets 17 = .ok (.iconst 0, 1) := by decide +kernel
theorem dX0_readBrackets_18 : decode cX0_readBrackets 18 = .ok (.istore_n 1, 1) := by decide +kernel
theorem dX0_readBrackets_19 : decode cX0_readBrackets 19 = .ok (.iload_n 1, 1) := by decide +kernel
theorem dX0_readBrackets_20 : decode cX0_readBrackets 20 = .ok (.ifCond .ne 25, 3) := by decide +kernel
theorem dX0_readBrackets_23 : decode cX0_readBrackets 23 = .ok (.aload_n 0, 1) := by decide +kernel
theorem dX0_readBrackets_24 : decode cX0_readBrackets 24 = .ok (.dup, 1) := by decide +kernel
theorem dX0_readBrackets_25 : decode cX0_readBrackets 25 = .ok (.getfield 23, 3) := by decide +kernel
theorem dX0_readBrackets_28 : decode cX0_readBrackets 28 = .ok (.iconst 1, 1) := by decide +kernel
theorem dX0_readBrackets_29 : decode cX0_readBrackets 29 = .ok (.iadd, 1) := by decide +kernel
theorem dX0_readBrackets_30 : decode cX0_readBrackets 30 = .ok (.putfield 23, 3) := by decide +kernel
theorem dX0_readBrackets_33 : decode cX0_readBrackets 33 = .ok (.aload_n 0, 1) := by decide +kernel
theorem dX0_readBrackets_34 : decode cX0_readBrackets 34 = .ok (.getfield 19, 3) := by decide +kernel
theorem dX0_readBrackets_37 : decode cX0_readBrackets 37 = .ok (.iconst 0, 1) := by decide +kernel
theorem dX0_readBrackets_38 : decode cX0_readBrackets 38 = .ok (.sipush 255, 3) := by decide +kernel
theorem dX0_readBrackets_41 : decode cX0_readBrackets 41 = .ok (.iconst 1, 1) := by decide +kernel
theorem dX0_readBrackets_42 : decode cX0_readBrackets 42 = .ok (.invokevirtual 38, 3) := by decide +kernel
theorem dX0_readBrackets_45 : decode cX0_readBrackets 45 = .ok (.iconst 0, 1) := by decide +kernel
theorem dX0_readBrackets_46 : decode cX0_readBrackets 46 = .ok (.istore_n 2, 1) := by decide +kernel
theorem dX0_readBrackets_47 : decode cX0_readBrackets 47 = .ok (.iload_n 2, 1) := by decide +kernel
theorem dX0_readBrackets_48 : decode cX0_readBrackets 48 = .ok (.aload_n 0, 1) := by decide +kernel
theorem dX0_readBrackets_49 : decode cX0_readBrackets 49 = .ok (.getfield 15, 3) := by decide +kernel
theorem dX0_readBrackets_52 : decode cX0_readBrackets 52 = .ok (.if_icmp .ge 25, 3) := by decide +kernel
theorem dX0_readBrackets_55 : decode cX0_readBrackets 55 = .ok (.aload_n 0, 1) := by decide +kernel
theorem dX0_readBrackets_56 : decode cX0_readBrackets 56 = .ok (.aload_n 0, 1) := by decide +kernel
theorem dX0_readBrackets_57 : decode cX0_readBrackets 57 = .ok (.getfield 23, 3) := by decide +kernel
theorem dX0_readBrackets_60 : decode cX0_readBrackets 60 = .ok (.invokevirtual 52, 3) := by decide +kernel
theorem dX0_readBrackets_63 : decode cX0_readBrackets 63 = .ok (.ifCond .ne 14, 3) := by decide +kernel
theorem dX0_readBrackets_66 : decode cX0_readBrackets 66 = .ok (.aload_n 0, 1) := by decide +kernel
theorem dX0_readBrackets_67 : decode cX0_readBrackets 67 = .ok (.iload_n 1, 1) := by decide +kernel
theorem dX0_readBrackets_68 : decode cX0_readBrackets 68 = .ok (.invokevirtual 56, 3) := by decide +kernel
theorem dX0_readBrackets_71 : decode cX0_readBrackets 71 = .ok (.iinc 2 1, 3) := by decide +kernel
theorem dX0_readBrackets_74 : decode cX0_readBrackets 74 = .ok (.goto (-27), 3) := by decide +kernel
theorem dX0_readBrackets_77 : decode cX0_readBrackets 77 = .ok (.aload_n 0, 1) := by decide +kernel
theorem dX0_readBrackets_78 : decode cX0_readBrackets 78 = .ok (.dup, 1) := by decide +kernel
theorem dX0_readBrackets_79 : decode cX0_readBrackets 79 = .ok (.getfield 23, 3) := by decide +kernel
theorem dX0_readBrackets_82 : decode cX0_readBrackets 82 = .ok (.iconst 1, 1) := by decide +kernel
theorem dX0_readBrackets_83 : decode cX0_readBrackets 83 = .ok (.iadd, 1) := by decide +kernel
theorem dX0_readBrackets_84 : decode cX0_readBrackets 84 = .ok (.putfield 23, 3) := by decide +kernel
theorem dX0_readBrackets_87 : decode cX0_readBrackets 87 = .ok (.return_, 1) := by decide +kernel
set_option maxRecDepth 20000 in
theorem ggX0_readTold_X0_readByte : GoodIn wsX0_readTold wsX0_readByte := goodIn_r _ [7, 1, 8, 9, 10, 11, 6, 12, 13, 36, 37, 38, 39] (by decide +kernel) (by decide +kernel)
set_option maxRecDepth 20000 in
theorem gX0_readTold_X0_readByte : GoodIn wsX0_readTold (wsV RX0 45 RX0 yX0_readByte wsX0_readByte) := goodIn_app (goodIn_of _ (by decide +kernel)) ggX0_readTold_X0_readByte
set_option maxRecDepth 20000 in
theorem ggX0_readTold_X0_byteAt : GoodIn wsX0_readTold wsX0_byteAt := goodIn_r _ [12, 8, 13, 36, 37, 38, 39] (by decide +kernel) (by decide +kernel)
set_option maxRecDepth 20000 in
theorem gX0_readTold_X0_byteAt : GoodIn wsX0_readTold (wsV RX0 29 RX0 yX0_byteAt wsX0_byteAt) := goodIn_app (goodIn_of _ (by decide +kernel)) ggX0_readTold_X0_byteAt
set_option maxRecDepth 20000 in
theorem ggX0_readTold_X0_bracketsEndAt : GoodIn wsX0_readTold wsX0_bracketsEndAt := goodIn_r _ [17, 9, 10, 11, 6, 12, 8, 13, 36, 37, 38, 39] (by decide +kernel) (by decide +kernel)
set_option maxRecDepth 20000 in
theorem gX0_readTold_X0_bracketsEndAt : GoodIn wsX0_readTold (wsV RX0 52 RX0 yX0_bracketsEndAt wsX0_bracketsEndAt) := goodIn_app (goodIn_of _ (by decide +kernel)) ggX0_readTold_X0_bracketsEndAt
set_option maxRecDepth 20000 in
theorem ggX0_readTold_X1_tell : GoodIn wsX0_readTold wsX1_tell := goodIn_r _ [22, 23, 24, 25, 26, 27, 28, 29, 30, 31, 32, 33, 34, 21, 35, 40, 41, 42, 43] (by decide +kernel) (by decide +kernel)
set_option maxRecDepth 20000 in
theorem gX0_readTold_X1_tell : GoodIn wsX0_readTold (wsV RX0 38 RX1 yX1_tell wsX1_tell) := goodIn_app (goodIn_of _ (by decide +kernel)) ggX0_readTold_X1_tell
theorem dX0_readTold_0 : decode cX0_readTold 0 = .ok (.aload_n 0, 1) := by decide +kernel
theorem dX0_readTold_1 : decode cX0_readTold 1 = .ok (.invokevirtual 45, 3) := by decide +kernel
theorem dX0_readTold_4 : decode cX0_readTold 4 = .ok (.istore_n 2, 1) := by decide +kernel
theorem dX0_readTold_5 : decode cX0_readTold 5 = .ok (.iload_n 2, 1) := by decide +kernel
theorem dX0_readTold_6 : decode cX0_readTold 6 = .ok (.istore_n 3, 1) := by decide +kernel
theorem dX0_readTold_7 : decode cX0_readTold 7 = .ok (.aload_n 0, 1) := by decide +kernel
theorem dX0_readTold_8 : decode cX0_readTold 8 = .ok (.aload_n 0, 1) := by decide +kernel
theorem dX0_readTold_9 : decode cX0_readTold 9 = .ok (.getfield 23, 3) := by decide +kernel
theorem dX0_readTold_12 : decode cX0_readTold 12 = .ok (.invokevirtual 29, 3) := by decide +kernel
theorem dX0_readTold_15 : decode cX0_readTold 15 = .ok (.bipush 45, 2) := by decide +kernel
theorem dX0_readTold_17 : decode cX0_readTold 17 = .ok (.if_icmp .ne 31, 3) := by decide +kernel
theorem dX0_readTold_20 : decode cX0_readTold 20 = .ok (.aload_n 0, 1) := by decide +kernel
theorem dX0_readTold_21 : decode cX0_readTold 21 = .ok (.aload_n 0, 1) := by decide +kernel
theorem dX0_readTold_22 : decode cX0_readTold 22 = .ok (.getfield 23, 3) := by decide +kernel
theorem dX0_readTold_25 : decode cX0_readTold 25 = .ok (.iconst 1, 1) := by decide +kernel
theorem dX0_readTold_26 : decode cX0_readTold 26 = .ok (.iadd, 1) := by decide +kernel
theorem dX0_readTold_27 : decode cX0_readTold 27 = .ok (.invokevirtual 52, 3) := by decide +kernel
theorem dX0_readTold_30 : decode cX0_readTold 30 = .ok (.ifCond .ne 18, 3) := by decide +kernel
theorem dX0_readTold_33 : decode cX0_readTold 33 = .ok (.aload_n 0, 1) := by decide +kernel
theorem dX0_readTold_34 : decode cX0_readTold 34 = .ok (.dup, 1) := by decide +kernel
theorem dX0_readTold_35 : decode cX0_readTold 35 = .ok (.getfield 23, 3) := by decide +kernel
theorem dX0_readTold_38 : decode cX0_readTold 38 = .ok (.iconst 1, 1) := by decide +kernel
theorem dX0_readTold_39 : decode cX0_readTold 39 = .ok (.iadd, 1) := by decide +kernel
theorem dX0_readTold_40 : decode cX0_readTold 40 = .ok (.putfield 23, 3) := by decide +kernel
theorem dX0_readTold_43 : decode cX0_readTold 43 = .ok (.aload_n 0, 1) := by decide +kernel
theorem dX0_readTold_44 : decode cX0_readTold 44 = .ok (.invokevirtual 45, 3) := by decide +kernel
theorem dX0_readTold_47 : decode cX0_readTold 47 = .ok (.istore_n 3, 1) := by decide +kernel
theorem dX0_readTold_48 : decode cX0_readTold 48 = .ok (.aload_n 0, 1) := by decide +kernel
theorem dX0_readTold_49 : decode cX0_readTold 49 = .ok (.getfield 19, 3) := by decide +kernel
theorem dX0_readTold_52 : decode cX0_readTold 52 = .ok (.iload_n 2, 1) := by decide +kernel
theorem dX0_readTold_53 : decode cX0_readTold 53 = .ok (.iload_n 3, 1) := by decide +kernel
theorem dX0_readTold_54 : decode cX0_readTold 54 = .ok (.iload_n 1, 1) := by decide +kernel
theorem dX0_readTold_55 : decode cX0_readTold 55 = .ok (.invokevirtual 38, 3) := by decide +kernel
theorem dX0_readTold_58 : decode cX0_readTold 58 = .ok (.return_, 1) := by decide +kernel
set_option maxRecDepth 20000 in
theorem ggX0_bracketsEndAt_X0_byteAt : GoodIn wsX0_bracketsEndAt wsX0_byteAt := goodIn_r _ [5, 6, 7, 8, 9, 10, 11] (by decide +kernel) (by decide +kernel)
set_option maxRecDepth 20000 in
theorem gX0_bracketsEndAt_X0_byteAt : GoodIn wsX0_bracketsEndAt (wsV RX0 29 RX0 yX0_byteAt wsX0_byteAt) := goodIn_app (goodIn_of _ (by decide +kernel)) ggX0_bracketsEndAt_X0_byteAt
theorem dX0_bracketsEndAt_0 : decode cX0_bracketsEndAt 0 = .ok (.aload_n 0, 1) := by decide +kernel
theorem dX0_bracketsEndAt_1 : decode cX0_bracketsEndAt 1 = .ok (.iload_n 1, 1) := by decide +kernel
theorem dX0_bracketsEndAt_2 : decode cX0_bracketsEndAt 2 = .ok (.invokevirtual 29, 3) := by decide +kernel
theorem dX0_bracketsEndAt_5 : decode cX0_bracketsEndAt 5 = .ok (.istore_n 2, 1) := by decide +kernel
theorem dX0_bracketsEndAt_6 : decode cX0_bracketsEndAt 6 = .ok (.iload_n 2, 1) := by decide +kernel
theorem dX0_bracketsEndAt_7 : decode cX0_bracketsEndAt 7 = .ok (.bipush 93, 2) := by decide +kernel
theorem dX0_bracketsEndAt_9 : decode cX0_bracketsEndAt 9 = .ok (.if_icmp .eq 8, 3) := by decide +kernel
theorem dX0_bracketsEndAt_12 : decode cX0_bracketsEndAt 12 = .ok (.iload_n 2, 1) := by decide +kernel
theorem dX0_bracketsEndAt_13 : decode cX0_bracketsEndAt 13 = .ok (.iconst (-1), 1) := by decide +kernel
theorem dX0_bracketsEndAt_14 : decode cX0_bracketsEndAt 14 = .ok (.if_icmp .ne 7, 3) := by decide +kernel
theorem dX0_bracketsEndAt_17 : decode cX0_bracketsEndAt 17 = .ok (.iconst 1, 1) := by decide +kernel
theorem dX0_bracketsEndAt_18 : decode cX0_bracketsEndAt 18 = .ok (.goto 4, 3) := by decide +kernel
theorem dX0_bracketsEndAt_21 : decode cX0_bracketsEndAt 21 = .ok (.iconst 0, 1) := by decide +kernel
theorem dX0_bracketsEndAt_22 : decode cX0_bracketsEndAt 22 = .ok (.ireturn, 1) := by decide +kernel
set_option maxRecDepth 20000 in
theorem ggX0_readByte_X0_byteAt : GoodIn wsX0_readByte wsX0_byteAt := goodIn_r _ [7, 2, 8, 9, 10, 11, 12] (by decide +kernel) (by decide +kernel)
set_option maxRecDepth 20000 in
theorem gX0_readByte_X0_byteAt : GoodIn wsX0_readByte (wsV RX0 29 RX0 yX0_byteAt wsX0_byteAt) := goodIn_app (goodIn_of _ (by decide +kernel)) ggX0_readByte_X0_byteAt
theorem dX0_readByte_0 : decode cX0_readByte 0 = .ok (.aload_n 0, 1) := by decide +kernel
theorem dX0_readByte_1 : decode cX0_readByte 1 = .ok (.aload_n 0, 1) := by decide +kernel
theorem dX0_readByte_2 : decode cX0_readByte 2 = .ok (.getfield 23, 3) := by decide +kernel
theorem dX0_readByte_5 : decode cX0_readByte 5 = .ok (.invokevirtual 29, 3) := by decide +kernel
theorem dX0_readByte_8 : decode cX0_readByte 8 = .ok (.istore_n 1, 1) := by decide +kernel
theorem dX0_readByte_9 : decode cX0_readByte 9 = .ok (.aload_n 0, 1) := by decide +kernel
theorem dX0_readByte_10 : decode cX0_readByte 10 = .ok (.dup, 1) := by decide +kernel
theorem dX0_readByte_11 : decode cX0_readByte 11 = .ok (.getfield 23, 3) := by decide +kernel
theorem dX0_readByte_14 : decode cX0_readByte 14 = .ok (.iconst 1, 1) := by decide +kernel
theorem dX0_readByte_15 : decode cX0_readByte 15 = .ok (.iadd, 1) := by decide +kernel
theorem dX0_readByte_16 : decode cX0_readByte 16 = .ok (.putfield 23, 3) := by decide +kernel
theorem dX0_readByte_19 : decode cX0_readByte 19 = .ok (.iload_n 1, 1) := by decide +kernel
theorem dX0_readByte_20 : decode cX0_readByte 20 = .ok (.bipush 92, 2) := by decide +kernel
theorem dX0_readByte_22 : decode cX0_readByte 22 = .ok (.if_icmp .ne 33, 3) := by decide +kernel
theorem dX0_readByte_25 : decode cX0_readByte 25 = .ok (.aload_n 0, 1) := by decide +kernel
theorem dX0_readByte_26 : decode cX0_readByte 26 = .ok (.getfield 23, 3) := by decide +kernel
theorem dX0_readByte_29 : decode cX0_readByte 29 = .ok (.aload_n 0, 1) := by decide +kernel
theorem dX0_readByte_30 : decode cX0_readByte 30 = .ok (.getfield 15, 3) := by decide +kernel
theorem dX0_readByte_33 : decode cX0_readByte 33 = .ok (.if_icmp .ge 22, 3) := by decide +kernel
theorem dX0_readByte_36 : decode cX0_readByte 36 = .ok (.aload_n 0, 1) := by decide +kernel
theorem dX0_readByte_37 : decode cX0_readByte 37 = .ok (.aload_n 0, 1) := by decide +kernel
theorem dX0_readByte_38 : decode cX0_readByte 38 = .ok (.getfield 23, 3) := by decide +kernel
theorem dX0_readByte_41 : decode cX0_readByte 41 = .ok (.invokevirtual 29, 3) := by decide +kernel
theorem dX0_readByte_44 : decode cX0_readByte 44 = .ok (.istore_n 1, 1) := by decide +kernel
theorem dX0_readByte_45 : decode cX0_readByte 45 = .ok (.aload_n 0, 1) := by decide +kernel
theorem dX0_readByte_46 : decode cX0_readByte 46 = .ok (.dup, 1) := by decide +kernel
theorem dX0_readByte_47 : decode cX0_readByte 47 = .ok (.getfield 23, 3) := by decide +kernel
theorem dX0_readByte_50 : decode cX0_readByte 50 = .ok (.iconst 1, 1) := by decide +kernel
theorem dX0_readByte_51 : decode cX0_readByte 51 = .ok (.iadd, 1) := by decide +kernel
theorem dX0_readByte_52 : decode cX0_readByte 52 = .ok (.putfield 23, 3) := by decide +kernel
theorem dX0_readByte_55 : decode cX0_readByte 55 = .ok (.iload_n 1, 1) := by decide +kernel
theorem dX0_readByte_56 : decode cX0_readByte 56 = .ok (.ireturn, 1) := by decide +kernel
theorem dX0_byteAt_0 : decode cX0_byteAt 0 = .ok (.iload_n 1, 1) := by decide +kernel
theorem dX0_byteAt_1 : decode cX0_byteAt 1 = .ok (.ifCond .lt 20, 3) := by decide +kernel
theorem dX0_byteAt_4 : decode cX0_byteAt 4 = .ok (.iload_n 1, 1) := by decide +kernel
theorem dX0_byteAt_5 : decode cX0_byteAt 5 = .ok (.aload_n 0, 1) := by decide +kernel
theorem dX0_byteAt_6 : decode cX0_byteAt 6 = .ok (.getfield 15, 3) := by decide +kernel
theorem dX0_byteAt_9 : decode cX0_byteAt 9 = .ok (.if_icmp .ge 12, 3) := by decide +kernel
theorem dX0_byteAt_12 : decode cX0_byteAt 12 = .ok (.aload_n 0, 1) := by decide +kernel
theorem dX0_byteAt_13 : decode cX0_byteAt 13 = .ok (.getfield 9, 3) := by decide +kernel
theorem dX0_byteAt_16 : decode cX0_byteAt 16 = .ok (.iload_n 1, 1) := by decide +kernel
theorem dX0_byteAt_17 : decode cX0_byteAt 17 = .ok (.iaload, 1) := by decide +kernel
theorem dX0_byteAt_18 : decode cX0_byteAt 18 = .ok (.goto 4, 3) := by decide +kernel
theorem dX0_byteAt_21 : decode cX0_byteAt 21 = .ok (.iconst (-1), 1) := by decide +kernel
theorem dX0_byteAt_22 : decode cX0_byteAt 22 = .ok (.ireturn, 1) := by decide +kernel
theorem dX1_init_0 : decode cX1_init 0 = .ok (.aload_n 0, 1) := by decide +kernel
theorem dX1_init_1 : decode cX1_init 1 = .ok (.invokespecial 5, 3) := by decide +kernel
theorem dX1_init_4 : decode cX1_init 4 = .ok (.aload_n 0, 1) := by decide +kernel
theorem dX1_init_5 : decode cX1_init 5 = .ok (.sipush 1792, 3) := by decide +kernel
theorem dX1_init_8 : decode cX1_init 8 = .ok (.newarray .long, 2) := by decide +kernel
theorem dX1_init_10 : decode cX1_init 10 = .ok (.putfield 11, 3) := by decide +kernel
theorem dX1_init_13 : decode cX1_init 13 = .ok (.aload_n 0, 1) := by decide +kernel
theorem dX1_init_14 : decode cX1_init 14 = .ok (.bipush 7, 2) := by decide +kernel
theorem dX1_init_16 : decode cX1_init 16 = .ok (.newarray .long, 2) := by decide +kernel
theorem dX1_init_18 : decode cX1_init 18 = .ok (.putfield 15, 3) := by decide +kernel
theorem dX1_init_21 : decode cX1_init 21 = .ok (.aload_n 0, 1) := by decide +kernel
theorem dX1_init_22 : decode cX1_init 22 = .ok (.bipush 7, 2) := by decide +kernel
theorem dX1_init_24 : decode cX1_init 24 = .ok (.newarray .long, 2) := by decide +kernel
theorem dX1_init_26 : decode cX1_init 26 = .ok (.putfield 18, 3) := by decide +kernel
theorem dX1_init_29 : decode cX1_init 29 = .ok (.return_, 1) := by decide +kernel
set_option maxRecDepth 20000 in
theorem ggX1_clear_J7_fill_d0a16 : GoodIn wsX1_clear wsJ7_fill_d0a16 := goodIn_r _ [7] (by decide +kernel) (by decide +kernel)
set_option maxRecDepth 20000 in
theorem gX1_clear_J7_fill_d0a16 : GoodIn wsX1_clear (va_wsS RX1 21 yJ7_fill_d0a16 wsJ7_fill_d0a16) := goodIn_app (goodIn_of _ (by decide +kernel)) ggX1_clear_J7_fill_d0a16
theorem dX1_clear_0 : decode cX1_clear 0 = .ok (.aload_n 0, 1) := by decide +kernel
theorem dX1_clear_1 : decode cX1_clear 1 = .ok (.getfield 11, 3) := by decide +kernel
theorem dX1_clear_4 : decode cX1_clear 4 = .ok (.lconst 0, 1) := by decide +kernel
theorem dX1_clear_5 : decode cX1_clear 5 = .ok (.invokestatic 21, 3) := by decide +kernel
theorem dX1_clear_8 : decode cX1_clear 8 = .ok (.aload_n 0, 1) := by decide +kernel
theorem dX1_clear_9 : decode cX1_clear 9 = .ok (.getfield 15, 3) := by decide +kernel
theorem dX1_clear_12 : decode cX1_clear 12 = .ok (.lconst 0, 1) := by decide +kernel
theorem dX1_clear_13 : decode cX1_clear 13 = .ok (.invokestatic 21, 3) := by decide +kernel
theorem dX1_clear_16 : decode cX1_clear 16 = .ok (.aload_n 0, 1) := by decide +kernel
theorem dX1_clear_17 : decode cX1_clear 17 = .ok (.iconst 0, 1) := by decide +kernel
theorem dX1_clear_18 : decode cX1_clear 18 = .ok (.putfield 27, 3) := by decide +kernel
theorem dX1_clear_21 : decode cX1_clear 21 = .ok (.return_, 1) := by decide +kernel
set_option maxRecDepth 20000 in
theorem ggX1_addLoop_X1_bitOf : GoodIn wsX1_addLoop wsX1_bitOf := goodIn_r _ [6] (by decide +kernel) (by decide +kernel)
set_option maxRecDepth 20000 in
theorem gX1_addLoop_X1_bitOf : GoodIn wsX1_addLoop (va_wsS RX1 31 yX1_bitOf wsX1_bitOf) := goodIn_app (goodIn_of _ (by decide +kernel)) ggX1_addLoop_X1_bitOf
theorem dX1_addLoop_0 : decode cX1_addLoop 0 = .ok (.aload_n 0, 1) := by decide +kernel
theorem dX1_addLoop_1 : decode cX1_addLoop 1 = .ok (.getfield 15, 3) := by decide +kernel
theorem dX1_addLoop_4 : decode cX1_addLoop 4 = .ok (.aload_n 0, 1) := by decide +kernel
theorem dX1_addLoop_5 : decode cX1_addLoop 5 = .ok (.getfield 27, 3) := by decide +kernel
theorem dX1_addLoop_8 : decode cX1_addLoop 8 = .ok (.bipush 64, 2) := by decide +kernel
theorem dX1_addLoop_10 : decode cX1_addLoop 10 = .ok (.idiv, 1) := by decide +kernel
theorem dX1_addLoop_11 : decode cX1_addLoop 11 = .ok (.dup2, 1) := by decide +kernel
theorem dX1_addLoop_12 : decode cX1_addLoop 12 = .ok (.laload, 1) := by decide +kernel
theorem dX1_addLoop_13 : decode cX1_addLoop 13 = .ok (.aload_n 0, 1) := by decide +kernel
theorem dX1_addLoop_14 : decode cX1_addLoop 14 = .ok (.getfield 27, 3) := by decide +kernel
theorem dX1_addLoop_17 : decode cX1_addLoop 17 = .ok (.invokestatic 31, 3) := by decide +kernel
theorem dX1_addLoop_20 : decode cX1_addLoop 20 = .ok (.lor, 1) := by decide +kernel
theorem dX1_addLoop_21 : decode cX1_addLoop 21 = .ok (.lastore, 1) := by decide +kernel
theorem dX1_addLoop_22 : decode cX1_addLoop 22 = .ok (.return_, 1) := by decide +kernel
set_option maxRecDepth 20000 in
theorem ggX1_tell_X1_bitOf : GoodIn wsX1_tell wsX1_bitOf := goodIn_r _ [14] (by decide +kernel) (by decide +kernel)
set_option maxRecDepth 20000 in
theorem gX1_tell_X1_bitOf : GoodIn wsX1_tell (va_wsS RX1 31 yX1_bitOf wsX1_bitOf) := goodIn_app (goodIn_of _ (by decide +kernel)) ggX1_tell_X1_bitOf
theorem dX1_tell_0 : decode cX1_tell 0 = .ok (.iload_n 1, 1) := by decide +kernel
theorem dX1_tell_1 : decode cX1_tell 1 = .ok (.iconst 0, 1) := by decide +kernel
theorem dX1_tell_2 : decode cX1_tell 2 = .ok (.invokestatic 35, 3) := by decide +kernel
theorem dX1_tell_5 : decode cX1_tell 5 = .ok (.istore 4, 2) := by decide +kernel
theorem dX1_tell_7 : decode cX1_tell 7 = .ok (.iload_n 2, 1) := by decide +kernel
theorem dX1_tell_8 : decode cX1_tell 8 = .ok (.sipush 255, 3) := by decide +kernel
theorem dX1_tell_11 : decode cX1_tell 11 = .ok (.invokestatic 41, 3) := by decide +kernel
theorem dX1_tell_14 : decode cX1_tell 14 = .ok (.istore 5, 2) := by decide +kernel
theorem dX1_tell_16 : decode cX1_tell 16 = .ok (.iload 4, 2) := by decide +kernel
theorem dX1_tell_18 : decode cX1_tell 18 = .ok (.istore 6, 2) := by decide +kernel
theorem dX1_tell_20 : decode cX1_tell 20 = .ok (.iload 6, 2) := by decide +kernel
theorem dX1_tell_22 : decode cX1_tell 22 = .ok (.iload 5, 2) := by decide +kernel
theorem dX1_tell_24 : decode cX1_tell 24 = .ok (.if_icmp .gt 69, 3) := by decide +kernel
theorem dX1_tell_27 : decode cX1_tell 27 = .ok (.iload 6, 2) := by decide +kernel
theorem dX1_tell_29 : decode cX1_tell 29 = .ok (.bipush 7, 2) := by decide +kernel
theorem dX1_tell_31 : decode cX1_tell 31 = .ok (.imul, 1) := by decide +kernel
theorem dX1_tell_32 : decode cX1_tell 32 = .ok (.aload_n 0, 1) := by decide +kernel
theorem dX1_tell_33 : decode cX1_tell 33 = .ok (.getfield 27, 3) := by decide +kernel
theorem dX1_tell_36 : decode cX1_tell 36 = .ok (.bipush 64, 2) := by decide +kernel
theorem dX1_tell_38 : decode cX1_tell 38 = .ok (.idiv, 1) := by decide +kernel
theorem dX1_tell_39 : decode cX1_tell 39 = .ok (.iadd, 1) := by decide +kernel
theorem dX1_tell_40 : decode cX1_tell 40 = .ok (.istore 7, 2) := by decide +kernel
theorem dX1_tell_42 : decode cX1_tell 42 = .ok (.iload_n 3, 1) := by decide +kernel
theorem dX1_tell_43 : decode cX1_tell 43 = .ok (.ifCond .eq 23, 3) := by decide +kernel
theorem dX1_tell_46 : decode cX1_tell 46 = .ok (.aload_n 0, 1) := by decide +kernel
theorem dX1_tell_47 : decode cX1_tell 47 = .ok (.getfield 11, 3) := by decide +kernel
theorem dX1_tell_50 : decode cX1_tell 50 = .ok (.iload 7, 2) := by decide +kernel
theorem dX1_tell_52 : decode cX1_tell 52 = .ok (.dup2, 1) := by decide +kernel
theorem dX1_tell_53 : decode cX1_tell 53 = .ok (.laload, 1) := by decide +kernel
theorem dX1_tell_54 : decode cX1_tell 54 = .ok (.aload_n 0, 1) := by decide +kernel
theorem dX1_tell_55 : decode cX1_tell 55 = .ok (.getfield 27, 3) := by decide +kernel
theorem dX1_tell_58 : decode cX1_tell 58 = .ok (.invokestatic 31, 3) := by decide +kernel
theorem dX1_tell_61 : decode cX1_tell 61 = .ok (.lor, 1) := by decide +kernel
theorem dX1_tell_62 : decode cX1_tell 62 = .ok (.lastore, 1) := by decide +kernel
theorem dX1_tell_63 : decode cX1_tell 63 = .ok (.goto 24, 3) := by decide +kernel
theorem dX1_tell_66 : decode cX1_tell 66 = .ok (.aload_n 0, 1) := by decide +kernel
theorem dX1_tell_67 : decode cX1_tell 67 = .ok (.getfield 11, 3) := by decide +kernel
theorem dX1_tell_70 : decode cX1_tell 70 = .ok (.iload 7, 2) := by decide +kernel
theorem dX1_tell_72 : decode cX1_tell 72 = .ok (.dup2, 1) := by decide +kernel
theorem dX1_tell_73 : decode cX1_tell 73 = .ok (.laload, 1) := by decide +kernel
theorem dX1_tell_74 : decode cX1_tell 74 = .ok (.aload_n 0, 1) := by decide +kernel
theorem dX1_tell_75 : decode cX1_tell 75 = .ok (.getfield 27, 3) := by decide +kernel
theorem dX1_tell_78 : decode cX1_tell 78 = .ok (.invokestatic 31, 3) := by decide +kernel
theorem dX1_tell_81 : decode cX1_tell 81 = .ok (.ldc2_w 44, 3) := by decide +kernel
theorem dX1_tell_84 : decode cX1_tell 84 = .ok (.lxor, 1) := by decide +kernel
theorem dX1_tell_85 : decode cX1_tell 85 = .ok (.land, 1) := by decide +kernel
theorem dX1_tell_86 : decode cX1_tell 86 = .ok (.lastore, 1) := by decide +kernel
theorem dX1_tell_87 : decode cX1_tell 87 = .ok (.iinc 6 1, 3) := by decide +kernel
theorem dX1_tell_90 : decode cX1_tell 90 = .ok (.goto (-70), 3) := by decide +kernel
theorem dX1_tell_93 : decode cX1_tell 93 = .ok (.return_, 1) := by decide +kernel
theorem dX1_close_0 : decode cX1_close 0 = .ok (.aload_n 0, 1) := by decide +kernel
theorem dX1_close_1 : decode cX1_close 1 = .ok (.getfield 27, 3) := by decide +kernel
theorem dX1_close_4 : decode cX1_close 4 = .ok (.sipush 400, 3) := by decide +kernel
theorem dX1_close_7 : decode cX1_close 7 = .ok (.if_icmp .ge 13, 3) := by decide +kernel
theorem dX1_close_10 : decode cX1_close 10 = .ok (.aload_n 0, 1) := by decide +kernel
theorem dX1_close_11 : decode cX1_close 11 = .ok (.dup, 1) := by decide +kernel
theorem dX1_close_12 : decode cX1_close 12 = .ok (.getfield 27, 3) := by decide +kernel
theorem dX1_close_15 : decode cX1_close 15 = .ok (.iconst 1, 1) := by decide +kernel
theorem dX1_close_16 : decode cX1_close 16 = .ok (.iadd, 1) := by decide +kernel
theorem dX1_close_17 : decode cX1_close 17 = .ok (.putfield 27, 3) := by decide +kernel
theorem dX1_close_20 : decode cX1_close 20 = .ok (.return_, 1) := by decide +kernel
set_option maxRecDepth 20000 in
theorem ggX1_start_J7_fill_d0a16 : GoodIn wsX1_start wsJ7_fill_d0a16 := goodIn_r _ [5] (by decide +kernel) (by decide +kernel)
set_option maxRecDepth 20000 in
theorem gX1_start_J7_fill_d0a16 : GoodIn wsX1_start (va_wsS RX1 21 yJ7_fill_d0a16 wsJ7_fill_d0a16) := goodIn_app (goodIn_of _ (by decide +kernel)) ggX1_start_J7_fill_d0a16
theorem dX1_start_0 : decode cX1_start 0 = .ok (.aload_n 0, 1) := by decide +kernel
theorem dX1_start_1 : decode cX1_start 1 = .ok (.getfield 18, 3) := by decide +kernel
theorem dX1_start_4 : decode cX1_start 4 = .ok (.lconst 0, 1) := by decide +kernel
theorem dX1_start_5 : decode cX1_start 5 = .ok (.invokestatic 21, 3) := by decide +kernel
theorem dX1_start_8 : decode cX1_start 8 = .ok (.aload_n 0, 1) := by decide +kernel
theorem dX1_start_9 : decode cX1_start 9 = .ok (.getfield 18, 3) := by decide +kernel
theorem dX1_start_12 : decode cX1_start 12 = .ok (.iconst 0, 1) := by decide +kernel
theorem dX1_start_13 : decode cX1_start 13 = .ok (.lconst 1, 1) := by decide +kernel
theorem dX1_start_14 : decode cX1_start 14 = .ok (.lastore, 1) := by decide +kernel
theorem dX1_start_15 : decode cX1_start 15 = .ok (.return_, 1) := by decide +kernel
theorem dX1_step_0 : decode cX1_step 0 = .ok (.iload_n 1, 1) := by decide +kernel
theorem dX1_step_1 : decode cX1_step 1 = .ok (.sipush 255, 3) := by decide +kernel
theorem dX1_step_4 : decode cX1_step 4 = .ok (.iand, 1) := by decide +kernel
theorem dX1_step_5 : decode cX1_step 5 = .ok (.bipush 7, 2) := by decide +kernel
theorem dX1_step_7 : decode cX1_step 7 = .ok (.imul, 1) := by decide +kernel
theorem dX1_step_8 : decode cX1_step 8 = .ok (.istore_n 2, 1) := by decide +kernel
theorem dX1_step_9 : decode cX1_step 9 = .ok (.lconst 0, 1) := by decide +kernel
theorem dX1_step_10 : decode cX1_step 10 = .ok (.lstore_n 3, 1) := by decide +kernel
theorem dX1_step_11 : decode cX1_step 11 = .ok (.iconst 0, 1) := by decide +kernel
theorem dX1_step_12 : decode cX1_step 12 = .ok (.istore 5, 2) := by decide +kernel
theorem dX1_step_14 : decode cX1_step 14 = .ok (.iload 5, 2) := by decide +kernel
theorem dX1_step_16 : decode cX1_step 16 = .ok (.bipush 7, 2) := by decide +kernel
theorem dX1_step_18 : decode cX1_step 18 = .ok (.if_icmp .ge 67, 3) := by decide +kernel
theorem dX1_step_21 : decode cX1_step 21 = .ok (.aload_n 0, 1) := by decide +kernel
theorem dX1_step_22 : decode cX1_step 22 = .ok (.getfield 18, 3) := by decide +kernel
theorem dX1_step_25 : decode cX1_step 25 = .ok (.iload 5, 2) := by decide +kernel
theorem dX1_step_27 : decode cX1_step 27 = .ok (.laload, 1) := by decide +kernel
theorem dX1_step_28 : decode cX1_step 28 = .ok (.aload_n 0, 1) := by decide +kernel
theorem dX1_step_29 : decode cX1_step 29 = .ok (.getfield 11, 3) := by decide +kernel
theorem dX1_step_32 : decode cX1_step 32 = .ok (.iload_n 2, 1) := by decide +kernel
theorem dX1_step_33 : decode cX1_step 33 = .ok (.iload 5, 2) := by decide +kernel
theorem dX1_step_35 : decode cX1_step 35 = .ok (.iadd, 1) := by decide +kernel
theorem dX1_step_36 : decode cX1_step 36 = .ok (.laload, 1) := by decide +kernel
theorem dX1_step_37 : decode cX1_step 37 = .ok (.land, 1) := by decide +kernel
theorem dX1_step_38 : decode cX1_step 38 = .ok (.lstore 6, 2) := by decide +kernel
theorem dX1_step_40 : decode cX1_step 40 = .ok (.aload_n 0, 1) := by decide +kernel
theorem dX1_step_41 : decode cX1_step 41 = .ok (.getfield 18, 3) := by decide +kernel
theorem dX1_step_44 : decode cX1_step 44 = .ok (.iload 5, 2) := by decide +kernel
theorem dX1_step_46 : decode cX1_step 46 = .ok (.laload, 1) := by decide +kernel
theorem dX1_step_47 : decode cX1_step 47 = .ok (.aload_n 0, 1) := by decide +kernel
theorem dX1_step_48 : decode cX1_step 48 = .ok (.getfield 15, 3) := by decide +kernel
theorem dX1_step_51 : decode cX1_step 51 = .ok (.iload 5, 2) := by decide +kernel
theorem dX1_step_53 : decode cX1_step 53 = .ok (.laload, 1) := by decide +kernel
theorem dX1_step_54 : decode cX1_step 54 = .ok (.land, 1) := by decide +kernel
theorem dX1_step_55 : decode cX1_step 55 = .ok (.lstore 8, 2) := by decide +kernel
theorem dX1_step_57 : decode cX1_step 57 = .ok (.aload_n 0, 1) := by decide +kernel
theorem dX1_step_58 : decode cX1_step 58 = .ok (.getfield 18, 3) := by decide +kernel
theorem dX1_step_61 : decode cX1_step 61 = .ok (.iload 5, 2) := by decide +kernel
theorem dX1_step_63 : decode cX1_step 63 = .ok (.lload 6, 2) := by decide +kernel
theorem dX1_step_65 : decode cX1_step 65 = .ok (.iconst 1, 1) := by decide +kernel
theorem dX1_step_66 : decode cX1_step 66 = .ok (.lshl, 1) := by decide +kernel
theorem dX1_step_67 : decode cX1_step 67 = .ok (.lload_n 3, 1) := by decide +kernel
theorem dX1_step_68 : decode cX1_step 68 = .ok (.lor, 1) := by decide +kernel
theorem dX1_step_69 : decode cX1_step 69 = .ok (.lload 8, 2) := by decide +kernel
theorem dX1_step_71 : decode cX1_step 71 = .ok (.lor, 1) := by decide +kernel
theorem dX1_step_72 : decode cX1_step 72 = .ok (.lastore, 1) := by decide +kernel
theorem dX1_step_73 : decode cX1_step 73 = .ok (.lload 6, 2) := by decide +kernel
theorem dX1_step_75 : decode cX1_step 75 = .ok (.bipush 63, 2) := by decide +kernel
theorem dX1_step_77 : decode cX1_step 77 = .ok (.lushr, 1) := by decide +kernel
theorem dX1_step_78 : decode cX1_step 78 = .ok (.lstore_n 3, 1) := by decide +kernel
theorem dX1_step_79 : decode cX1_step 79 = .ok (.iinc 5 1, 3) := by decide +kernel
theorem dX1_step_82 : decode cX1_step 82 = .ok (.goto (-68), 3) := by decide +kernel
theorem dX1_step_85 : decode cX1_step 85 = .ok (.return_, 1) := by decide +kernel
set_option maxRecDepth 20000 in
theorem ggX1_endIsReached_X1_bitOf : GoodIn wsX1_endIsReached wsX1_bitOf := goodIn_r _ [6] (by decide +kernel) (by decide +kernel)
set_option maxRecDepth 20000 in
theorem gX1_endIsReached_X1_bitOf : GoodIn wsX1_endIsReached (va_wsS RX1 31 yX1_bitOf wsX1_bitOf) := goodIn_app (goodIn_of _ (by decide +kernel)) ggX1_endIsReached_X1_bitOf
theorem dX1_endIsReached_0 : decode cX1_endIsReached 0 = .ok (.aload_n 0, 1) := by decide +kernel
theorem dX1_endIsReached_1 : decode cX1_endIsReached 1 = .ok (.getfield 18, 3) := by decide +kernel
theorem dX1_endIsReached_4 : decode cX1_endIsReached 4 = .ok (.aload_n 0, 1) := by decide +kernel
theorem dX1_endIsReached_5 : decode cX1_endIsReached 5 = .ok (.getfield 27, 3) := by decide +kernel
theorem dX1_endIsReached_8 : decode cX1_endIsReached 8 = .ok (.bipush 64, 2) := by decide +kernel
theorem dX1_endIsReached_10 : decode cX1_endIsReached 10 = .ok (.idiv, 1) := by decide +kernel
theorem dX1_endIsReached_11 : decode cX1_endIsReached 11 = .ok (.laload, 1) := by decide +kernel
theorem dX1_endIsReached_12 : decode cX1_endIsReached 12 = .ok (.aload_n 0, 1) := by decide +kernel
theorem dX1_endIsReached_13 : decode cX1_endIsReached 13 = .ok (.getfield 27, 3) := by decide +kernel
theorem dX1_endIsReached_16 : decode cX1_endIsReached 16 = .ok (.invokestatic 31, 3) := by decide +kernel
theorem dX1_endIsReached_19 : decode cX1_endIsReached 19 = .ok (.land, 1) := by decide +kernel
theorem dX1_endIsReached_20 : decode cX1_endIsReached 20 = .ok (.lconst 0, 1) := by decide +kernel
theorem dX1_endIsReached_21 : decode cX1_endIsReached 21 = .ok (.lcmp, 1) := by decide +kernel
theorem dX1_endIsReached_22 : decode cX1_endIsReached 22 = .ok (.ifCond .eq 7, 3) := by decide +kernel
theorem dX1_endIsReached_25 : decode cX1_endIsReached 25 = .ok (.iconst 1, 1) := by decide +kernel
theorem dX1_endIsReached_26 : decode cX1_endIsReached 26 = .ok (.goto 4, 3) := by decide +kernel
theorem dX1_endIsReached_29 : decode cX1_endIsReached 29 = .ok (.iconst 0, 1) := by decide +kernel
theorem dX1_endIsReached_30 : decode cX1_endIsReached 30 = .ok (.ireturn, 1) := by decide +kernel
theorem dX1_bitOf_0 : decode cX1_bitOf 0 = .ok (.lconst 1, 1) := by decide +kernel
theorem dX1_bitOf_1 : decode cX1_bitOf 1 = .ok (.iload_n 0, 1) := by decide +kernel
theorem dX1_bitOf_2 : decode cX1_bitOf 2 = .ok (.bipush 64, 2) := by decide +kernel
theorem dX1_bitOf_4 : decode cX1_bitOf 4 = .ok (.irem, 1) := by decide +kernel
theorem dX1_bitOf_5 : decode cX1_bitOf 5 = .ok (.lshl, 1) := by decide +kernel
theorem dX1_bitOf_6 : decode cX1_bitOf 6 = .ok (.lreturn, 1) := by decide +kernel
set_option maxRecDepth 20000 in
theorem ggX2_init_X1_init : GoodIn wsX2_init wsX1_init := goodIn_r _ [13, 14, 2, 3, 15, 16, 17, 18, 24, 25, 26, 27] (by decide +kernel) (by decide +kernel)
set_option maxRecDepth 20000 in
theorem gX2_init_X1_init : GoodIn wsX2_init (wsX1_init) := ggX2_init_X1_init
theorem dX2_init_0 : decode cX2_init 0 = .ok (.aload_n 0, 1) := by decide +kernel
theorem dX2_init_1 : decode cX2_init 1 = .ok (.invokespecial 1, 3) := by decide +kernel
theorem dX2_init_4 : decode cX2_init 4 = .ok (.aload_n 0, 1) := by decide +kernel
theorem dX2_init_5 : decode cX2_init 5 = .ok (.sipush 400, 3) := by decide +kernel
theorem dX2_init_8 : decode cX2_init 8 = .ok (.newarray .int, 2) := by decide +kernel
theorem dX2_init_10 : decode cX2_init 10 = .ok (.putfield 9, 3) := by decide +kernel
theorem dX2_init_13 : decode cX2_init 13 = .ok (.aload_n 0, 1) := by decide +kernel
theorem dX2_init_14 : decode cX2_init 14 = .ok (.sipush 400, 3) := by decide +kernel
theorem dX2_init_17 : decode cX2_init 17 = .ok (.newarray .int, 2) := by decide +kernel
theorem dX2_init_19 : decode cX2_init 19 = .ok (.putfield 13, 3) := by decide +kernel
theorem dX2_init_22 : decode cX2_init 22 = .ok (.aload_n 0, 1) := by decide +kernel
theorem dX2_init_23 : decode cX2_init 23 = .ok (.new 16, 3) := by decide +kernel
theorem dX2_init_26 : decode cX2_init 26 = .ok (.dup, 1) := by decide +kernel
theorem dX2_init_27 : decode cX2_init 27 = .ok (.invokespecial 18, 3) := by decide +kernel
theorem dX2_init_30 : decode cX2_init 30 = .ok (.putfield 19, 3) := by decide +kernel
theorem dX2_init_33 : decode cX2_init 33 = .ok (.return_, 1) := by decide +kernel
set_option maxRecDepth 20000 in
theorem ggX2_feed_X2_append : GoodIn wsX2_feed wsX2_append := goodIn_r _ [6, 7, 1, 8, 9, 10, 11, 12] (by decide +kernel) (by decide +kernel)
set_option maxRecDepth 20000 in
theorem gX2_feed_X2_append : GoodIn wsX2_feed (wsV RX2 27 RX2 yX2_append wsX2_append) := goodIn_app (goodIn_of _ (by decide +kernel)) ggX2_feed_X2_append
theorem dX2_feed_0 : decode cX2_feed 0 = .ok (.aload_n 0, 1) := by decide +kernel
theorem dX2_feed_1 : decode cX2_feed 1 = .ok (.getfield 23, 3) := by decide +kernel
theorem dX2_feed_4 : decode cX2_feed 4 = .ok (.sipush 380, 3) := by decide +kernel
theorem dX2_feed_7 : decode cX2_feed 7 = .ok (.if_icmp .le 5, 3) := by decide +kernel
theorem dX2_feed_10 : decode cX2_feed 10 = .ok (.iconst 0, 1) := by decide +kernel
theorem dX2_feed_11 : decode cX2_feed 11 = .ok (.ireturn, 1) := by decide +kernel
theorem dX2_feed_12 : decode cX2_feed 12 = .ok (.aload_n 0, 1) := by decide +kernel
theorem dX2_feed_13 : decode cX2_feed 13 = .ok (.iload_n 1, 1) := by decide +kernel
theorem dX2_feed_14 : decode cX2_feed 14 = .ok (.invokevirtual 27, 3) := by decide +kernel
theorem dX2_feed_17 : decode cX2_feed 17 = .ok (.aload_n 0, 1) := by decide +kernel
theorem dX2_feed_18 : decode cX2_feed 18 = .ok (.iload_n 2, 1) := by decide +kernel
theorem dX2_feed_19 : decode cX2_feed 19 = .ok (.invokevirtual 27, 3) := by decide +kernel
theorem dX2_feed_22 : decode cX2_feed 22 = .ok (.aload_n 0, 1) := by decide +kernel
theorem dX2_feed_23 : decode cX2_feed 23 = .ok (.iload_n 3, 1) := by decide +kernel
theorem dX2_feed_24 : decode cX2_feed 24 = .ok (.invokevirtual 27, 3) := by decide +kernel
theorem dX2_feed_27 : decode cX2_feed 27 = .ok (.aload_n 0, 1) := by decide +kernel
theorem dX2_feed_28 : decode cX2_feed 28 = .ok (.iload 4, 2) := by decide +kernel
theorem dX2_feed_30 : decode cX2_feed 30 = .ok (.invokevirtual 27, 3) := by decide +kernel
theorem dX2_feed_33 : decode cX2_feed 33 = .ok (.aload_n 0, 1) := by decide +kernel
theorem dX2_feed_34 : decode cX2_feed 34 = .ok (.iload 5, 2) := by decide +kernel
theorem dX2_feed_36 : decode cX2_feed 36 = .ok (.invokevirtual 27, 3) := by decide +kernel
theorem dX2_feed_39 : decode cX2_feed 39 = .ok (.iconst 1, 1) := by decide +kernel
theorem dX2_feed_40 : decode cX2_feed 40 = .ok (.ireturn, 1) := by decide +kernel
theorem dX2_end_0 : decode cX2_end 0 = .ok (.iload_n 1, 1) := by decide +kernel
theorem dX2_end_1 : decode cX2_end 1 = .ok (.ifCond .lt 11, 3) := by decide +kernel
theorem dX2_end_4 : decode cX2_end 4 = .ok (.iload_n 1, 1) := by decide +kernel
theorem dX2_end_5 : decode cX2_end 5 = .ok (.aload_n 0, 1) := by decide +kernel
theorem dX2_end_6 : decode cX2_end 6 = .ok (.getfield 23, 3) := by decide +kernel
theorem dX2_end_9 : decode cX2_end 9 = .ok (.if_icmp .le 5, 3) := by decide +kernel
theorem dX2_end_12 : decode cX2_end 12 = .ok (.iconst 0, 1) := by decide +kernel
theorem dX2_end_13 : decode cX2_end 13 = .ok (.ireturn, 1) := by decide +kernel
theorem dX2_end_14 : decode cX2_end 14 = .ok (.aload_n 0, 1) := by decide +kernel
theorem dX2_end_15 : decode cX2_end 15 = .ok (.iload_n 1, 1) := by decide +kernel
theorem dX2_end_16 : decode cX2_end 16 = .ok (.putfield 23, 3) := by decide +kernel
theorem dX2_end_19 : decode cX2_end 19 = .ok (.iconst 1, 1) := by decide +kernel
theorem dX2_end_20 : decode cX2_end 20 = .ok (.ireturn, 1) := by decide +kernel
set_option maxRecDepth 20000 in
theorem ggX2_pattern_X1_clear : GoodIn wsX2_pattern wsX1_clear := goodIn_r _ [11, 12, 13, 14, 15, 16, 17, 18, 89, 90, 91, 92] (by decide +kernel) (by decide +kernel)
set_option maxRecDepth 20000 in
theorem gX2_pattern_X1_clear : GoodIn wsX2_pattern (wsV RX2 31 RX1 yX1_clear wsX1_clear) := goodIn_app (goodIn_of _ (by decide +kernel)) ggX2_pattern_X1_clear
set_option maxRecDepth 20000 in
theorem ggX2_pattern_X0_init : GoodIn wsX2_pattern wsX0_init := goodIn_r _ [21, 22, 23, 24, 25, 26, 27, 85, 86, 87, 88] (by decide +kernel) (by decide +kernel)
set_option maxRecDepth 20000 in
theorem gX2_pattern_X0_init : GoodIn wsX2_pattern (wsX0_init) := ggX2_pattern_X0_init
set_option maxRecDepth 20000 in
theorem ggX2_pattern_X0_readAll : GoodIn wsX2_pattern wsX0_readAll := goodIn_r _ [31, 26, 32, 33, 34, 35, 5, 36, 27, 37, 38, 39, 40, 25, 41, 42, 43, 10, 44, 13, 14, 45, 46, 47, 48, 49, 50, 51, 52, 53, 54, 55, 56, 57, 58, 12, 59, 60, 61, 62, 63, 64, 65, 66, 67, 68, 69, 70, 71, 72, 73, 74, 75, 76, 77, 78, 79, 85, 86, 87, 88, 89, 90, 91, 92] (by decide +kernel) (by decide +kernel)
set_option maxRecDepth 20000 in
theorem gX2_pattern_X0_readAll : GoodIn wsX2_pattern (wsV RX2 39 RX0 yX0_readAll wsX0_readAll) := goodIn_app (goodIn_of _ (by decide +kernel)) ggX2_pattern_X0_readAll
theorem dX2_pattern_0 : decode cX2_pattern 0 = .ok (.aload_n 0, 1) := by decide +kernel
theorem dX2_pattern_1 : decode cX2_pattern 1 = .ok (.getfield 23, 3) := by decide +kernel
theorem dX2_pattern_4 : decode cX2_pattern 4 = .ok (.istore_n 1, 1) := by decide +kernel
theorem dX2_pattern_5 : decode cX2_pattern 5 = .ok (.aload_n 0, 1) := by decide +kernel
theorem dX2_pattern_6 : decode cX2_pattern 6 = .ok (.getfield 19, 3) := by decide +kernel
theorem dX2_pattern_9 : decode cX2_pattern 9 = .ok (.invokevirtual 31, 3) := by decide +kernel
theorem dX2_pattern_12 : decode cX2_pattern 12 = .ok (.new 34, 3) := by decide +kernel
theorem dX2_pattern_15 : decode cX2_pattern 15 = .ok (.dup, 1) := by decide +kernel
theorem dX2_pattern_16 : decode cX2_pattern 16 = .ok (.aload_n 0, 1) := by decide +kernel
theorem dX2_pattern_17 : decode cX2_pattern 17 = .ok (.getfield 9, 3) := by decide +kernel
theorem dX2_pattern_20 : decode cX2_pattern 20 = .ok (.iload_n 1, 1) := by decide +kernel
theorem dX2_pattern_21 : decode cX2_pattern 21 = .ok (.aload_n 0, 1) := by decide +kernel
theorem dX2_pattern_22 : decode cX2_pattern 22 = .ok (.getfield 19, 3) := by decide +kernel
theorem dX2_pattern_25 : decode cX2_pattern 25 = .ok (.invokespecial 36, 3) := by decide +kernel
theorem dX2_pattern_28 : decode cX2_pattern 28 = .ok (.invokevirtual 39, 3) := by decide +kernel
theorem dX2_pattern_31 : decode cX2_pattern 31 = .ok (.aload_n 0, 1) := by decide +kernel
theorem dX2_pattern_32 : decode cX2_pattern 32 = .ok (.iconst 0, 1) := by decide +kernel
theorem dX2_pattern_33 : decode cX2_pattern 33 = .ok (.putfield 23, 3) := by decide +kernel
theorem dX2_pattern_36 : decode cX2_pattern 36 = .ok (.iload_n 1, 1) := by decide +kernel
theorem dX2_pattern_37 : decode cX2_pattern 37 = .ok (.ireturn, 1) := by decide +kernel
theorem dX2_word_0 : decode cX2_word 0 = .ok (.aload_n 0, 1) := by decide +kernel
theorem dX2_word_1 : decode cX2_word 1 = .ok (.getfield 23, 3) := by decide +kernel
theorem dX2_word_4 : decode cX2_word 4 = .ok (.istore_n 1, 1) := by decide +kernel
theorem dX2_word_5 : decode cX2_word 5 = .ok (.aload_n 0, 1) := by decide +kernel
theorem dX2_word_6 : decode cX2_word 6 = .ok (.getfield 9, 3) := by decide +kernel
theorem dX2_word_9 : decode cX2_word 9 = .ok (.iconst 0, 1) := by decide +kernel
theorem dX2_word_10 : decode cX2_word 10 = .ok (.aload_n 0, 1) := by decide +kernel
theorem dX2_word_11 : decode cX2_word 11 = .ok (.getfield 13, 3) := by decide +kernel
theorem dX2_word_14 : decode cX2_word 14 = .ok (.iconst 0, 1) := by decide +kernel
theorem dX2_word_15 : decode cX2_word 15 = .ok (.iload_n 1, 1) := by decide +kernel
theorem dX2_word_16 : decode cX2_word 16 = .ok (.invokestatic 42, 3) := by decide +kernel
theorem dX2_word_19 : decode cX2_word 19 = .ok (.aload_n 0, 1) := by decide +kernel
theorem dX2_word_20 : decode cX2_word 20 = .ok (.iload_n 1, 1) := by decide +kernel
theorem dX2_word_21 : decode cX2_word 21 = .ok (.putfield 48, 3) := by decide +kernel
theorem dX2_word_24 : decode cX2_word 24 = .ok (.aload_n 0, 1) := by decide +kernel
theorem dX2_word_25 : decode cX2_word 25 = .ok (.iconst 0, 1) := by decide +kernel
theorem dX2_word_26 : decode cX2_word 26 = .ok (.putfield 23, 3) := by decide +kernel
theorem dX2_word_29 : decode cX2_word 29 = .ok (.iload_n 1, 1) := by decide +kernel
theorem dX2_word_30 : decode cX2_word 30 = .ok (.ireturn, 1) := by decide +kernel
set_option maxRecDepth 20000 in
theorem ggX2_fits_X2_lettersFit : GoodIn wsX2_fits wsX2_lettersFit := goodIn_r _ [6, 7, 8, 9, 10, 11, 12, 13, 14, 15, 16, 17, 18, 19, 20, 21, 22, 23, 24, 25, 26, 27, 28, 29, 30, 31, 32, 33, 34, 35, 36, 37, 38, 39, 40, 41] (by decide +kernel) (by decide +kernel)
set_option maxRecDepth 20000 in
theorem gX2_fits_X2_lettersFit : GoodIn wsX2_fits (wsV RX2 51 RX2 yX2_lettersFit wsX2_lettersFit) := goodIn_app (goodIn_of _ (by decide +kernel)) ggX2_fits_X2_lettersFit
theorem dX2_fits_0 : decode cX2_fits 0 = .ok (.aload_n 0, 1) := by decide +kernel
theorem dX2_fits_1 : decode cX2_fits 1 = .ok (.iconst 0, 1) := by decide +kernel
theorem dX2_fits_2 : decode cX2_fits 2 = .ok (.aload_n 0, 1) := by decide +kernel
theorem dX2_fits_3 : decode cX2_fits 3 = .ok (.getfield 48, 3) := by decide +kernel
theorem dX2_fits_6 : decode cX2_fits 6 = .ok (.invokevirtual 51, 3) := by decide +kernel
theorem dX2_fits_9 : decode cX2_fits 9 = .ok (.ireturn, 1) := by decide +kernel
set_option maxRecDepth 20000 in
theorem ggX2_fitsPart_X2_lettersFit : GoodIn wsX2_fitsPart wsX2_lettersFit := goodIn_r _ [6, 7, 8, 9, 10, 11, 12, 13, 14, 15, 16, 17, 18, 19, 20, 21, 22, 23, 24, 25, 26, 27, 28, 29, 30, 31, 32, 33, 34, 35, 36, 37, 38, 39, 40, 41] (by decide +kernel) (by decide +kernel)
set_option maxRecDepth 20000 in
theorem gX2_fitsPart_X2_lettersFit : GoodIn wsX2_fitsPart (wsV RX2 51 RX2 yX2_lettersFit wsX2_lettersFit) := goodIn_app (goodIn_of _ (by decide +kernel)) ggX2_fitsPart_X2_lettersFit
theorem dX2_fitsPart_0 : decode cX2_fitsPart 0 = .ok (.iload_n 1, 1) := by decide +kernel
theorem dX2_fitsPart_1 : decode cX2_fitsPart 1 = .ok (.ifCond .lt 17, 3) := by decide +kernel
theorem dX2_fitsPart_4 : decode cX2_fitsPart 4 = .ok (.iload_n 2, 1) := by decide +kernel
theorem dX2_fitsPart_5 : decode cX2_fitsPart 5 = .ok (.ifCond .lt 13, 3) := by decide +kernel
theorem dX2_fitsPart_8 : decode cX2_fitsPart 8 = .ok (.iload_n 2, 1) := by decide +kernel
theorem dX2_fitsPart_9 : decode cX2_fitsPart 9 = .ok (.aload_n 0, 1) := by decide +kernel
theorem dX2_fitsPart_10 : decode cX2_fitsPart 10 = .ok (.getfield 48, 3) := by decide +kernel
theorem dX2_fitsPart_13 : decode cX2_fitsPart 13 = .ok (.iload_n 1, 1) := by decide +kernel
theorem dX2_fitsPart_14 : decode cX2_fitsPart 14 = .ok (.isub, 1) := by decide +kernel
theorem dX2_fitsPart_15 : decode cX2_fitsPart 15 = .ok (.if_icmp .le 5, 3) := by decide +kernel
theorem dX2_fitsPart_18 : decode cX2_fitsPart 18 = .ok (.iconst 0, 1) := by decide +kernel
theorem dX2_fitsPart_19 : decode cX2_fitsPart 19 = .ok (.ireturn, 1) := by decide +kernel
theorem dX2_fitsPart_20 : decode cX2_fitsPart 20 = .ok (.aload_n 0, 1) := by decide +kernel
theorem dX2_fitsPart_21 : decode cX2_fitsPart 21 = .ok (.iload_n 1, 1) := by decide +kernel
theorem dX2_fitsPart_22 : decode cX2_fitsPart 22 = .ok (.iload_n 1, 1) := by decide +kernel
theorem dX2_fitsPart_23 : decode cX2_fitsPart 23 = .ok (.iload_n 2, 1) := by decide +kernel
theorem dX2_fitsPart_24 : decode cX2_fitsPart 24 = .ok (.iadd, 1) := by decide +kernel
theorem dX2_fitsPart_25 : decode cX2_fitsPart 25 = .ok (.invokevirtual 51, 3) := by decide +kernel
theorem dX2_fitsPart_28 : decode cX2_fitsPart 28 = .ok (.ireturn, 1) := by decide +kernel
set_option maxRecDepth 20000 in
theorem ggX2_beginnings_X1_start : GoodIn wsX2_beginnings wsX1_start := goodIn_r _ [8, 9, 10, 11, 12, 13, 33, 34, 35, 36] (by decide +kernel) (by decide +kernel)
set_option maxRecDepth 20000 in
theorem gX2_beginnings_X1_start : GoodIn wsX2_beginnings (wsV RX2 55 RX1 yX1_start wsX1_start) := goodIn_app (goodIn_of _ (by decide +kernel)) ggX2_beginnings_X1_start
set_option maxRecDepth 20000 in
theorem ggX2_beginnings_X1_endIsReached : GoodIn wsX2_beginnings wsX1_endIsReached := goodIn_r _ [17, 9, 18, 19, 20, 7, 21, 33, 34, 35, 36] (by decide +kernel) (by decide +kernel)
set_option maxRecDepth 20000 in
theorem gX2_beginnings_X1_endIsReached : GoodIn wsX2_beginnings (wsV RX2 58 RX1 yX1_endIsReached wsX1_endIsReached) := goodIn_app (goodIn_of _ (by decide +kernel)) ggX2_beginnings_X1_endIsReached
set_option maxRecDepth 20000 in
theorem ggX2_beginnings_X1_step : GoodIn wsX2_beginnings wsX1_step := goodIn_r _ [25, 9, 26, 27, 33, 34, 35, 36] (by decide +kernel) (by decide +kernel)
set_option maxRecDepth 20000 in
theorem gX2_beginnings_X1_step : GoodIn wsX2_beginnings (wsV RX2 62 RX1 yX1_step wsX1_step) := goodIn_app (goodIn_of _ (by decide +kernel)) ggX2_beginnings_X1_step
theorem dX2_beginnings_0 : decode cX2_beginnings 0 = .ok (.aload_n 0, 1) := by decide +kernel
theorem dX2_beginnings_1 : decode cX2_beginnings 1 = .ok (.getfield 19, 3) := by decide +kernel
theorem dX2_beginnings_4 : decode cX2_beginnings 4 = .ok (.invokevirtual 55, 3) := by decide +kernel
theorem dX2_beginnings_7 : decode cX2_beginnings 7 = .ok (.aload_n 0, 1) := by decide +kernel
theorem dX2_beginnings_8 : decode cX2_beginnings 8 = .ok (.getfield 19, 3) := by decide +kernel
theorem dX2_beginnings_11 : decode cX2_beginnings 11 = .ok (.invokevirtual 58, 3) := by decide +kernel
theorem dX2_beginnings_14 : decode cX2_beginnings 14 = .ok (.ifCond .eq 7, 3) := by decide +kernel
theorem dX2_beginnings_17 : decode cX2_beginnings 17 = .ok (.iconst 1, 1) := by decide +kernel
theorem dX2_beginnings_18 : decode cX2_beginnings 18 = .ok (.goto 4, 3) := by decide +kernel
theorem dX2_beginnings_21 : decode cX2_beginnings 21 = .ok (.iconst 0, 1) := by decide +kernel
theorem dX2_beginnings_22 : decode cX2_beginnings 22 = .ok (.istore_n 1, 1) := by decide +kernel
theorem dX2_beginnings_23 : decode cX2_beginnings 23 = .ok (.iconst 0, 1) := by decide +kernel
theorem dX2_beginnings_24 : decode cX2_beginnings 24 = .ok (.istore_n 2, 1) := by decide +kernel
theorem dX2_beginnings_25 : decode cX2_beginnings 25 = .ok (.iload_n 2, 1) := by decide +kernel
theorem dX2_beginnings_26 : decode cX2_beginnings 26 = .ok (.aload_n 0, 1) := by decide +kernel
theorem dX2_beginnings_27 : decode cX2_beginnings 27 = .ok (.getfield 48, 3) := by decide +kernel
theorem dX2_beginnings_30 : decode cX2_beginnings 30 = .ok (.if_icmp .ge 35, 3) := by decide +kernel
theorem dX2_beginnings_33 : decode cX2_beginnings 33 = .ok (.aload_n 0, 1) := by decide +kernel
theorem dX2_beginnings_34 : decode cX2_beginnings 34 = .ok (.getfield 19, 3) := by decide +kernel
theorem dX2_beginnings_37 : decode cX2_beginnings 37 = .ok (.aload_n 0, 1) := by decide +kernel
theorem dX2_beginnings_38 : decode cX2_beginnings 38 = .ok (.getfield 13, 3) := by decide +kernel
theorem dX2_beginnings_41 : decode cX2_beginnings 41 = .ok (.iload_n 2, 1) := by decide +kernel
theorem dX2_beginnings_42 : decode cX2_beginnings 42 = .ok (.iaload, 1) := by decide +kernel
theorem dX2_beginnings_43 : decode cX2_beginnings 43 = .ok (.invokevirtual 62, 3) := by decide +kernel
theorem dX2_beginnings_46 : decode cX2_beginnings 46 = .ok (.aload_n 0, 1) := by decide +kernel
theorem dX2_beginnings_47 : decode cX2_beginnings 47 = .ok (.getfield 19, 3) := by decide +kernel
theorem dX2_beginnings_50 : decode cX2_beginnings 50 = .ok (.invokevirtual 58, 3) := by decide +kernel
theorem dX2_beginnings_53 : decode cX2_beginnings 53 = .ok (.ifCond .eq 6, 3) := by decide +kernel
theorem dX2_beginnings_56 : decode cX2_beginnings 56 = .ok (.iinc 1 1, 3) := by decide +kernel
theorem dX2_beginnings_59 : decode cX2_beginnings 59 = .ok (.iinc 2 1, 3) := by decide +kernel
theorem dX2_beginnings_62 : decode cX2_beginnings 62 = .ok (.goto (-37), 3) := by decide +kernel
theorem dX2_beginnings_65 : decode cX2_beginnings 65 = .ok (.iload_n 1, 1) := by decide +kernel
theorem dX2_beginnings_66 : decode cX2_beginnings 66 = .ok (.ireturn, 1) := by decide +kernel
theorem dX2_append_0 : decode cX2_append 0 = .ok (.bipush 24, 2) := by decide +kernel
theorem dX2_append_2 : decode cX2_append 2 = .ok (.istore_n 2, 1) := by decide +kernel
theorem dX2_append_3 : decode cX2_append 3 = .ok (.iload_n 2, 1) := by decide +kernel
theorem dX2_append_4 : decode cX2_append 4 = .ok (.ifCond .lt 35, 3) := by decide +kernel
theorem dX2_append_7 : decode cX2_append 7 = .ok (.aload_n 0, 1) := by decide +kernel
theorem dX2_append_8 : decode cX2_append 8 = .ok (.getfield 9, 3) := by decide +kernel
theorem dX2_append_11 : decode cX2_append 11 = .ok (.aload_n 0, 1) := by decide +kernel
theorem dX2_append_12 : decode cX2_append 12 = .ok (.getfield 23, 3) := by decide +kernel
theorem dX2_append_15 : decode cX2_append 15 = .ok (.iload_n 1, 1) := by decide +kernel
theorem dX2_append_16 : decode cX2_append 16 = .ok (.iload_n 2, 1) := by decide +kernel
theorem dX2_append_17 : decode cX2_append 17 = .ok (.iushr, 1) := by decide +kernel
theorem dX2_append_18 : decode cX2_append 18 = .ok (.sipush 255, 3) := by decide +kernel
theorem dX2_append_21 : decode cX2_append 21 = .ok (.iand, 1) := by decide +kernel
theorem dX2_append_22 : decode cX2_append 22 = .ok (.iastore, 1) := by decide +kernel
theorem dX2_append_23 : decode cX2_append 23 = .ok (.aload_n 0, 1) := by decide +kernel
theorem dX2_append_24 : decode cX2_append 24 = .ok (.dup, 1) := by decide +kernel
theorem dX2_append_25 : decode cX2_append 25 = .ok (.getfield 23, 3) := by decide +kernel
theorem dX2_append_28 : decode cX2_append 28 = .ok (.iconst 1, 1) := by decide +kernel
theorem dX2_append_29 : decode cX2_append 29 = .ok (.iadd, 1) := by decide +kernel
theorem dX2_append_30 : decode cX2_append 30 = .ok (.putfield 23, 3) := by decide +kernel
theorem dX2_append_33 : decode cX2_append 33 = .ok (.iinc 2 (-8), 3) := by decide +kernel
theorem dX2_append_36 : decode cX2_append 36 = .ok (.goto (-33), 3) := by decide +kernel
theorem dX2_append_39 : decode cX2_append 39 = .ok (.return_, 1) := by decide +kernel
set_option maxRecDepth 20000 in
theorem ggX2_lettersFit_X1_start : GoodIn wsX2_lettersFit wsX1_start := goodIn_r _ [7, 8, 9, 10, 11, 12, 32, 33, 34, 35] (by decide +kernel) (by decide +kernel)
set_option maxRecDepth 20000 in
theorem gX2_lettersFit_X1_start : GoodIn wsX2_lettersFit (wsV RX2 55 RX1 yX1_start wsX1_start) := goodIn_app (goodIn_of _ (by decide +kernel)) ggX2_lettersFit_X1_start
set_option maxRecDepth 20000 in
theorem ggX2_lettersFit_X1_step : GoodIn wsX2_lettersFit wsX1_step := goodIn_r _ [16, 8, 17, 18, 32, 33, 34, 35] (by decide +kernel) (by decide +kernel)
set_option maxRecDepth 20000 in
theorem gX2_lettersFit_X1_step : GoodIn wsX2_lettersFit (wsV RX2 62 RX1 yX1_step wsX1_step) := goodIn_app (goodIn_of _ (by decide +kernel)) ggX2_lettersFit_X1_step
set_option maxRecDepth 20000 in
theorem ggX2_lettersFit_X1_endIsReached : GoodIn wsX2_lettersFit wsX1_endIsReached := goodIn_r _ [22, 8, 23, 24, 25, 6, 26, 32, 33, 34, 35] (by decide +kernel) (by decide +kernel)
set_option maxRecDepth 20000 in
theorem gX2_lettersFit_X1_endIsReached : GoodIn wsX2_lettersFit (wsV RX2 58 RX1 yX1_endIsReached wsX1_endIsReached) := goodIn_app (goodIn_of _ (by decide +kernel)) ggX2_lettersFit_X1_endIsReached
theorem dX2_lettersFit_0 : decode cX2_lettersFit 0 = .ok (.aload_n 0, 1) := by decide +kernel
theorem dX2_lettersFit_1 : decode cX2_lettersFit 1 = .ok (.getfield 19, 3) := by decide +kernel
theorem dX2_lettersFit_4 : decode cX2_lettersFit 4 = .ok (.invokevirtual 55, 3) := by decide +kernel
theorem dX2_lettersFit_7 : decode cX2_lettersFit 7 = .ok (.iload_n 1, 1) := by decide +kernel
theorem dX2_lettersFit_8 : decode cX2_lettersFit 8 = .ok (.istore_n 3, 1) := by decide +kernel
theorem dX2_lettersFit_9 : decode cX2_lettersFit 9 = .ok (.iload_n 3, 1) := by decide +kernel
theorem dX2_lettersFit_10 : decode cX2_lettersFit 10 = .ok (.iload_n 2, 1) := by decide +kernel
theorem dX2_lettersFit_11 : decode cX2_lettersFit 11 = .ok (.if_icmp .ge 22, 3) := by decide +kernel
theorem dX2_lettersFit_14 : decode cX2_lettersFit 14 = .ok (.aload_n 0, 1) := by decide +kernel
theorem dX2_lettersFit_15 : decode cX2_lettersFit 15 = .ok (.getfield 19, 3) := by decide +kernel
theorem dX2_lettersFit_18 : decode cX2_lettersFit 18 = .ok (.aload_n 0, 1) := by decide +kernel
theorem dX2_lettersFit_19 : decode cX2_lettersFit 19 = .ok (.getfield 13, 3) := by decide +kernel
theorem dX2_lettersFit_22 : decode cX2_lettersFit 22 = .ok (.iload_n 3, 1) := by decide +kernel
theorem dX2_lettersFit_23 : decode cX2_lettersFit 23 = .ok (.iaload, 1) := by decide +kernel
theorem dX2_lettersFit_24 : decode cX2_lettersFit 24 = .ok (.invokevirtual 62, 3) := by decide +kernel
theorem dX2_lettersFit_27 : decode cX2_lettersFit 27 = .ok (.iinc 3 1, 3) := by decide +kernel
theorem dX2_lettersFit_30 : decode cX2_lettersFit 30 = .ok (.goto (-21), 3) := by decide +kernel
theorem dX2_lettersFit_33 : decode cX2_lettersFit 33 = .ok (.aload_n 0, 1) := by decide +kernel
theorem dX2_lettersFit_34 : decode cX2_lettersFit 34 = .ok (.getfield 19, 3) := by decide +kernel
theorem dX2_lettersFit_37 : decode cX2_lettersFit 37 = .ok (.invokevirtual 58, 3) := by decide +kernel
theorem dX2_lettersFit_40 : decode cX2_lettersFit 40 = .ok (.ireturn, 1) := by decide +kernel
theorem dX3_init_0 : decode cX3_init 0 = .ok (.aload_n 0, 1) := by decide +kernel
theorem dX3_init_1 : decode cX3_init 1 = .ok (.invokespecial 1, 3) := by decide +kernel
theorem dX3_init_4 : decode cX3_init 4 = .ok (.aload_n 0, 1) := by decide +kernel
theorem dX3_init_5 : decode cX3_init 5 = .ok (.sipush 400, 3) := by decide +kernel
theorem dX3_init_8 : decode cX3_init 8 = .ok (.newarray .int, 2) := by decide +kernel
theorem dX3_init_10 : decode cX3_init 10 = .ok (.putfield 7, 3) := by decide +kernel
theorem dX3_init_13 : decode cX3_init 13 = .ok (.aload_n 0, 1) := by decide +kernel
theorem dX3_init_14 : decode cX3_init 14 = .ok (.sipush 400, 3) := by decide +kernel
theorem dX3_init_17 : decode cX3_init 17 = .ok (.newarray .int, 2) := by decide +kernel
theorem dX3_init_19 : decode cX3_init 19 = .ok (.putfield 13, 3) := by decide +kernel
theorem dX3_init_22 : decode cX3_init 22 = .ok (.aload_n 0, 1) := by decide +kernel
theorem dX3_init_23 : decode cX3_init 23 = .ok (.sipush 400, 3) := by decide +kernel
theorem dX3_init_26 : decode cX3_init 26 = .ok (.newarray .int, 2) := by decide +kernel
theorem dX3_init_28 : decode cX3_init 28 = .ok (.putfield 16, 3) := by decide +kernel
theorem dX3_init_31 : decode cX3_init 31 = .ok (.aload_n 0, 1) := by decide +kernel
theorem dX3_init_32 : decode cX3_init 32 = .ok (.sipush 401, 3) := by decide +kernel
theorem dX3_init_35 : decode cX3_init 35 = .ok (.newarray .boolean, 2) := by decide +kernel
theorem dX3_init_37 : decode cX3_init 37 = .ok (.putfield 19, 3) := by decide +kernel
theorem dX3_init_40 : decode cX3_init 40 = .ok (.return_, 1) := by decide +kernel
theorem dX3_put_0 : decode cX3_put 0 = .ok (.bipush 24, 2) := by decide +kernel
theorem dX3_put_2 : decode cX3_put 2 = .ok (.istore_n 2, 1) := by decide +kernel
theorem dX3_put_3 : decode cX3_put 3 = .ok (.iload_n 2, 1) := by decide +kernel
theorem dX3_put_4 : decode cX3_put 4 = .ok (.ifCond .lt 35, 3) := by decide +kernel
theorem dX3_put_7 : decode cX3_put 7 = .ok (.aload_n 0, 1) := by decide +kernel
theorem dX3_put_8 : decode cX3_put 8 = .ok (.getfield 7, 3) := by decide +kernel
theorem dX3_put_11 : decode cX3_put 11 = .ok (.aload_n 0, 1) := by decide +kernel
theorem dX3_put_12 : decode cX3_put 12 = .ok (.getfield 23, 3) := by decide +kernel
theorem dX3_put_15 : decode cX3_put 15 = .ok (.iload_n 1, 1) := by decide +kernel
theorem dX3_put_16 : decode cX3_put 16 = .ok (.iload_n 2, 1) := by decide +kernel
theorem dX3_put_17 : decode cX3_put 17 = .ok (.ishr, 1) := by decide +kernel
theorem dX3_put_18 : decode cX3_put 18 = .ok (.sipush 255, 3) := by decide +kernel
theorem dX3_put_21 : decode cX3_put 21 = .ok (.iand, 1) := by decide +kernel
theorem dX3_put_22 : decode cX3_put 22 = .ok (.iastore, 1) := by decide +kernel
theorem dX3_put_23 : decode cX3_put 23 = .ok (.aload_n 0, 1) := by decide +kernel
theorem dX3_put_24 : decode cX3_put 24 = .ok (.dup, 1) := by decide +kernel
theorem dX3_put_25 : decode cX3_put 25 = .ok (.getfield 23, 3) := by decide +kernel
theorem dX3_put_28 : decode cX3_put 28 = .ok (.iconst 1, 1) := by decide +kernel
theorem dX3_put_29 : decode cX3_put 29 = .ok (.iadd, 1) := by decide +kernel
theorem dX3_put_30 : decode cX3_put 30 = .ok (.putfield 23, 3) := by decide +kernel
theorem dX3_put_33 : decode cX3_put 33 = .ok (.iinc 2 (-8), 3) := by decide +kernel
theorem dX3_put_36 : decode cX3_put 36 = .ok (.goto (-33), 3) := by decide +kernel
theorem dX3_put_39 : decode cX3_put 39 = .ok (.return_, 1) := by decide +kernel
set_option maxRecDepth 20000 in
theorem ggX3_feed_X3_put : GoodIn wsX3_feed wsX3_put := goodIn_r _ [6, 7, 1, 8, 9, 10, 11, 12, 13, 14, 15, 16] (by decide +kernel) (by decide +kernel)
set_option maxRecDepth 20000 in
theorem gX3_feed_X3_put : GoodIn wsX3_feed (wsV RX3 27 RX3 yX3_put wsX3_put) := goodIn_app (goodIn_of _ (by decide +kernel)) ggX3_feed_X3_put
theorem dX3_feed_0 : decode cX3_feed 0 = .ok (.aload_n 0, 1) := by decide +kernel
theorem dX3_feed_1 : decode cX3_feed 1 = .ok (.getfield 23, 3) := by decide +kernel
theorem dX3_feed_4 : decode cX3_feed 4 = .ok (.bipush 20, 2) := by decide +kernel
theorem dX3_feed_6 : decode cX3_feed 6 = .ok (.iadd, 1) := by decide +kernel
theorem dX3_feed_7 : decode cX3_feed 7 = .ok (.sipush 400, 3) := by decide +kernel
theorem dX3_feed_10 : decode cX3_feed 10 = .ok (.if_icmp .le 5, 3) := by decide +kernel
theorem dX3_feed_13 : decode cX3_feed 13 = .ok (.iconst 0, 1) := by decide +kernel
theorem dX3_feed_14 : decode cX3_feed 14 = .ok (.ireturn, 1) := by decide +kernel
theorem dX3_feed_15 : decode cX3_feed 15 = .ok (.aload_n 0, 1) := by decide +kernel
theorem dX3_feed_16 : decode cX3_feed 16 = .ok (.iload_n 1, 1) := by decide +kernel
theorem dX3_feed_17 : decode cX3_feed 17 = .ok (.invokevirtual 27, 3) := by decide +kernel
theorem dX3_feed_20 : decode cX3_feed 20 = .ok (.aload_n 0, 1) := by decide +kernel
theorem dX3_feed_21 : decode cX3_feed 21 = .ok (.iload_n 2, 1) := by decide +kernel
theorem dX3_feed_22 : decode cX3_feed 22 = .ok (.invokevirtual 27, 3) := by decide +kernel
theorem dX3_feed_25 : decode cX3_feed 25 = .ok (.aload_n 0, 1) := by decide +kernel
theorem dX3_feed_26 : decode cX3_feed 26 = .ok (.iload_n 3, 1) := by decide +kernel
theorem dX3_feed_27 : decode cX3_feed 27 = .ok (.invokevirtual 27, 3) := by decide +kernel
theorem dX3_feed_30 : decode cX3_feed 30 = .ok (.aload_n 0, 1) := by decide +kernel
theorem dX3_feed_31 : decode cX3_feed 31 = .ok (.iload 4, 2) := by decide +kernel
theorem dX3_feed_33 : decode cX3_feed 33 = .ok (.invokevirtual 27, 3) := by decide +kernel
theorem dX3_feed_36 : decode cX3_feed 36 = .ok (.aload_n 0, 1) := by decide +kernel
theorem dX3_feed_37 : decode cX3_feed 37 = .ok (.iload 5, 2) := by decide +kernel
theorem dX3_feed_39 : decode cX3_feed 39 = .ok (.invokevirtual 27, 3) := by decide +kernel
theorem dX3_feed_42 : decode cX3_feed 42 = .ok (.iconst 1, 1) := by decide +kernel
theorem dX3_feed_43 : decode cX3_feed 43 = .ok (.ireturn, 1) := by decide +kernel
theorem dX3_end_0 : decode cX3_end 0 = .ok (.iload_n 1, 1) := by decide +kernel
theorem dX3_end_1 : decode cX3_end 1 = .ok (.ifCond .lt 11, 3) := by decide +kernel
theorem dX3_end_4 : decode cX3_end 4 = .ok (.iload_n 1, 1) := by decide +kernel
theorem dX3_end_5 : decode cX3_end 5 = .ok (.aload_n 0, 1) := by decide +kernel
theorem dX3_end_6 : decode cX3_end 6 = .ok (.getfield 23, 3) := by decide +kernel
theorem dX3_end_9 : decode cX3_end 9 = .ok (.if_icmp .le 5, 3) := by decide +kernel
theorem dX3_end_12 : decode cX3_end 12 = .ok (.iconst 0, 1) := by decide +kernel
theorem dX3_end_13 : decode cX3_end 13 = .ok (.ireturn, 1) := by decide +kernel
theorem dX3_end_14 : decode cX3_end 14 = .ok (.aload_n 0, 1) := by decide +kernel
theorem dX3_end_15 : decode cX3_end 15 = .ok (.iload_n 1, 1) := by decide +kernel
theorem dX3_end_16 : decode cX3_end 16 = .ok (.putfield 23, 3) := by decide +kernel
theorem dX3_end_19 : decode cX3_end 19 = .ok (.iconst 1, 1) := by decide +kernel
theorem dX3_end_20 : decode cX3_end 20 = .ok (.ireturn, 1) := by decide +kernel
theorem dX3_pattern_0 : decode cX3_pattern 0 = .ok (.aload_n 0, 1) := by decide +kernel
theorem dX3_pattern_1 : decode cX3_pattern 1 = .ok (.aload_n 0, 1) := by decide +kernel
theorem dX3_pattern_2 : decode cX3_pattern 2 = .ok (.getfield 23, 3) := by decide +kernel
theorem dX3_pattern_5 : decode cX3_pattern 5 = .ok (.putfield 31, 3) := by decide +kernel
theorem dX3_pattern_8 : decode cX3_pattern 8 = .ok (.iconst 0, 1) := by decide +kernel
theorem dX3_pattern_9 : decode cX3_pattern 9 = .ok (.istore_n 1, 1) := by decide +kernel
theorem dX3_pattern_10 : decode cX3_pattern 10 = .ok (.iload_n 1, 1) := by decide +kernel
theorem dX3_pattern_11 : decode cX3_pattern 11 = .ok (.aload_n 0, 1) := by decide +kernel
theorem dX3_pattern_12 : decode cX3_pattern 12 = .ok (.getfield 31, 3) := by decide +kernel
theorem dX3_pattern_15 : decode cX3_pattern 15 = .ok (.if_icmp .ge 21, 3) := by decide +kernel
theorem dX3_pattern_18 : decode cX3_pattern 18 = .ok (.aload_n 0, 1) := by decide +kernel
theorem dX3_pattern_19 : decode cX3_pattern 19 = .ok (.getfield 13, 3) := by decide +kernel
theorem dX3_pattern_22 : decode cX3_pattern 22 = .ok (.iload_n 1, 1) := by decide +kernel
theorem dX3_pattern_23 : decode cX3_pattern 23 = .ok (.aload_n 0, 1) := by decide +kernel
theorem dX3_pattern_24 : decode cX3_pattern 24 = .ok (.getfield 7, 3) := by decide +kernel
theorem dX3_pattern_27 : decode cX3_pattern 27 = .ok (.iload_n 1, 1) := by decide +kernel
theorem dX3_pattern_28 : decode cX3_pattern 28 = .ok (.iaload, 1) := by decide +kernel
theorem dX3_pattern_29 : decode cX3_pattern 29 = .ok (.iastore, 1) := by decide +kernel
theorem dX3_pattern_30 : decode cX3_pattern 30 = .ok (.iinc 1 1, 3) := by decide +kernel
theorem dX3_pattern_33 : decode cX3_pattern 33 = .ok (.goto (-23), 3) := by decide +kernel
theorem dX3_pattern_36 : decode cX3_pattern 36 = .ok (.aload_n 0, 1) := by decide +kernel
theorem dX3_pattern_37 : decode cX3_pattern 37 = .ok (.iconst 0, 1) := by decide +kernel
theorem dX3_pattern_38 : decode cX3_pattern 38 = .ok (.putfield 23, 3) := by decide +kernel
theorem dX3_pattern_41 : decode cX3_pattern 41 = .ok (.aload_n 0, 1) := by decide +kernel
theorem dX3_pattern_42 : decode cX3_pattern 42 = .ok (.getfield 31, 3) := by decide +kernel
theorem dX3_pattern_45 : decode cX3_pattern 45 = .ok (.ireturn, 1) := by decide +kernel
theorem dX3_word_0 : decode cX3_word 0 = .ok (.aload_n 0, 1) := by decide +kernel
theorem dX3_word_1 : decode cX3_word 1 = .ok (.aload_n 0, 1) := by decide +kernel
theorem dX3_word_2 : decode cX3_word 2 = .ok (.getfield 23, 3) := by decide +kernel
theorem dX3_word_5 : decode cX3_word 5 = .ok (.putfield 34, 3) := by decide +kernel
theorem dX3_word_8 : decode cX3_word 8 = .ok (.iconst 0, 1) := by decide +kernel
theorem dX3_word_9 : decode cX3_word 9 = .ok (.istore_n 1, 1) := by decide +kernel
theorem dX3_word_10 : decode cX3_word 10 = .ok (.iload_n 1, 1) := by decide +kernel
theorem dX3_word_11 : decode cX3_word 11 = .ok (.aload_n 0, 1) := by decide +kernel
theorem dX3_word_12 : decode cX3_word 12 = .ok (.getfield 34, 3) := by decide +kernel
theorem dX3_word_15 : decode cX3_word 15 = .ok (.if_icmp .ge 21, 3) := by decide +kernel
theorem dX3_word_18 : decode cX3_word 18 = .ok (.aload_n 0, 1) := by decide +kernel
theorem dX3_word_19 : decode cX3_word 19 = .ok (.getfield 16, 3) := by decide +kernel
theorem dX3_word_22 : decode cX3_word 22 = .ok (.iload_n 1, 1) := by decide +kernel
theorem dX3_word_23 : decode cX3_word 23 = .ok (.aload_n 0, 1) := by decide +kernel
theorem dX3_word_24 : decode cX3_word 24 = .ok (.getfield 7, 3) := by decide +kernel
theorem dX3_word_27 : decode cX3_word 27 = .ok (.iload_n 1, 1) := by decide +kernel
theorem dX3_word_28 : decode cX3_word 28 = .ok (.iaload, 1) := by decide +kernel
theorem dX3_word_29 : decode cX3_word 29 = .ok (.iastore, 1) := by decide +kernel
theorem dX3_word_30 : decode cX3_word 30 = .ok (.iinc 1 1, 3) := by decide +kernel
theorem dX3_word_33 : decode cX3_word 33 = .ok (.goto (-23), 3) := by decide +kernel
theorem dX3_word_36 : decode cX3_word 36 = .ok (.aload_n 0, 1) := by decide +kernel
theorem dX3_word_37 : decode cX3_word 37 = .ok (.iconst 0, 1) := by decide +kernel
theorem dX3_word_38 : decode cX3_word 38 = .ok (.putfield 23, 3) := by decide +kernel
theorem dX3_word_41 : decode cX3_word 41 = .ok (.aload_n 0, 1) := by decide +kernel
theorem dX3_word_42 : decode cX3_word 42 = .ok (.getfield 34, 3) := by decide +kernel
theorem dX3_word_45 : decode cX3_word 45 = .ok (.ireturn, 1) := by decide +kernel
theorem dX3_fits_0 : decode cX3_fits 0 = .ok (.aload_n 0, 1) := by decide +kernel
theorem dX3_fits_1 : decode cX3_fits 1 = .ok (.iconst 0, 1) := by decide +kernel
theorem dX3_fits_2 : decode cX3_fits 2 = .ok (.aload_n 0, 1) := by decide +kernel
theorem dX3_fits_3 : decode cX3_fits 3 = .ok (.getfield 34, 3) := by decide +kernel
theorem dX3_fits_6 : decode cX3_fits 6 = .ok (.invokevirtual 54, 3) := by decide +kernel
theorem dX3_fits_9 : decode cX3_fits 9 = .ok (.aload_n 0, 1) := by decide +kernel
theorem dX3_fits_10 : decode cX3_fits 10 = .ok (.getfield 19, 3) := by decide +kernel
theorem dX3_fits_13 : decode cX3_fits 13 = .ok (.aload_n 0, 1) := by decide +kernel
theorem dX3_fits_14 : decode cX3_fits 14 = .ok (.getfield 34, 3) := by decide +kernel
theorem dX3_fits_17 : decode cX3_fits 17 = .ok (.baload, 1) := by decide +kernel
theorem dX3_fits_18 : decode cX3_fits 18 = .ok (.ireturn, 1) := by decide +kernel
theorem dJ9_max_7cf53_0 : decode cJ9_max_7cf53 0 = .ok (.iload_n 0, 1) := by decide +kernel
theorem dJ9_max_7cf53_1 : decode cJ9_max_7cf53 1 = .ok (.iload_n 1, 1) := by decide +kernel
theorem dJ9_max_7cf53_2 : decode cJ9_max_7cf53 2 = .ok (.if_icmp .lt 7, 3) := by decide +kernel
theorem dJ9_max_7cf53_5 : decode cJ9_max_7cf53 5 = .ok (.iload_n 0, 1) := by decide +kernel
theorem dJ9_max_7cf53_6 : decode cJ9_max_7cf53 6 = .ok (.goto 4, 3) := by decide +kernel
theorem dJ9_max_7cf53_9 : decode cJ9_max_7cf53 9 = .ok (.iload_n 1, 1) := by decide +kernel
theorem dJ9_max_7cf53_10 : decode cJ9_max_7cf53 10 = .ok (.ireturn, 1) := by decide +kernel
theorem dJ9_min_7cf53_0 : decode cJ9_min_7cf53 0 = .ok (.iload_n 0, 1) := by decide +kernel
theorem dJ9_min_7cf53_1 : decode cJ9_min_7cf53 1 = .ok (.iload_n 1, 1) := by decide +kernel
theorem dJ9_min_7cf53_2 : decode cJ9_min_7cf53 2 = .ok (.if_icmp .gt 7, 3) := by decide +kernel
theorem dJ9_min_7cf53_5 : decode cJ9_min_7cf53 5 = .ok (.iload_n 0, 1) := by decide +kernel
theorem dJ9_min_7cf53_6 : decode cJ9_min_7cf53 6 = .ok (.goto 4, 3) := by decide +kernel
theorem dJ9_min_7cf53_9 : decode cJ9_min_7cf53 9 = .ok (.iload_n 1, 1) := by decide +kernel
theorem dJ9_min_7cf53_10 : decode cJ9_min_7cf53 10 = .ok (.ireturn, 1) := by decide +kernel
theorem dJ7_fill_d0a16_0 : decode cJ7_fill_d0a16 0 = .ok (.iconst 0, 1) := by decide +kernel
theorem dJ7_fill_d0a16_1 : decode cJ7_fill_d0a16 1 = .ok (.istore_n 3, 1) := by decide +kernel
theorem dJ7_fill_d0a16_2 : decode cJ7_fill_d0a16 2 = .ok (.aload_n 0, 1) := by decide +kernel
theorem dJ7_fill_d0a16_3 : decode cJ7_fill_d0a16 3 = .ok (.arraylength, 1) := by decide +kernel
theorem dJ7_fill_d0a16_4 : decode cJ7_fill_d0a16 4 = .ok (.istore 4, 2) := by decide +kernel
theorem dJ7_fill_d0a16_6 : decode cJ7_fill_d0a16 6 = .ok (.iload_n 3, 1) := by decide +kernel
theorem dJ7_fill_d0a16_7 : decode cJ7_fill_d0a16 7 = .ok (.iload 4, 2) := by decide +kernel
theorem dJ7_fill_d0a16_9 : decode cJ7_fill_d0a16 9 = .ok (.if_icmp .ge 13, 3) := by decide +kernel
theorem dJ7_fill_d0a16_12 : decode cJ7_fill_d0a16 12 = .ok (.aload_n 0, 1) := by decide +kernel
theorem dJ7_fill_d0a16_13 : decode cJ7_fill_d0a16 13 = .ok (.iload_n 3, 1) := by decide +kernel
theorem dJ7_fill_d0a16_14 : decode cJ7_fill_d0a16 14 = .ok (.lload_n 1, 1) := by decide +kernel
theorem dJ7_fill_d0a16_15 : decode cJ7_fill_d0a16 15 = .ok (.lastore, 1) := by decide +kernel
theorem dJ7_fill_d0a16_16 : decode cJ7_fill_d0a16 16 = .ok (.iinc 3 1, 3) := by decide +kernel
theorem dJ7_fill_d0a16_19 : decode cJ7_fill_d0a16 19 = .ok (.goto (-13), 3) := by decide +kernel
theorem dJ7_fill_d0a16_22 : decode cJ7_fill_d0a16 22 = .ok (.return_, 1) := by decide +kernel
theorem dL_law_0 : decode cL_law 0 = .ok (.new 7, 3) := by decide +kernel
theorem dL_law_3 : decode cL_law 3 = .ok (.dup, 1) := by decide +kernel
theorem dL_law_4 : decode cL_law 4 = .ok (.invokespecial 9, 3) := by decide +kernel
theorem dL_law_7 : decode cL_law 7 = .ok (.astore_n 1, 1) := by decide +kernel
theorem dL_law_8 : decode cL_law 8 = .ok (.new 10, 3) := by decide +kernel
theorem dL_law_11 : decode cL_law 11 = .ok (.dup, 1) := by decide +kernel
theorem dL_law_12 : decode cL_law 12 = .ok (.invokespecial 12, 3) := by decide +kernel
theorem dL_law_15 : decode cL_law 15 = .ok (.astore_n 2, 1) := by decide +kernel
theorem dL_law_16 : decode cL_law 16 = .ok (.iconst 0, 1) := by decide +kernel
theorem dL_law_17 : decode cL_law 17 = .ok (.istore_n 3, 1) := by decide +kernel
theorem dL_law_18 : decode cL_law 18 = .ok (.iload_n 3, 1) := by decide +kernel
theorem dL_law_19 : decode cL_law 19 = .ok (.aload_n 0, 1) := by decide +kernel
theorem dL_law_20 : decode cL_law 20 = .ok (.arraylength, 1) := by decide +kernel
theorem dL_law_21 : decode cL_law 21 = .ok (.bipush 6, 2) := by decide +kernel
theorem dL_law_23 : decode cL_law 23 = .ok (.isub, 1) := by decide +kernel
theorem dL_law_24 : decode cL_law 24 = .ok (.if_icmp .gt 229, 3) := by decide +kernel
theorem dL_law_27 : decode cL_law 27 = .ok (.aload_n 0, 1) := by decide +kernel
theorem dL_law_28 : decode cL_law 28 = .ok (.iload_n 3, 1) := by decide +kernel
theorem dL_law_29 : decode cL_law 29 = .ok (.iaload, 1) := by decide +kernel
theorem dL_law_30 : decode cL_law 30 = .ok (.bipush 7, 2) := by decide +kernel
theorem dL_law_32 : decode cL_law 32 = .ok (.iand, 1) := by decide +kernel
theorem dL_law_33 : decode cL_law 33 = .ok (.tableswitch 214 0 6 #[43, 106, 129, 142, 155, 168, 201], 43) := by decide +kernel
theorem dL_law_76 : decode cL_law 76 = .ok (.aload_n 1, 1) := by decide +kernel
theorem dL_law_77 : decode cL_law 77 = .ok (.aload_n 0, 1) := by decide +kernel
theorem dL_law_78 : decode cL_law 78 = .ok (.iload_n 3, 1) := by decide +kernel
theorem dL_law_79 : decode cL_law 79 = .ok (.iconst 1, 1) := by decide +kernel
theorem dL_law_80 : decode cL_law 80 = .ok (.iadd, 1) := by decide +kernel
theorem dL_law_81 : decode cL_law 81 = .ok (.iaload, 1) := by decide +kernel
theorem dL_law_82 : decode cL_law 82 = .ok (.aload_n 0, 1) := by decide +kernel
theorem dL_law_83 : decode cL_law 83 = .ok (.iload_n 3, 1) := by decide +kernel
theorem dL_law_84 : decode cL_law 84 = .ok (.iconst 2, 1) := by decide +kernel
theorem dL_law_85 : decode cL_law 85 = .ok (.iadd, 1) := by decide +kernel
theorem dL_law_86 : decode cL_law 86 = .ok (.iaload, 1) := by decide +kernel
theorem dL_law_87 : decode cL_law 87 = .ok (.aload_n 0, 1) := by decide +kernel
theorem dL_law_88 : decode cL_law 88 = .ok (.iload_n 3, 1) := by decide +kernel
theorem dL_law_89 : decode cL_law 89 = .ok (.iconst 3, 1) := by decide +kernel
theorem dL_law_90 : decode cL_law 90 = .ok (.iadd, 1) := by decide +kernel
theorem dL_law_91 : decode cL_law 91 = .ok (.iaload, 1) := by decide +kernel
theorem dL_law_92 : decode cL_law 92 = .ok (.aload_n 0, 1) := by decide +kernel
theorem dL_law_93 : decode cL_law 93 = .ok (.iload_n 3, 1) := by decide +kernel
theorem dL_law_94 : decode cL_law 94 = .ok (.iconst 4, 1) := by decide +kernel
theorem dL_law_95 : decode cL_law 95 = .ok (.iadd, 1) := by decide +kernel
theorem dL_law_96 : decode cL_law 96 = .ok (.iaload, 1) := by decide +kernel
theorem dL_law_97 : decode cL_law 97 = .ok (.aload_n 0, 1) := by decide +kernel
theorem dL_law_98 : decode cL_law 98 = .ok (.iload_n 3, 1) := by decide +kernel
theorem dL_law_99 : decode cL_law 99 = .ok (.iconst 5, 1) := by decide +kernel
theorem dL_law_100 : decode cL_law 100 = .ok (.iadd, 1) := by decide +kernel
theorem dL_law_101 : decode cL_law 101 = .ok (.iaload, 1) := by decide +kernel
theorem dL_law_102 : decode cL_law 102 = .ok (.invokevirtual 13, 3) := by decide +kernel
theorem dL_law_105 : decode cL_law 105 = .ok (.aload_n 2, 1) := by decide +kernel
theorem dL_law_106 : decode cL_law 106 = .ok (.aload_n 0, 1) := by decide +kernel
theorem dL_law_107 : decode cL_law 107 = .ok (.iload_n 3, 1) := by decide +kernel
theorem dL_law_108 : decode cL_law 108 = .ok (.iconst 1, 1) := by decide +kernel
theorem dL_law_109 : decode cL_law 109 = .ok (.iadd, 1) := by decide +kernel
theorem dL_law_110 : decode cL_law 110 = .ok (.iaload, 1) := by decide +kernel
theorem dL_law_111 : decode cL_law 111 = .ok (.aload_n 0, 1) := by decide +kernel
theorem dL_law_112 : decode cL_law 112 = .ok (.iload_n 3, 1) := by decide +kernel
theorem dL_law_113 : decode cL_law 113 = .ok (.iconst 2, 1) := by decide +kernel
theorem dL_law_114 : decode cL_law 114 = .ok (.iadd, 1) := by decide +kernel
theorem dL_law_115 : decode cL_law 115 = .ok (.iaload, 1) := by decide +kernel
theorem dL_law_116 : decode cL_law 116 = .ok (.aload_n 0, 1) := by decide +kernel
theorem dL_law_117 : decode cL_law 117 = .ok (.iload_n 3, 1) := by decide +kernel
theorem dL_law_118 : decode cL_law 118 = .ok (.iconst 3, 1) := by decide +kernel
theorem dL_law_119 : decode cL_law 119 = .ok (.iadd, 1) := by decide +kernel
theorem dL_law_120 : decode cL_law 120 = .ok (.iaload, 1) := by decide +kernel
theorem dL_law_121 : decode cL_law 121 = .ok (.aload_n 0, 1) := by decide +kernel
theorem dL_law_122 : decode cL_law 122 = .ok (.iload_n 3, 1) := by decide +kernel
theorem dL_law_123 : decode cL_law 123 = .ok (.iconst 4, 1) := by decide +kernel
theorem dL_law_124 : decode cL_law 124 = .ok (.iadd, 1) := by decide +kernel
theorem dL_law_125 : decode cL_law 125 = .ok (.iaload, 1) := by decide +kernel
theorem dL_law_126 : decode cL_law 126 = .ok (.aload_n 0, 1) := by decide +kernel
theorem dL_law_127 : decode cL_law 127 = .ok (.iload_n 3, 1) := by decide +kernel
theorem dL_law_128 : decode cL_law 128 = .ok (.iconst 5, 1) := by decide +kernel
theorem dL_law_129 : decode cL_law 129 = .ok (.iadd, 1) := by decide +kernel
theorem dL_law_130 : decode cL_law 130 = .ok (.iaload, 1) := by decide +kernel
theorem dL_law_131 : decode cL_law 131 = .ok (.invokevirtual 17, 3) := by decide +kernel
theorem dL_law_134 : decode cL_law 134 = .ok (.if_icmp .eq 113, 3) := by decide +kernel
theorem dL_law_137 : decode cL_law 137 = .ok (.iconst 0, 1) := by decide +kernel
theorem dL_law_138 : decode cL_law 138 = .ok (.ireturn, 1) := by decide +kernel
theorem dL_law_139 : decode cL_law 139 = .ok (.aload_n 1, 1) := by decide +kernel
theorem dL_law_140 : decode cL_law 140 = .ok (.aload_n 0, 1) := by decide +kernel
theorem dL_law_141 : decode cL_law 141 = .ok (.iload_n 3, 1) := by decide +kernel
theorem dL_law_142 : decode cL_law 142 = .ok (.iconst 1, 1) := by decide +kernel
theorem dL_law_143 : decode cL_law 143 = .ok (.iadd, 1) := by decide +kernel
theorem dL_law_144 : decode cL_law 144 = .ok (.iaload, 1) := by decide +kernel
theorem dL_law_145 : decode cL_law 145 = .ok (.invokevirtual 18, 3) := by decide +kernel
theorem dL_law_148 : decode cL_law 148 = .ok (.aload_n 2, 1) := by decide +kernel
theorem dL_law_149 : decode cL_law 149 = .ok (.aload_n 0, 1) := by decide +kernel
theorem dL_law_150 : decode cL_law 150 = .ok (.iload_n 3, 1) := by decide +kernel
theorem dL_law_151 : decode cL_law 151 = .ok (.iconst 1, 1) := by decide +kernel
theorem dL_law_152 : decode cL_law 152 = .ok (.iadd, 1) := by decide +kernel
theorem dL_law_153 : decode cL_law 153 = .ok (.iaload, 1) := by decide +kernel
theorem dL_law_154 : decode cL_law 154 = .ok (.invokevirtual 22, 3) := by decide +kernel
theorem dL_law_157 : decode cL_law 157 = .ok (.if_icmp .eq 90, 3) := by decide +kernel
theorem dL_law_160 : decode cL_law 160 = .ok (.iconst 0, 1) := by decide +kernel
theorem dL_law_161 : decode cL_law 161 = .ok (.ireturn, 1) := by decide +kernel
theorem dL_law_162 : decode cL_law 162 = .ok (.aload_n 1, 1) := by decide +kernel
theorem dL_law_163 : decode cL_law 163 = .ok (.invokevirtual 23, 3) := by decide +kernel
theorem dL_law_166 : decode cL_law 166 = .ok (.aload_n 2, 1) := by decide +kernel
theorem dL_law_167 : decode cL_law 167 = .ok (.invokevirtual 27, 3) := by decide +kernel
theorem dL_law_170 : decode cL_law 170 = .ok (.if_icmp .eq 77, 3) := by decide +kernel
theorem dL_law_173 : decode cL_law 173 = .ok (.iconst 0, 1) := by decide +kernel
theorem dL_law_174 : decode cL_law 174 = .ok (.ireturn, 1) := by decide +kernel
theorem dL_law_175 : decode cL_law 175 = .ok (.aload_n 1, 1) := by decide +kernel
theorem dL_law_176 : decode cL_law 176 = .ok (.invokevirtual 28, 3) := by decide +kernel
theorem dL_law_179 : decode cL_law 179 = .ok (.aload_n 2, 1) := by decide +kernel
theorem dL_law_180 : decode cL_law 180 = .ok (.invokevirtual 31, 3) := by decide +kernel
theorem dL_law_183 : decode cL_law 183 = .ok (.if_icmp .eq 64, 3) := by decide +kernel
theorem dL_law_186 : decode cL_law 186 = .ok (.iconst 0, 1) := by decide +kernel
theorem dL_law_187 : decode cL_law 187 = .ok (.ireturn, 1) := by decide +kernel
theorem dL_law_188 : decode cL_law 188 = .ok (.aload_n 1, 1) := by decide +kernel
theorem dL_law_189 : decode cL_law 189 = .ok (.invokevirtual 32, 3) := by decide +kernel
theorem dL_law_192 : decode cL_law 192 = .ok (.aload_n 2, 1) := by decide +kernel
theorem dL_law_193 : decode cL_law 193 = .ok (.invokevirtual 36, 3) := by decide +kernel
theorem dL_law_196 : decode cL_law 196 = .ok (.if_icmp .eq 51, 3) := by decide +kernel
theorem dL_law_199 : decode cL_law 199 = .ok (.iconst 0, 1) := by decide +kernel
theorem dL_law_200 : decode cL_law 200 = .ok (.ireturn, 1) := by decide +kernel
theorem dL_law_201 : decode cL_law 201 = .ok (.aload_n 1, 1) := by decide +kernel
theorem dL_law_202 : decode cL_law 202 = .ok (.aload_n 0, 1) := by decide +kernel
theorem dL_law_203 : decode cL_law 203 = .ok (.iload_n 3, 1) := by decide +kernel
theorem dL_law_204 : decode cL_law 204 = .ok (.iconst 1, 1) := by decide +kernel
theorem dL_law_205 : decode cL_law 205 = .ok (.iadd, 1) := by decide +kernel
theorem dL_law_206 : decode cL_law 206 = .ok (.iaload, 1) := by decide +kernel
theorem dL_law_207 : decode cL_law 207 = .ok (.aload_n 0, 1) := by decide +kernel
theorem dL_law_208 : decode cL_law 208 = .ok (.iload_n 3, 1) := by decide +kernel
theorem dL_law_209 : decode cL_law 209 = .ok (.iconst 2, 1) := by decide +kernel
theorem dL_law_210 : decode cL_law 210 = .ok (.iadd, 1) := by decide +kernel
theorem dL_law_211 : decode cL_law 211 = .ok (.iaload, 1) := by decide +kernel
theorem dL_law_212 : decode cL_law 212 = .ok (.invokevirtual 37, 3) := by decide +kernel
theorem dL_law_215 : decode cL_law 215 = .ok (.aload_n 2, 1) := by decide +kernel
theorem dL_law_216 : decode cL_law 216 = .ok (.aload_n 0, 1) := by decide +kernel
theorem dL_law_217 : decode cL_law 217 = .ok (.iload_n 3, 1) := by decide +kernel
theorem dL_law_218 : decode cL_law 218 = .ok (.iconst 1, 1) := by decide +kernel
theorem dL_law_219 : decode cL_law 219 = .ok (.iadd, 1) := by decide +kernel
theorem dL_law_220 : decode cL_law 220 = .ok (.iaload, 1) := by decide +kernel
theorem dL_law_221 : decode cL_law 221 = .ok (.aload_n 0, 1) := by decide +kernel
theorem dL_law_222 : decode cL_law 222 = .ok (.iload_n 3, 1) := by decide +kernel
theorem dL_law_223 : decode cL_law 223 = .ok (.iconst 2, 1) := by decide +kernel
theorem dL_law_224 : decode cL_law 224 = .ok (.iadd, 1) := by decide +kernel
theorem dL_law_225 : decode cL_law 225 = .ok (.iaload, 1) := by decide +kernel
theorem dL_law_226 : decode cL_law 226 = .ok (.invokevirtual 41, 3) := by decide +kernel
theorem dL_law_229 : decode cL_law 229 = .ok (.if_icmp .eq 18, 3) := by decide +kernel
theorem dL_law_232 : decode cL_law 232 = .ok (.iconst 0, 1) := by decide +kernel
theorem dL_law_233 : decode cL_law 233 = .ok (.ireturn, 1) := by decide +kernel
theorem dL_law_234 : decode cL_law 234 = .ok (.aload_n 1, 1) := by decide +kernel
theorem dL_law_235 : decode cL_law 235 = .ok (.invokevirtual 42, 3) := by decide +kernel
theorem dL_law_238 : decode cL_law 238 = .ok (.aload_n 2, 1) := by decide +kernel
theorem dL_law_239 : decode cL_law 239 = .ok (.invokevirtual 45, 3) := by decide +kernel
theorem dL_law_242 : decode cL_law 242 = .ok (.if_icmp .eq 5, 3) := by decide +kernel
theorem dL_law_245 : decode cL_law 245 = .ok (.iconst 0, 1) := by decide +kernel
theorem dL_law_246 : decode cL_law 246 = .ok (.ireturn, 1) := by decide +kernel
theorem dL_law_247 : decode cL_law 247 = .ok (.iinc 3 6, 3) := by decide +kernel
theorem dL_law_250 : decode cL_law 250 = .ok (.goto (-232), 3) := by decide +kernel
theorem dL_law_253 : decode cL_law 253 = .ok (.iconst 1, 1) := by decide +kernel
theorem dL_law_254 : decode cL_law 254 = .ok (.ireturn, 1) := by decide +kernel
abbrev vwCl : List vw_C := [(RX0, TX0, 4), (RX1, TX1, 4), (RX2, TX2, 5), (RX3, TX3, 9)]
