section
-- ===== PART A: goes FIRST, ahead of the names: the tables' words, and 'selects' of the private methods out of them =====
/-- a private method of a class that the tables say can be made, by its rows of tables_1 -/
def lw_okq (q : MethodName × Nat) : Prop := (q.1.cls ≠ "java/lang/invoke/MethodHandle" ∧ q.1.cls ≠ "java/lang/invoke/VarHandle") ∧ Cond.instantiable q.1.cls q.2 ∈ tables_1 ∧ Cond.privateMethod q.1 ∈ tables_1 ∧ Cond.instanceMethod q.1 ∈ tables_1
theorem lw_p0 : lw_okq (⟨"WildCards", "append", "(I)V"⟩, 5) := ⟨⟨by decide +kernel, by decide +kernel⟩, List.mem_of_getElem? (i := 9) (by decide +kernel), List.mem_of_getElem? (i := 58) (by decide +kernel), List.mem_of_getElem? (i := 59) (by decide +kernel)⟩
theorem lw_p1 : lw_okq (⟨"WildCards$Reader", "readThing", "()V"⟩, 4) := ⟨⟨by decide +kernel, by decide +kernel⟩, List.mem_of_getElem? (i := 77) (by decide +kernel), List.mem_of_getElem? (i := 100) (by decide +kernel), List.mem_of_getElem? (i := 101) (by decide +kernel)⟩
theorem lw_p2 : lw_okq (⟨"WildCards$Reader", "byteAt", "(I)I"⟩, 4) := ⟨⟨by decide +kernel, by decide +kernel⟩, List.mem_of_getElem? (i := 77) (by decide +kernel), List.mem_of_getElem? (i := 104) (by decide +kernel), List.mem_of_getElem? (i := 105) (by decide +kernel)⟩
theorem lw_p3 : lw_okq (⟨"WildCards$Reader", "readBrackets", "()V"⟩, 4) := ⟨⟨by decide +kernel, by decide +kernel⟩, List.mem_of_getElem? (i := 77) (by decide +kernel), List.mem_of_getElem? (i := 126) (by decide +kernel), List.mem_of_getElem? (i := 127) (by decide +kernel)⟩
theorem lw_p4 : lw_okq (⟨"WildCards$Reader", "bracketsEndAt", "(I)Z"⟩, 4) := ⟨⟨by decide +kernel, by decide +kernel⟩, List.mem_of_getElem? (i := 77) (by decide +kernel), List.mem_of_getElem? (i := 130) (by decide +kernel), List.mem_of_getElem? (i := 131) (by decide +kernel)⟩
theorem lw_p5 : lw_okq (⟨"WildCards$Reader", "readTold", "(Z)V"⟩, 4) := ⟨⟨by decide +kernel, by decide +kernel⟩, List.mem_of_getElem? (i := 77) (by decide +kernel), List.mem_of_getElem? (i := 134) (by decide +kernel), List.mem_of_getElem? (i := 135) (by decide +kernel)⟩
theorem lw_p6 : lw_okq (⟨"WildCards$Reader", "readByte", "()I"⟩, 4) := ⟨⟨by decide +kernel, by decide +kernel⟩, List.mem_of_getElem? (i := 77) (by decide +kernel), List.mem_of_getElem? (i := 138) (by decide +kernel), List.mem_of_getElem? (i := 139) (by decide +kernel)⟩
theorem lw_p7 : lw_okq (⟨"WildCards", "lettersFit", "(II)Z"⟩, 5) := ⟨⟨by decide +kernel, by decide +kernel⟩, List.mem_of_getElem? (i := 9) (by decide +kernel), List.mem_of_getElem? (i := 157) (by decide +kernel), List.mem_of_getElem? (i := 158) (by decide +kernel)⟩
theorem lw_p8 : lw_okq (⟨"WildCardsModel", "put", "(I)V"⟩, 9) := ⟨⟨by decide +kernel, by decide +kernel⟩, List.mem_of_getElem? (i := 181) (by decide +kernel), List.mem_of_getElem? (i := 220) (by decide +kernel), List.mem_of_getElem? (i := 221) (by decide +kernel)⟩
theorem lw_p9 : lw_okq (⟨"WildCardsModel", "reckon", "(II)V"⟩, 9) := ⟨⟨by decide +kernel, by decide +kernel⟩, List.mem_of_getElem? (i := 181) (by decide +kernel), List.mem_of_getElem? (i := 240) (by decide +kernel), List.mem_of_getElem? (i := 241) (by decide +kernel)⟩
theorem lw_p10 : lw_okq (⟨"WildCardsModel", "suits", "(II)Z"⟩, 9) := ⟨⟨by decide +kernel, by decide +kernel⟩, List.mem_of_getElem? (i := 181) (by decide +kernel), List.mem_of_getElem? (i := 244) (by decide +kernel), List.mem_of_getElem? (i := 245) (by decide +kernel)⟩
theorem lw_p11 : lw_okq (⟨"WildCardsModel", "isOne", "(II)Z"⟩, 9) := ⟨⟨by decide +kernel, by decide +kernel⟩, List.mem_of_getElem? (i := 181) (by decide +kernel), List.mem_of_getElem? (i := 248) (by decide +kernel), List.mem_of_getElem? (i := 249) (by decide +kernel)⟩
theorem lw_p12 : lw_okq (⟨"WildCardsModel", "tells", "(I)I"⟩, 9) := ⟨⟨by decide +kernel, by decide +kernel⟩, List.mem_of_getElem? (i := 181) (by decide +kernel), List.mem_of_getElem? (i := 252) (by decide +kernel), List.mem_of_getElem? (i := 253) (by decide +kernel)⟩
def lw_privs_1 : List (MethodName × Nat) := [(⟨"WildCards", "append", "(I)V"⟩, 5), (⟨"WildCards$Reader", "readThing", "()V"⟩, 4), (⟨"WildCards$Reader", "byteAt", "(I)I"⟩, 4), (⟨"WildCards$Reader", "readBrackets", "()V"⟩, 4), (⟨"WildCards$Reader", "bracketsEndAt", "(I)Z"⟩, 4), (⟨"WildCards$Reader", "readTold", "(Z)V"⟩, 4), (⟨"WildCards$Reader", "readByte", "()I"⟩, 4), (⟨"WildCards", "lettersFit", "(II)Z"⟩, 5), (⟨"WildCardsModel", "put", "(I)V"⟩, 9), (⟨"WildCardsModel", "reckon", "(II)V"⟩, 9), (⟨"WildCardsModel", "suits", "(II)Z"⟩, 9), (⟨"WildCardsModel", "isOne", "(II)Z"⟩, 9), (⟨"WildCardsModel", "tells", "(I)I"⟩, 9)]
theorem lw_r1 : ∀ q ∈ lw_privs_1, lw_okq q := List.forall_mem_cons.mpr ⟨lw_p0, List.forall_mem_cons.mpr ⟨lw_p1, List.forall_mem_cons.mpr ⟨lw_p2, List.forall_mem_cons.mpr ⟨lw_p3, List.forall_mem_cons.mpr ⟨lw_p4, List.forall_mem_cons.mpr ⟨lw_p5, List.forall_mem_cons.mpr ⟨lw_p6, List.forall_mem_cons.mpr ⟨lw_p7, List.forall_mem_cons.mpr ⟨lw_p8, List.forall_mem_cons.mpr ⟨lw_p9, List.forall_mem_cons.mpr ⟨lw_p10, List.forall_mem_cons.mpr ⟨lw_p11, List.forall_mem_cons.mpr ⟨lw_p12, fun _ h => absurd h List.not_mem_nil⟩⟩⟩⟩⟩⟩⟩⟩⟩⟩⟩⟩⟩
def lw_privs : List (MethodName × Nat) := lw_privs_1
def lw_tbl : List Cond := k2_sels lw_privs ++ tables_1
theorem lw_privs_ok : ∀ q ∈ lw_privs, lw_okq q := lw_r1
/-! ===== BEGIN words of one list among another's, by their places ===== -/
theorem goodIn_r {big : List Cond} (ws : List Cond) (ps : List Nat) (hp : ws = ps.filterMap (fun i => big[i]?)) (h : ws.all goodWord = true) : GoodIn big ws := by
  intro w hw
  have h1 := List.all_eq_true.mp h w hw
  rw [hp] at hw
  obtain ⟨i, -, hi⟩ := List.mem_filterMap.mp hw
  have hm : w ∈ big := by first | exact List.mem_of_getElem? hi | exact List.getElem?_mem hi
  exact ⟨hm, good_of_word h1⟩
theorem goodIn_app {big a b : List Cond} (ha : GoodIn big a) (hb : GoodIn big b) : GoodIn big (a ++ b) := fun w h => (List.mem_append.mp h).elim (ha w) (hb w)
theorem goodIn_ca {big a b : List Cond} {c : Cond} (ha : GoodIn big (c :: a)) (hb : GoodIn big b) : GoodIn big (c :: (a ++ b)) := fun w h => (List.mem_cons.mp h).elim (fun e => ha w (List.mem_cons.mpr (Or.inl e))) (fun h => (List.mem_append.mp h).elim (fun h => ha w (List.mem_cons.mpr (Or.inr h))) (hb w))
theorem goodIn_sub {big ws : List Cond} (hm : ∀ w ∈ ws, w ∈ big) (h : ws.all goodWord = true) : GoodIn big ws := fun w hw => ⟨hm w hw, good_of_word (List.all_eq_true.mp h w hw)⟩
/-! ===== END ===== -/

/-! ===== BEGIN printed: names, fields, word lists, decode rows ===== -/
def RX0 : String := "WildCards$Reader"
def TX0 : u_T := fun k => match k with
  | 0 => ("WildCards$Reader", "bytes", "[I", true)
  | 1 => ("WildCards$Reader", "length", "I", true)
  | 2 => ("WildCards$Reader", "things", "LWildCards$Things;", true)
  | _ => ("WildCards$Reader", "at", "I", false)
def tyX0 : Nat → FieldType := fun k => match k with
  | 0 => .array .int
  | 1 => .int
  | 2 => .object "WildCards$Things"
  | _ => .int
abbrev wsX00 : List Cond := u_ws RX0 TX0 4
theorem nmX0 : ∀ a, a < 4 → ∀ b, b < 4 → a ≠ b → (TX0 a).2.1 ≠ (TX0 b).2.1 := by decide +kernel
theorem tyX0_ok : ∀ k, k < 4 → parseFieldDescriptor (TX0 k).2.2.1 = some (tyX0 k) := by decide +kernel
abbrev cX0_init : ByteArray := prog_2_method_1_code
def yX0_init : MethodName := ⟨RX0, "<init>", "([IILWildCards$Things;)V"⟩
abbrev cX0_readAll : ByteArray := prog_2_method_2_code
def yX0_readAll : MethodName := ⟨RX0, "readAll", "()V"⟩
abbrev cX0_readThing : ByteArray := prog_2_method_3_code
def yX0_readThing : MethodName := ⟨RX0, "readThing", "()V"⟩
abbrev cX0_readBrackets : ByteArray := prog_2_method_4_code
def yX0_readBrackets : MethodName := ⟨RX0, "readBrackets", "()V"⟩
abbrev cX0_readTold : ByteArray := prog_2_method_5_code
def yX0_readTold : MethodName := ⟨RX0, "readTold", "(Z)V"⟩
abbrev cX0_bracketsEndAt : ByteArray := prog_2_method_6_code
def yX0_bracketsEndAt : MethodName := ⟨RX0, "bracketsEndAt", "(I)Z"⟩
abbrev cX0_readByte : ByteArray := prog_2_method_7_code
def yX0_readByte : MethodName := ⟨RX0, "readByte", "()I"⟩
abbrev cX0_byteAt : ByteArray := prog_2_method_8_code
def yX0_byteAt : MethodName := ⟨RX0, "byteAt", "(I)I"⟩
def RX1 : String := "WildCards$Things"
def TX1 : u_T := fun k => match k with
  | 0 => ("WildCards$Things", "takers", "[J", true)
  | 1 => ("WildCards$Things", "loops", "[J", true)
  | 2 => ("WildCards$Things", "reached", "[J", true)
  | _ => ("WildCards$Things", "count", "I", false)
def tyX1 : Nat → FieldType := fun k => match k with
  | 0 => .array .long
  | 1 => .array .long
  | 2 => .array .long
  | _ => .int
abbrev wsX10 : List Cond := u_ws RX1 TX1 4
theorem nmX1 : ∀ a, a < 4 → ∀ b, b < 4 → a ≠ b → (TX1 a).2.1 ≠ (TX1 b).2.1 := by decide +kernel
theorem tyX1_ok : ∀ k, k < 4 → parseFieldDescriptor (TX1 k).2.2.1 = some (tyX1 k) := by decide +kernel
abbrev cX1_init : ByteArray := prog_3_method_1_code
def yX1_init : MethodName := ⟨RX1, "<init>", "()V"⟩
abbrev cX1_clear : ByteArray := prog_3_method_2_code
def yX1_clear : MethodName := ⟨RX1, "clear", "()V"⟩
abbrev cX1_addLoop : ByteArray := prog_3_method_3_code
def yX1_addLoop : MethodName := ⟨RX1, "addLoop", "()V"⟩
abbrev cX1_tell : ByteArray := prog_3_method_4_code
def yX1_tell : MethodName := ⟨RX1, "tell", "(IIZ)V"⟩
abbrev cX1_close : ByteArray := prog_3_method_5_code
def yX1_close : MethodName := ⟨RX1, "close", "()V"⟩
abbrev cX1_start : ByteArray := prog_3_method_6_code
def yX1_start : MethodName := ⟨RX1, "start", "()V"⟩
abbrev cX1_step : ByteArray := prog_3_method_7_code
def yX1_step : MethodName := ⟨RX1, "step", "(I)V"⟩
abbrev cX1_endIsReached : ByteArray := prog_3_method_8_code
def yX1_endIsReached : MethodName := ⟨RX1, "endIsReached", "()Z"⟩
abbrev cX1_bitOf : ByteArray := prog_3_method_9_code
def yX1_bitOf : MethodName := ⟨RX1, "bitOf", "(I)J"⟩
def RX2 : String := "WildCards"
def TX2 : u_T := fun k => match k with
  | 0 => ("WildCards", "tape", "[I", true)
  | 1 => ("WildCards", "tapeLength", "I", false)
  | 2 => ("WildCards", "letters", "[I", true)
  | 3 => ("WildCards", "letterCount", "I", false)
  | _ => ("WildCards", "things", "LWildCards$Things;", true)
def tyX2 : Nat → FieldType := fun k => match k with
  | 0 => .array .int
  | 1 => .int
  | 2 => .array .int
  | 3 => .int
  | _ => .object "WildCards$Things"
abbrev wsX20 : List Cond := u_ws RX2 TX2 5
theorem nmX2 : ∀ a, a < 5 → ∀ b, b < 5 → a ≠ b → (TX2 a).2.1 ≠ (TX2 b).2.1 := by decide +kernel
theorem tyX2_ok : ∀ k, k < 5 → parseFieldDescriptor (TX2 k).2.2.1 = some (tyX2 k) := by decide +kernel
abbrev cX2_init : ByteArray := prog_1_method_1_code
def yX2_init : MethodName := ⟨RX2, "<init>", "()V"⟩
abbrev cX2_feed : ByteArray := prog_1_method_2_code
def yX2_feed : MethodName := ⟨RX2, "feed", "(IIIII)Z"⟩
abbrev cX2_end : ByteArray := prog_1_method_3_code
def yX2_end : MethodName := ⟨RX2, "end", "(I)Z"⟩
abbrev cX2_pattern : ByteArray := prog_1_method_4_code
def yX2_pattern : MethodName := ⟨RX2, "pattern", "()I"⟩
abbrev cX2_word : ByteArray := prog_1_method_5_code
def yX2_word : MethodName := ⟨RX2, "word", "()I"⟩
abbrev cX2_fits : ByteArray := prog_1_method_6_code
def yX2_fits : MethodName := ⟨RX2, "fits", "()Z"⟩
abbrev cX2_fitsPart : ByteArray := prog_1_method_7_code
def yX2_fitsPart : MethodName := ⟨RX2, "fitsPart", "(II)Z"⟩
abbrev cX2_beginnings : ByteArray := prog_1_method_8_code
def yX2_beginnings : MethodName := ⟨RX2, "beginnings", "()I"⟩
abbrev cX2_append : ByteArray := prog_1_method_9_code
def yX2_append : MethodName := ⟨RX2, "append", "(I)V"⟩
abbrev cX2_lettersFit : ByteArray := prog_1_method_10_code
def yX2_lettersFit : MethodName := ⟨RX2, "lettersFit", "(II)Z"⟩
def RX3 : String := "WildCardsModel"
def TX3 : u_T := fun k => match k with
  | 0 => ("WildCardsModel", "tape", "[I", true)
  | 1 => ("WildCardsModel", "pattern", "[I", true)
  | 2 => ("WildCardsModel", "word", "[I", true)
  | 3 => ("WildCardsModel", "typed", "I", false)
  | 4 => ("WildCardsModel", "size", "I", false)
  | 5 => ("WildCardsModel", "length", "I", false)
  | 6 => ("WildCardsModel", "end", "I", false)
  | 7 => ("WildCardsModel", "told", "I", false)
  | _ => ("WildCardsModel", "fit", "[Z", true)
def tyX3 : Nat → FieldType := fun k => match k with
  | 0 => .array .int
  | 1 => .array .int
  | 2 => .array .int
  | 3 => .int
  | 4 => .int
  | 5 => .int
  | 6 => .int
  | 7 => .int
  | _ => .array .boolean
abbrev wsX30 : List Cond := u_ws RX3 TX3 9
theorem nmX3 : ∀ a, a < 9 → ∀ b, b < 9 → a ≠ b → (TX3 a).2.1 ≠ (TX3 b).2.1 := by decide +kernel
theorem tyX3_ok : ∀ k, k < 9 → parseFieldDescriptor (TX3 k).2.2.1 = some (tyX3 k) := by decide +kernel
abbrev cX3_init : ByteArray := prog_5_method_1_code
def yX3_init : MethodName := ⟨RX3, "<init>", "()V"⟩
abbrev cX3_put : ByteArray := prog_5_method_2_code
def yX3_put : MethodName := ⟨RX3, "put", "(I)V"⟩
abbrev cX3_feed : ByteArray := prog_5_method_3_code
def yX3_feed : MethodName := ⟨RX3, "feed", "(IIIII)Z"⟩
abbrev cX3_end : ByteArray := prog_5_method_4_code
def yX3_end : MethodName := ⟨RX3, "end", "(I)Z"⟩
abbrev cX3_pattern : ByteArray := prog_5_method_5_code
def yX3_pattern : MethodName := ⟨RX3, "pattern", "()I"⟩
abbrev cX3_word : ByteArray := prog_5_method_6_code
def yX3_word : MethodName := ⟨RX3, "word", "()I"⟩
abbrev cX3_fits : ByteArray := prog_5_method_11_code
def yX3_fits : MethodName := ⟨RX3, "fits", "()Z"⟩
def RJ9 : String := "java/lang/Math"
def TJ9 : u_T := fun k => match k with
  | _ => ("", "", "", false)
def tyJ9 : Nat → FieldType := fun k => match k with
  | _ => .int
abbrev wsJ90 : List Cond := u_ws RJ9 TJ9 0
theorem nmJ9 : ∀ a, a < 0 → ∀ b, b < 0 → a ≠ b → (TJ9 a).2.1 ≠ (TJ9 b).2.1 := by decide +kernel
theorem tyJ9_ok : ∀ k, k < 0 → parseFieldDescriptor (TJ9 k).2.2.1 = some (tyJ9 k) := by decide +kernel
abbrev cJ9_max_7cf53 : ByteArray := prog_6_method_65_code
def yJ9_max_7cf53 : MethodName := ⟨RJ9, "max", "(II)I"⟩
abbrev cJ9_min_7cf53 : ByteArray := prog_6_method_69_code
def yJ9_min_7cf53 : MethodName := ⟨RJ9, "min", "(II)I"⟩
def RJ10 : String := "java/lang/System"
def TJ10 : u_T := fun k => match k with
  | _ => ("", "", "", false)
def tyJ10 : Nat → FieldType := fun k => match k with
  | _ => .int
abbrev wsJ100 : List Cond := u_ws RJ10 TJ10 0
theorem nmJ10 : ∀ a, a < 0 → ∀ b, b < 0 → a ≠ b → (TJ10 a).2.1 ≠ (TJ10 b).2.1 := by decide +kernel
theorem tyJ10_ok : ∀ k, k < 0 → parseFieldDescriptor (TJ10 k).2.2.1 = some (tyJ10 k) := by decide +kernel
def RJ7 : String := "java/util/Arrays"
def TJ7 : u_T := fun k => match k with
  | _ => ("", "", "", false)
def tyJ7 : Nat → FieldType := fun k => match k with
  | _ => .int
abbrev wsJ70 : List Cond := u_ws RJ7 TJ7 0
theorem nmJ7 : ∀ a, a < 0 → ∀ b, b < 0 → a ≠ b → (TJ7 a).2.1 ≠ (TJ7 b).2.1 := by decide +kernel
theorem tyJ7_ok : ∀ k, k < 0 → parseFieldDescriptor (TJ7 k).2.2.1 = some (tyJ7 k) := by decide +kernel
abbrev cJ7_fill_d0a16 : ByteArray := prog_8_method_101_code
def yJ7_fill_d0a16 : MethodName := ⟨RJ7, "fill", "([JJ)V"⟩
def RL : String := "WildCardsLaw"
abbrev cL_law : ByteArray := code
def yL_law : MethodName := ⟨RL, "law", "([I)Z"⟩
def wsX0_init : List Cond := .code yX0_init cX0_init 4 none :: ([.methodLink RX0 3 objectInit, .instanceMethod objectInit, .code objectInit ⟨#[0xb1]⟩ 1 none, .fieldLink RX0 9 "WildCards$Reader" "bytes" "[I", .fieldLink RX0 15 "WildCards$Reader" "length" "I", .fieldLink RX0 19 "WildCards$Reader" "things" "LWildCards$Things;"] ++ wsX00)
def wsX0_byteAt : List Cond := .code yX0_byteAt cX0_byteAt 2 (some .int) :: ([.fieldLink RX0 15 "WildCards$Reader" "length" "I", .fieldLink RX0 9 "WildCards$Reader" "bytes" "[I"] ++ wsX00)
def wsX1_bitOf : List Cond := .code yX1_bitOf cX1_bitOf 1 (some .long) :: ([])
def wsX1_addLoop : List Cond := .code yX1_addLoop cX1_addLoop 1 none :: ([.fieldLink RX1 15 "WildCards$Things" "loops" "[J", .fieldLink RX1 27 "WildCards$Things" "count" "I", .methodLink RX1 31 yX1_bitOf, .static yX1_bitOf, .initialized RX1, .code yX1_bitOf cX1_bitOf 1 (some .long)] ++ wsX10)
def wsX1_tell : List Cond := .code yX1_tell cX1_tell 8 none :: ([.methodLink RX1 35 Lib.Math.max.name, .static Lib.Math.max.name, .initialized "java/lang/Math", .code Lib.Math.max.name Lib.Math.max.code 2 (some .int), .methodLink RX1 41 Lib.Math.min.name, .static Lib.Math.min.name, .code Lib.Math.min.name Lib.Math.min.code 2 (some .int), .fieldLink RX1 27 "WildCards$Things" "count" "I", .fieldLink RX1 11 "WildCards$Things" "takers" "[J", .constantLong RX1 44 (-1), .methodLink RX1 31 yX1_bitOf, .static yX1_bitOf, .initialized RX1, .code yX1_bitOf cX1_bitOf 1 (some .long)] ++ wsX10)
def wsX0_bracketsEndAt : List Cond := .code yX0_bracketsEndAt cX0_bracketsEndAt 3 (some .boolean) :: ([.methodLink RX0 29 yX0_byteAt, .instanceMethod yX0_byteAt, .selects RX0 yX0_byteAt yX0_byteAt, .initialized RX0, .code yX0_byteAt cX0_byteAt 2 (some .int), .fieldLink RX0 15 "WildCards$Reader" "length" "I", .fieldLink RX0 9 "WildCards$Reader" "bytes" "[I"] ++ wsX00)
def wsX0_readByte : List Cond := .code yX0_readByte cX0_readByte 2 (some .int) :: ([.fieldLink RX0 23 "WildCards$Reader" "at" "I", .fieldLink RX0 15 "WildCards$Reader" "length" "I", .methodLink RX0 29 yX0_byteAt, .instanceMethod yX0_byteAt, .selects RX0 yX0_byteAt yX0_byteAt, .initialized RX0, .code yX0_byteAt cX0_byteAt 2 (some .int), .fieldLink RX0 9 "WildCards$Reader" "bytes" "[I"] ++ wsX00)
def wsX0_readTold_r1 : List Cond := [Cond.fieldLink RX0 23 "WildCards$Reader" "at" "I", Cond.fieldLink RX0 19 "WildCards$Reader" "things" "LWildCards$Things;", Cond.methodLink RX0 45 yX0_readByte, Cond.instanceMethod yX0_readByte, Cond.selects RX0 yX0_readByte yX0_readByte, Cond.initialized RX0, Cond.code yX0_readByte cX0_readByte 2 (some .int), Cond.fieldLink RX0 15 "WildCards$Reader" "length" "I", Cond.methodLink RX0 29 yX0_byteAt, Cond.instanceMethod yX0_byteAt, Cond.selects RX0 yX0_byteAt yX0_byteAt, Cond.code yX0_byteAt cX0_byteAt 2 (some .int), Cond.fieldLink RX0 9 "WildCards$Reader" "bytes" "[I", Cond.methodLink RX0 52 yX0_bracketsEndAt, Cond.instanceMethod yX0_bracketsEndAt, Cond.selects RX0 yX0_bracketsEndAt yX0_bracketsEndAt, Cond.code yX0_bracketsEndAt cX0_bracketsEndAt 3 (some .boolean), Cond.methodLink RX0 38 yX1_tell, Cond.instanceMethod yX1_tell, Cond.selects RX1 yX1_tell yX1_tell, Cond.initialized RX1, Cond.code yX1_tell cX1_tell 8 none, Cond.methodLink RX1 35 Lib.Math.max.name, Cond.static Lib.Math.max.name]
def wsX0_readTold_r2 : List Cond := [Cond.initialized "java/lang/Math", Cond.code Lib.Math.max.name Lib.Math.max.code 2 (some .int), Cond.methodLink RX1 41 Lib.Math.min.name, Cond.static Lib.Math.min.name, Cond.code Lib.Math.min.name Lib.Math.min.code 2 (some .int), Cond.fieldLink RX1 27 "WildCards$Things" "count" "I", Cond.fieldLink RX1 11 "WildCards$Things" "takers" "[J", Cond.constantLong RX1 44 (-1), Cond.methodLink RX1 31 yX1_bitOf, Cond.static yX1_bitOf, Cond.code yX1_bitOf cX1_bitOf 1 (some .long)]
def wsX0_readTold : List Cond := .code yX0_readTold cX0_readTold 4 none :: ((wsX0_readTold_r1 ++ wsX0_readTold_r2) ++ wsX00 ++ wsX10)
def wsX0_readBrackets_r1 : List Cond := [Cond.fieldLink RX0 23 "WildCards$Reader" "at" "I", Cond.fieldLink RX0 19 "WildCards$Reader" "things" "LWildCards$Things;", Cond.fieldLink RX0 15 "WildCards$Reader" "length" "I", Cond.methodLink RX0 29 yX0_byteAt, Cond.instanceMethod yX0_byteAt, Cond.selects RX0 yX0_byteAt yX0_byteAt, Cond.initialized RX0, Cond.code yX0_byteAt cX0_byteAt 2 (some .int), Cond.fieldLink RX0 9 "WildCards$Reader" "bytes" "[I", Cond.methodLink RX0 38 yX1_tell, Cond.instanceMethod yX1_tell, Cond.selects RX1 yX1_tell yX1_tell, Cond.initialized RX1, Cond.code yX1_tell cX1_tell 8 none, Cond.methodLink RX1 35 Lib.Math.max.name, Cond.static Lib.Math.max.name, Cond.initialized "java/lang/Math", Cond.code Lib.Math.max.name Lib.Math.max.code 2 (some .int), Cond.methodLink RX1 41 Lib.Math.min.name, Cond.static Lib.Math.min.name, Cond.code Lib.Math.min.name Lib.Math.min.code 2 (some .int), Cond.fieldLink RX1 27 "WildCards$Things" "count" "I", Cond.fieldLink RX1 11 "WildCards$Things" "takers" "[J", Cond.constantLong RX1 44 (-1)]
def wsX0_readBrackets_r2 : List Cond := [Cond.methodLink RX1 31 yX1_bitOf, Cond.static yX1_bitOf, Cond.code yX1_bitOf cX1_bitOf 1 (some .long), Cond.methodLink RX0 52 yX0_bracketsEndAt, Cond.instanceMethod yX0_bracketsEndAt, Cond.selects RX0 yX0_bracketsEndAt yX0_bracketsEndAt, Cond.code yX0_bracketsEndAt cX0_bracketsEndAt 3 (some .boolean), Cond.methodLink RX0 56 yX0_readTold, Cond.instanceMethod yX0_readTold, Cond.selects RX0 yX0_readTold yX0_readTold, Cond.code yX0_readTold cX0_readTold 4 none, Cond.methodLink RX0 45 yX0_readByte, Cond.instanceMethod yX0_readByte, Cond.selects RX0 yX0_readByte yX0_readByte, Cond.code yX0_readByte cX0_readByte 2 (some .int)]
def wsX0_readBrackets : List Cond := .code yX0_readBrackets cX0_readBrackets 3 none :: ((wsX0_readBrackets_r1 ++ wsX0_readBrackets_r2) ++ wsX00 ++ wsX10)
def wsX1_close : List Cond := .code yX1_close cX1_close 1 none :: ([.fieldLink RX1 27 "WildCards$Things" "count" "I"] ++ wsX10)
def wsX0_readThing_r1 : List Cond := [Cond.fieldLink RX0 23 "WildCards$Reader" "at" "I", Cond.fieldLink RX0 19 "WildCards$Reader" "things" "LWildCards$Things;", Cond.methodLink RX0 29 yX0_byteAt, Cond.instanceMethod yX0_byteAt, Cond.selects RX0 yX0_byteAt yX0_byteAt, Cond.initialized RX0, Cond.code yX0_byteAt cX0_byteAt 2 (some .int), Cond.fieldLink RX0 15 "WildCards$Reader" "length" "I", Cond.fieldLink RX0 9 "WildCards$Reader" "bytes" "[I", Cond.methodLink RX0 33 yX1_addLoop, Cond.instanceMethod yX1_addLoop, Cond.selects RX1 yX1_addLoop yX1_addLoop, Cond.initialized RX1, Cond.code yX1_addLoop cX1_addLoop 1 none, Cond.fieldLink RX1 15 "WildCards$Things" "loops" "[J", Cond.fieldLink RX1 27 "WildCards$Things" "count" "I", Cond.methodLink RX1 31 yX1_bitOf, Cond.static yX1_bitOf, Cond.code yX1_bitOf cX1_bitOf 1 (some .long), Cond.methodLink RX0 38 yX1_tell, Cond.instanceMethod yX1_tell, Cond.selects RX1 yX1_tell yX1_tell, Cond.code yX1_tell cX1_tell 8 none, Cond.methodLink RX1 35 Lib.Math.max.name]
def wsX0_readThing_r2 : List Cond := [Cond.static Lib.Math.max.name, Cond.initialized "java/lang/Math", Cond.code Lib.Math.max.name Lib.Math.max.code 2 (some .int), Cond.methodLink RX1 41 Lib.Math.min.name, Cond.static Lib.Math.min.name, Cond.code Lib.Math.min.name Lib.Math.min.code 2 (some .int), Cond.fieldLink RX1 11 "WildCards$Things" "takers" "[J", Cond.constantLong RX1 44 (-1), Cond.methodLink RX0 42 yX0_readBrackets, Cond.instanceMethod yX0_readBrackets, Cond.selects RX0 yX0_readBrackets yX0_readBrackets, Cond.code yX0_readBrackets cX0_readBrackets 3 none, Cond.methodLink RX0 52 yX0_bracketsEndAt, Cond.instanceMethod yX0_bracketsEndAt, Cond.selects RX0 yX0_bracketsEndAt yX0_bracketsEndAt, Cond.code yX0_bracketsEndAt cX0_bracketsEndAt 3 (some .boolean), Cond.methodLink RX0 56 yX0_readTold, Cond.instanceMethod yX0_readTold, Cond.selects RX0 yX0_readTold yX0_readTold, Cond.code yX0_readTold cX0_readTold 4 none, Cond.methodLink RX0 45 yX0_readByte, Cond.instanceMethod yX0_readByte, Cond.selects RX0 yX0_readByte yX0_readByte, Cond.code yX0_readByte cX0_readByte 2 (some .int)]
def wsX0_readThing_r3 : List Cond := [Cond.methodLink RX0 49 yX1_close, Cond.instanceMethod yX1_close, Cond.selects RX1 yX1_close yX1_close, Cond.code yX1_close cX1_close 1 none]
def wsX0_readThing : List Cond := .code yX0_readThing cX0_readThing 3 none :: ((wsX0_readThing_r1 ++ (wsX0_readThing_r2 ++ wsX0_readThing_r3)) ++ wsX00 ++ wsX10)
def wsX0_readAll_r1 : List Cond := [Cond.fieldLink RX0 15 "WildCards$Reader" "length" "I", Cond.fieldLink RX0 23 "WildCards$Reader" "at" "I", Cond.methodLink RX0 26 yX0_readThing, Cond.instanceMethod yX0_readThing, Cond.selects RX0 yX0_readThing yX0_readThing, Cond.initialized RX0, Cond.code yX0_readThing cX0_readThing 3 none, Cond.fieldLink RX0 19 "WildCards$Reader" "things" "LWildCards$Things;", Cond.methodLink RX0 29 yX0_byteAt, Cond.instanceMethod yX0_byteAt, Cond.selects RX0 yX0_byteAt yX0_byteAt, Cond.code yX0_byteAt cX0_byteAt 2 (some .int), Cond.fieldLink RX0 9 "WildCards$Reader" "bytes" "[I", Cond.methodLink RX0 33 yX1_addLoop, Cond.instanceMethod yX1_addLoop, Cond.selects RX1 yX1_addLoop yX1_addLoop, Cond.initialized RX1, Cond.code yX1_addLoop cX1_addLoop 1 none, Cond.fieldLink RX1 15 "WildCards$Things" "loops" "[J", Cond.fieldLink RX1 27 "WildCards$Things" "count" "I", Cond.methodLink RX1 31 yX1_bitOf, Cond.static yX1_bitOf, Cond.code yX1_bitOf cX1_bitOf 1 (some .long), Cond.methodLink RX0 38 yX1_tell]
def wsX0_readAll_r2 : List Cond := [Cond.instanceMethod yX1_tell, Cond.selects RX1 yX1_tell yX1_tell, Cond.code yX1_tell cX1_tell 8 none, Cond.methodLink RX1 35 Lib.Math.max.name, Cond.static Lib.Math.max.name, Cond.initialized "java/lang/Math", Cond.code Lib.Math.max.name Lib.Math.max.code 2 (some .int), Cond.methodLink RX1 41 Lib.Math.min.name, Cond.static Lib.Math.min.name, Cond.code Lib.Math.min.name Lib.Math.min.code 2 (some .int), Cond.fieldLink RX1 11 "WildCards$Things" "takers" "[J", Cond.constantLong RX1 44 (-1), Cond.methodLink RX0 42 yX0_readBrackets, Cond.instanceMethod yX0_readBrackets, Cond.selects RX0 yX0_readBrackets yX0_readBrackets, Cond.code yX0_readBrackets cX0_readBrackets 3 none, Cond.methodLink RX0 52 yX0_bracketsEndAt, Cond.instanceMethod yX0_bracketsEndAt, Cond.selects RX0 yX0_bracketsEndAt yX0_bracketsEndAt, Cond.code yX0_bracketsEndAt cX0_bracketsEndAt 3 (some .boolean), Cond.methodLink RX0 56 yX0_readTold, Cond.instanceMethod yX0_readTold, Cond.selects RX0 yX0_readTold yX0_readTold, Cond.code yX0_readTold cX0_readTold 4 none]
def wsX0_readAll_r3 : List Cond := [Cond.methodLink RX0 45 yX0_readByte, Cond.instanceMethod yX0_readByte, Cond.selects RX0 yX0_readByte yX0_readByte, Cond.code yX0_readByte cX0_readByte 2 (some .int), Cond.methodLink RX0 49 yX1_close, Cond.instanceMethod yX1_close, Cond.selects RX1 yX1_close yX1_close, Cond.code yX1_close cX1_close 1 none]
def wsX0_readAll : List Cond := .code yX0_readAll cX0_readAll 2 none :: ((wsX0_readAll_r1 ++ (wsX0_readAll_r2 ++ wsX0_readAll_r3)) ++ wsX00 ++ wsX10)
def wsX1_init : List Cond := .code yX1_init cX1_init 1 none :: ([.methodLink RX1 5 objectInit, .instanceMethod objectInit, .code objectInit ⟨#[0xb1]⟩ 1 none, .arrayClass .long, .fieldLink RX1 11 "WildCards$Things" "takers" "[J", .fieldLink RX1 15 "WildCards$Things" "loops" "[J", .fieldLink RX1 18 "WildCards$Things" "reached" "[J"] ++ wsX10)
def wsJ7_fill_d0a16 : List Cond := .code yJ7_fill_d0a16 cJ7_fill_d0a16 5 none :: ([])
def wsX1_clear : List Cond := .code yX1_clear cX1_clear 1 none :: ([.fieldLink RX1 11 "WildCards$Things" "takers" "[J", .fieldLink RX1 15 "WildCards$Things" "loops" "[J", .fieldLink RX1 27 "WildCards$Things" "count" "I", .methodLink RX1 21 yJ7_fill_d0a16, .static yJ7_fill_d0a16, .initialized RJ7, .code yJ7_fill_d0a16 cJ7_fill_d0a16 5 none] ++ wsX10)
def wsX1_start : List Cond := .code yX1_start cX1_start 1 none :: ([.fieldLink RX1 18 "WildCards$Things" "reached" "[J", .methodLink RX1 21 yJ7_fill_d0a16, .static yJ7_fill_d0a16, .initialized RJ7, .code yJ7_fill_d0a16 cJ7_fill_d0a16 5 none] ++ wsX10)
def wsX1_step : List Cond := .code yX1_step cX1_step 10 none :: ([.fieldLink RX1 18 "WildCards$Things" "reached" "[J", .fieldLink RX1 11 "WildCards$Things" "takers" "[J", .fieldLink RX1 15 "WildCards$Things" "loops" "[J"] ++ wsX10)
def wsX1_endIsReached : List Cond := .code yX1_endIsReached cX1_endIsReached 1 (some .boolean) :: ([.fieldLink RX1 18 "WildCards$Things" "reached" "[J", .fieldLink RX1 27 "WildCards$Things" "count" "I", .methodLink RX1 31 yX1_bitOf, .static yX1_bitOf, .initialized RX1, .code yX1_bitOf cX1_bitOf 1 (some .long)] ++ wsX10)
def wsX2_init : List Cond := .code yX2_init cX2_init 1 none :: ([.methodLink RX2 1 objectInit, .instanceMethod objectInit, .code objectInit ⟨#[0xb1]⟩ 1 none, .arrayClass .int, .fieldLink RX2 9 "WildCards" "tape" "[I", .fieldLink RX2 13 "WildCards" "letters" "[I", .classLink RX2 16 RX1, .instantiable RX1 4, .initialized RX1, .fieldLink RX2 19 "WildCards" "things" "LWildCards$Things;", .methodLink RX2 18 yX1_init, .instanceMethod yX1_init, .code yX1_init cX1_init 1 none, .methodLink RX1 5 objectInit, .arrayClass .long, .fieldLink RX1 11 "WildCards$Things" "takers" "[J", .fieldLink RX1 15 "WildCards$Things" "loops" "[J", .fieldLink RX1 18 "WildCards$Things" "reached" "[J"] ++ wsX20 ++ wsX10)
def wsX2_append : List Cond := .code yX2_append cX2_append 3 none :: ([.fieldLink RX2 9 "WildCards" "tape" "[I", .fieldLink RX2 23 "WildCards" "tapeLength" "I"] ++ wsX20)
def wsX2_feed : List Cond := .code yX2_feed cX2_feed 6 (some .boolean) :: ([.fieldLink RX2 23 "WildCards" "tapeLength" "I", .methodLink RX2 27 yX2_append, .instanceMethod yX2_append, .selects RX2 yX2_append yX2_append, .initialized RX2, .code yX2_append cX2_append 3 none, .fieldLink RX2 9 "WildCards" "tape" "[I"] ++ wsX20)
def wsX2_end : List Cond := .code yX2_end cX2_end 2 (some .boolean) :: ([.fieldLink RX2 23 "WildCards" "tapeLength" "I"] ++ wsX20)
def wsX2_pattern_r1 : List Cond := [Cond.fieldLink RX2 23 "WildCards" "tapeLength" "I", Cond.fieldLink RX2 19 "WildCards" "things" "LWildCards$Things;", Cond.classLink RX2 34 RX0, Cond.instantiable RX0 4, Cond.initialized RX0, Cond.fieldLink RX2 9 "WildCards" "tape" "[I", Cond.methodLink RX2 31 yX1_clear, Cond.instanceMethod yX1_clear, Cond.selects RX1 yX1_clear yX1_clear, Cond.initialized RX1, Cond.code yX1_clear cX1_clear 1 none, Cond.fieldLink RX1 11 "WildCards$Things" "takers" "[J", Cond.fieldLink RX1 15 "WildCards$Things" "loops" "[J", Cond.fieldLink RX1 27 "WildCards$Things" "count" "I", Cond.methodLink RX1 21 yJ7_fill_d0a16, Cond.static yJ7_fill_d0a16, Cond.initialized RJ7, Cond.code yJ7_fill_d0a16 cJ7_fill_d0a16 5 none, Cond.methodLink RX2 36 yX0_init, Cond.instanceMethod yX0_init, Cond.code yX0_init cX0_init 4 none, Cond.methodLink RX0 3 objectInit, Cond.instanceMethod objectInit, Cond.code objectInit ⟨#[0xb1]⟩ 1 none]
def wsX2_pattern_r2 : List Cond := [Cond.fieldLink RX0 9 "WildCards$Reader" "bytes" "[I", Cond.fieldLink RX0 15 "WildCards$Reader" "length" "I", Cond.fieldLink RX0 19 "WildCards$Reader" "things" "LWildCards$Things;", Cond.methodLink RX2 39 yX0_readAll, Cond.instanceMethod yX0_readAll, Cond.selects RX0 yX0_readAll yX0_readAll, Cond.code yX0_readAll cX0_readAll 2 none, Cond.fieldLink RX0 23 "WildCards$Reader" "at" "I", Cond.methodLink RX0 26 yX0_readThing, Cond.instanceMethod yX0_readThing, Cond.selects RX0 yX0_readThing yX0_readThing, Cond.code yX0_readThing cX0_readThing 3 none, Cond.methodLink RX0 29 yX0_byteAt, Cond.instanceMethod yX0_byteAt, Cond.selects RX0 yX0_byteAt yX0_byteAt, Cond.code yX0_byteAt cX0_byteAt 2 (some .int), Cond.methodLink RX0 33 yX1_addLoop, Cond.instanceMethod yX1_addLoop, Cond.selects RX1 yX1_addLoop yX1_addLoop, Cond.code yX1_addLoop cX1_addLoop 1 none, Cond.methodLink RX1 31 yX1_bitOf, Cond.static yX1_bitOf, Cond.code yX1_bitOf cX1_bitOf 1 (some .long), Cond.methodLink RX0 38 yX1_tell]
def wsX2_pattern_r3 : List Cond := [Cond.instanceMethod yX1_tell, Cond.selects RX1 yX1_tell yX1_tell, Cond.code yX1_tell cX1_tell 8 none, Cond.methodLink RX1 35 Lib.Math.max.name, Cond.static Lib.Math.max.name, Cond.initialized "java/lang/Math", Cond.code Lib.Math.max.name Lib.Math.max.code 2 (some .int), Cond.methodLink RX1 41 Lib.Math.min.name, Cond.static Lib.Math.min.name, Cond.code Lib.Math.min.name Lib.Math.min.code 2 (some .int), Cond.constantLong RX1 44 (-1), Cond.methodLink RX0 42 yX0_readBrackets, Cond.instanceMethod yX0_readBrackets, Cond.selects RX0 yX0_readBrackets yX0_readBrackets, Cond.code yX0_readBrackets cX0_readBrackets 3 none, Cond.methodLink RX0 52 yX0_bracketsEndAt, Cond.instanceMethod yX0_bracketsEndAt, Cond.selects RX0 yX0_bracketsEndAt yX0_bracketsEndAt, Cond.code yX0_bracketsEndAt cX0_bracketsEndAt 3 (some .boolean), Cond.methodLink RX0 56 yX0_readTold, Cond.instanceMethod yX0_readTold, Cond.selects RX0 yX0_readTold yX0_readTold, Cond.code yX0_readTold cX0_readTold 4 none, Cond.methodLink RX0 45 yX0_readByte]
def wsX2_pattern_r4 : List Cond := [Cond.instanceMethod yX0_readByte, Cond.selects RX0 yX0_readByte yX0_readByte, Cond.code yX0_readByte cX0_readByte 2 (some .int), Cond.methodLink RX0 49 yX1_close, Cond.instanceMethod yX1_close, Cond.selects RX1 yX1_close yX1_close, Cond.code yX1_close cX1_close 1 none]
def wsX2_pattern : List Cond := .code yX2_pattern cX2_pattern 2 (some .int) :: ((wsX2_pattern_r1 ++ (wsX2_pattern_r2 ++ (wsX2_pattern_r3 ++ wsX2_pattern_r4))) ++ wsX20 ++ wsX00 ++ wsX10)
def wsX2_word : List Cond := .code yX2_word cX2_word 2 (some .int) :: ([.fieldLink RX2 23 "WildCards" "tapeLength" "I", .fieldLink RX2 9 "WildCards" "tape" "[I", .fieldLink RX2 13 "WildCards" "letters" "[I", .methodLink RX2 42 arraycopyName, .native arraycopyName, .static arraycopyName, .initialized "java/lang/System", .fieldLink RX2 48 "WildCards" "letterCount" "I"] ++ wsX20)
def wsX2_lettersFit_r1 : List Cond := [Cond.fieldLink RX2 19 "WildCards" "things" "LWildCards$Things;", Cond.fieldLink RX2 13 "WildCards" "letters" "[I", Cond.methodLink RX2 55 yX1_start, Cond.instanceMethod yX1_start, Cond.selects RX1 yX1_start yX1_start, Cond.initialized RX1, Cond.code yX1_start cX1_start 1 none, Cond.fieldLink RX1 18 "WildCards$Things" "reached" "[J", Cond.methodLink RX1 21 yJ7_fill_d0a16, Cond.static yJ7_fill_d0a16, Cond.initialized RJ7, Cond.code yJ7_fill_d0a16 cJ7_fill_d0a16 5 none, Cond.methodLink RX2 62 yX1_step, Cond.instanceMethod yX1_step, Cond.selects RX1 yX1_step yX1_step, Cond.code yX1_step cX1_step 10 none, Cond.fieldLink RX1 11 "WildCards$Things" "takers" "[J", Cond.fieldLink RX1 15 "WildCards$Things" "loops" "[J", Cond.methodLink RX2 58 yX1_endIsReached, Cond.instanceMethod yX1_endIsReached, Cond.selects RX1 yX1_endIsReached yX1_endIsReached, Cond.code yX1_endIsReached cX1_endIsReached 1 (some .boolean), Cond.fieldLink RX1 27 "WildCards$Things" "count" "I", Cond.methodLink RX1 31 yX1_bitOf]
def wsX2_lettersFit_r2 : List Cond := [Cond.static yX1_bitOf, Cond.code yX1_bitOf cX1_bitOf 1 (some .long)]
def wsX2_lettersFit : List Cond := .code yX2_lettersFit cX2_lettersFit 4 (some .boolean) :: ((wsX2_lettersFit_r1 ++ wsX2_lettersFit_r2) ++ wsX20 ++ wsX10)
def wsX2_fits_r1 : List Cond := [Cond.fieldLink RX2 48 "WildCards" "letterCount" "I", Cond.methodLink RX2 51 yX2_lettersFit, Cond.instanceMethod yX2_lettersFit, Cond.selects RX2 yX2_lettersFit yX2_lettersFit, Cond.initialized RX2, Cond.code yX2_lettersFit cX2_lettersFit 4 (some .boolean), Cond.fieldLink RX2 19 "WildCards" "things" "LWildCards$Things;", Cond.fieldLink RX2 13 "WildCards" "letters" "[I", Cond.methodLink RX2 55 yX1_start, Cond.instanceMethod yX1_start, Cond.selects RX1 yX1_start yX1_start, Cond.initialized RX1, Cond.code yX1_start cX1_start 1 none, Cond.fieldLink RX1 18 "WildCards$Things" "reached" "[J", Cond.methodLink RX1 21 yJ7_fill_d0a16, Cond.static yJ7_fill_d0a16, Cond.initialized RJ7, Cond.code yJ7_fill_d0a16 cJ7_fill_d0a16 5 none, Cond.methodLink RX2 62 yX1_step, Cond.instanceMethod yX1_step, Cond.selects RX1 yX1_step yX1_step, Cond.code yX1_step cX1_step 10 none, Cond.fieldLink RX1 11 "WildCards$Things" "takers" "[J", Cond.fieldLink RX1 15 "WildCards$Things" "loops" "[J"]
def wsX2_fits_r2 : List Cond := [Cond.methodLink RX2 58 yX1_endIsReached, Cond.instanceMethod yX1_endIsReached, Cond.selects RX1 yX1_endIsReached yX1_endIsReached, Cond.code yX1_endIsReached cX1_endIsReached 1 (some .boolean), Cond.fieldLink RX1 27 "WildCards$Things" "count" "I", Cond.methodLink RX1 31 yX1_bitOf, Cond.static yX1_bitOf, Cond.code yX1_bitOf cX1_bitOf 1 (some .long)]
def wsX2_fits : List Cond := .code yX2_fits cX2_fits 1 (some .boolean) :: ((wsX2_fits_r1 ++ wsX2_fits_r2) ++ wsX20 ++ wsX10)
def wsX2_fitsPart_r1 : List Cond := [Cond.fieldLink RX2 48 "WildCards" "letterCount" "I", Cond.methodLink RX2 51 yX2_lettersFit, Cond.instanceMethod yX2_lettersFit, Cond.selects RX2 yX2_lettersFit yX2_lettersFit, Cond.initialized RX2, Cond.code yX2_lettersFit cX2_lettersFit 4 (some .boolean), Cond.fieldLink RX2 19 "WildCards" "things" "LWildCards$Things;", Cond.fieldLink RX2 13 "WildCards" "letters" "[I", Cond.methodLink RX2 55 yX1_start, Cond.instanceMethod yX1_start, Cond.selects RX1 yX1_start yX1_start, Cond.initialized RX1, Cond.code yX1_start cX1_start 1 none, Cond.fieldLink RX1 18 "WildCards$Things" "reached" "[J", Cond.methodLink RX1 21 yJ7_fill_d0a16, Cond.static yJ7_fill_d0a16, Cond.initialized RJ7, Cond.code yJ7_fill_d0a16 cJ7_fill_d0a16 5 none, Cond.methodLink RX2 62 yX1_step, Cond.instanceMethod yX1_step, Cond.selects RX1 yX1_step yX1_step, Cond.code yX1_step cX1_step 10 none, Cond.fieldLink RX1 11 "WildCards$Things" "takers" "[J", Cond.fieldLink RX1 15 "WildCards$Things" "loops" "[J"]
def wsX2_fitsPart_r2 : List Cond := [Cond.methodLink RX2 58 yX1_endIsReached, Cond.instanceMethod yX1_endIsReached, Cond.selects RX1 yX1_endIsReached yX1_endIsReached, Cond.code yX1_endIsReached cX1_endIsReached 1 (some .boolean), Cond.fieldLink RX1 27 "WildCards$Things" "count" "I", Cond.methodLink RX1 31 yX1_bitOf, Cond.static yX1_bitOf, Cond.code yX1_bitOf cX1_bitOf 1 (some .long)]
def wsX2_fitsPart : List Cond := .code yX2_fitsPart cX2_fitsPart 3 (some .boolean) :: ((wsX2_fitsPart_r1 ++ wsX2_fitsPart_r2) ++ wsX20 ++ wsX10)
def wsX2_beginnings_r1 : List Cond := [Cond.fieldLink RX2 19 "WildCards" "things" "LWildCards$Things;", Cond.fieldLink RX2 48 "WildCards" "letterCount" "I", Cond.fieldLink RX2 13 "WildCards" "letters" "[I", Cond.methodLink RX2 55 yX1_start, Cond.instanceMethod yX1_start, Cond.selects RX1 yX1_start yX1_start, Cond.initialized RX1, Cond.code yX1_start cX1_start 1 none, Cond.fieldLink RX1 18 "WildCards$Things" "reached" "[J", Cond.methodLink RX1 21 yJ7_fill_d0a16, Cond.static yJ7_fill_d0a16, Cond.initialized RJ7, Cond.code yJ7_fill_d0a16 cJ7_fill_d0a16 5 none, Cond.methodLink RX2 58 yX1_endIsReached, Cond.instanceMethod yX1_endIsReached, Cond.selects RX1 yX1_endIsReached yX1_endIsReached, Cond.code yX1_endIsReached cX1_endIsReached 1 (some .boolean), Cond.fieldLink RX1 27 "WildCards$Things" "count" "I", Cond.methodLink RX1 31 yX1_bitOf, Cond.static yX1_bitOf, Cond.code yX1_bitOf cX1_bitOf 1 (some .long), Cond.methodLink RX2 62 yX1_step, Cond.instanceMethod yX1_step, Cond.selects RX1 yX1_step yX1_step]
def wsX2_beginnings_r2 : List Cond := [Cond.code yX1_step cX1_step 10 none, Cond.fieldLink RX1 11 "WildCards$Things" "takers" "[J", Cond.fieldLink RX1 15 "WildCards$Things" "loops" "[J"]
def wsX2_beginnings : List Cond := .code yX2_beginnings cX2_beginnings 3 (some .int) :: ((wsX2_beginnings_r1 ++ wsX2_beginnings_r2) ++ wsX20 ++ wsX10)
def wsX3_init : List Cond := .code yX3_init cX3_init 1 none :: ([.methodLink RX3 1 objectInit, .instanceMethod objectInit, .code objectInit ⟨#[0xb1]⟩ 1 none, .arrayClass .int, .fieldLink RX3 7 "WildCardsModel" "tape" "[I", .fieldLink RX3 13 "WildCardsModel" "pattern" "[I", .fieldLink RX3 16 "WildCardsModel" "word" "[I", .arrayClass .boolean, .fieldLink RX3 19 "WildCardsModel" "fit" "[Z"] ++ wsX30)
def wsX3_put : List Cond := .code yX3_put cX3_put 3 none :: ([.fieldLink RX3 7 "WildCardsModel" "tape" "[I", .fieldLink RX3 23 "WildCardsModel" "typed" "I"] ++ wsX30)
def wsX3_feed : List Cond := .code yX3_feed cX3_feed 6 (some .boolean) :: ([.fieldLink RX3 23 "WildCardsModel" "typed" "I", .methodLink RX3 27 yX3_put, .instanceMethod yX3_put, .selects RX3 yX3_put yX3_put, .initialized RX3, .code yX3_put cX3_put 3 none, .fieldLink RX3 7 "WildCardsModel" "tape" "[I"] ++ wsX30)
def wsX3_end : List Cond := .code yX3_end cX3_end 2 (some .boolean) :: ([.fieldLink RX3 23 "WildCardsModel" "typed" "I"] ++ wsX30)
def wsX3_pattern : List Cond := .code yX3_pattern cX3_pattern 2 (some .int) :: ([.fieldLink RX3 23 "WildCardsModel" "typed" "I", .fieldLink RX3 31 "WildCardsModel" "size" "I", .fieldLink RX3 13 "WildCardsModel" "pattern" "[I", .fieldLink RX3 7 "WildCardsModel" "tape" "[I"] ++ wsX30)
def wsX3_word : List Cond := .code yX3_word cX3_word 2 (some .int) :: ([.fieldLink RX3 23 "WildCardsModel" "typed" "I", .fieldLink RX3 34 "WildCardsModel" "length" "I", .fieldLink RX3 16 "WildCardsModel" "word" "[I", .fieldLink RX3 7 "WildCardsModel" "tape" "[I"] ++ wsX30)
def wsX3_fits : List Cond := .code yX3_fits cX3_fits 1 (some .boolean) :: ([.fieldLink RX3 34 "WildCardsModel" "length" "I", .fieldLink RX3 19 "WildCardsModel" "fit" "[Z"] ++ wsX30)
def wsJ9_max_7cf53 : List Cond := .code yJ9_max_7cf53 cJ9_max_7cf53 2 (some .int) :: ([])
def wsJ9_min_7cf53 : List Cond := .code yJ9_min_7cf53 cJ9_min_7cf53 2 (some .int) :: ([])
theorem dX0_init_0 : decode cX0_init 0 = .ok (.aload_n 0, 1) := by decide +kernel
theorem dX0_init_1 : decode cX0_init 1 = .ok (.invokespecial 3, 3) := by decide +kernel
theorem dX0_init_4 : decode cX0_init 4 = .ok (.aload_n 0, 1) := by decide +kernel
theorem dX0_init_5 : decode cX0_init 5 = .ok (.aload_n 1, 1) := by decide +kernel
theorem dX0_init_6 : decode cX0_init 6 = .ok (.putfield 9, 3) := by decide +kernel
theorem dX0_init_9 : decode cX0_init 9 = .ok (.aload_n 0, 1) := by decide +kernel
theorem dX0_init_10 : decode cX0_init 10 = .ok (.iload_n 2, 1) := by decide +kernel
theorem dX0_init_11 : decode cX0_init 11 = .ok (.putfield 15, 3) := by decide +kernel
theorem dX0_init_14 : decode cX0_init 14 = .ok (.aload_n 0, 1) := by decide +kernel
theorem dX0_init_15 : decode cX0_init 15 = .ok (.aload_n 3, 1) := by decide +kernel
theorem dX0_init_16 : decode cX0_init 16 = .ok (.putfield 19, 3) := by decide +kernel
theorem dX0_init_19 : decode cX0_init 19 = .ok (.return_, 1) := by decide +kernel
set_option maxRecDepth 20000 in
theorem ggX0_readAll_X0_readThing : GoodIn wsX0_readAll wsX0_readThing := goodIn_r _ [7, 2, 8, 9, 10, 11, 6, 12, 1, 13, 14, 15, 16, 17, 18, 19, 20, 21, 22, 23, 24, 25, 26, 27, 28, 29, 30, 31, 32, 33, 34, 35, 36, 37, 38, 39, 40, 41, 42, 43, 44, 45, 46, 47, 48, 49, 50, 51, 52, 53, 54, 55, 56, 57, 58, 59, 60, 61, 62, 63, 64] (by decide +kernel) (by decide +kernel)
set_option maxRecDepth 20000 in
theorem gX0_readAll_X0_readThing : GoodIn wsX0_readAll (wsV RX0 26 RX0 yX0_readThing wsX0_readThing) := goodIn_app (goodIn_of _ (by decide +kernel)) ggX0_readAll_X0_readThing
theorem dX0_readAll_0 : decode cX0_readAll 0 = .ok (.iconst 0, 1) := by decide +kernel
theorem dX0_readAll_1 : decode cX0_readAll 1 = .ok (.istore_n 1, 1) := by decide +kernel
theorem dX0_readAll_2 : decode cX0_readAll 2 = .ok (.iload_n 1, 1) := by decide +kernel
theorem dX0_readAll_3 : decode cX0_readAll 3 = .ok (.aload_n 0, 1) := by decide +kernel
theorem dX0_readAll_4 : decode cX0_readAll 4 = .ok (.getfield 15, 3) := by decide +kernel
theorem dX0_readAll_7 : decode cX0_readAll 7 = .ok (.if_icmp .ge 24, 3) := by decide +kernel
theorem dX0_readAll_10 : decode cX0_readAll 10 = .ok (.aload_n 0, 1) := by decide +kernel
theorem dX0_readAll_11 : decode cX0_readAll 11 = .ok (.getfield 23, 3) := by decide +kernel
theorem dX0_readAll_14 : decode cX0_readAll 14 = .ok (.aload_n 0, 1) := by decide +kernel
theorem dX0_readAll_15 : decode cX0_readAll 15 = .ok (.getfield 15, 3) := by decide +kernel
theorem dX0_readAll_18 : decode cX0_readAll 18 = .ok (.if_icmp .ge 13, 3) := by decide +kernel
theorem dX0_readAll_21 : decode cX0_readAll 21 = .ok (.aload_n 0, 1) := by decide +kernel
theorem dX0_readAll_22 : decode cX0_readAll 22 = .ok (.invokevirtual 26, 3) := by decide +kernel
theorem dX0_readAll_25 : decode cX0_readAll 25 = .ok (.iinc 1 1, 3) := by decide +kernel
theorem dX0_readAll_28 : decode cX0_readAll 28 = .ok (.goto (-26), 3) := by decide +kernel
theorem dX0_readAll_31 : decode cX0_readAll 31 = .ok (.return_, 1) := by decide +kernel
set_option maxRecDepth 20000 in
theorem ggX0_readThing_X0_byteAt : GoodIn wsX0_readThing wsX0_byteAt := goodIn_r _ [7, 8, 9, 53, 54, 55, 56] (by decide +kernel) (by decide +kernel)
set_option maxRecDepth 20000 in
theorem gX0_readThing_X0_byteAt : GoodIn wsX0_readThing (wsV RX0 29 RX0 yX0_byteAt wsX0_byteAt) := goodIn_app (goodIn_of _ (by decide +kernel)) ggX0_readThing_X0_byteAt
set_option maxRecDepth 20000 in
theorem ggX0_readThing_X1_addLoop : GoodIn wsX0_readThing wsX1_addLoop := goodIn_r _ [14, 15, 16, 17, 18, 13, 19, 57, 58, 59, 60] (by decide +kernel) (by decide +kernel)
set_option maxRecDepth 20000 in
theorem gX0_readThing_X1_addLoop : GoodIn wsX0_readThing (wsV RX0 33 RX1 yX1_addLoop wsX1_addLoop) := goodIn_app (goodIn_of _ (by decide +kernel)) ggX0_readThing_X1_addLoop
set_option maxRecDepth 20000 in
theorem ggX0_readThing_X1_tell : GoodIn wsX0_readThing wsX1_tell := goodIn_r _ [23, 24, 25, 26, 27, 28, 29, 30, 16, 31, 32, 17, 18, 13, 19, 57, 58, 59, 60] (by decide +kernel) (by decide +kernel)
set_option maxRecDepth 20000 in
theorem gX0_readThing_X1_tell : GoodIn wsX0_readThing (wsV RX0 38 RX1 yX1_tell wsX1_tell) := goodIn_app (goodIn_of _ (by decide +kernel)) ggX0_readThing_X1_tell
set_option maxRecDepth 20000 in
theorem ggX0_readThing_X0_readBrackets : GoodIn wsX0_readThing wsX0_readBrackets := goodIn_r _ [36, 1, 2, 8, 3, 4, 5, 6, 7, 9, 20, 21, 22, 13, 23, 24, 25, 26, 27, 28, 29, 30, 16, 31, 32, 17, 18, 19, 37, 38, 39, 40, 41, 42, 43, 44, 45, 46, 47, 48, 53, 54, 55, 56, 57, 58, 59, 60] (by decide +kernel) (by decide +kernel)
set_option maxRecDepth 20000 in
theorem gX0_readThing_X0_readBrackets : GoodIn wsX0_readThing (wsV RX0 42 RX0 yX0_readBrackets wsX0_readBrackets) := goodIn_app (goodIn_of _ (by decide +kernel)) ggX0_readThing_X0_readBrackets
set_option maxRecDepth 20000 in
theorem ggX0_readThing_X0_readByte : GoodIn wsX0_readThing wsX0_readByte := goodIn_r _ [48, 1, 8, 3, 4, 5, 6, 7, 9, 53, 54, 55, 56] (by decide +kernel) (by decide +kernel)
set_option maxRecDepth 20000 in
theorem gX0_readThing_X0_readByte : GoodIn wsX0_readThing (wsV RX0 45 RX0 yX0_readByte wsX0_readByte) := goodIn_app (goodIn_of _ (by decide +kernel)) ggX0_readThing_X0_readByte
set_option maxRecDepth 20000 in
theorem ggX0_readThing_X1_close : GoodIn wsX0_readThing wsX1_close := goodIn_r _ [52, 16, 57, 58, 59, 60] (by decide +kernel) (by decide +kernel)
set_option maxRecDepth 20000 in
theorem gX0_readThing_X1_close : GoodIn wsX0_readThing (wsV RX0 49 RX1 yX1_close wsX1_close) := goodIn_app (goodIn_of _ (by decide +kernel)) ggX0_readThing_X1_close
theorem dX0_readThing_0 : decode cX0_readThing 0 = .ok (.aload_n 0, 1) := by decide +kernel
theorem dX0_readThing_1 : decode cX0_readThing 1 = .ok (.aload_n 0, 1) := by decide +kernel
theorem dX0_readThing_2 : decode cX0_readThing 2 = .ok (.getfield 23, 3) := by decide +kernel
theorem dX0_readThing_5 : decode cX0_readThing 5 = .ok (.invokevirtual 29, 3) := by decide +kernel
theorem dX0_readThing_8 : decode cX0_readThing 8 = .ok (.istore_n 1, 1) := by decide +kernel
theorem dX0_readThing_9 : decode cX0_readThing 9 = .ok (.iload_n 1, 1) := by decide +kernel
theorem dX0_readThing_10 : decode cX0_readThing 10 = .ok (.bipush 42, 2) := by decide +kernel
theorem dX0_readThing_12 : decode cX0_readThing 12 = .ok (.if_icmp .ne 21, 3) := by decide +kernel
theorem dX0_readThing_15 : decode cX0_readThing 15 = .ok (.aload_n 0, 1) := by decide +kernel
theorem dX0_readThing_16 : decode cX0_readThing 16 = .ok (.dup, 1) := by decide +kernel
theorem dX0_readThing_17 : decode cX0_readThing 17 = .ok (.getfield 23, 3) := by decide +kernel
theorem dX0_readThing_20 : decode cX0_readThing 20 = .ok (.iconst 1, 1) := by decide +kernel
theorem dX0_readThing_21 : decode cX0_readThing 21 = .ok (.iadd, 1) := by decide +kernel
theorem dX0_readThing_22 : decode cX0_readThing 22 = .ok (.putfield 23, 3) := by decide +kernel
theorem dX0_readThing_25 : decode cX0_readThing 25 = .ok (.aload_n 0, 1) := by decide +kernel
theorem dX0_readThing_26 : decode cX0_readThing 26 = .ok (.getfield 19, 3) := by decide +kernel
theorem dX0_readThing_29 : decode cX0_readThing 29 = .ok (.invokevirtual 33, 3) := by decide +kernel
theorem dX0_readThing_32 : decode cX0_readThing 32 = .ok (.return_, 1) := by decide +kernel
theorem dX0_readThing_33 : decode cX0_readThing 33 = .ok (.iload_n 1, 1) := by decide +kernel
theorem dX0_readThing_34 : decode cX0_readThing 34 = .ok (.bipush 63, 2) := by decide +kernel
theorem dX0_readThing_36 : decode cX0_readThing 36 = .ok (.if_icmp .ne 28, 3) := by decide +kernel
theorem dX0_readThing_39 : decode cX0_readThing 39 = .ok (.aload_n 0, 1) := by decide +kernel
theorem dX0_readThing_40 : decode cX0_readThing 40 = .ok (.dup, 1) := by decide +kernel
theorem dX0_readThing_41 : decode cX0_readThing 41 = .ok (.getfield 23, 3) := by decide +kernel
theorem dX0_readThing_44 : decode cX0_readThing 44 = .ok (.iconst 1, 1) := by decide +kernel
theorem dX0_readThing_45 : decode cX0_readThing 45 = .ok (.iadd, 1) := by decide +kernel
theorem dX0_readThing_46 : decode cX0_readThing 46 = .ok (.putfield 23, 3) := by decide +kernel
theorem dX0_readThing_49 : decode cX0_readThing 49 = .ok (.aload_n 0, 1) := by decide +kernel
theorem dX0_readThing_50 : decode cX0_readThing 50 = .ok (.getfield 19, 3) := by decide +kernel
theorem dX0_readThing_53 : decode cX0_readThing 53 = .ok (.iconst 0, 1) := by decide +kernel
theorem dX0_readThing_54 : decode cX0_readThing 54 = .ok (.sipush 255, 3) := by decide +kernel
theorem dX0_readThing_57 : decode cX0_readThing 57 = .ok (.iconst 1, 1) := by decide +kernel
theorem dX0_readThing_58 : decode cX0_readThing 58 = .ok (.invokevirtual 38, 3) := by decide +kernel
theorem dX0_readThing_61 : decode cX0_readThing 61 = .ok (.goto 41, 3) := by decide +kernel
theorem dX0_readThing_64 : decode cX0_readThing 64 = .ok (.iload_n 1, 1) := by decide +kernel
theorem dX0_readThing_65 : decode cX0_readThing 65 = .ok (.bipush 91, 2) := by decide +kernel
theorem dX0_readThing_67 : decode cX0_readThing 67 = .ok (.if_icmp .ne 20, 3) := by decide +kernel
theorem dX0_readThing_70 : decode cX0_readThing 70 = .ok (.aload_n 0, 1) := by decide +kernel
theorem dX0_readThing_71 : decode cX0_readThing 71 = .ok (.dup, 1) := by decide +kernel
theorem dX0_readThing_72 : decode cX0_readThing 72 = .ok (.getfield 23, 3) := by decide +kernel
theorem dX0_readThing_75 : decode cX0_readThing 75 = .ok (.iconst 1, 1) := by decide +kernel
theorem dX0_readThing_76 : decode cX0_readThing 76 = .ok (.iadd, 1) := by decide +kernel
theorem dX0_readThing_77 : decode cX0_readThing 77 = .ok (.putfield 23, 3) := by decide +kernel
theorem dX0_readThing_80 : decode cX0_readThing 80 = .ok (.aload_n 0, 1) := by decide +kernel
theorem dX0_readThing_81 : decode cX0_readThing 81 = .ok (.invokevirtual 42, 3) := by decide +kernel
theorem dX0_readThing_84 : decode cX0_readThing 84 = .ok (.goto 18, 3) := by decide +kernel
theorem dX0_readThing_87 : decode cX0_readThing 87 = .ok (.aload_n 0, 1) := by decide +kernel
theorem dX0_readThing_88 : decode cX0_readThing 88 = .ok (.invokevirtual 45, 3) := by decide +kernel
theorem dX0_readThing_91 : decode cX0_readThing 91 = .ok (.istore_n 2, 1) := by decide +kernel
theorem dX0_readThing_92 : decode cX0_readThing 92 = .ok (.aload_n 0, 1) := by decide +kernel
theorem dX0_readThing_93 : decode cX0_readThing 93 = .ok (.getfield 19, 3) := by decide +kernel
theorem dX0_readThing_96 : decode cX0_readThing 96 = .ok (.iload_n 2, 1) := by decide +kernel
theorem dX0_readThing_97 : decode cX0_readThing 97 = .ok (.iload_n 2, 1) := by decide +kernel
theorem dX0_readThing_98 : decode cX0_readThing 98 = .ok (.iconst 1, 1) := by decide +kernel
theorem dX0_readThing_99 : decode cX0_readThing 99 = .ok (.invokevirtual 38, 3) := by decide +kernel
theorem dX0_readThing_102 : decode cX0_readThing 102 = .ok (.aload_n 0, 1) := by decide +kernel
theorem dX0_readThing_103 : decode cX0_readThing 103 = .ok (.getfield 19, 3) := by decide +kernel
theorem dX0_readThing_106 : decode cX0_readThing 106 = .ok (.invokevirtual 49, 3) := by decide +kernel
theorem dX0_readThing_109 : decode cX0_readThing 109 = .ok (.return_, 1) := by decide +kernel
set_option maxRecDepth 20000 in
theorem ggX0_readBrackets_X0_byteAt : GoodIn wsX0_readBrackets wsX0_byteAt := goodIn_r _ [8, 3, 9, 40, 41, 42, 43] (by decide +kernel) (by decide +kernel)
set_option maxRecDepth 20000 in
theorem gX0_readBrackets_X0_byteAt : GoodIn wsX0_readBrackets (wsV RX0 29 RX0 yX0_byteAt wsX0_byteAt) := goodIn_app (goodIn_of _ (by decide +kernel)) ggX0_readBrackets_X0_byteAt
set_option maxRecDepth 20000 in
theorem ggX0_readBrackets_X1_tell : GoodIn wsX0_readBrackets wsX1_tell := goodIn_r _ [14, 15, 16, 17, 18, 19, 20, 21, 22, 23, 24, 25, 26, 13, 27, 44, 45, 46, 47] (by decide +kernel) (by decide +kernel)
set_option maxRecDepth 20000 in
theorem gX0_readBrackets_X1_tell : GoodIn wsX0_readBrackets (wsV RX0 38 RX1 yX1_tell wsX1_tell) := goodIn_app (goodIn_of _ (by decide +kernel)) ggX0_readBrackets_X1_tell
set_option maxRecDepth 20000 in
theorem ggX0_readBrackets_X0_bracketsEndAt : GoodIn wsX0_readBrackets wsX0_bracketsEndAt := goodIn_r _ [31, 4, 5, 6, 7, 8, 3, 9, 40, 41, 42, 43] (by decide +kernel) (by decide +kernel)
set_option maxRecDepth 20000 in
theorem gX0_readBrackets_X0_bracketsEndAt : GoodIn wsX0_readBrackets (wsV RX0 52 RX0 yX0_bracketsEndAt wsX0_bracketsEndAt) := goodIn_app (goodIn_of _ (by decide +kernel)) ggX0_readBrackets_X0_bracketsEndAt
set_option maxRecDepth 20000 in
theorem ggX0_readBrackets_X0_readTold : GoodIn wsX0_readBrackets wsX0_readTold := goodIn_r _ [35, 1, 2, 36, 37, 38, 7, 39, 3, 4, 5, 6, 8, 9, 28, 29, 30, 31, 10, 11, 12, 13, 14, 15, 16, 17, 18, 19, 20, 21, 22, 23, 24, 25, 26, 27, 40, 41, 42, 43, 44, 45, 46, 47] (by decide +kernel) (by decide +kernel)
set_option maxRecDepth 20000 in
theorem gX0_readBrackets_X0_readTold : GoodIn wsX0_readBrackets (wsV RX0 56 RX0 yX0_readTold wsX0_readTold) := goodIn_app (goodIn_of _ (by decide +kernel)) ggX0_readBrackets_X0_readTold
theorem dX0_readBrackets_0 : decode cX0_readBrackets 0 = .ok (.aload_n 0, 1) := by decide +kernel
theorem dX0_readBrackets_1 : decode cX0_readBrackets 1 = .ok (.aload_n 0, 1) := by decide +kernel
theorem dX0_readBrackets_2 : decode cX0_readBrackets 2 = .ok (.getfield 23, 3) := by decide +kernel
theorem dX0_readBrackets_5 : decode cX0_readBrackets 5 = .ok (.invokevirtual 29, 3) := by decide +kernel
theorem dX0_readBrackets_8 : decode cX0_readBrackets 8 = .ok (.bipush 94, 2) := by decide +kernel
theorem dX0_readBrackets_10 : decode cX0_readBrackets 10 = .ok (.if_icmp .eq 7, 3) := by decide +kernel
theorem dX0_readBrackets_13 : decode cX0_readBrackets 13 = .ok (.iconst 1, 1) := by decide +kernel
theorem dX0_readBrackets_14 : decode cX0_readBrackets 14 = .ok (.goto 4, 3) := by decide +kernel
theorem dX0_readBrackets_17 : decode cX0_readBrackets 17 = .ok (.iconst 0, 1) := by decide +kernel
theorem dX0_readBrackets_18 : decode cX0_readBrackets 18 = .ok (.istore_n 1, 1) := by decide +kernel
theorem dX0_readBrackets_19 : decode cX0_readBrackets 19 = .ok (.iload_n 1, 1) := by decide +kernel
theorem dX0_readBrackets_20 : decode cX0_readBrackets 20 = .ok (.ifCond .ne 25, 3) := by decide +kernel
theorem dX0_readBrackets_23 : decode cX0_readBrackets 23 = .ok (.aload_n 0, 1) := by decide +kernel
theorem dX0_readBrackets_24 : decode cX0_readBrackets 24 = .ok (.dup, 1) := by decide +kernel
theorem dX0_readBrackets_25 : decode cX0_readBrackets 25 = .ok (.getfield 23, 3) := by decide +kernel
theorem dX0_readBrackets_28 : decode cX0_readBrackets 28 = .ok (.iconst 1, 1) := by decide +kernel
theorem dX0_readBrackets_29 : decode cX0_readBrackets 29 = .ok (.iadd, 1) := by decide +kernel
theorem dX0_readBrackets_30 : decode cX0_readBrackets 30 = .ok (.putfield 23, 3) := by decide +kernel
theorem dX0_readBrackets_33 : decode cX0_readBrackets 33 = .ok (.aload_n 0, 1) := by decide +kernel
theorem dX0_readBrackets_34 : decode cX0_readBrackets 34 = .ok (.getfield 19, 3) := by decide +kernel
theorem dX0_readBrackets_37 : decode cX0_readBrackets 37 = .ok (.iconst 0, 1) := by decide +kernel
theorem dX0_readBrackets_38 : decode cX0_readBrackets 38 = .ok (.sipush 255, 3) := by decide +kernel
theorem dX0_readBrackets_41 : decode cX0_readBrackets 41 = .ok (.iconst 1, 1) := by decide +kernel
theorem dX0_readBrackets_42 : decode cX0_readBrackets 42 = .ok (.invokevirtual 38, 3) := by decide +kernel
theorem dX0_readBrackets_45 : decode cX0_readBrackets 45 = .ok (.iconst 0, 1) := by decide +kernel
theorem dX0_readBrackets_46 : decode cX0_readBrackets 46 = .ok (.istore_n 2, 1) := by decide +kernel
theorem dX0_readBrackets_47 : decode cX0_readBrackets 47 = .ok (.iload_n 2, 1) := by decide +kernel
theorem dX0_readBrackets_48 : decode cX0_readBrackets 48 = .ok (.aload_n 0, 1) := by decide +kernel
theorem dX0_readBrackets_49 : decode cX0_readBrackets 49 = .ok (.getfield 15, 3) := by decide +kernel
theorem dX0_readBrackets_52 : decode cX0_readBrackets 52 = .ok (.if_icmp .ge 25, 3) := by decide +kernel
theorem dX0_readBrackets_55 : decode cX0_readBrackets 55 = .ok (.aload_n 0, 1) := by decide +kernel
theorem dX0_readBrackets_56 : decode cX0_readBrackets 56 = .ok (.aload_n 0, 1) := by decide +kernel
theorem dX0_readBrackets_57 : decode cX0_readBrackets 57 = .ok (.getfield 23, 3) := by decide +kernel
theorem dX0_readBrackets_60 : decode cX0_readBrackets 60 = .ok (.invokevirtual 52, 3) := by decide +kernel
theorem dX0_readBrackets_63 : decode cX0_readBrackets 63 = .ok (.ifCond .ne 14, 3) := by decide +kernel
theorem dX0_readBrackets_66 : decode cX0_readBrackets 66 = .ok (.aload_n 0, 1) := by decide +kernel
theorem dX0_readBrackets_67 : decode cX0_readBrackets 67 = .ok (.iload_n 1, 1) := by decide +kernel
theorem dX0_readBrackets_68 : decode cX0_readBrackets 68 = .ok (.invokevirtual 56, 3) := by decide +kernel
theorem dX0_readBrackets_71 : decode cX0_readBrackets 71 = .ok (.iinc 2 1, 3) := by decide +kernel
theorem dX0_readBrackets_74 : decode cX0_readBrackets 74 = .ok (.goto (-27), 3) := by decide +kernel
theorem dX0_readBrackets_77 : decode cX0_readBrackets 77 = .ok (.aload_n 0, 1) := by decide +kernel
theorem dX0_readBrackets_78 : decode cX0_readBrackets 78 = .ok (.dup, 1) := by decide +kernel
theorem dX0_readBrackets_79 : decode cX0_readBrackets 79 = .ok (.getfield 23, 3) := by decide +kernel
theorem dX0_readBrackets_82 : decode cX0_readBrackets 82 = .ok (.iconst 1, 1) := by decide +kernel
theorem dX0_readBrackets_83 : decode cX0_readBrackets 83 = .ok (.iadd, 1) := by decide +kernel
theorem dX0_readBrackets_84 : decode cX0_readBrackets 84 = .ok (.putfield 23, 3) := by decide +kernel
theorem dX0_readBrackets_87 : decode cX0_readBrackets 87 = .ok (.return_, 1) := by decide +kernel
set_option maxRecDepth 20000 in
theorem ggX0_readTold_X0_readByte : GoodIn wsX0_readTold wsX0_readByte := goodIn_r _ [7, 1, 8, 9, 10, 11, 6, 12, 13, 36, 37, 38, 39] (by decide +kernel) (by decide +kernel)
set_option maxRecDepth 20000 in
theorem gX0_readTold_X0_readByte : GoodIn wsX0_readTold (wsV RX0 45 RX0 yX0_readByte wsX0_readByte) := goodIn_app (goodIn_of _ (by decide +kernel)) ggX0_readTold_X0_readByte
set_option maxRecDepth 20000 in
theorem ggX0_readTold_X0_byteAt : GoodIn wsX0_readTold wsX0_byteAt := goodIn_r _ [12, 8, 13, 36, 37, 38, 39] (by decide +kernel) (by decide +kernel)
set_option maxRecDepth 20000 in
theorem gX0_readTold_X0_byteAt : GoodIn wsX0_readTold (wsV RX0 29 RX0 yX0_byteAt wsX0_byteAt) := goodIn_app (goodIn_of _ (by decide +kernel)) ggX0_readTold_X0_byteAt
set_option maxRecDepth 20000 in
theorem ggX0_readTold_X0_bracketsEndAt : GoodIn wsX0_readTold wsX0_bracketsEndAt := goodIn_r _ [17, 9, 10, 11, 6, 12, 8, 13, 36, 37, 38, 39] (by decide +kernel) (by decide +kernel)
set_option maxRecDepth 20000 in
theorem gX0_readTold_X0_bracketsEndAt : GoodIn wsX0_readTold (wsV RX0 52 RX0 yX0_bracketsEndAt wsX0_bracketsEndAt) := goodIn_app (goodIn_of _ (by decide +kernel)) ggX0_readTold_X0_bracketsEndAt
set_option maxRecDepth 20000 in
theorem ggX0_readTold_X1_tell : GoodIn wsX0_readTold wsX1_tell := goodIn_r _ [22, 23, 24, 25, 26, 27, 28, 29, 30, 31, 32, 33, 34, 21, 35, 40, 41, 42, 43] (by decide +kernel) (by decide +kernel)
set_option maxRecDepth 20000 in
theorem gX0_readTold_X1_tell : GoodIn wsX0_readTold (wsV RX0 38 RX1 yX1_tell wsX1_tell) := goodIn_app (goodIn_of _ (by decide +kernel)) ggX0_readTold_X1_tell
theorem dX0_readTold_0 : decode cX0_readTold 0 = .ok (.aload_n 0, 1) := by decide +kernel
theorem dX0_readTold_1 : decode cX0_readTold 1 = .ok (.invokevirtual 45, 3) := by decide +kernel
theorem dX0_readTold_4 : decode cX0_readTold 4 = .ok (.istore_n 2, 1) := by decide +kernel
theorem dX0_readTold_5 : decode cX0_readTold 5 = .ok (.iload_n 2, 1) := by decide +kernel
theorem dX0_readTold_6 : decode cX0_readTold 6 = .ok (.istore_n 3, 1) := by decide +kernel
theorem dX0_readTold_7 : decode cX0_readTold 7 = .ok (.aload_n 0, 1) := by decide +kernel
theorem dX0_readTold_8 : decode cX0_readTold 8 = .ok (.aload_n 0, 1) := by decide +kernel
theorem dX0_readTold_9 : decode cX0_readTold 9 = .ok (.getfield 23, 3) := by decide +kernel
theorem dX0_readTold_12 : decode cX0_readTold 12 = .ok (.invokevirtual 29, 3) := by decide +kernel
theorem dX0_readTold_15 : decode cX0_readTold 15 = .ok (.bipush 45, 2) := by decide +kernel
theorem dX0_readTold_17 : decode cX0_readTold 17 = .ok (.if_icmp .ne 31, 3) := by decide +kernel
theorem dX0_readTold_20 : decode cX0_readTold 20 = .ok (.aload_n 0, 1) := by decide +kernel
theorem dX0_readTold_21 : decode cX0_readTold 21 = .ok (.aload_n 0, 1) := by decide +kernel
theorem dX0_readTold_22 : decode cX0_readTold 22 = .ok (.getfield 23, 3) := by decide +kernel
theorem dX0_readTold_25 : decode cX0_readTold 25 = .ok (.iconst 1, 1) := by decide +kernel
theorem dX0_readTold_26 : decode cX0_readTold 26 = .ok (.iadd, 1) := by decide +kernel
theorem dX0_readTold_27 : decode cX0_readTold 27 = .ok (.invokevirtual 52, 3) := by decide +kernel
theorem dX0_readTold_30 : decode cX0_readTold 30 = .ok (.ifCond .ne 18, 3) := by decide +kernel
theorem dX0_readTold_33 : decode cX0_readTold 33 = .ok (.aload_n 0, 1) := by decide +kernel
theorem dX0_readTold_34 : decode cX0_readTold 34 = .ok (.dup, 1) := by decide +kernel
theorem dX0_readTold_35 : decode cX0_readTold 35 = .ok (.getfield 23, 3) := by decide +kernel
theorem dX0_readTold_38 : decode cX0_readTold 38 = .ok (.iconst 1, 1) := by decide +kernel
theorem dX0_readTold_39 : decode cX0_readTold 39 = .ok (.iadd, 1) := by decide +kernel
theorem dX0_readTold_40 : decode cX0_readTold 40 = .ok (.putfield 23, 3) := by decide +kernel
theorem dX0_readTold_43 : decode cX0_readTold 43 = .ok (.aload_n 0, 1) := by decide +kernel
theorem dX0_readTold_44 : decode cX0_readTold 44 = .ok (.invokevirtual 45, 3) := by decide +kernel
theorem dX0_readTold_47 : decode cX0_readTold 47 = .ok (.istore_n 3, 1) := by decide +kernel
theorem dX0_readTold_48 : decode cX0_readTold 48 = .ok (.aload_n 0, 1) := by decide +kernel
theorem dX0_readTold_49 : decode cX0_readTold 49 = .ok (.getfield 19, 3) := by decide +kernel
theorem dX0_readTold_52 : decode cX0_readTold 52 = .ok (.iload_n 2, 1) := by decide +kernel
theorem dX0_readTold_53 : decode cX0_readTold 53 = .ok (.iload_n 3, 1) := by decide +kernel
theorem dX0_readTold_54 : decode cX0_readTold 54 = .ok (.iload_n 1, 1) := by decide +kernel
theorem dX0_readTold_55 : decode cX0_readTold 55 = .ok (.invokevirtual 38, 3) := by decide +kernel
theorem dX0_readTold_58 : decode cX0_readTold 58 = .ok (.return_, 1) := by decide +kernel
set_option maxRecDepth 20000 in
theorem ggX0_bracketsEndAt_X0_byteAt : GoodIn wsX0_bracketsEndAt wsX0_byteAt := goodIn_r _ [5, 6, 7, 8, 9, 10, 11] (by decide +kernel) (by decide +kernel)
set_option maxRecDepth 20000 in
theorem gX0_bracketsEndAt_X0_byteAt : GoodIn wsX0_bracketsEndAt (wsV RX0 29 RX0 yX0_byteAt wsX0_byteAt) := goodIn_app (goodIn_of _ (by decide +kernel)) ggX0_bracketsEndAt_X0_byteAt
theorem dX0_bracketsEndAt_0 : decode cX0_bracketsEndAt 0 = .ok (.aload_n 0, 1) := by decide +kernel
theorem dX0_bracketsEndAt_1 : decode cX0_bracketsEndAt 1 = .ok (.iload_n 1, 1) := by decide +kernel
theorem dX0_bracketsEndAt_2 : decode cX0_bracketsEndAt 2 = .ok (.invokevirtual 29, 3) := by decide +kernel
theorem dX0_bracketsEndAt_5 : decode cX0_bracketsEndAt 5 = .ok (.istore_n 2, 1) := by decide +kernel
theorem dX0_bracketsEndAt_6 : decode cX0_bracketsEndAt 6 = .ok (.iload_n 2, 1) := by decide +kernel
theorem dX0_bracketsEndAt_7 : decode cX0_bracketsEndAt 7 = .ok (.bipush 93, 2) := by decide +kernel
theorem dX0_bracketsEndAt_9 : decode cX0_bracketsEndAt 9 = .ok (.if_icmp .eq 8, 3) := by decide +kernel
theorem dX0_bracketsEndAt_12 : decode cX0_bracketsEndAt 12 = .ok (.iload_n 2, 1) := by decide +kernel
theorem dX0_bracketsEndAt_13 : decode cX0_bracketsEndAt 13 = .ok (.iconst (-1), 1) := by decide +kernel
theorem dX0_bracketsEndAt_14 : decode cX0_bracketsEndAt 14 = .ok (.if_icmp .ne 7, 3) := by decide +kernel
theorem dX0_bracketsEndAt_17 : decode cX0_bracketsEndAt 17 = .ok (.iconst 1, 1) := by decide +kernel
theorem dX0_bracketsEndAt_18 : decode cX0_bracketsEndAt 18 = .ok (.goto 4, 3) := by decide +kernel
theorem dX0_bracketsEndAt_21 : decode cX0_bracketsEndAt 21 = .ok (.iconst 0, 1) := by decide +kernel
theorem dX0_bracketsEndAt_22 : decode cX0_bracketsEndAt 22 = .ok (.ireturn, 1) := by decide +kernel
set_option maxRecDepth 20000 in
theorem ggX0_readByte_X0_byteAt : GoodIn wsX0_readByte wsX0_byteAt := goodIn_r _ [7, 2, 8, 9, 10, 11, 12] (by decide +kernel) (by decide +kernel)
set_option maxRecDepth 20000 in
theorem gX0_readByte_X0_byteAt : GoodIn wsX0_readByte (wsV RX0 29 RX0 yX0_byteAt wsX0_byteAt) := goodIn_app (goodIn_of _ (by decide +kernel)) ggX0_readByte_X0_byteAt
theorem dX0_readByte_0 : decode cX0_readByte 0 = .ok (.aload_n 0, 1) := by decide +kernel
theorem dX0_readByte_1 : decode cX0_readByte 1 = .ok (.aload_n 0, 1) := by decide +kernel
theorem dX0_readByte_2 : decode cX0_readByte 2 = .ok (.getfield 23, 3) := by decide +kernel
theorem dX0_readByte_5 : decode cX0_readByte 5 = .ok (.invokevirtual 29, 3) := by decide +kernel
theorem dX0_readByte_8 : decode cX0_readByte 8 = .ok (.istore_n 1, 1) := by decide +kernel
theorem dX0_readByte_9 : decode cX0_readByte 9 = .ok (.aload_n 0, 1) := by decide +kernel
theorem dX0_readByte_10 : decode cX0_readByte 10 = .ok (.dup, 1) := by decide +kernel
theorem dX0_readByte_11 : decode cX0_readByte 11 = .ok (.getfield 23, 3) := by decide +kernel
theorem dX0_readByte_14 : decode cX0_readByte 14 = .ok (.iconst 1, 1) := by decide +kernel
theorem dX0_readByte_15 : decode cX0_readByte 15 = .ok (.iadd, 1) := by decide +kernel
theorem dX0_readByte_16 : decode cX0_readByte 16 = .ok (.putfield 23, 3) := by decide +kernel
theorem dX0_readByte_19 : decode cX0_readByte 19 = .ok (.iload_n 1, 1) := by decide +kernel
theorem dX0_readByte_20 : decode cX0_readByte 20 = .ok (.bipush 92, 2) := by decide +kernel
theorem dX0_readByte_22 : decode cX0_readByte 22 = .ok (.if_icmp .ne 33, 3) := by decide +kernel
theorem dX0_readByte_25 : decode cX0_readByte 25 = .ok (.aload_n 0, 1) := by decide +kernel
theorem dX0_readByte_26 : decode cX0_readByte 26 = .ok (.getfield 23, 3) := by decide +kernel
theorem dX0_readByte_29 : decode cX0_readByte 29 = .ok (.aload_n 0, 1) := by decide +kernel
theorem dX0_readByte_30 : decode cX0_readByte 30 = .ok (.getfield 15, 3) := by decide +kernel
theorem dX0_readByte_33 : decode cX0_readByte 33 = .ok (.if_icmp .ge 22, 3) := by decide +kernel
theorem dX0_readByte_36 : decode cX0_readByte 36 = .ok (.aload_n 0, 1) := by decide +kernel
theorem dX0_readByte_37 : decode cX0_readByte 37 = .ok (.aload_n 0, 1) := by decide +kernel
theorem dX0_readByte_38 : decode cX0_readByte 38 = .ok (.getfield 23, 3) := by decide +kernel
theorem dX0_readByte_41 : decode cX0_readByte 41 = .ok (.invokevirtual 29, 3) := by decide +kernel
theorem dX0_readByte_44 : decode cX0_readByte 44 = .ok (.istore_n 1, 1) := by decide +kernel
theorem dX0_readByte_45 : decode cX0_readByte 45 = .ok (.aload_n 0, 1) := by decide +kernel
theorem dX0_readByte_46 : decode cX0_readByte 46 = .ok (.dup, 1) := by decide +kernel
theorem dX0_readByte_47 : decode cX0_readByte 47 = .ok (.getfield 23, 3) := by decide +kernel
theorem dX0_readByte_50 : decode cX0_readByte 50 = .ok (.iconst 1, 1) := by decide +kernel
theorem dX0_readByte_51 : decode cX0_readByte 51 = .ok (.iadd, 1) := by decide +kernel
theorem dX0_readByte_52 : decode cX0_readByte 52 = .ok (.putfield 23, 3) := by decide +kernel
theorem dX0_readByte_55 : decode cX0_readByte 55 = .ok (.iload_n 1, 1) := by decide +kernel
theorem dX0_readByte_56 : decode cX0_readByte 56 = .ok (.ireturn, 1) := by decide +kernel
theorem dX0_byteAt_0 : decode cX0_byteAt 0 = .ok (.iload_n 1, 1) := by decide +kernel
theorem dX0_byteAt_1 : decode cX0_byteAt 1 = .ok (.ifCond .lt 20, 3) := by decide +kernel
theorem dX0_byteAt_4 : decode cX0_byteAt 4 = .ok (.iload_n 1, 1) := by decide +kernel
theorem dX0_byteAt_5 : decode cX0_byteAt 5 = .ok (.aload_n 0, 1) := by decide +kernel
theorem dX0_byteAt_6 : decode cX0_byteAt 6 = .ok (.getfield 15, 3) := by decide +kernel
theorem dX0_byteAt_9 : decode cX0_byteAt 9 = .ok (.if_icmp .ge 12, 3) := by decide +kernel
theorem dX0_byteAt_12 : decode cX0_byteAt 12 = .ok (.aload_n 0, 1) := by decide +kernel
theorem dX0_byteAt_13 : decode cX0_byteAt 13 = .ok (.getfield 9, 3) := by decide +kernel
theorem dX0_byteAt_16 : decode cX0_byteAt 16 = .ok (.iload_n 1, 1) := by decide +kernel
theorem dX0_byteAt_17 : decode cX0_byteAt 17 = .ok (.iaload, 1) := by decide +kernel
theorem dX0_byteAt_18 : decode cX0_byteAt 18 = .ok (.goto 4, 3) := by decide +kernel
theorem dX0_byteAt_21 : decode cX0_byteAt 21 = .ok (.iconst (-1), 1) := by decide +kernel
theorem dX0_byteAt_22 : decode cX0_byteAt 22 = .ok (.ireturn, 1) := by decide +kernel
theorem dX1_init_0 : decode cX1_init 0 = .ok (.aload_n 0, 1) := by decide +kernel
theorem dX1_init_1 : decode cX1_init 1 = .ok (.invokespecial 5, 3) := by decide +kernel
theorem dX1_init_4 : decode cX1_init 4 = .ok (.aload_n 0, 1) := by decide +kernel
theorem dX1_init_5 : decode cX1_init 5 = .ok (.sipush 1792, 3) := by decide +kernel
theorem dX1_init_8 : decode cX1_init 8 = .ok (.newarray .long, 2) := by decide +kernel
theorem dX1_init_10 : decode cX1_init 10 = .ok (.putfield 11, 3) := by decide +kernel
theorem dX1_init_13 : decode cX1_init 13 = .ok (.aload_n 0, 1) := by decide +kernel
theorem dX1_init_14 : decode cX1_init 14 = .ok (.bipush 7, 2) := by decide +kernel
theorem dX1_init_16 : decode cX1_init 16 = .ok (.newarray .long, 2) := by decide +kernel
theorem dX1_init_18 : decode cX1_init 18 = .ok (.putfield 15, 3) := by decide +kernel
theorem dX1_init_21 : decode cX1_init 21 = .ok (.aload_n 0, 1) := by decide +kernel
theorem dX1_init_22 : decode cX1_init 22 = .ok (.bipush 7, 2) := by decide +kernel
theorem dX1_init_24 : decode cX1_init 24 = .ok (.newarray .long, 2) := by decide +kernel
theorem dX1_init_26 : decode cX1_init 26 = .ok (.putfield 18, 3) := by decide +kernel
theorem dX1_init_29 : decode cX1_init 29 = .ok (.return_, 1) := by decide +kernel
set_option maxRecDepth 20000 in
theorem ggX1_clear_J7_fill_d0a16 : GoodIn wsX1_clear wsJ7_fill_d0a16 := goodIn_r _ [7] (by decide +kernel) (by decide +kernel)
set_option maxRecDepth 20000 in
theorem gX1_clear_J7_fill_d0a16 : GoodIn wsX1_clear (va_wsS RX1 21 yJ7_fill_d0a16 wsJ7_fill_d0a16) := goodIn_app (goodIn_of _ (by decide +kernel)) ggX1_clear_J7_fill_d0a16
theorem dX1_clear_0 : decode cX1_clear 0 = .ok (.aload_n 0, 1) := by decide +kernel
theorem dX1_clear_1 : decode cX1_clear 1 = .ok (.getfield 11, 3) := by decide +kernel
theorem dX1_clear_4 : decode cX1_clear 4 = .ok (.lconst 0, 1) := by decide +kernel
theorem dX1_clear_5 : decode cX1_clear 5 = .ok (.invokestatic 21, 3) := by decide +kernel
theorem dX1_clear_8 : decode cX1_clear 8 = .ok (.aload_n 0, 1) := by decide +kernel
theorem dX1_clear_9 : decode cX1_clear 9 = .ok (.getfield 15, 3) := by decide +kernel
theorem dX1_clear_12 : decode cX1_clear 12 = .ok (.lconst 0, 1) := by decide +kernel
theorem dX1_clear_13 : decode cX1_clear 13 = .ok (.invokestatic 21, 3) := by decide +kernel
theorem dX1_clear_16 : decode cX1_clear 16 = .ok (.aload_n 0, 1) := by decide +kernel
theorem dX1_clear_17 : decode cX1_clear 17 = .ok (.iconst 0, 1) := by decide +kernel
theorem dX1_clear_18 : decode cX1_clear 18 = .ok (.putfield 27, 3) := by decide +kernel
theorem dX1_clear_21 : decode cX1_clear 21 = .ok (.return_, 1) := by decide +kernel
set_option maxRecDepth 20000 in
theorem ggX1_addLoop_X1_bitOf : GoodIn wsX1_addLoop wsX1_bitOf := goodIn_r _ [6] (by decide +kernel) (by decide +kernel)
set_option maxRecDepth 20000 in
theorem gX1_addLoop_X1_bitOf : GoodIn wsX1_addLoop (va_wsS RX1 31 yX1_bitOf wsX1_bitOf) := goodIn_app (goodIn_of _ (by decide +kernel)) ggX1_addLoop_X1_bitOf
theorem dX1_addLoop_0 : decode cX1_addLoop 0 = .ok (.aload_n 0, 1) := by decide +kernel
theorem dX1_addLoop_1 : decode cX1_addLoop 1 = .ok (.getfield 15, 3) := by decide +kernel
theorem dX1_addLoop_4 : decode cX1_addLoop 4 = .ok (.aload_n 0, 1) := by decide +kernel
theorem dX1_addLoop_5 : decode cX1_addLoop 5 = .ok (.getfield 27, 3) := by decide +kernel
theorem dX1_addLoop_8 : decode cX1_addLoop 8 = .ok (.bipush 64, 2) := by decide +kernel
theorem dX1_addLoop_10 : decode cX1_addLoop 10 = .ok (.idiv, 1) := by decide +kernel
theorem dX1_addLoop_11 : decode cX1_addLoop 11 = .ok (.dup2, 1) := by decide +kernel
theorem dX1_addLoop_12 : decode cX1_addLoop 12 = .ok (.laload, 1) := by decide +kernel
theorem dX1_addLoop_13 : decode cX1_addLoop 13 = .ok (.aload_n 0, 1) := by decide +kernel
theorem dX1_addLoop_14 : decode cX1_addLoop 14 = .ok (.getfield 27, 3) := by decide +kernel
theorem dX1_addLoop_17 : decode cX1_addLoop 17 = .ok (.invokestatic 31, 3) := by decide +kernel
theorem dX1_addLoop_20 : decode cX1_addLoop 20 = .ok (.lor, 1) := by decide +kernel
theorem dX1_addLoop_21 : decode cX1_addLoop 21 = .ok (.lastore, 1) := by decide +kernel
theorem dX1_addLoop_22 : decode cX1_addLoop 22 = .ok (.return_, 1) := by decide +kernel
set_option maxRecDepth 20000 in
theorem ggX1_tell_X1_bitOf : GoodIn wsX1_tell wsX1_bitOf := goodIn_r _ [14] (by decide +kernel) (by decide +kernel)
set_option maxRecDepth 20000 in
theorem gX1_tell_X1_bitOf : GoodIn wsX1_tell (va_wsS RX1 31 yX1_bitOf wsX1_bitOf) := goodIn_app (goodIn_of _ (by decide +kernel)) ggX1_tell_X1_bitOf
theorem dX1_tell_0 : decode cX1_tell 0 = .ok (.iload_n 1, 1) := by decide +kernel
theorem dX1_tell_1 : decode cX1_tell 1 = .ok (.iconst 0, 1) := by decide +kernel
theorem dX1_tell_2 : decode cX1_tell 2 = .ok (.invokestatic 35, 3) := by decide +kernel
theorem dX1_tell_5 : decode cX1_tell 5 = .ok (.istore 4, 2) := by decide +kernel
theorem dX1_tell_7 : decode cX1_tell 7 = .ok (.iload_n 2, 1) := by decide +kernel
theorem dX1_tell_8 : decode cX1_tell 8 = .ok (.sipush 255, 3) := by decide +kernel
theorem dX1_tell_11 : decode cX1_tell 11 = .ok (.invokestatic 41, 3) := by decide +kernel
theorem dX1_tell_14 : decode cX1_tell 14 = .ok (.istore 5, 2) := by decide +kernel
theorem dX1_tell_16 : decode cX1_tell 16 = .ok (.iload 4, 2) := by decide +kernel
theorem dX1_tell_18 : decode cX1_tell 18 = .ok (.istore 6, 2) := by decide +kernel
theorem dX1_tell_20 : decode cX1_tell 20 = .ok (.iload 6, 2) := by decide +kernel
theorem dX1_tell_22 : decode cX1_tell 22 = .ok (.iload 5, 2) := by decide +kernel
theorem dX1_tell_24 : decode cX1_tell 24 = .ok (.if_icmp .gt 69, 3) := by decide +kernel
theorem dX1_tell_27 : decode cX1_tell 27 = .ok (.iload 6, 2) := by decide +kernel
theorem dX1_tell_29 : decode cX1_tell 29 = .ok (.bipush 7, 2) := by decide +kernel
theorem dX1_tell_31 : decode cX1_tell 31 = .ok (.imul, 1) := by decide +kernel
theorem dX1_tell_32 : decode cX1_tell 32 = .ok (.aload_n 0, 1) := by decide +kernel
theorem dX1_tell_33 : decode cX1_tell 33 = .ok (.getfield 27, 3) := by decide +kernel
theorem dX1_tell_36 : decode cX1_tell 36 = .ok (.bipush 64, 2) := by decide +kernel
theorem dX1_tell_38 : decode cX1_tell 38 = .ok (.idiv, 1) := by decide +kernel
theorem dX1_tell_39 : decode cX1_tell 39 = .ok (.iadd, 1) := by decide +kernel
theorem dX1_tell_40 : decode cX1_tell 40 = .ok (.istore 7, 2) := by decide +kernel
theorem dX1_tell_42 : decode cX1_tell 42 = .ok (.iload_n 3, 1) := by decide +kernel
theorem dX1_tell_43 : decode cX1_tell 43 = .ok (.ifCond .eq 23, 3) := by decide +kernel
theorem dX1_tell_46 : decode cX1_tell 46 = .ok (.aload_n 0, 1) := by decide +kernel
theorem dX1_tell_47 : decode cX1_tell 47 = .ok (.getfield 11, 3) := by decide +kernel
theorem dX1_tell_50 : decode cX1_tell 50 = .ok (.iload 7, 2) := by decide +kernel
theorem dX1_tell_52 : decode cX1_tell 52 = .ok (.dup2, 1) := by decide +kernel
theorem dX1_tell_53 : decode cX1_tell 53 = .ok (.laload, 1) := by decide +kernel
theorem dX1_tell_54 : decode cX1_tell 54 = .ok (.aload_n 0, 1) := by decide +kernel
theorem dX1_tell_55 : decode cX1_tell 55 = .ok (.getfield 27, 3) := by decide +kernel
theorem dX1_tell_58 : decode cX1_tell 58 = .ok (.invokestatic 31, 3) := by decide +kernel
theorem dX1_tell_61 : decode cX1_tell 61 = .ok (.lor, 1) := by decide +kernel
theorem dX1_tell_62 : decode cX1_tell 62 = .ok (.lastore, 1) := by decide +kernel
theorem dX1_tell_63 : decode cX1_tell 63 = .ok (.goto 24, 3) := by decide +kernel
theorem dX1_tell_66 : decode cX1_tell 66 = .ok (.aload_n 0, 1) := by decide +kernel
theorem dX1_tell_67 : decode cX1_tell 67 = .ok (.getfield 11, 3) := by decide +kernel
theorem dX1_tell_70 : decode cX1_tell 70 = .ok (.iload 7, 2) := by decide +kernel
theorem dX1_tell_72 : decode cX1_tell 72 = .ok (.dup2, 1) := by decide +kernel
theorem dX1_tell_73 : decode cX1_tell 73 = .ok (.laload, 1) := by decide +kernel
theorem dX1_tell_74 : decode cX1_tell 74 = .ok (.aload_n 0, 1) := by decide +kernel
theorem dX1_tell_75 : decode cX1_tell 75 = .ok (.getfield 27, 3) := by decide +kernel
theorem dX1_tell_78 : decode cX1_tell 78 = .ok (.invokestatic 31, 3) := by decide +kernel
theorem dX1_tell_81 : decode cX1_tell 81 = .ok (.ldc2_w 44, 3) := by decide +kernel
theorem dX1_tell_84 : decode cX1_tell 84 = .ok (.lxor, 1) := by decide +kernel
theorem dX1_tell_85 : decode cX1_tell 85 = .ok (.land, 1) := by decide +kernel
theorem dX1_tell_86 : decode cX1_tell 86 = .ok (.lastore, 1) := by decide +kernel
theorem dX1_tell_87 : decode cX1_tell 87 = .ok (.iinc 6 1, 3) := by decide +kernel
theorem dX1_tell_90 : decode cX1_tell 90 = .ok (.goto (-70), 3) := by decide +kernel
theorem dX1_tell_93 : decode cX1_tell 93 = .ok (.return_, 1) := by decide +kernel
theorem dX1_close_0 : decode cX1_close 0 = .ok (.aload_n 0, 1) := by decide +kernel
theorem dX1_close_1 : decode cX1_close 1 = .ok (.getfield 27, 3) := by decide +kernel
theorem dX1_close_4 : decode cX1_close 4 = .ok (.sipush 400, 3) := by decide +kernel
theorem dX1_close_7 : decode cX1_close 7 = .ok (.if_icmp .ge 13, 3) := by decide +kernel
theorem dX1_close_10 : decode cX1_close 10 = .ok (.aload_n 0, 1) := by decide +kernel
theorem dX1_close_11 : decode cX1_close 11 = .ok (.dup, 1) := by decide +kernel
theorem dX1_close_12 : decode cX1_close 12 = .ok (.getfield 27, 3) := by decide +kernel
theorem dX1_close_15 : decode cX1_close 15 = .ok (.iconst 1, 1) := by decide +kernel
theorem dX1_close_16 : decode cX1_close 16 = .ok (.iadd, 1) := by decide +kernel
theorem dX1_close_17 : decode cX1_close 17 = .ok (.putfield 27, 3) := by decide +kernel
theorem dX1_close_20 : decode cX1_close 20 = .ok (.return_, 1) := by decide +kernel
set_option maxRecDepth 20000 in
theorem ggX1_start_J7_fill_d0a16 : GoodIn wsX1_start wsJ7_fill_d0a16 := goodIn_r _ [5] (by decide +kernel) (by decide +kernel)
set_option maxRecDepth 20000 in
theorem gX1_start_J7_fill_d0a16 : GoodIn wsX1_start (va_wsS RX1 21 yJ7_fill_d0a16 wsJ7_fill_d0a16) := goodIn_app (goodIn_of _ (by decide +kernel)) ggX1_start_J7_fill_d0a16
theorem dX1_start_0 : decode cX1_start 0 = .ok (.aload_n 0, 1) := by decide +kernel
theorem dX1_start_1 : decode cX1_start 1 = .ok (.getfield 18, 3) := by decide +kernel
theorem dX1_start_4 : decode cX1_start 4 = .ok (.lconst 0, 1) := by decide +kernel
theorem dX1_start_5 : decode cX1_start 5 = .ok (.invokestatic 21, 3) := by decide +kernel
theorem dX1_start_8 : decode cX1_start 8 = .ok (.aload_n 0, 1) := by decide +kernel
theorem dX1_start_9 : decode cX1_start 9 = .ok (.getfield 18, 3) := by decide +kernel
theorem dX1_start_12 : decode cX1_start 12 = .ok (.iconst 0, 1) := by decide +kernel
theorem dX1_start_13 : decode cX1_start 13 = .ok (.lconst 1, 1) := by decide +kernel
theorem dX1_start_14 : decode cX1_start 14 = .ok (.lastore, 1) := by decide +kernel
theorem dX1_start_15 : decode cX1_start 15 = .ok (.return_, 1) := by decide +kernel
theorem dX1_step_0 : decode cX1_step 0 = .ok (.iload_n 1, 1) := by decide +kernel
theorem dX1_step_1 : decode cX1_step 1 = .ok (.sipush 255, 3) := by decide +kernel
theorem dX1_step_4 : decode cX1_step 4 = .ok (.iand, 1) := by decide +kernel
theorem dX1_step_5 : decode cX1_step 5 = .ok (.bipush 7, 2) := by decide +kernel
theorem dX1_step_7 : decode cX1_step 7 = .ok (.imul, 1) := by decide +kernel
theorem dX1_step_8 : decode cX1_step 8 = .ok (.istore_n 2, 1) := by decide +kernel
theorem dX1_step_9 : decode cX1_step 9 = .ok (.lconst 0, 1) := by decide +kernel
theorem dX1_step_10 : decode cX1_step 10 = .ok (.lstore_n 3, 1) := by decide +kernel
theorem dX1_step_11 : decode cX1_step 11 = .ok (.iconst 0, 1) := by decide +kernel
theorem dX1_step_12 : decode cX1_step 12 = .ok (.istore 5, 2) := by decide +kernel
theorem dX1_step_14 : decode cX1_step 14 = .ok (.iload 5, 2) := by decide +kernel
theorem dX1_step_16 : decode cX1_step 16 = .ok (.bipush 7, 2) := by decide +kernel
theorem dX1_step_18 : decode cX1_step 18 = .ok (.if_icmp .ge 67, 3) := by decide +kernel
theorem dX1_step_21 : decode cX1_step 21 = .ok (.aload_n 0, 1) := by decide +kernel
theorem dX1_step_22 : decode cX1_step 22 = .ok (.getfield 18, 3) := by decide +kernel
theorem dX1_step_25 : decode cX1_step 25 = .ok (.iload 5, 2) := by decide +kernel
theorem dX1_step_27 : decode cX1_step 27 = .ok (.laload, 1) := by decide +kernel
theorem dX1_step_28 : decode cX1_step 28 = .ok (.aload_n 0, 1) := by decide +kernel
theorem dX1_step_29 : decode cX1_step 29 = .ok (.getfield 11, 3) := by decide +kernel
theorem dX1_step_32 : decode cX1_step 32 = .ok (.iload_n 2, 1) := by decide +kernel
theorem dX1_step_33 : decode cX1_step 33 = .ok (.iload 5, 2) := by decide +kernel
theorem dX1_step_35 : decode cX1_step 35 = .ok (.iadd, 1) := by decide +kernel
theorem dX1_step_36 : decode cX1_step 36 = .ok (.laload, 1) := by decide +kernel
theorem dX1_step_37 : decode cX1_step 37 = .ok (.land, 1) := by decide +kernel
theorem dX1_step_38 : decode cX1_step 38 = .ok (.lstore 6, 2) := by decide +kernel
theorem dX1_step_40 : decode cX1_step 40 = .ok (.aload_n 0, 1) := by decide +kernel
theorem dX1_step_41 : decode cX1_step 41 = .ok (.getfield 18, 3) := by decide +kernel
theorem dX1_step_44 : decode cX1_step 44 = .ok (.iload 5, 2) := by decide +kernel
theorem dX1_step_46 : decode cX1_step 46 = .ok (.laload, 1) := by decide +kernel
theorem dX1_step_47 : decode cX1_step 47 = .ok (.aload_n 0, 1) := by decide +kernel
theorem dX1_step_48 : decode cX1_step 48 = .ok (.getfield 15, 3) := by decide +kernel
theorem dX1_step_51 : decode cX1_step 51 = .ok (.iload 5, 2) := by decide +kernel
theorem dX1_step_53 : decode cX1_step 53 = .ok (.laload, 1) := by decide +kernel
theorem dX1_step_54 : decode cX1_step 54 = .ok (.land, 1) := by decide +kernel
theorem dX1_step_55 : decode cX1_step 55 = .ok (.lstore 8, 2) := by decide +kernel
theorem dX1_step_57 : decode cX1_step 57 = .ok (.aload_n 0, 1) := by decide +kernel
theorem dX1_step_58 : decode cX1_step 58 = .ok (.getfield 18, 3) := by decide +kernel
theorem dX1_step_61 : decode cX1_step 61 = .ok (.iload 5, 2) := by decide +kernel
theorem dX1_step_63 : decode cX1_step 63 = .ok (.lload 6, 2) := by decide +kernel
theorem dX1_step_65 : decode cX1_step 65 = .ok (.iconst 1, 1) := by decide +kernel
theorem dX1_step_66 : decode cX1_step 66 = .ok (.lshl, 1) := by decide +kernel
theorem dX1_step_67 : decode cX1_step 67 = .ok (.lload_n 3, 1) := by decide +kernel
theorem dX1_step_68 : decode cX1_step 68 = .ok (.lor, 1) := by decide +kernel
theorem dX1_step_69 : decode cX1_step 69 = .ok (.lload 8, 2) := by decide +kernel
theorem dX1_step_71 : decode cX1_step 71 = .ok (.lor, 1) := by decide +kernel
theorem dX1_step_72 : decode cX1_step 72 = .ok (.lastore, 1) := by decide +kernel
theorem dX1_step_73 : decode cX1_step 73 = .ok (.lload 6, 2) := by decide +kernel
theorem dX1_step_75 : decode cX1_step 75 = .ok (.bipush 63, 2) := by decide +kernel
theorem dX1_step_77 : decode cX1_step 77 = .ok (.lushr, 1) := by decide +kernel
theorem dX1_step_78 : decode cX1_step 78 = .ok (.lstore_n 3, 1) := by decide +kernel
theorem dX1_step_79 : decode cX1_step 79 = .ok (.iinc 5 1, 3) := by decide +kernel
theorem dX1_step_82 : decode cX1_step 82 = .ok (.goto (-68), 3) := by decide +kernel
theorem dX1_step_85 : decode cX1_step 85 = .ok (.return_, 1) := by decide +kernel
set_option maxRecDepth 20000 in
theorem ggX1_endIsReached_X1_bitOf : GoodIn wsX1_endIsReached wsX1_bitOf := goodIn_r _ [6] (by decide +kernel) (by decide +kernel)
set_option maxRecDepth 20000 in
theorem gX1_endIsReached_X1_bitOf : GoodIn wsX1_endIsReached (va_wsS RX1 31 yX1_bitOf wsX1_bitOf) := goodIn_app (goodIn_of _ (by decide +kernel)) ggX1_endIsReached_X1_bitOf
theorem dX1_endIsReached_0 : decode cX1_endIsReached 0 = .ok (.aload_n 0, 1) := by decide +kernel
theorem dX1_endIsReached_1 : decode cX1_endIsReached 1 = .ok (.getfield 18, 3) := by decide +kernel
theorem dX1_endIsReached_4 : decode cX1_endIsReached 4 = .ok (.aload_n 0, 1) := by decide +kernel
theorem dX1_endIsReached_5 : decode cX1_endIsReached 5 = .ok (.getfield 27, 3) := by decide +kernel
theorem dX1_endIsReached_8 : decode cX1_endIsReached 8 = .ok (.bipush 64, 2) := by decide +kernel
theorem dX1_endIsReached_10 : decode cX1_endIsReached 10 = .ok (.idiv, 1) := by decide +kernel
theorem dX1_endIsReached_11 : decode cX1_endIsReached 11 = .ok (.laload, 1) := by decide +kernel
theorem dX1_endIsReached_12 : decode cX1_endIsReached 12 = .ok (.aload_n 0, 1) := by decide +kernel
theorem dX1_endIsReached_13 : decode cX1_endIsReached 13 = .ok (.getfield 27, 3) := by decide +kernel
theorem dX1_endIsReached_16 : decode cX1_endIsReached 16 = .ok (.invokestatic 31, 3) := by decide +kernel
theorem dX1_endIsReached_19 : decode cX1_endIsReached 19 = .ok (.land, 1) := by decide +kernel
theorem dX1_endIsReached_20 : decode cX1_endIsReached 20 = .ok (.lconst 0, 1) := by decide +kernel
theorem dX1_endIsReached_21 : decode cX1_endIsReached 21 = .ok (.lcmp, 1) := by decide +kernel
theorem dX1_endIsReached_22 : decode cX1_endIsReached 22 = .ok (.ifCond .eq 7, 3) := by decide +kernel
theorem dX1_endIsReached_25 : decode cX1_endIsReached 25 = .ok (.iconst 1, 1) := by decide +kernel
theorem dX1_endIsReached_26 : decode cX1_endIsReached 26 = .ok (.goto 4, 3) := by decide +kernel
theorem dX1_endIsReached_29 : decode cX1_endIsReached 29 = .ok (.iconst 0, 1) := by decide +kernel
theorem dX1_endIsReached_30 : decode cX1_endIsReached 30 = .ok (.ireturn, 1) := by decide +kernel
theorem dX1_bitOf_0 : decode cX1_bitOf 0 = .ok (.lconst 1, 1) := by decide +kernel
theorem dX1_bitOf_1 : decode cX1_bitOf 1 = .ok (.iload_n 0, 1) := by decide +kernel
theorem dX1_bitOf_2 : decode cX1_bitOf 2 = .ok (.bipush 64, 2) := by decide +kernel
theorem dX1_bitOf_4 : decode cX1_bitOf 4 = .ok (.irem, 1) := by decide +kernel
theorem dX1_bitOf_5 : decode cX1_bitOf 5 = .ok (.lshl, 1) := by decide +kernel
theorem dX1_bitOf_6 : decode cX1_bitOf 6 = .ok (.lreturn, 1) := by decide +kernel
set_option maxRecDepth 20000 in
theorem ggX2_init_X1_init : GoodIn wsX2_init wsX1_init := goodIn_r _ [13, 14, 2, 3, 15, 16, 17, 18, 24, 25, 26, 27] (by decide +kernel) (by decide +kernel)
set_option maxRecDepth 20000 in
theorem gX2_init_X1_init : GoodIn wsX2_init (wsX1_init) := ggX2_init_X1_init
theorem dX2_init_0 : decode cX2_init 0 = .ok (.aload_n 0, 1) := by decide +kernel
theorem dX2_init_1 : decode cX2_init 1 = .ok (.invokespecial 1, 3) := by decide +kernel
theorem dX2_init_4 : decode cX2_init 4 = .ok (.aload_n 0, 1) := by decide +kernel
theorem dX2_init_5 : decode cX2_init 5 = .ok (.sipush 400, 3) := by decide +kernel
theorem dX2_init_8 : decode cX2_init 8 = .ok (.newarray .int, 2) := by decide +kernel
theorem dX2_init_10 : decode cX2_init 10 = .ok (.putfield 9, 3) := by decide +kernel
theorem dX2_init_13 : decode cX2_init 13 = .ok (.aload_n 0, 1) := by decide +kernel
theorem dX2_init_14 : decode cX2_init 14 = .ok (.sipush 400, 3) := by decide +kernel
theorem dX2_init_17 : decode cX2_init 17 = .ok (.newarray .int, 2) := by decide +kernel
theorem dX2_init_19 : decode cX2_init 19 = .ok (.putfield 13, 3) := by decide +kernel
theorem dX2_init_22 : decode cX2_init 22 = .ok (.aload_n 0, 1) := by decide +kernel
theorem dX2_init_23 : decode cX2_init 23 = .ok (.new 16, 3) := by decide +kernel
theorem dX2_init_26 : decode cX2_init 26 = .ok (.dup, 1) := by decide +kernel
theorem dX2_init_27 : decode cX2_init 27 = .ok (.invokespecial 18, 3) := by decide +kernel
theorem dX2_init_30 : decode cX2_init 30 = .ok (.putfield 19, 3) := by decide +kernel
theorem dX2_init_33 : decode cX2_init 33 = .ok (.return_, 1) := by decide +kernel
set_option maxRecDepth 20000 in
theorem ggX2_feed_X2_append : GoodIn wsX2_feed wsX2_append := goodIn_r _ [6, 7, 1, 8, 9, 10, 11, 12] (by decide +kernel) (by decide +kernel)
set_option maxRecDepth 20000 in
theorem gX2_feed_X2_append : GoodIn wsX2_feed (wsV RX2 27 RX2 yX2_append wsX2_append) := goodIn_app (goodIn_of _ (by decide +kernel)) ggX2_feed_X2_append
theorem dX2_feed_0 : decode cX2_feed 0 = .ok (.aload_n 0, 1) := by decide +kernel
theorem dX2_feed_1 : decode cX2_feed 1 = .ok (.getfield 23, 3) := by decide +kernel
theorem dX2_feed_4 : decode cX2_feed 4 = .ok (.sipush 380, 3) := by decide +kernel
theorem dX2_feed_7 : decode cX2_feed 7 = .ok (.if_icmp .le 5, 3) := by decide +kernel
theorem dX2_feed_10 : decode cX2_feed 10 = .ok (.iconst 0, 1) := by decide +kernel
theorem dX2_feed_11 : decode cX2_feed 11 = .ok (.ireturn, 1) := by decide +kernel
theorem dX2_feed_12 : decode cX2_feed 12 = .ok (.aload_n 0, 1) := by decide +kernel
theorem dX2_feed_13 : decode cX2_feed 13 = .ok (.iload_n 1, 1) := by decide +kernel
theorem dX2_feed_14 : decode cX2_feed 14 = .ok (.invokevirtual 27, 3) := by decide +kernel
theorem dX2_feed_17 : decode cX2_feed 17 = .ok (.aload_n 0, 1) := by decide +kernel
theorem dX2_feed_18 : decode cX2_feed 18 = .ok (.iload_n 2, 1) := by decide +kernel
theorem dX2_feed_19 : decode cX2_feed 19 = .ok (.invokevirtual 27, 3) := by decide +kernel
theorem dX2_feed_22 : decode cX2_feed 22 = .ok (.aload_n 0, 1) := by decide +kernel
theorem dX2_feed_23 : decode cX2_feed 23 = .ok (.iload_n 3, 1) := by decide +kernel
theorem dX2_feed_24 : decode cX2_feed 24 = .ok (.invokevirtual 27, 3) := by decide +kernel
theorem dX2_feed_27 : decode cX2_feed 27 = .ok (.aload_n 0, 1) := by decide +kernel
theorem dX2_feed_28 : decode cX2_feed 28 = .ok (.iload 4, 2) := by decide +kernel
theorem dX2_feed_30 : decode cX2_feed 30 = .ok (.invokevirtual 27, 3) := by decide +kernel
theorem dX2_feed_33 : decode cX2_feed 33 = .ok (.aload_n 0, 1) := by decide +kernel
theorem dX2_feed_34 : decode cX2_feed 34 = .ok (.iload 5, 2) := by decide +kernel
theorem dX2_feed_36 : decode cX2_feed 36 = .ok (.invokevirtual 27, 3) := by decide +kernel
theorem dX2_feed_39 : decode cX2_feed 39 = .ok (.iconst 1, 1) := by decide +kernel
theorem dX2_feed_40 : decode cX2_feed 40 = .ok (.ireturn, 1) := by decide +kernel
theorem dX2_end_0 : decode cX2_end 0 = .ok (.iload_n 1, 1) := by decide +kernel
theorem dX2_end_1 : decode cX2_end 1 = .ok (.ifCond .lt 11, 3) := by decide +kernel
theorem dX2_end_4 : decode cX2_end 4 = .ok (.iload_n 1, 1) := by decide +kernel
theorem dX2_end_5 : decode cX2_end 5 = .ok (.aload_n 0, 1) := by decide +kernel
theorem dX2_end_6 : decode cX2_end 6 = .ok (.getfield 23, 3) := by decide +kernel
theorem dX2_end_9 : decode cX2_end 9 = .ok (.if_icmp .le 5, 3) := by decide +kernel
theorem dX2_end_12 : decode cX2_end 12 = .ok (.iconst 0, 1) := by decide +kernel
theorem dX2_end_13 : decode cX2_end 13 = .ok (.ireturn, 1) := by decide +kernel
theorem dX2_end_14 : decode cX2_end 14 = .ok (.aload_n 0, 1) := by decide +kernel
theorem dX2_end_15 : decode cX2_end 15 = .ok (.iload_n 1, 1) := by decide +kernel
theorem dX2_end_16 : decode cX2_end 16 = .ok (.putfield 23, 3) := by decide +kernel
theorem dX2_end_19 : decode cX2_end 19 = .ok (.iconst 1, 1) := by decide +kernel
theorem dX2_end_20 : decode cX2_end 20 = .ok (.ireturn, 1) := by decide +kernel
set_option maxRecDepth 20000 in
theorem ggX2_pattern_X1_clear : GoodIn wsX2_pattern wsX1_clear := goodIn_r _ [11, 12, 13, 14, 15, 16, 17, 18, 89, 90, 91, 92] (by decide +kernel) (by decide +kernel)
set_option maxRecDepth 20000 in
theorem gX2_pattern_X1_clear : GoodIn wsX2_pattern (wsV RX2 31 RX1 yX1_clear wsX1_clear) := goodIn_app (goodIn_of _ (by decide +kernel)) ggX2_pattern_X1_clear
set_option maxRecDepth 20000 in
theorem ggX2_pattern_X0_init : GoodIn wsX2_pattern wsX0_init := goodIn_r _ [21, 22, 23, 24, 25, 26, 27, 85, 86, 87, 88] (by decide +kernel) (by decide +kernel)
set_option maxRecDepth 20000 in
theorem gX2_pattern_X0_init : GoodIn wsX2_pattern (wsX0_init) := ggX2_pattern_X0_init
set_option maxRecDepth 20000 in
theorem ggX2_pattern_X0_readAll : GoodIn wsX2_pattern wsX0_readAll := goodIn_r _ [31, 26, 32, 33, 34, 35, 5, 36, 27, 37, 38, 39, 40, 25, 41, 42, 43, 10, 44, 13, 14, 45, 46, 47, 48, 49, 50, 51, 52, 53, 54, 55, 56, 57, 58, 12, 59, 60, 61, 62, 63, 64, 65, 66, 67, 68, 69, 70, 71, 72, 73, 74, 75, 76, 77, 78, 79, 85, 86, 87, 88, 89, 90, 91, 92] (by decide +kernel) (by decide +kernel)
set_option maxRecDepth 20000 in
theorem gX2_pattern_X0_readAll : GoodIn wsX2_pattern (wsV RX2 39 RX0 yX0_readAll wsX0_readAll) := goodIn_app (goodIn_of _ (by decide +kernel)) ggX2_pattern_X0_readAll
theorem dX2_pattern_0 : decode cX2_pattern 0 = .ok (.aload_n 0, 1) := by decide +kernel
theorem dX2_pattern_1 : decode cX2_pattern 1 = .ok (.getfield 23, 3) := by decide +kernel
theorem dX2_pattern_4 : decode cX2_pattern 4 = .ok (.istore_n 1, 1) := by decide +kernel
theorem dX2_pattern_5 : decode cX2_pattern 5 = .ok (.aload_n 0, 1) := by decide +kernel
theorem dX2_pattern_6 : decode cX2_pattern 6 = .ok (.getfield 19, 3) := by decide +kernel
theorem dX2_pattern_9 : decode cX2_pattern 9 = .ok (.invokevirtual 31, 3) := by decide +kernel
theorem dX2_pattern_12 : decode cX2_pattern 12 = .ok (.new 34, 3) := by decide +kernel
theorem dX2_pattern_15 : decode cX2_pattern 15 = .ok (.dup, 1) := by decide +kernel
theorem dX2_pattern_16 : decode cX2_pattern 16 = .ok (.aload_n 0, 1) := by decide +kernel
theorem dX2_pattern_17 : decode cX2_pattern 17 = .ok (.getfield 9, 3) := by decide +kernel
theorem dX2_pattern_20 : decode cX2_pattern 20 = .ok (.iload_n 1, 1) := by decide +kernel
theorem dX2_pattern_21 : decode cX2_pattern 21 = .ok (.aload_n 0, 1) := by decide +kernel
theorem dX2_pattern_22 : decode cX2_pattern 22 = .ok (.getfield 19, 3) := by decide +kernel
theorem dX2_pattern_25 : decode cX2_pattern 25 = .ok (.invokespecial 36, 3) := by decide +kernel
theorem dX2_pattern_28 : decode cX2_pattern 28 = .ok (.invokevirtual 39, 3) := by decide +kernel
theorem dX2_pattern_31 : decode cX2_pattern 31 = .ok (.aload_n 0, 1) := by decide +kernel
theorem dX2_pattern_32 : decode cX2_pattern 32 = .ok (.iconst 0, 1) := by decide +kernel
theorem dX2_pattern_33 : decode cX2_pattern 33 = .ok (.putfield 23, 3) := by decide +kernel
theorem dX2_pattern_36 : decode cX2_pattern 36 = .ok (.iload_n 1, 1) := by decide +kernel
theorem dX2_pattern_37 : decode cX2_pattern 37 = .ok (.ireturn, 1) := by decide +kernel
theorem dX2_word_0 : decode cX2_word 0 = .ok (.aload_n 0, 1) := by decide +kernel
theorem dX2_word_1 : decode cX2_word 1 = .ok (.getfield 23, 3) := by decide +kernel
theorem dX2_word_4 : decode cX2_word 4 = .ok (.istore_n 1, 1) := by decide +kernel
theorem dX2_word_5 : decode cX2_word 5 = .ok (.aload_n 0, 1) := by decide +kernel
theorem dX2_word_6 : decode cX2_word 6 = .ok (.getfield 9, 3) := by decide +kernel
theorem dX2_word_9 : decode cX2_word 9 = .ok (.iconst 0, 1) := by decide +kernel
theorem dX2_word_10 : decode cX2_word 10 = .ok (.aload_n 0, 1) := by decide +kernel
theorem dX2_word_11 : decode cX2_word 11 = .ok (.getfield 13, 3) := by decide +kernel
theorem dX2_word_14 : decode cX2_word 14 = .ok (.iconst 0, 1) := by decide +kernel
theorem dX2_word_15 : decode cX2_word 15 = .ok (.iload_n 1, 1) := by decide +kernel
theorem dX2_word_16 : decode cX2_word 16 = .ok (.invokestatic 42, 3) := by decide +kernel
theorem dX2_word_19 : decode cX2_word 19 = .ok (.aload_n 0, 1) := by decide +kernel
theorem dX2_word_20 : decode cX2_word 20 = .ok (.iload_n 1, 1) := by decide +kernel
theorem dX2_word_21 : decode cX2_word 21 = .ok (.putfield 48, 3) := by decide +kernel
theorem dX2_word_24 : decode cX2_word 24 = .ok (.aload_n 0, 1) := by decide +kernel
theorem dX2_word_25 : decode cX2_word 25 = .ok (.iconst 0, 1) := by decide +kernel
theorem dX2_word_26 : decode cX2_word 26 = .ok (.putfield 23, 3) := by decide +kernel
theorem dX2_word_29 : decode cX2_word 29 = .ok (.iload_n 1, 1) := by decide +kernel
theorem dX2_word_30 : decode cX2_word 30 = .ok (.ireturn, 1) := by decide +kernel
set_option maxRecDepth 20000 in
theorem ggX2_fits_X2_lettersFit : GoodIn wsX2_fits wsX2_lettersFit := goodIn_r _ [6, 7, 8, 9, 10, 11, 12, 13, 14, 15, 16, 17, 18, 19, 20, 21, 22, 23, 24, 25, 26, 27, 28, 29, 30, 31, 32, 33, 34, 35, 36, 37, 38, 39, 40, 41] (by decide +kernel) (by decide +kernel)
set_option maxRecDepth 20000 in
theorem gX2_fits_X2_lettersFit : GoodIn wsX2_fits (wsV RX2 51 RX2 yX2_lettersFit wsX2_lettersFit) := goodIn_app (goodIn_of _ (by decide +kernel)) ggX2_fits_X2_lettersFit
theorem dX2_fits_0 : decode cX2_fits 0 = .ok (.aload_n 0, 1) := by decide +kernel
theorem dX2_fits_1 : decode cX2_fits 1 = .ok (.iconst 0, 1) := by decide +kernel
theorem dX2_fits_2 : decode cX2_fits 2 = .ok (.aload_n 0, 1) := by decide +kernel
theorem dX2_fits_3 : decode cX2_fits 3 = .ok (.getfield 48, 3) := by decide +kernel
theorem dX2_fits_6 : decode cX2_fits 6 = .ok (.invokevirtual 51, 3) := by decide +kernel
theorem dX2_fits_9 : decode cX2_fits 9 = .ok (.ireturn, 1) := by decide +kernel
set_option maxRecDepth 20000 in
theorem ggX2_fitsPart_X2_lettersFit : GoodIn wsX2_fitsPart wsX2_lettersFit := goodIn_r _ [6, 7, 8, 9, 10, 11, 12, 13, 14, 15, 16, 17, 18, 19, 20, 21, 22, 23, 24, 25, 26, 27, 28, 29, 30, 31, 32, 33, 34, 35, 36, 37, 38, 39, 40, 41] (by decide +kernel) (by decide +kernel)
set_option maxRecDepth 20000 in
theorem gX2_fitsPart_X2_lettersFit : GoodIn wsX2_fitsPart (wsV RX2 51 RX2 yX2_lettersFit wsX2_lettersFit) := goodIn_app (goodIn_of _ (by decide +kernel)) ggX2_fitsPart_X2_lettersFit
theorem dX2_fitsPart_0 : decode cX2_fitsPart 0 = .ok (.iload_n 1, 1) := by decide +kernel
theorem dX2_fitsPart_1 : decode cX2_fitsPart 1 = .ok (.ifCond .lt 17, 3) := by decide +kernel
theorem dX2_fitsPart_4 : decode cX2_fitsPart 4 = .ok (.iload_n 2, 1) := by decide +kernel
theorem dX2_fitsPart_5 : decode cX2_fitsPart 5 = .ok (.ifCond .lt 13, 3) := by decide +kernel
theorem dX2_fitsPart_8 : decode cX2_fitsPart 8 = .ok (.iload_n 2, 1) := by decide +kernel
theorem dX2_fitsPart_9 : decode cX2_fitsPart 9 = .ok (.aload_n 0, 1) := by decide +kernel
theorem dX2_fitsPart_10 : decode cX2_fitsPart 10 = .ok (.getfield 48, 3) := by decide +kernel
theorem dX2_fitsPart_13 : decode cX2_fitsPart 13 = .ok (.iload_n 1, 1) := by decide +kernel
theorem dX2_fitsPart_14 : decode cX2_fitsPart 14 = .ok (.isub, 1) := by decide +kernel
theorem dX2_fitsPart_15 : decode cX2_fitsPart 15 = .ok (.if_icmp .le 5, 3) := by decide +kernel
theorem dX2_fitsPart_18 : decode cX2_fitsPart 18 = .ok (.iconst 0, 1) := by decide +kernel
theorem dX2_fitsPart_19 : decode cX2_fitsPart 19 = .ok (.ireturn, 1) := by decide +kernel
theorem dX2_fitsPart_20 : decode cX2_fitsPart 20 = .ok (.aload_n 0, 1) := by decide +kernel
theorem dX2_fitsPart_21 : decode cX2_fitsPart 21 = .ok (.iload_n 1, 1) := by decide +kernel
theorem dX2_fitsPart_22 : decode cX2_fitsPart 22 = .ok (.iload_n 1, 1) := by decide +kernel
theorem dX2_fitsPart_23 : decode cX2_fitsPart 23 = .ok (.iload_n 2, 1) := by decide +kernel
theorem dX2_fitsPart_24 : decode cX2_fitsPart 24 = .ok (.iadd, 1) := by decide +kernel
theorem dX2_fitsPart_25 : decode cX2_fitsPart 25 = .ok (.invokevirtual 51, 3) := by decide +kernel
theorem dX2_fitsPart_28 : decode cX2_fitsPart 28 = .ok (.ireturn, 1) := by decide +kernel
set_option maxRecDepth 20000 in
theorem ggX2_beginnings_X1_start : GoodIn wsX2_beginnings wsX1_start := goodIn_r _ [8, 9, 10, 11, 12, 13, 33, 34, 35, 36] (by decide +kernel) (by decide +kernel)
set_option maxRecDepth 20000 in
theorem gX2_beginnings_X1_start : GoodIn wsX2_beginnings (wsV RX2 55 RX1 yX1_start wsX1_start) := goodIn_app (goodIn_of _ (by decide +kernel)) ggX2_beginnings_X1_start
set_option maxRecDepth 20000 in
theorem ggX2_beginnings_X1_endIsReached : GoodIn wsX2_beginnings wsX1_endIsReached := goodIn_r _ [17, 9, 18, 19, 20, 7, 21, 33, 34, 35, 36] (by decide +kernel) (by decide +kernel)
set_option maxRecDepth 20000 in
theorem gX2_beginnings_X1_endIsReached : GoodIn wsX2_beginnings (wsV RX2 58 RX1 yX1_endIsReached wsX1_endIsReached) := goodIn_app (goodIn_of _ (by decide +kernel)) ggX2_beginnings_X1_endIsReached
set_option maxRecDepth 20000 in
theorem ggX2_beginnings_X1_step : GoodIn wsX2_beginnings wsX1_step := goodIn_r _ [25, 9, 26, 27, 33, 34, 35, 36] (by decide +kernel) (by decide +kernel)
set_option maxRecDepth 20000 in
theorem gX2_beginnings_X1_step : GoodIn wsX2_beginnings (wsV RX2 62 RX1 yX1_step wsX1_step) := goodIn_app (goodIn_of _ (by decide +kernel)) ggX2_beginnings_X1_step
theorem dX2_beginnings_0 : decode cX2_beginnings 0 = .ok (.aload_n 0, 1) := by decide +kernel
theorem dX2_beginnings_1 : decode cX2_beginnings 1 = .ok (.getfield 19, 3) := by decide +kernel
theorem dX2_beginnings_4 : decode cX2_beginnings 4 = .ok (.invokevirtual 55, 3) := by decide +kernel
theorem dX2_beginnings_7 : decode cX2_beginnings 7 = .ok (.aload_n 0, 1) := by decide +kernel
theorem dX2_beginnings_8 : decode cX2_beginnings 8 = .ok (.getfield 19, 3) := by decide +kernel
theorem dX2_beginnings_11 : decode cX2_beginnings 11 = .ok (.invokevirtual 58, 3) := by decide +kernel
theorem dX2_beginnings_14 : decode cX2_beginnings 14 = .ok (.ifCond .eq 7, 3) := by decide +kernel
theorem dX2_beginnings_17 : decode cX2_beginnings 17 = .ok (.iconst 1, 1) := by decide +kernel
theorem dX2_beginnings_18 : decode cX2_beginnings 18 = .ok (.goto 4, 3) := by decide +kernel
theorem dX2_beginnings_21 : decode cX2_beginnings 21 = .ok (.iconst 0, 1) := by decide +kernel
theorem dX2_beginnings_22 : decode cX2_beginnings 22 = .ok (.istore_n 1, 1) := by decide +kernel
theorem dX2_beginnings_23 : decode cX2_beginnings 23 = .ok (.iconst 0, 1) := by decide +kernel
theorem dX2_beginnings_24 : decode cX2_beginnings 24 = .ok (.istore_n 2, 1) := by decide +kernel
theorem dX2_beginnings_25 : decode cX2_beginnings 25 = .ok (.iload_n 2, 1) := by decide +kernel
theorem dX2_beginnings_26 : decode cX2_beginnings 26 = .ok (.aload_n 0, 1) := by decide +kernel
theorem dX2_beginnings_27 : decode cX2_beginnings 27 = .ok (.getfield 48, 3) := by decide +kernel
theorem dX2_beginnings_30 : decode cX2_beginnings 30 = .ok (.if_icmp .ge 35, 3) := by decide +kernel
theorem dX2_beginnings_33 : decode cX2_beginnings 33 = .ok (.aload_n 0, 1) := by decide +kernel
theorem dX2_beginnings_34 : decode cX2_beginnings 34 = .ok (.getfield 19, 3) := by decide +kernel
theorem dX2_beginnings_37 : decode cX2_beginnings 37 = .ok (.aload_n 0, 1) := by decide +kernel
theorem dX2_beginnings_38 : decode cX2_beginnings 38 = .ok (.getfield 13, 3) := by decide +kernel
theorem dX2_beginnings_41 : decode cX2_beginnings 41 = .ok (.iload_n 2, 1) := by decide +kernel
theorem dX2_beginnings_42 : decode cX2_beginnings 42 = .ok (.iaload, 1) := by decide +kernel
theorem dX2_beginnings_43 : decode cX2_beginnings 43 = .ok (.invokevirtual 62, 3) := by decide +kernel
theorem dX2_beginnings_46 : decode cX2_beginnings 46 = .ok (.aload_n 0, 1) := by decide +kernel
theorem dX2_beginnings_47 : decode cX2_beginnings 47 = .ok (.getfield 19, 3) := by decide +kernel
theorem dX2_beginnings_50 : decode cX2_beginnings 50 = .ok (.invokevirtual 58, 3) := by decide +kernel
theorem dX2_beginnings_53 : decode cX2_beginnings 53 = .ok (.ifCond .eq 6, 3) := by decide +kernel
theorem dX2_beginnings_56 : decode cX2_beginnings 56 = .ok (.iinc 1 1, 3) := by decide +kernel
theorem dX2_beginnings_59 : decode cX2_beginnings 59 = .ok (.iinc 2 1, 3) := by decide +kernel
theorem dX2_beginnings_62 : decode cX2_beginnings 62 = .ok (.goto (-37), 3) := by decide +kernel
theorem dX2_beginnings_65 : decode cX2_beginnings 65 = .ok (.iload_n 1, 1) := by decide +kernel
theorem dX2_beginnings_66 : decode cX2_beginnings 66 = .ok (.ireturn, 1) := by decide +kernel
theorem dX2_append_0 : decode cX2_append 0 = .ok (.bipush 24, 2) := by decide +kernel
theorem dX2_append_2 : decode cX2_append 2 = .ok (.istore_n 2, 1) := by decide +kernel
theorem dX2_append_3 : decode cX2_append 3 = .ok (.iload_n 2, 1) := by decide +kernel
theorem dX2_append_4 : decode cX2_append 4 = .ok (.ifCond .lt 35, 3) := by decide +kernel
theorem dX2_append_7 : decode cX2_append 7 = .ok (.aload_n 0, 1) := by decide +kernel
theorem dX2_append_8 : decode cX2_append 8 = .ok (.getfield 9, 3) := by decide +kernel
theorem dX2_append_11 : decode cX2_append 11 = .ok (.aload_n 0, 1) := by decide +kernel
theorem dX2_append_12 : decode cX2_append 12 = .ok (.getfield 23, 3) := by decide +kernel
theorem dX2_append_15 : decode cX2_append 15 = .ok (.iload_n 1, 1) := by decide +kernel
theorem dX2_append_16 : decode cX2_append 16 = .ok (.iload_n 2, 1) := by decide +kernel
theorem dX2_append_17 : decode cX2_append 17 = .ok (.iushr, 1) := by decide +kernel
theorem dX2_append_18 : decode cX2_append 18 = .ok (.sipush 255, 3) := by decide +kernel
theorem dX2_append_21 : decode cX2_append 21 = .ok (.iand, 1) := by decide +kernel
theorem dX2_append_22 : decode cX2_append 22 = .ok (.iastore, 1) := by decide +kernel
theorem dX2_append_23 : decode cX2_append 23 = .ok (.aload_n 0, 1) := by decide +kernel
theorem dX2_append_24 : decode cX2_append 24 = .ok (.dup, 1) := by decide +kernel
theorem dX2_append_25 : decode cX2_append 25 = .ok (.getfield 23, 3) := by decide +kernel
theorem dX2_append_28 : decode cX2_append 28 = .ok (.iconst 1, 1) := by decide +kernel
theorem dX2_append_29 : decode cX2_append 29 = .ok (.iadd, 1) := by decide +kernel
theorem dX2_append_30 : decode cX2_append 30 = .ok (.putfield 23, 3) := by decide +kernel
theorem dX2_append_33 : decode cX2_append 33 = .ok (.iinc 2 (-8), 3) := by decide +kernel
theorem dX2_append_36 : decode cX2_append 36 = .ok (.goto (-33), 3) := by decide +kernel
theorem dX2_append_39 : decode cX2_append 39 = .ok (.return_, 1) := by decide +kernel
set_option maxRecDepth 20000 in
theorem ggX2_lettersFit_X1_start : GoodIn wsX2_lettersFit wsX1_start := goodIn_r _ [7, 8, 9, 10, 11, 12, 32, 33, 34, 35] (by decide +kernel) (by decide +kernel)
set_option maxRecDepth 20000 in
theorem gX2_lettersFit_X1_start : GoodIn wsX2_lettersFit (wsV RX2 55 RX1 yX1_start wsX1_start) := goodIn_app (goodIn_of _ (by decide +kernel)) ggX2_lettersFit_X1_start
set_option maxRecDepth 20000 in
theorem ggX2_lettersFit_X1_step : GoodIn wsX2_lettersFit wsX1_step := goodIn_r _ [16, 8, 17, 18, 32, 33, 34, 35] (by decide +kernel) (by decide +kernel)
set_option maxRecDepth 20000 in
theorem gX2_lettersFit_X1_step : GoodIn wsX2_lettersFit (wsV RX2 62 RX1 yX1_step wsX1_step) := goodIn_app (goodIn_of _ (by decide +kernel)) ggX2_lettersFit_X1_step
set_option maxRecDepth 20000 in
theorem ggX2_lettersFit_X1_endIsReached : GoodIn wsX2_lettersFit wsX1_endIsReached := goodIn_r _ [22, 8, 23, 24, 25, 6, 26, 32, 33, 34, 35] (by decide +kernel) (by decide +kernel)
set_option maxRecDepth 20000 in
theorem gX2_lettersFit_X1_endIsReached : GoodIn wsX2_lettersFit (wsV RX2 58 RX1 yX1_endIsReached wsX1_endIsReached) := goodIn_app (goodIn_of _ (by decide +kernel)) ggX2_lettersFit_X1_endIsReached
theorem dX2_lettersFit_0 : decode cX2_lettersFit 0 = .ok (.aload_n 0, 1) := by decide +kernel
theorem dX2_lettersFit_1 : decode cX2_lettersFit 1 = .ok (.getfield 19, 3) := by decide +kernel
theorem dX2_lettersFit_4 : decode cX2_lettersFit 4 = .ok (.invokevirtual 55, 3) := by decide +kernel
theorem dX2_lettersFit_7 : decode cX2_lettersFit 7 = .ok (.iload_n 1, 1) := by decide +kernel
theorem dX2_lettersFit_8 : decode cX2_lettersFit 8 = .ok (.istore_n 3, 1) := by decide +kernel
theorem dX2_lettersFit_9 : decode cX2_lettersFit 9 = .ok (.iload_n 3, 1) := by decide +kernel
theorem dX2_lettersFit_10 : decode cX2_lettersFit 10 = .ok (.iload_n 2, 1) := by decide +kernel
theorem dX2_lettersFit_11 : decode cX2_lettersFit 11 = .ok (.if_icmp .ge 22, 3) := by decide +kernel
theorem dX2_lettersFit_14 : decode cX2_lettersFit 14 = .ok (.aload_n 0, 1) := by decide +kernel
theorem dX2_lettersFit_15 : decode cX2_lettersFit 15 = .ok (.getfield 19, 3) := by decide +kernel
theorem dX2_lettersFit_18 : decode cX2_lettersFit 18 = .ok (.aload_n 0, 1) := by decide +kernel
theorem dX2_lettersFit_19 : decode cX2_lettersFit 19 = .ok (.getfield 13, 3) := by decide +kernel
theorem dX2_lettersFit_22 : decode cX2_lettersFit 22 = .ok (.iload_n 3, 1) := by decide +kernel
theorem dX2_lettersFit_23 : decode cX2_lettersFit 23 = .ok (.iaload, 1) := by decide +kernel
theorem dX2_lettersFit_24 : decode cX2_lettersFit 24 = .ok (.invokevirtual 62, 3) := by decide +kernel
theorem dX2_lettersFit_27 : decode cX2_lettersFit 27 = .ok (.iinc 3 1, 3) := by decide +kernel
theorem dX2_lettersFit_30 : decode cX2_lettersFit 30 = .ok (.goto (-21), 3) := by decide +kernel
theorem dX2_lettersFit_33 : decode cX2_lettersFit 33 = .ok (.aload_n 0, 1) := by decide +kernel
theorem dX2_lettersFit_34 : decode cX2_lettersFit 34 = .ok (.getfield 19, 3) := by decide +kernel
theorem dX2_lettersFit_37 : decode cX2_lettersFit 37 = .ok (.invokevirtual 58, 3) := by decide +kernel
theorem dX2_lettersFit_40 : decode cX2_lettersFit 40 = .ok (.ireturn, 1) := by decide +kernel
theorem dX3_init_0 : decode cX3_init 0 = .ok (.aload_n 0, 1) := by decide +kernel
theorem dX3_init_1 : decode cX3_init 1 = .ok (.invokespecial 1, 3) := by decide +kernel
theorem dX3_init_4 : decode cX3_init 4 = .ok (.aload_n 0, 1) := by decide +kernel
theorem dX3_init_5 : decode cX3_init 5 = .ok (.sipush 400, 3) := by decide +kernel
theorem dX3_init_8 : decode cX3_init 8 = .ok (.newarray .int, 2) := by decide +kernel
theorem dX3_init_10 : decode cX3_init 10 = .ok (.putfield 7, 3) := by decide +kernel
theorem dX3_init_13 : decode cX3_init 13 = .ok (.aload_n 0, 1) := by decide +kernel
theorem dX3_init_14 : decode cX3_init 14 = .ok (.sipush 400, 3) := by decide +kernel
theorem dX3_init_17 : decode cX3_init 17 = .ok (.newarray .int, 2) := by decide +kernel
theorem dX3_init_19 : decode cX3_init 19 = .ok (.putfield 13, 3) := by decide +kernel
theorem dX3_init_22 : decode cX3_init 22 = .ok (.aload_n 0, 1) := by decide +kernel
theorem dX3_init_23 : decode cX3_init 23 = .ok (.sipush 400, 3) := by decide +kernel
theorem dX3_init_26 : decode cX3_init 26 = .ok (.newarray .int, 2) := by decide +kernel
theorem dX3_init_28 : decode cX3_init 28 = .ok (.putfield 16, 3) := by decide +kernel
theorem dX3_init_31 : decode cX3_init 31 = .ok (.aload_n 0, 1) := by decide +kernel
theorem dX3_init_32 : decode cX3_init 32 = .ok (.sipush 401, 3) := by decide +kernel
theorem dX3_init_35 : decode cX3_init 35 = .ok (.newarray .boolean, 2) := by decide +kernel
theorem dX3_init_37 : decode cX3_init 37 = .ok (.putfield 19, 3) := by decide +kernel
theorem dX3_init_40 : decode cX3_init 40 = .ok (.return_, 1) := by decide +kernel
theorem dX3_put_0 : decode cX3_put 0 = .ok (.bipush 24, 2) := by decide +kernel
theorem dX3_put_2 : decode cX3_put 2 = .ok (.istore_n 2, 1) := by decide +kernel
theorem dX3_put_3 : decode cX3_put 3 = .ok (.iload_n 2, 1) := by decide +kernel
theorem dX3_put_4 : decode cX3_put 4 = .ok (.ifCond .lt 35, 3) := by decide +kernel
theorem dX3_put_7 : decode cX3_put 7 = .ok (.aload_n 0, 1) := by decide +kernel
theorem dX3_put_8 : decode cX3_put 8 = .ok (.getfield 7, 3) := by decide +kernel
theorem dX3_put_11 : decode cX3_put 11 = .ok (.aload_n 0, 1) := by decide +kernel
theorem dX3_put_12 : decode cX3_put 12 = .ok (.getfield 23, 3) := by decide +kernel
theorem dX3_put_15 : decode cX3_put 15 = .ok (.iload_n 1, 1) := by decide +kernel
theorem dX3_put_16 : decode cX3_put 16 = .ok (.iload_n 2, 1) := by decide +kernel
theorem dX3_put_17 : decode cX3_put 17 = .ok (.ishr, 1) := by decide +kernel
theorem dX3_put_18 : decode cX3_put 18 = .ok (.sipush 255, 3) := by decide +kernel
theorem dX3_put_21 : decode cX3_put 21 = .ok (.iand, 1) := by decide +kernel
theorem dX3_put_22 : decode cX3_put 22 = .ok (.iastore, 1) := by decide +kernel
theorem dX3_put_23 : decode cX3_put 23 = .ok (.aload_n 0, 1) := by decide +kernel
theorem dX3_put_24 : decode cX3_put 24 = .ok (.dup, 1) := by decide +kernel
theorem dX3_put_25 : decode cX3_put 25 = .ok (.getfield 23, 3) := by decide +kernel
theorem dX3_put_28 : decode cX3_put 28 = .ok (.iconst 1, 1) := by decide +kernel
theorem dX3_put_29 : decode cX3_put 29 = .ok (.iadd, 1) := by decide +kernel
theorem dX3_put_30 : decode cX3_put 30 = .ok (.putfield 23, 3) := by decide +kernel
theorem dX3_put_33 : decode cX3_put 33 = .ok (.iinc 2 (-8), 3) := by decide +kernel
theorem dX3_put_36 : decode cX3_put 36 = .ok (.goto (-33), 3) := by decide +kernel
theorem dX3_put_39 : decode cX3_put 39 = .ok (.return_, 1) := by decide +kernel
set_option maxRecDepth 20000 in
theorem ggX3_feed_X3_put : GoodIn wsX3_feed wsX3_put := goodIn_r _ [6, 7, 1, 8, 9, 10, 11, 12, 13, 14, 15, 16] (by decide +kernel) (by decide +kernel)
set_option maxRecDepth 20000 in
theorem gX3_feed_X3_put : GoodIn wsX3_feed (wsV RX3 27 RX3 yX3_put wsX3_put) := goodIn_app (goodIn_of _ (by decide +kernel)) ggX3_feed_X3_put
theorem dX3_feed_0 : decode cX3_feed 0 = .ok (.aload_n 0, 1) := by decide +kernel
theorem dX3_feed_1 : decode cX3_feed 1 = .ok (.getfield 23, 3) := by decide +kernel
theorem dX3_feed_4 : decode cX3_feed 4 = .ok (.bipush 20, 2) := by decide +kernel
theorem dX3_feed_6 : decode cX3_feed 6 = .ok (.iadd, 1) := by decide +kernel
theorem dX3_feed_7 : decode cX3_feed 7 = .ok (.sipush 400, 3) := by decide +kernel
theorem dX3_feed_10 : decode cX3_feed 10 = .ok (.if_icmp .le 5, 3) := by decide +kernel
theorem dX3_feed_13 : decode cX3_feed 13 = .ok (.iconst 0, 1) := by decide +kernel
theorem dX3_feed_14 : decode cX3_feed 14 = .ok (.ireturn, 1) := by decide +kernel
theorem dX3_feed_15 : decode cX3_feed 15 = .ok (.aload_n 0, 1) := by decide +kernel
theorem dX3_feed_16 : decode cX3_feed 16 = .ok (.iload_n 1, 1) := by decide +kernel
theorem dX3_feed_17 : decode cX3_feed 17 = .ok (.invokevirtual 27, 3) := by decide +kernel
theorem dX3_feed_20 : decode cX3_feed 20 = .ok (.aload_n 0, 1) := by decide +kernel
theorem dX3_feed_21 : decode cX3_feed 21 = .ok (.iload_n 2, 1) := by decide +kernel
theorem dX3_feed_22 : decode cX3_feed 22 = .ok (.invokevirtual 27, 3) := by decide +kernel
theorem dX3_feed_25 : decode cX3_feed 25 = .ok (.aload_n 0, 1) := by decide +kernel
theorem dX3_feed_26 : decode cX3_feed 26 = .ok (.iload_n 3, 1) := by decide +kernel
theorem dX3_feed_27 : decode cX3_feed 27 = .ok (.invokevirtual 27, 3) := by decide +kernel
theorem dX3_feed_30 : decode cX3_feed 30 = .ok (.aload_n 0, 1) := by decide +kernel
theorem dX3_feed_31 : decode cX3_feed 31 = .ok (.iload 4, 2) := by decide +kernel
theorem dX3_feed_33 : decode cX3_feed 33 = .ok (.invokevirtual 27, 3) := by decide +kernel
theorem dX3_feed_36 : decode cX3_feed 36 = .ok (.aload_n 0, 1) := by decide +kernel
theorem dX3_feed_37 : decode cX3_feed 37 = .ok (.iload 5, 2) := by decide +kernel
theorem dX3_feed_39 : decode cX3_feed 39 = .ok (.invokevirtual 27, 3) := by decide +kernel
theorem dX3_feed_42 : decode cX3_feed 42 = .ok (.iconst 1, 1) := by decide +kernel
theorem dX3_feed_43 : decode cX3_feed 43 = .ok (.ireturn, 1) := by decide +kernel
theorem dX3_end_0 : decode cX3_end 0 = .ok (.iload_n 1, 1) := by decide +kernel
theorem dX3_end_1 : decode cX3_end 1 = .ok (.ifCond .lt 11, 3) := by decide +kernel
theorem dX3_end_4 : decode cX3_end 4 = .ok (.iload_n 1, 1) := by decide +kernel
theorem dX3_end_5 : decode cX3_end 5 = .ok (.aload_n 0, 1) := by decide +kernel
theorem dX3_end_6 : decode cX3_end 6 = .ok (.getfield 23, 3) := by decide +kernel
theorem dX3_end_9 : decode cX3_end 9 = .ok (.if_icmp .le 5, 3) := by decide +kernel
theorem dX3_end_12 : decode cX3_end 12 = .ok (.iconst 0, 1) := by decide +kernel
theorem dX3_end_13 : decode cX3_end 13 = .ok (.ireturn, 1) := by decide +kernel
theorem dX3_end_14 : decode cX3_end 14 = .ok (.aload_n 0, 1) := by decide +kernel
theorem dX3_end_15 : decode cX3_end 15 = .ok (.iload_n 1, 1) := by decide +kernel
theorem dX3_end_16 : decode cX3_end 16 = .ok (.putfield 23, 3) := by decide +kernel
theorem dX3_end_19 : decode cX3_end 19 = .ok (.iconst 1, 1) := by decide +kernel
theorem dX3_end_20 : decode cX3_end 20 = .ok (.ireturn, 1) := by decide +kernel
theorem dX3_pattern_0 : decode cX3_pattern 0 = .ok (.aload_n 0, 1) := by decide +kernel
theorem dX3_pattern_1 : decode cX3_pattern 1 = .ok (.aload_n 0, 1) := by decide +kernel
theorem dX3_pattern_2 : decode cX3_pattern 2 = .ok (.getfield 23, 3) := by decide +kernel
theorem dX3_pattern_5 : decode cX3_pattern 5 = .ok (.putfield 31, 3) := by decide +kernel
theorem dX3_pattern_8 : decode cX3_pattern 8 = .ok (.iconst 0, 1) := by decide +kernel
theorem dX3_pattern_9 : decode cX3_pattern 9 = .ok (.istore_n 1, 1) := by decide +kernel
theorem dX3_pattern_10 : decode cX3_pattern 10 = .ok (.iload_n 1, 1) := by decide +kernel
theorem dX3_pattern_11 : decode cX3_pattern 11 = .ok (.aload_n 0, 1) := by decide +kernel
theorem dX3_pattern_12 : decode cX3_pattern 12 = .ok (.getfield 31, 3) := by decide +kernel
theorem dX3_pattern_15 : decode cX3_pattern 15 = .ok (.if_icmp .ge 21, 3) := by decide +kernel
theorem dX3_pattern_18 : decode cX3_pattern 18 = .ok (.aload_n 0, 1) := by decide +kernel
theorem dX3_pattern_19 : decode cX3_pattern 19 = .ok (.getfield 13, 3) := by decide +kernel
theorem dX3_pattern_22 : decode cX3_pattern 22 = .ok (.iload_n 1, 1) := by decide +kernel
theorem dX3_pattern_23 : decode cX3_pattern 23 = .ok (.aload_n 0, 1) := by decide +kernel
theorem dX3_pattern_24 : decode cX3_pattern 24 = .ok (.getfield 7, 3) := by decide +kernel
theorem dX3_pattern_27 : decode cX3_pattern 27 = .ok (.iload_n 1, 1) := by decide +kernel
theorem dX3_pattern_28 : decode cX3_pattern 28 = .ok (.iaload, 1) := by decide +kernel
theorem dX3_pattern_29 : decode cX3_pattern 29 = .ok (.iastore, 1) := by decide +kernel
theorem dX3_pattern_30 : decode cX3_pattern 30 = .ok (.iinc 1 1, 3) := by decide +kernel
theorem dX3_pattern_33 : decode cX3_pattern 33 = .ok (.goto (-23), 3) := by decide +kernel
theorem dX3_pattern_36 : decode cX3_pattern 36 = .ok (.aload_n 0, 1) := by decide +kernel
theorem dX3_pattern_37 : decode cX3_pattern 37 = .ok (.iconst 0, 1) := by decide +kernel
theorem dX3_pattern_38 : decode cX3_pattern 38 = .ok (.putfield 23, 3) := by decide +kernel
theorem dX3_pattern_41 : decode cX3_pattern 41 = .ok (.aload_n 0, 1) := by decide +kernel
theorem dX3_pattern_42 : decode cX3_pattern 42 = .ok (.getfield 31, 3) := by decide +kernel
theorem dX3_pattern_45 : decode cX3_pattern 45 = .ok (.ireturn, 1) := by decide +kernel
theorem dX3_word_0 : decode cX3_word 0 = .ok (.aload_n 0, 1) := by decide +kernel
theorem dX3_word_1 : decode cX3_word 1 = .ok (.aload_n 0, 1) := by decide +kernel
theorem dX3_word_2 : decode cX3_word 2 = .ok (.getfield 23, 3) := by decide +kernel
theorem dX3_word_5 : decode cX3_word 5 = .ok (.putfield 34, 3) := by decide +kernel
theorem dX3_word_8 : decode cX3_word 8 = .ok (.iconst 0, 1) := by decide +kernel
theorem dX3_word_9 : decode cX3_word 9 = .ok (.istore_n 1, 1) := by decide +kernel
theorem dX3_word_10 : decode cX3_word 10 = .ok (.iload_n 1, 1) := by decide +kernel
theorem dX3_word_11 : decode cX3_word 11 = .ok (.aload_n 0, 1) := by decide +kernel
theorem dX3_word_12 : decode cX3_word 12 = .ok (.getfield 34, 3) := by decide +kernel
theorem dX3_word_15 : decode cX3_word 15 = .ok (.if_icmp .ge 21, 3) := by decide +kernel
theorem dX3_word_18 : decode cX3_word 18 = .ok (.aload_n 0, 1) := by decide +kernel
theorem dX3_word_19 : decode cX3_word 19 = .ok (.getfield 16, 3) := by decide +kernel
theorem dX3_word_22 : decode cX3_word 22 = .ok (.iload_n 1, 1) := by decide +kernel
theorem dX3_word_23 : decode cX3_word 23 = .ok (.aload_n 0, 1) := by decide +kernel
theorem dX3_word_24 : decode cX3_word 24 = .ok (.getfield 7, 3) := by decide +kernel
theorem dX3_word_27 : decode cX3_word 27 = .ok (.iload_n 1, 1) := by decide +kernel
theorem dX3_word_28 : decode cX3_word 28 = .ok (.iaload, 1) := by decide +kernel
theorem dX3_word_29 : decode cX3_word 29 = .ok (.iastore, 1) := by decide +kernel
theorem dX3_word_30 : decode cX3_word 30 = .ok (.iinc 1 1, 3) := by decide +kernel
theorem dX3_word_33 : decode cX3_word 33 = .ok (.goto (-23), 3) := by decide +kernel
theorem dX3_word_36 : decode cX3_word 36 = .ok (.aload_n 0, 1) := by decide +kernel
theorem dX3_word_37 : decode cX3_word 37 = .ok (.iconst 0, 1) := by decide +kernel
theorem dX3_word_38 : decode cX3_word 38 = .ok (.putfield 23, 3) := by decide +kernel
theorem dX3_word_41 : decode cX3_word 41 = .ok (.aload_n 0, 1) := by decide +kernel
theorem dX3_word_42 : decode cX3_word 42 = .ok (.getfield 34, 3) := by decide +kernel
theorem dX3_word_45 : decode cX3_word 45 = .ok (.ireturn, 1) := by decide +kernel
theorem dX3_fits_0 : decode cX3_fits 0 = .ok (.aload_n 0, 1) := by decide +kernel
theorem dX3_fits_1 : decode cX3_fits 1 = .ok (.iconst 0, 1) := by decide +kernel
theorem dX3_fits_2 : decode cX3_fits 2 = .ok (.aload_n 0, 1) := by decide +kernel
theorem dX3_fits_3 : decode cX3_fits 3 = .ok (.getfield 34, 3) := by decide +kernel
theorem dX3_fits_6 : decode cX3_fits 6 = .ok (.invokevirtual 54, 3) := by decide +kernel
theorem dX3_fits_9 : decode cX3_fits 9 = .ok (.aload_n 0, 1) := by decide +kernel
theorem dX3_fits_10 : decode cX3_fits 10 = .ok (.getfield 19, 3) := by decide +kernel
theorem dX3_fits_13 : decode cX3_fits 13 = .ok (.aload_n 0, 1) := by decide +kernel
theorem dX3_fits_14 : decode cX3_fits 14 = .ok (.getfield 34, 3) := by decide +kernel
theorem dX3_fits_17 : decode cX3_fits 17 = .ok (.baload, 1) := by decide +kernel
theorem dX3_fits_18 : decode cX3_fits 18 = .ok (.ireturn, 1) := by decide +kernel
theorem dJ9_max_7cf53_0 : decode cJ9_max_7cf53 0 = .ok (.iload_n 0, 1) := by decide +kernel
theorem dJ9_max_7cf53_1 : decode cJ9_max_7cf53 1 = .ok (.iload_n 1, 1) := by decide +kernel
theorem dJ9_max_7cf53_2 : decode cJ9_max_7cf53 2 = .ok (.if_icmp .lt 7, 3) := by decide +kernel
theorem dJ9_max_7cf53_5 : decode cJ9_max_7cf53 5 = .ok (.iload_n 0, 1) := by decide +kernel
theorem dJ9_max_7cf53_6 : decode cJ9_max_7cf53 6 = .ok (.goto 4, 3) := by decide +kernel
theorem dJ9_max_7cf53_9 : decode cJ9_max_7cf53 9 = .ok (.iload_n 1, 1) := by decide +kernel
theorem dJ9_max_7cf53_10 : decode cJ9_max_7cf53 10 = .ok (.ireturn, 1) := by decide +kernel
theorem dJ9_min_7cf53_0 : decode cJ9_min_7cf53 0 = .ok (.iload_n 0, 1) := by decide +kernel
theorem dJ9_min_7cf53_1 : decode cJ9_min_7cf53 1 = .ok (.iload_n 1, 1) := by decide +kernel
theorem dJ9_min_7cf53_2 : decode cJ9_min_7cf53 2 = .ok (.if_icmp .gt 7, 3) := by decide +kernel
theorem dJ9_min_7cf53_5 : decode cJ9_min_7cf53 5 = .ok (.iload_n 0, 1) := by decide +kernel
theorem dJ9_min_7cf53_6 : decode cJ9_min_7cf53 6 = .ok (.goto 4, 3) := by decide +kernel
theorem dJ9_min_7cf53_9 : decode cJ9_min_7cf53 9 = .ok (.iload_n 1, 1) := by decide +kernel
theorem dJ9_min_7cf53_10 : decode cJ9_min_7cf53 10 = .ok (.ireturn, 1) := by decide +kernel
theorem dJ7_fill_d0a16_0 : decode cJ7_fill_d0a16 0 = .ok (.iconst 0, 1) := by decide +kernel
theorem dJ7_fill_d0a16_1 : decode cJ7_fill_d0a16 1 = .ok (.istore_n 3, 1) := by decide +kernel
theorem dJ7_fill_d0a16_2 : decode cJ7_fill_d0a16 2 = .ok (.aload_n 0, 1) := by decide +kernel
theorem dJ7_fill_d0a16_3 : decode cJ7_fill_d0a16 3 = .ok (.arraylength, 1) := by decide +kernel
theorem dJ7_fill_d0a16_4 : decode cJ7_fill_d0a16 4 = .ok (.istore 4, 2) := by decide +kernel
theorem dJ7_fill_d0a16_6 : decode cJ7_fill_d0a16 6 = .ok (.iload_n 3, 1) := by decide +kernel
theorem dJ7_fill_d0a16_7 : decode cJ7_fill_d0a16 7 = .ok (.iload 4, 2) := by decide +kernel
theorem dJ7_fill_d0a16_9 : decode cJ7_fill_d0a16 9 = .ok (.if_icmp .ge 13, 3) := by decide +kernel
theorem dJ7_fill_d0a16_12 : decode cJ7_fill_d0a16 12 = .ok (.aload_n 0, 1) := by decide +kernel
theorem dJ7_fill_d0a16_13 : decode cJ7_fill_d0a16 13 = .ok (.iload_n 3, 1) := by decide +kernel
theorem dJ7_fill_d0a16_14 : decode cJ7_fill_d0a16 14 = .ok (.lload_n 1, 1) := by decide +kernel
theorem dJ7_fill_d0a16_15 : decode cJ7_fill_d0a16 15 = .ok (.lastore, 1) := by decide +kernel
theorem dJ7_fill_d0a16_16 : decode cJ7_fill_d0a16 16 = .ok (.iinc 3 1, 3) := by decide +kernel
theorem dJ7_fill_d0a16_19 : decode cJ7_fill_d0a16 19 = .ok (.goto (-13), 3) := by decide +kernel
theorem dJ7_fill_d0a16_22 : decode cJ7_fill_d0a16 22 = .ok (.return_, 1) := by decide +kernel
theorem dL_law_0 : decode cL_law 0 = .ok (.new 7, 3) := by decide +kernel
theorem dL_law_3 : decode cL_law 3 = .ok (.dup, 1) := by decide +kernel
theorem dL_law_4 : decode cL_law 4 = .ok (.invokespecial 9, 3) := by decide +kernel
theorem dL_law_7 : decode cL_law 7 = .ok (.astore_n 1, 1) := by decide +kernel
theorem dL_law_8 : decode cL_law 8 = .ok (.new 10, 3) := by decide +kernel
theorem dL_law_11 : decode cL_law 11 = .ok (.dup, 1) := by decide +kernel
theorem dL_law_12 : decode cL_law 12 = .ok (.invokespecial 12, 3) := by decide +kernel
theorem dL_law_15 : decode cL_law 15 = .ok (.astore_n 2, 1) := by decide +kernel
theorem dL_law_16 : decode cL_law 16 = .ok (.iconst 0, 1) := by decide +kernel
theorem dL_law_17 : decode cL_law 17 = .ok (.istore_n 3, 1) := by decide +kernel
theorem dL_law_18 : decode cL_law 18 = .ok (.iload_n 3, 1) := by decide +kernel
theorem dL_law_19 : decode cL_law 19 = .ok (.aload_n 0, 1) := by decide +kernel
theorem dL_law_20 : decode cL_law 20 = .ok (.arraylength, 1) := by decide +kernel
theorem dL_law_21 : decode cL_law 21 = .ok (.bipush 6, 2) := by decide +kernel
theorem dL_law_23 : decode cL_law 23 = .ok (.isub, 1) := by decide +kernel
theorem dL_law_24 : decode cL_law 24 = .ok (.if_icmp .gt 229, 3) := by decide +kernel
theorem dL_law_27 : decode cL_law 27 = .ok (.aload_n 0, 1) := by decide +kernel
theorem dL_law_28 : decode cL_law 28 = .ok (.iload_n 3, 1) := by decide +kernel
theorem dL_law_29 : decode cL_law 29 = .ok (.iaload, 1) := by decide +kernel
theorem dL_law_30 : decode cL_law 30 = .ok (.bipush 7, 2) := by decide +kernel
theorem dL_law_32 : decode cL_law 32 = .ok (.iand, 1) := by decide +kernel
theorem dL_law_33 : decode cL_law 33 = .ok (.tableswitch 214 0 6 #[43, 106, 129, 142, 155, 168, 201], 43) := by decide +kernel
theorem dL_law_76 : decode cL_law 76 = .ok (.aload_n 1, 1) := by decide +kernel
theorem dL_law_77 : decode cL_law 77 = .ok (.aload_n 0, 1) := by decide +kernel
theorem dL_law_78 : decode cL_law 78 = .ok (.iload_n 3, 1) := by decide +kernel
theorem dL_law_79 : decode cL_law 79 = .ok (.iconst 1, 1) := by decide +kernel
theorem dL_law_80 : decode cL_law 80 = .ok (.iadd, 1) := by decide +kernel
theorem dL_law_81 : decode cL_law 81 = .ok (.iaload, 1) := by decide +kernel
theorem dL_law_82 : decode cL_law 82 = .ok (.aload_n 0, 1) := by decide +kernel
theorem dL_law_83 : decode cL_law 83 = .ok (.iload_n 3, 1) := by decide +kernel
theorem dL_law_84 : decode cL_law 84 = .ok (.iconst 2, 1) := by decide +kernel
theorem dL_law_85 : decode cL_law 85 = .ok (.iadd, 1) := by decide +kernel
theorem dL_law_86 : decode cL_law 86 = .ok (.iaload, 1) := by decide +kernel
theorem dL_law_87 : decode cL_law 87 = .ok (.aload_n 0, 1) := by decide +kernel
theorem dL_law_88 : decode cL_law 88 = .ok (.iload_n 3, 1) := by decide +kernel
theorem dL_law_89 : decode cL_law 89 = .ok (.iconst 3, 1) := by decide +kernel
theorem dL_law_90 : decode cL_law 90 = .ok (.iadd, 1) := by decide +kernel
theorem dL_law_91 : decode cL_law 91 = .ok (.iaload, 1) := by decide +kernel
theorem dL_law_92 : decode cL_law 92 = .ok (.aload_n 0, 1) := by decide +kernel
theorem dL_law_93 : decode cL_law 93 = .ok (.iload_n 3, 1) := by decide +kernel
theorem dL_law_94 : decode cL_law 94 = .ok (.iconst 4, 1) := by decide +kernel
theorem dL_law_95 : decode cL_law 95 = .ok (.iadd, 1) := by decide +kernel
theorem dL_law_96 : decode cL_law 96 = .ok (.iaload, 1) := by decide +kernel
theorem dL_law_97 : decode cL_law 97 = .ok (.aload_n 0, 1) := by decide +kernel
theorem dL_law_98 : decode cL_law 98 = .ok (.iload_n 3, 1) := by decide +kernel
theorem dL_law_99 : decode cL_law 99 = .ok (.iconst 5, 1) := by decide +kernel
theorem dL_law_100 : decode cL_law 100 = .ok (.iadd, 1) := by decide +kernel
theorem dL_law_101 : decode cL_law 101 = .ok (.iaload, 1) := by decide +kernel
theorem dL_law_102 : decode cL_law 102 = .ok (.invokevirtual 13, 3) := by decide +kernel
theorem dL_law_105 : decode cL_law 105 = .ok (.aload_n 2, 1) := by decide +kernel
theorem dL_law_106 : decode cL_law 106 = .ok (.aload_n 0, 1) := by decide +kernel
theorem dL_law_107 : decode cL_law 107 = .ok (.iload_n 3, 1) := by decide +kernel
theorem dL_law_108 : decode cL_law 108 = .ok (.iconst 1, 1) := by decide +kernel
theorem dL_law_109 : decode cL_law 109 = .ok (.iadd, 1) := by decide +kernel
theorem dL_law_110 : decode cL_law 110 = .ok (.iaload, 1) := by decide +kernel
theorem dL_law_111 : decode cL_law 111 = .ok (.aload_n 0, 1) := by decide +kernel
theorem dL_law_112 : decode cL_law 112 = .ok (.iload_n 3, 1) := by decide +kernel
theorem dL_law_113 : decode cL_law 113 = .ok (.iconst 2, 1) := by decide +kernel
theorem dL_law_114 : decode cL_law 114 = .ok (.iadd, 1) := by decide +kernel
theorem dL_law_115 : decode cL_law 115 = .ok (.iaload, 1) := by decide +kernel
theorem dL_law_116 : decode cL_law 116 = .ok (.aload_n 0, 1) := by decide +kernel
theorem dL_law_117 : decode cL_law 117 = .ok (.iload_n 3, 1) := by decide +kernel
theorem dL_law_118 : decode cL_law 118 = .ok (.iconst 3, 1) := by decide +kernel
theorem dL_law_119 : decode cL_law 119 = .ok (.iadd, 1) := by decide +kernel
theorem dL_law_120 : decode cL_law 120 = .ok (.iaload, 1) := by decide +kernel
theorem dL_law_121 : decode cL_law 121 = .ok (.aload_n 0, 1) := by decide +kernel
theorem dL_law_122 : decode cL_law 122 = .ok (.iload_n 3, 1) := by decide +kernel
theorem dL_law_123 : decode cL_law 123 = .ok (.iconst 4, 1) := by decide +kernel
theorem dL_law_124 : decode cL_law 124 = .ok (.iadd, 1) := by decide +kernel
theorem dL_law_125 : decode cL_law 125 = .ok (.iaload, 1) := by decide +kernel
theorem dL_law_126 : decode cL_law 126 = .ok (.aload_n 0, 1) := by decide +kernel
theorem dL_law_127 : decode cL_law 127 = .ok (.iload_n 3, 1) := by decide +kernel
theorem dL_law_128 : decode cL_law 128 = .ok (.iconst 5, 1) := by decide +kernel
theorem dL_law_129 : decode cL_law 129 = .ok (.iadd, 1) := by decide +kernel
theorem dL_law_130 : decode cL_law 130 = .ok (.iaload, 1) := by decide +kernel
theorem dL_law_131 : decode cL_law 131 = .ok (.invokevirtual 17, 3) := by decide +kernel
theorem dL_law_134 : decode cL_law 134 = .ok (.if_icmp .eq 113, 3) := by decide +kernel
theorem dL_law_137 : decode cL_law 137 = .ok (.iconst 0, 1) := by decide +kernel
theorem dL_law_138 : decode cL_law 138 = .ok (.ireturn, 1) := by decide +kernel
theorem dL_law_139 : decode cL_law 139 = .ok (.aload_n 1, 1) := by decide +kernel
theorem dL_law_140 : decode cL_law 140 = .ok (.aload_n 0, 1) := by decide +kernel
theorem dL_law_141 : decode cL_law 141 = .ok (.iload_n 3, 1) := by decide +kernel
theorem dL_law_142 : decode cL_law 142 = .ok (.iconst 1, 1) := by decide +kernel
theorem dL_law_143 : decode cL_law 143 = .ok (.iadd, 1) := by decide +kernel
theorem dL_law_144 : decode cL_law 144 = .ok (.iaload, 1) := by decide +kernel
theorem dL_law_145 : decode cL_law 145 = .ok (.invokevirtual 18, 3) := by decide +kernel
theorem dL_law_148 : decode cL_law 148 = .ok (.aload_n 2, 1) := by decide +kernel
theorem dL_law_149 : decode cL_law 149 = .ok (.aload_n 0, 1) := by decide +kernel
theorem dL_law_150 : decode cL_law 150 = .ok (.iload_n 3, 1) := by decide +kernel
theorem dL_law_151 : decode cL_law 151 = .ok (.iconst 1, 1) := by decide +kernel
theorem dL_law_152 : decode cL_law 152 = .ok (.iadd, 1) := by decide +kernel
theorem dL_law_153 : decode cL_law 153 = .ok (.iaload, 1) := by decide +kernel
theorem dL_law_154 : decode cL_law 154 = .ok (.invokevirtual 22, 3) := by decide +kernel
theorem dL_law_157 : decode cL_law 157 = .ok (.if_icmp .eq 90, 3) := by decide +kernel
theorem dL_law_160 : decode cL_law 160 = .ok (.iconst 0, 1) := by decide +kernel
theorem dL_law_161 : decode cL_law 161 = .ok (.ireturn, 1) := by decide +kernel
theorem dL_law_162 : decode cL_law 162 = .ok (.aload_n 1, 1) := by decide +kernel
theorem dL_law_163 : decode cL_law 163 = .ok (.invokevirtual 23, 3) := by decide +kernel
theorem dL_law_166 : decode cL_law 166 = .ok (.aload_n 2, 1) := by decide +kernel
theorem dL_law_167 : decode cL_law 167 = .ok (.invokevirtual 27, 3) := by decide +kernel
theorem dL_law_170 : decode cL_law 170 = .ok (.if_icmp .eq 77, 3) := by decide +kernel
theorem dL_law_173 : decode cL_law 173 = .ok (.iconst 0, 1) := by decide +kernel
theorem dL_law_174 : decode cL_law 174 = .ok (.ireturn, 1) := by decide +kernel
theorem dL_law_175 : decode cL_law 175 = .ok (.aload_n 1, 1) := by decide +kernel
theorem dL_law_176 : decode cL_law 176 = .ok (.invokevirtual 28, 3) := by decide +kernel
theorem dL_law_179 : decode cL_law 179 = .ok (.aload_n 2, 1) := by decide +kernel
theorem dL_law_180 : decode cL_law 180 = .ok (.invokevirtual 31, 3) := by decide +kernel
theorem dL_law_183 : decode cL_law 183 = .ok (.if_icmp .eq 64, 3) := by decide +kernel
theorem dL_law_186 : decode cL_law 186 = .ok (.iconst 0, 1) := by decide +kernel
theorem dL_law_187 : decode cL_law 187 = .ok (.ireturn, 1) := by decide +kernel
theorem dL_law_188 : decode cL_law 188 = .ok (.aload_n 1, 1) := by decide +kernel
theorem dL_law_189 : decode cL_law 189 = .ok (.invokevirtual 32, 3) := by decide +kernel
theorem dL_law_192 : decode cL_law 192 = .ok (.aload_n 2, 1) := by decide +kernel
theorem dL_law_193 : decode cL_law 193 = .ok (.invokevirtual 36, 3) := by decide +kernel
theorem dL_law_196 : decode cL_law 196 = .ok (.if_icmp .eq 51, 3) := by decide +kernel
theorem dL_law_199 : decode cL_law 199 = .ok (.iconst 0, 1) := by decide +kernel
theorem dL_law_200 : decode cL_law 200 = .ok (.ireturn, 1) := by decide +kernel
theorem dL_law_201 : decode cL_law 201 = .ok (.aload_n 1, 1) := by decide +kernel
theorem dL_law_202 : decode cL_law 202 = .ok (.aload_n 0, 1) := by decide +kernel
theorem dL_law_203 : decode cL_law 203 = .ok (.iload_n 3, 1) := by decide +kernel
theorem dL_law_204 : decode cL_law 204 = .ok (.iconst 1, 1) := by decide +kernel
theorem dL_law_205 : decode cL_law 205 = .ok (.iadd, 1) := by decide +kernel
theorem dL_law_206 : decode cL_law 206 = .ok (.iaload, 1) := by decide +kernel
theorem dL_law_207 : decode cL_law 207 = .ok (.aload_n 0, 1) := by decide +kernel
theorem dL_law_208 : decode cL_law 208 = .ok (.iload_n 3, 1) := by decide +kernel
theorem dL_law_209 : decode cL_law 209 = .ok (.iconst 2, 1) := by decide +kernel
theorem dL_law_210 : decode cL_law 210 = .ok (.iadd, 1) := by decide +kernel
theorem dL_law_211 : decode cL_law 211 = .ok (.iaload, 1) := by decide +kernel
theorem dL_law_212 : decode cL_law 212 = .ok (.invokevirtual 37, 3) := by decide +kernel
theorem dL_law_215 : decode cL_law 215 = .ok (.aload_n 2, 1) := by decide +kernel
theorem dL_law_216 : decode cL_law 216 = .ok (.aload_n 0, 1) := by decide +kernel
theorem dL_law_217 : decode cL_law 217 = .ok (.iload_n 3, 1) := by decide +kernel
theorem dL_law_218 : decode cL_law 218 = .ok (.iconst 1, 1) := by decide +kernel
theorem dL_law_219 : decode cL_law 219 = .ok (.iadd, 1) := by decide +kernel
theorem dL_law_220 : decode cL_law 220 = .ok (.iaload, 1) := by decide +kernel
theorem dL_law_221 : decode cL_law 221 = .ok (.aload_n 0, 1) := by decide +kernel
theorem dL_law_222 : decode cL_law 222 = .ok (.iload_n 3, 1) := by decide +kernel
theorem dL_law_223 : decode cL_law 223 = .ok (.iconst 2, 1) := by decide +kernel
theorem dL_law_224 : decode cL_law 224 = .ok (.iadd, 1) := by decide +kernel
theorem dL_law_225 : decode cL_law 225 = .ok (.iaload, 1) := by decide +kernel
theorem dL_law_226 : decode cL_law 226 = .ok (.invokevirtual 41, 3) := by decide +kernel
theorem dL_law_229 : decode cL_law 229 = .ok (.if_icmp .eq 18, 3) := by decide +kernel
theorem dL_law_232 : decode cL_law 232 = .ok (.iconst 0, 1) := by decide +kernel
theorem dL_law_233 : decode cL_law 233 = .ok (.ireturn, 1) := by decide +kernel
theorem dL_law_234 : decode cL_law 234 = .ok (.aload_n 1, 1) := by decide +kernel
theorem dL_law_235 : decode cL_law 235 = .ok (.invokevirtual 42, 3) := by decide +kernel
theorem dL_law_238 : decode cL_law 238 = .ok (.aload_n 2, 1) := by decide +kernel
theorem dL_law_239 : decode cL_law 239 = .ok (.invokevirtual 45, 3) := by decide +kernel
theorem dL_law_242 : decode cL_law 242 = .ok (.if_icmp .eq 5, 3) := by decide +kernel
theorem dL_law_245 : decode cL_law 245 = .ok (.iconst 0, 1) := by decide +kernel
theorem dL_law_246 : decode cL_law 246 = .ok (.ireturn, 1) := by decide +kernel
theorem dL_law_247 : decode cL_law 247 = .ok (.iinc 3 6, 3) := by decide +kernel
theorem dL_law_250 : decode cL_law 250 = .ok (.goto (-232), 3) := by decide +kernel
theorem dL_law_253 : decode cL_law 253 = .ok (.iconst 1, 1) := by decide +kernel
theorem dL_law_254 : decode cL_law 254 = .ok (.ireturn, 1) := by decide +kernel
abbrev vwCl : List vw_C := [(RX0, TX0, 4), (RX1, TX1, 4), (RX2, TX2, 5), (RX3, TX3, 9)]
end
section
theorem inX0 : ∀ w ∈ wsX00, w ∈ lw_tbl := by decide +kernel
theorem inX1 : ∀ w ∈ wsX10, w ∈ lw_tbl := by decide +kernel
theorem inX2 : ∀ w ∈ wsX20, w ∈ lw_tbl := by decide +kernel
theorem inX3 : ∀ w ∈ wsX30, w ∈ lw_tbl := by decide +kernel
abbrev cM_tells : ByteArray := prog_5_method_7_code
def yM_tells : MethodName := ⟨RX3, "tells", "(I)I"⟩
theorem dM_tells_0 : decode cM_tells 0 = .ok (.aload_n 0, 1) := by decide +kernel
theorem dM_tells_1 : decode cM_tells 1 = .ok (.getfield 13, 3) := by decide +kernel
theorem dM_tells_4 : decode cM_tells 4 = .ok (.iload_n 1, 1) := by decide +kernel
theorem dM_tells_5 : decode cM_tells 5 = .ok (.iaload, 1) := by decide +kernel
theorem dM_tells_6 : decode cM_tells 6 = .ok (.bipush 92, 2) := by decide +kernel
theorem dM_tells_8 : decode cM_tells 8 = .ok (.if_icmp .ne 29, 3) := by decide +kernel
theorem dM_tells_11 : decode cM_tells 11 = .ok (.iload_n 1, 1) := by decide +kernel
theorem dM_tells_12 : decode cM_tells 12 = .ok (.iconst 1, 1) := by decide +kernel
theorem dM_tells_13 : decode cM_tells 13 = .ok (.iadd, 1) := by decide +kernel
theorem dM_tells_14 : decode cM_tells 14 = .ok (.aload_n 0, 1) := by decide +kernel
theorem dM_tells_15 : decode cM_tells 15 = .ok (.getfield 31, 3) := by decide +kernel
theorem dM_tells_18 : decode cM_tells 18 = .ok (.if_icmp .ge 19, 3) := by decide +kernel
theorem dM_tells_21 : decode cM_tells 21 = .ok (.aload_n 0, 1) := by decide +kernel
theorem dM_tells_22 : decode cM_tells 22 = .ok (.aload_n 0, 1) := by decide +kernel
theorem dM_tells_23 : decode cM_tells 23 = .ok (.getfield 13, 3) := by decide +kernel
theorem dM_tells_26 : decode cM_tells 26 = .ok (.iload_n 1, 1) := by decide +kernel
theorem dM_tells_27 : decode cM_tells 27 = .ok (.iconst 1, 1) := by decide +kernel
theorem dM_tells_28 : decode cM_tells 28 = .ok (.iadd, 1) := by decide +kernel
theorem dM_tells_29 : decode cM_tells 29 = .ok (.iaload, 1) := by decide +kernel
theorem dM_tells_30 : decode cM_tells 30 = .ok (.putfield 37, 3) := by decide +kernel
theorem dM_tells_33 : decode cM_tells 33 = .ok (.iload_n 1, 1) := by decide +kernel
theorem dM_tells_34 : decode cM_tells 34 = .ok (.iconst 2, 1) := by decide +kernel
theorem dM_tells_35 : decode cM_tells 35 = .ok (.iadd, 1) := by decide +kernel
theorem dM_tells_36 : decode cM_tells 36 = .ok (.ireturn, 1) := by decide +kernel
theorem dM_tells_37 : decode cM_tells 37 = .ok (.aload_n 0, 1) := by decide +kernel
theorem dM_tells_38 : decode cM_tells 38 = .ok (.aload_n 0, 1) := by decide +kernel
theorem dM_tells_39 : decode cM_tells 39 = .ok (.getfield 13, 3) := by decide +kernel
theorem dM_tells_42 : decode cM_tells 42 = .ok (.iload_n 1, 1) := by decide +kernel
theorem dM_tells_43 : decode cM_tells 43 = .ok (.iaload, 1) := by decide +kernel
theorem dM_tells_44 : decode cM_tells 44 = .ok (.putfield 37, 3) := by decide +kernel
theorem dM_tells_47 : decode cM_tells 47 = .ok (.iload_n 1, 1) := by decide +kernel
theorem dM_tells_48 : decode cM_tells 48 = .ok (.iconst 1, 1) := by decide +kernel
theorem dM_tells_49 : decode cM_tells 49 = .ok (.iadd, 1) := by decide +kernel
theorem dM_tells_50 : decode cM_tells 50 = .ok (.ireturn, 1) := by decide +kernel
abbrev cM_isOne : ByteArray := prog_5_method_8_code
def yM_isOne : MethodName := ⟨RX3, "isOne", "(II)Z"⟩
theorem dM_isOne_0 : decode cM_isOne 0 = .ok (.iload_n 1, 1) := by decide +kernel
theorem dM_isOne_1 : decode cM_isOne 1 = .ok (.iconst 1, 1) := by decide +kernel
theorem dM_isOne_2 : decode cM_isOne 2 = .ok (.iadd, 1) := by decide +kernel
theorem dM_isOne_3 : decode cM_isOne 3 = .ok (.istore_n 3, 1) := by decide +kernel
theorem dM_isOne_4 : decode cM_isOne 4 = .ok (.iload_n 3, 1) := by decide +kernel
theorem dM_isOne_5 : decode cM_isOne 5 = .ok (.aload_n 0, 1) := by decide +kernel
theorem dM_isOne_6 : decode cM_isOne 6 = .ok (.getfield 31, 3) := by decide +kernel
theorem dM_isOne_9 : decode cM_isOne 9 = .ok (.if_icmp .ge 18, 3) := by decide +kernel
theorem dM_isOne_12 : decode cM_isOne 12 = .ok (.aload_n 0, 1) := by decide +kernel
theorem dM_isOne_13 : decode cM_isOne 13 = .ok (.getfield 13, 3) := by decide +kernel
theorem dM_isOne_16 : decode cM_isOne 16 = .ok (.iload_n 3, 1) := by decide +kernel
theorem dM_isOne_17 : decode cM_isOne 17 = .ok (.iaload, 1) := by decide +kernel
theorem dM_isOne_18 : decode cM_isOne 18 = .ok (.bipush 94, 2) := by decide +kernel
theorem dM_isOne_20 : decode cM_isOne 20 = .ok (.if_icmp .ne 7, 3) := by decide +kernel
theorem dM_isOne_23 : decode cM_isOne 23 = .ok (.iconst 1, 1) := by decide +kernel
theorem dM_isOne_24 : decode cM_isOne 24 = .ok (.goto 4, 3) := by decide +kernel
theorem dM_isOne_27 : decode cM_isOne 27 = .ok (.iconst 0, 1) := by decide +kernel
theorem dM_isOne_28 : decode cM_isOne 28 = .ok (.istore 4, 2) := by decide +kernel
theorem dM_isOne_30 : decode cM_isOne 30 = .ok (.iload_n 3, 1) := by decide +kernel
theorem dM_isOne_31 : decode cM_isOne 31 = .ok (.iload 4, 2) := by decide +kernel
theorem dM_isOne_33 : decode cM_isOne 33 = .ok (.ifCond .eq 7, 3) := by decide +kernel
theorem dM_isOne_36 : decode cM_isOne 36 = .ok (.iconst 1, 1) := by decide +kernel
theorem dM_isOne_37 : decode cM_isOne 37 = .ok (.goto 4, 3) := by decide +kernel
theorem dM_isOne_40 : decode cM_isOne 40 = .ok (.iconst 0, 1) := by decide +kernel
theorem dM_isOne_41 : decode cM_isOne 41 = .ok (.iadd, 1) := by decide +kernel
theorem dM_isOne_42 : decode cM_isOne 42 = .ok (.istore_n 3, 1) := by decide +kernel
theorem dM_isOne_43 : decode cM_isOne 43 = .ok (.iconst 0, 1) := by decide +kernel
theorem dM_isOne_44 : decode cM_isOne 44 = .ok (.istore 5, 2) := by decide +kernel
theorem dM_isOne_46 : decode cM_isOne 46 = .ok (.iload_n 3, 1) := by decide +kernel
theorem dM_isOne_47 : decode cM_isOne 47 = .ok (.aload_n 0, 1) := by decide +kernel
theorem dM_isOne_48 : decode cM_isOne 48 = .ok (.getfield 31, 3) := by decide +kernel
theorem dM_isOne_51 : decode cM_isOne 51 = .ok (.if_icmp .ge 105, 3) := by decide +kernel
theorem dM_isOne_54 : decode cM_isOne 54 = .ok (.aload_n 0, 1) := by decide +kernel
theorem dM_isOne_55 : decode cM_isOne 55 = .ok (.getfield 13, 3) := by decide +kernel
theorem dM_isOne_58 : decode cM_isOne 58 = .ok (.iload_n 3, 1) := by decide +kernel
theorem dM_isOne_59 : decode cM_isOne 59 = .ok (.iaload, 1) := by decide +kernel
theorem dM_isOne_60 : decode cM_isOne 60 = .ok (.bipush 93, 2) := by decide +kernel
theorem dM_isOne_62 : decode cM_isOne 62 = .ok (.if_icmp .eq 94, 3) := by decide +kernel
theorem dM_isOne_65 : decode cM_isOne 65 = .ok (.aload_n 0, 1) := by decide +kernel
theorem dM_isOne_66 : decode cM_isOne 66 = .ok (.iload_n 3, 1) := by decide +kernel
theorem dM_isOne_67 : decode cM_isOne 67 = .ok (.invokevirtual 40, 3) := by decide +kernel
theorem dM_isOne_70 : decode cM_isOne 70 = .ok (.istore_n 3, 1) := by decide +kernel
theorem dM_isOne_71 : decode cM_isOne 71 = .ok (.aload_n 0, 1) := by decide +kernel
theorem dM_isOne_72 : decode cM_isOne 72 = .ok (.getfield 37, 3) := by decide +kernel
theorem dM_isOne_75 : decode cM_isOne 75 = .ok (.istore 6, 2) := by decide +kernel
theorem dM_isOne_77 : decode cM_isOne 77 = .ok (.iload 6, 2) := by decide +kernel
theorem dM_isOne_79 : decode cM_isOne 79 = .ok (.istore 7, 2) := by decide +kernel
theorem dM_isOne_81 : decode cM_isOne 81 = .ok (.iload_n 3, 1) := by decide +kernel
theorem dM_isOne_82 : decode cM_isOne 82 = .ok (.iconst 1, 1) := by decide +kernel
theorem dM_isOne_83 : decode cM_isOne 83 = .ok (.iadd, 1) := by decide +kernel
theorem dM_isOne_84 : decode cM_isOne 84 = .ok (.aload_n 0, 1) := by decide +kernel
theorem dM_isOne_85 : decode cM_isOne 85 = .ok (.getfield 31, 3) := by decide +kernel
theorem dM_isOne_88 : decode cM_isOne 88 = .ok (.if_icmp .ge 41, 3) := by decide +kernel
theorem dM_isOne_91 : decode cM_isOne 91 = .ok (.aload_n 0, 1) := by decide +kernel
theorem dM_isOne_92 : decode cM_isOne 92 = .ok (.getfield 13, 3) := by decide +kernel
theorem dM_isOne_95 : decode cM_isOne 95 = .ok (.iload_n 3, 1) := by decide +kernel
theorem dM_isOne_96 : decode cM_isOne 96 = .ok (.iaload, 1) := by decide +kernel
theorem dM_isOne_97 : decode cM_isOne 97 = .ok (.bipush 45, 2) := by decide +kernel
theorem dM_isOne_99 : decode cM_isOne 99 = .ok (.if_icmp .ne 30, 3) := by decide +kernel
theorem dM_isOne_102 : decode cM_isOne 102 = .ok (.aload_n 0, 1) := by decide +kernel
theorem dM_isOne_103 : decode cM_isOne 103 = .ok (.getfield 13, 3) := by decide +kernel
theorem dM_isOne_106 : decode cM_isOne 106 = .ok (.iload_n 3, 1) := by decide +kernel
theorem dM_isOne_107 : decode cM_isOne 107 = .ok (.iconst 1, 1) := by decide +kernel
theorem dM_isOne_108 : decode cM_isOne 108 = .ok (.iadd, 1) := by decide +kernel
theorem dM_isOne_109 : decode cM_isOne 109 = .ok (.iaload, 1) := by decide +kernel
theorem dM_isOne_110 : decode cM_isOne 110 = .ok (.bipush 93, 2) := by decide +kernel
theorem dM_isOne_112 : decode cM_isOne 112 = .ok (.if_icmp .eq 17, 3) := by decide +kernel
theorem dM_isOne_115 : decode cM_isOne 115 = .ok (.aload_n 0, 1) := by decide +kernel
theorem dM_isOne_116 : decode cM_isOne 116 = .ok (.iload_n 3, 1) := by decide +kernel
theorem dM_isOne_117 : decode cM_isOne 117 = .ok (.iconst 1, 1) := by decide +kernel
theorem dM_isOne_118 : decode cM_isOne 118 = .ok (.iadd, 1) := by decide +kernel
theorem dM_isOne_119 : decode cM_isOne 119 = .ok (.invokevirtual 40, 3) := by decide +kernel
theorem dM_isOne_122 : decode cM_isOne 122 = .ok (.istore_n 3, 1) := by decide +kernel
theorem dM_isOne_123 : decode cM_isOne 123 = .ok (.aload_n 0, 1) := by decide +kernel
theorem dM_isOne_124 : decode cM_isOne 124 = .ok (.getfield 37, 3) := by decide +kernel
theorem dM_isOne_127 : decode cM_isOne 127 = .ok (.istore 7, 2) := by decide +kernel
theorem dM_isOne_129 : decode cM_isOne 129 = .ok (.iload 5, 2) := by decide +kernel
theorem dM_isOne_131 : decode cM_isOne 131 = .ok (.ifCond .ne 15, 3) := by decide +kernel
theorem dM_isOne_134 : decode cM_isOne 134 = .ok (.iload_n 2, 1) := by decide +kernel
theorem dM_isOne_135 : decode cM_isOne 135 = .ok (.iload 6, 2) := by decide +kernel
theorem dM_isOne_137 : decode cM_isOne 137 = .ok (.if_icmp .lt 13, 3) := by decide +kernel
theorem dM_isOne_140 : decode cM_isOne 140 = .ok (.iload_n 2, 1) := by decide +kernel
theorem dM_isOne_141 : decode cM_isOne 141 = .ok (.iload 7, 2) := by decide +kernel
theorem dM_isOne_143 : decode cM_isOne 143 = .ok (.if_icmp .gt 7, 3) := by decide +kernel
theorem dM_isOne_146 : decode cM_isOne 146 = .ok (.iconst 1, 1) := by decide +kernel
theorem dM_isOne_147 : decode cM_isOne 147 = .ok (.goto 4, 3) := by decide +kernel
theorem dM_isOne_150 : decode cM_isOne 150 = .ok (.iconst 0, 1) := by decide +kernel
theorem dM_isOne_151 : decode cM_isOne 151 = .ok (.istore 5, 2) := by decide +kernel
theorem dM_isOne_153 : decode cM_isOne 153 = .ok (.goto (-107), 3) := by decide +kernel
theorem dM_isOne_156 : decode cM_isOne 156 = .ok (.aload_n 0, 1) := by decide +kernel
theorem dM_isOne_157 : decode cM_isOne 157 = .ok (.iload_n 3, 1) := by decide +kernel
theorem dM_isOne_158 : decode cM_isOne 158 = .ok (.aload_n 0, 1) := by decide +kernel
theorem dM_isOne_159 : decode cM_isOne 159 = .ok (.getfield 31, 3) := by decide +kernel
theorem dM_isOne_162 : decode cM_isOne 162 = .ok (.if_icmp .ge 9, 3) := by decide +kernel
theorem dM_isOne_165 : decode cM_isOne 165 = .ok (.iload_n 3, 1) := by decide +kernel
theorem dM_isOne_166 : decode cM_isOne 166 = .ok (.iconst 1, 1) := by decide +kernel
theorem dM_isOne_167 : decode cM_isOne 167 = .ok (.iadd, 1) := by decide +kernel
theorem dM_isOne_168 : decode cM_isOne 168 = .ok (.goto 4, 3) := by decide +kernel
theorem dM_isOne_171 : decode cM_isOne 171 = .ok (.iload_n 3, 1) := by decide +kernel
theorem dM_isOne_172 : decode cM_isOne 172 = .ok (.putfield 44, 3) := by decide +kernel
theorem dM_isOne_175 : decode cM_isOne 175 = .ok (.iload 5, 2) := by decide +kernel
theorem dM_isOne_177 : decode cM_isOne 177 = .ok (.iload 4, 2) := by decide +kernel
theorem dM_isOne_179 : decode cM_isOne 179 = .ok (.if_icmp .eq 7, 3) := by decide +kernel
theorem dM_isOne_182 : decode cM_isOne 182 = .ok (.iconst 1, 1) := by decide +kernel
theorem dM_isOne_183 : decode cM_isOne 183 = .ok (.goto 4, 3) := by decide +kernel
theorem dM_isOne_186 : decode cM_isOne 186 = .ok (.iconst 0, 1) := by decide +kernel
theorem dM_isOne_187 : decode cM_isOne 187 = .ok (.ireturn, 1) := by decide +kernel
abbrev cM_suits : ByteArray := prog_5_method_9_code
def yM_suits : MethodName := ⟨RX3, "suits", "(II)Z"⟩
theorem dM_suits_0 : decode cM_suits 0 = .ok (.aload_n 0, 1) := by decide +kernel
theorem dM_suits_1 : decode cM_suits 1 = .ok (.getfield 13, 3) := by decide +kernel
theorem dM_suits_4 : decode cM_suits 4 = .ok (.iload_n 1, 1) := by decide +kernel
theorem dM_suits_5 : decode cM_suits 5 = .ok (.iaload, 1) := by decide +kernel
theorem dM_suits_6 : decode cM_suits 6 = .ok (.bipush 91, 2) := by decide +kernel
theorem dM_suits_8 : decode cM_suits 8 = .ok (.if_icmp .ne 10, 3) := by decide +kernel
theorem dM_suits_11 : decode cM_suits 11 = .ok (.aload_n 0, 1) := by decide +kernel
theorem dM_suits_12 : decode cM_suits 12 = .ok (.iload_n 1, 1) := by decide +kernel
theorem dM_suits_13 : decode cM_suits 13 = .ok (.iload_n 2, 1) := by decide +kernel
theorem dM_suits_14 : decode cM_suits 14 = .ok (.invokevirtual 47, 3) := by decide +kernel
theorem dM_suits_17 : decode cM_suits 17 = .ok (.ireturn, 1) := by decide +kernel
theorem dM_suits_18 : decode cM_suits 18 = .ok (.aload_n 0, 1) := by decide +kernel
theorem dM_suits_19 : decode cM_suits 19 = .ok (.getfield 13, 3) := by decide +kernel
theorem dM_suits_22 : decode cM_suits 22 = .ok (.iload_n 1, 1) := by decide +kernel
theorem dM_suits_23 : decode cM_suits 23 = .ok (.iaload, 1) := by decide +kernel
theorem dM_suits_24 : decode cM_suits 24 = .ok (.bipush 63, 2) := by decide +kernel
theorem dM_suits_26 : decode cM_suits 26 = .ok (.if_icmp .ne 12, 3) := by decide +kernel
theorem dM_suits_29 : decode cM_suits 29 = .ok (.aload_n 0, 1) := by decide +kernel
theorem dM_suits_30 : decode cM_suits 30 = .ok (.iload_n 1, 1) := by decide +kernel
theorem dM_suits_31 : decode cM_suits 31 = .ok (.iconst 1, 1) := by decide +kernel
theorem dM_suits_32 : decode cM_suits 32 = .ok (.iadd, 1) := by decide +kernel
theorem dM_suits_33 : decode cM_suits 33 = .ok (.putfield 44, 3) := by decide +kernel
theorem dM_suits_36 : decode cM_suits 36 = .ok (.iconst 1, 1) := by decide +kernel
theorem dM_suits_37 : decode cM_suits 37 = .ok (.ireturn, 1) := by decide +kernel
theorem dM_suits_38 : decode cM_suits 38 = .ok (.aload_n 0, 1) := by decide +kernel
theorem dM_suits_39 : decode cM_suits 39 = .ok (.aload_n 0, 1) := by decide +kernel
theorem dM_suits_40 : decode cM_suits 40 = .ok (.iload_n 1, 1) := by decide +kernel
theorem dM_suits_41 : decode cM_suits 41 = .ok (.invokevirtual 40, 3) := by decide +kernel
theorem dM_suits_44 : decode cM_suits 44 = .ok (.putfield 44, 3) := by decide +kernel
theorem dM_suits_47 : decode cM_suits 47 = .ok (.aload_n 0, 1) := by decide +kernel
theorem dM_suits_48 : decode cM_suits 48 = .ok (.getfield 37, 3) := by decide +kernel
theorem dM_suits_51 : decode cM_suits 51 = .ok (.iload_n 2, 1) := by decide +kernel
theorem dM_suits_52 : decode cM_suits 52 = .ok (.if_icmp .ne 7, 3) := by decide +kernel
theorem dM_suits_55 : decode cM_suits 55 = .ok (.iconst 1, 1) := by decide +kernel
theorem dM_suits_56 : decode cM_suits 56 = .ok (.goto 4, 3) := by decide +kernel
theorem dM_suits_59 : decode cM_suits 59 = .ok (.iconst 0, 1) := by decide +kernel
theorem dM_suits_60 : decode cM_suits 60 = .ok (.ireturn, 1) := by decide +kernel
abbrev cM_reckon : ByteArray := prog_5_method_10_code
def yM_reckon : MethodName := ⟨RX3, "reckon", "(II)V"⟩
theorem dM_reckon_0 : decode cM_reckon 0 = .ok (.aload_n 0, 1) := by decide +kernel
theorem dM_reckon_1 : decode cM_reckon 1 = .ok (.getfield 19, 3) := by decide +kernel
theorem dM_reckon_4 : decode cM_reckon 4 = .ok (.iconst 0, 1) := by decide +kernel
theorem dM_reckon_5 : decode cM_reckon 5 = .ok (.iconst 1, 1) := by decide +kernel
theorem dM_reckon_6 : decode cM_reckon 6 = .ok (.bastore, 1) := by decide +kernel
theorem dM_reckon_7 : decode cM_reckon 7 = .ok (.iconst 1, 1) := by decide +kernel
theorem dM_reckon_8 : decode cM_reckon 8 = .ok (.istore_n 3, 1) := by decide +kernel
theorem dM_reckon_9 : decode cM_reckon 9 = .ok (.iload_n 3, 1) := by decide +kernel
theorem dM_reckon_10 : decode cM_reckon 10 = .ok (.iload_n 2, 1) := by decide +kernel
theorem dM_reckon_11 : decode cM_reckon 11 = .ok (.if_icmp .gt 16, 3) := by decide +kernel
theorem dM_reckon_14 : decode cM_reckon 14 = .ok (.aload_n 0, 1) := by decide +kernel
theorem dM_reckon_15 : decode cM_reckon 15 = .ok (.getfield 19, 3) := by decide +kernel
theorem dM_reckon_18 : decode cM_reckon 18 = .ok (.iload_n 3, 1) := by decide +kernel
theorem dM_reckon_19 : decode cM_reckon 19 = .ok (.iconst 0, 1) := by decide +kernel
theorem dM_reckon_20 : decode cM_reckon 20 = .ok (.bastore, 1) := by decide +kernel
theorem dM_reckon_21 : decode cM_reckon 21 = .ok (.iinc 3 1, 3) := by decide +kernel
theorem dM_reckon_24 : decode cM_reckon 24 = .ok (.goto (-15), 3) := by decide +kernel
theorem dM_reckon_27 : decode cM_reckon 27 = .ok (.iconst 0, 1) := by decide +kernel
theorem dM_reckon_28 : decode cM_reckon 28 = .ok (.istore_n 3, 1) := by decide +kernel
theorem dM_reckon_29 : decode cM_reckon 29 = .ok (.iload_n 3, 1) := by decide +kernel
theorem dM_reckon_30 : decode cM_reckon 30 = .ok (.aload_n 0, 1) := by decide +kernel
theorem dM_reckon_31 : decode cM_reckon 31 = .ok (.getfield 31, 3) := by decide +kernel
theorem dM_reckon_34 : decode cM_reckon 34 = .ok (.if_icmp .ge 148, 3) := by decide +kernel
theorem dM_reckon_37 : decode cM_reckon 37 = .ok (.aload_n 0, 1) := by decide +kernel
theorem dM_reckon_38 : decode cM_reckon 38 = .ok (.getfield 13, 3) := by decide +kernel
theorem dM_reckon_41 : decode cM_reckon 41 = .ok (.iload_n 3, 1) := by decide +kernel
theorem dM_reckon_42 : decode cM_reckon 42 = .ok (.iaload, 1) := by decide +kernel
theorem dM_reckon_43 : decode cM_reckon 43 = .ok (.bipush 42, 2) := by decide +kernel
theorem dM_reckon_45 : decode cM_reckon 45 = .ok (.if_icmp .ne 58, 3) := by decide +kernel
theorem dM_reckon_48 : decode cM_reckon 48 = .ok (.iconst 1, 1) := by decide +kernel
theorem dM_reckon_49 : decode cM_reckon 49 = .ok (.istore 4, 2) := by decide +kernel
theorem dM_reckon_51 : decode cM_reckon 51 = .ok (.iload 4, 2) := by decide +kernel
theorem dM_reckon_53 : decode cM_reckon 53 = .ok (.iload_n 2, 1) := by decide +kernel
theorem dM_reckon_54 : decode cM_reckon 54 = .ok (.if_icmp .gt 43, 3) := by decide +kernel
theorem dM_reckon_57 : decode cM_reckon 57 = .ok (.aload_n 0, 1) := by decide +kernel
theorem dM_reckon_58 : decode cM_reckon 58 = .ok (.getfield 19, 3) := by decide +kernel
theorem dM_reckon_61 : decode cM_reckon 61 = .ok (.iload 4, 2) := by decide +kernel
theorem dM_reckon_63 : decode cM_reckon 63 = .ok (.aload_n 0, 1) := by decide +kernel
theorem dM_reckon_64 : decode cM_reckon 64 = .ok (.getfield 19, 3) := by decide +kernel
theorem dM_reckon_67 : decode cM_reckon 67 = .ok (.iload 4, 2) := by decide +kernel
theorem dM_reckon_69 : decode cM_reckon 69 = .ok (.baload, 1) := by decide +kernel
theorem dM_reckon_70 : decode cM_reckon 70 = .ok (.ifCond .ne 15, 3) := by decide +kernel
theorem dM_reckon_73 : decode cM_reckon 73 = .ok (.aload_n 0, 1) := by decide +kernel
theorem dM_reckon_74 : decode cM_reckon 74 = .ok (.getfield 19, 3) := by decide +kernel
theorem dM_reckon_77 : decode cM_reckon 77 = .ok (.iload 4, 2) := by decide +kernel
theorem dM_reckon_79 : decode cM_reckon 79 = .ok (.iconst 1, 1) := by decide +kernel
theorem dM_reckon_80 : decode cM_reckon 80 = .ok (.isub, 1) := by decide +kernel
theorem dM_reckon_81 : decode cM_reckon 81 = .ok (.baload, 1) := by decide +kernel
theorem dM_reckon_82 : decode cM_reckon 82 = .ok (.ifCond .eq 7, 3) := by decide +kernel
theorem dM_reckon_85 : decode cM_reckon 85 = .ok (.iconst 1, 1) := by decide +kernel
theorem dM_reckon_86 : decode cM_reckon 86 = .ok (.goto 4, 3) := by decide +kernel
theorem dM_reckon_89 : decode cM_reckon 89 = .ok (.iconst 0, 1) := by decide +kernel
theorem dM_reckon_90 : decode cM_reckon 90 = .ok (.bastore, 1) := by decide +kernel
theorem dM_reckon_91 : decode cM_reckon 91 = .ok (.iinc 4 1, 3) := by decide +kernel
theorem dM_reckon_94 : decode cM_reckon 94 = .ok (.goto (-43), 3) := by decide +kernel
theorem dM_reckon_97 : decode cM_reckon 97 = .ok (.iinc 3 1, 3) := by decide +kernel
theorem dM_reckon_100 : decode cM_reckon 100 = .ok (.goto (-71), 3) := by decide +kernel
theorem dM_reckon_103 : decode cM_reckon 103 = .ok (.iload_n 2, 1) := by decide +kernel
theorem dM_reckon_104 : decode cM_reckon 104 = .ok (.istore 4, 2) := by decide +kernel
theorem dM_reckon_106 : decode cM_reckon 106 = .ok (.iload 4, 2) := by decide +kernel
theorem dM_reckon_108 : decode cM_reckon 108 = .ok (.ifCond .le 52, 3) := by decide +kernel
theorem dM_reckon_111 : decode cM_reckon 111 = .ok (.aload_n 0, 1) := by decide +kernel
theorem dM_reckon_112 : decode cM_reckon 112 = .ok (.getfield 19, 3) := by decide +kernel
theorem dM_reckon_115 : decode cM_reckon 115 = .ok (.iload 4, 2) := by decide +kernel
theorem dM_reckon_117 : decode cM_reckon 117 = .ok (.aload_n 0, 1) := by decide +kernel
theorem dM_reckon_118 : decode cM_reckon 118 = .ok (.getfield 19, 3) := by decide +kernel
theorem dM_reckon_121 : decode cM_reckon 121 = .ok (.iload 4, 2) := by decide +kernel
theorem dM_reckon_123 : decode cM_reckon 123 = .ok (.iconst 1, 1) := by decide +kernel
theorem dM_reckon_124 : decode cM_reckon 124 = .ok (.isub, 1) := by decide +kernel
theorem dM_reckon_125 : decode cM_reckon 125 = .ok (.baload, 1) := by decide +kernel
theorem dM_reckon_126 : decode cM_reckon 126 = .ok (.ifCond .eq 26, 3) := by decide +kernel
theorem dM_reckon_129 : decode cM_reckon 129 = .ok (.aload_n 0, 1) := by decide +kernel
theorem dM_reckon_130 : decode cM_reckon 130 = .ok (.iload_n 3, 1) := by decide +kernel
theorem dM_reckon_131 : decode cM_reckon 131 = .ok (.aload_n 0, 1) := by decide +kernel
theorem dM_reckon_132 : decode cM_reckon 132 = .ok (.getfield 16, 3) := by decide +kernel
theorem dM_reckon_135 : decode cM_reckon 135 = .ok (.iload_n 1, 1) := by decide +kernel
theorem dM_reckon_136 : decode cM_reckon 136 = .ok (.iload 4, 2) := by decide +kernel
theorem dM_reckon_138 : decode cM_reckon 138 = .ok (.iadd, 1) := by decide +kernel
theorem dM_reckon_139 : decode cM_reckon 139 = .ok (.iconst 1, 1) := by decide +kernel
theorem dM_reckon_140 : decode cM_reckon 140 = .ok (.isub, 1) := by decide +kernel
theorem dM_reckon_141 : decode cM_reckon 141 = .ok (.iaload, 1) := by decide +kernel
theorem dM_reckon_142 : decode cM_reckon 142 = .ok (.invokevirtual 51, 3) := by decide +kernel
theorem dM_reckon_145 : decode cM_reckon 145 = .ok (.ifCond .eq 7, 3) := by decide +kernel
theorem dM_reckon_148 : decode cM_reckon 148 = .ok (.iconst 1, 1) := by decide +kernel
theorem dM_reckon_149 : decode cM_reckon 149 = .ok (.goto 4, 3) := by decide +kernel
theorem dM_reckon_152 : decode cM_reckon 152 = .ok (.iconst 0, 1) := by decide +kernel
theorem dM_reckon_153 : decode cM_reckon 153 = .ok (.bastore, 1) := by decide +kernel
theorem dM_reckon_154 : decode cM_reckon 154 = .ok (.iinc 4 (-1), 3) := by decide +kernel
theorem dM_reckon_157 : decode cM_reckon 157 = .ok (.goto (-51), 3) := by decide +kernel
theorem dM_reckon_160 : decode cM_reckon 160 = .ok (.aload_n 0, 1) := by decide +kernel
theorem dM_reckon_161 : decode cM_reckon 161 = .ok (.getfield 19, 3) := by decide +kernel
theorem dM_reckon_164 : decode cM_reckon 164 = .ok (.iconst 0, 1) := by decide +kernel
theorem dM_reckon_165 : decode cM_reckon 165 = .ok (.iconst 0, 1) := by decide +kernel
theorem dM_reckon_166 : decode cM_reckon 166 = .ok (.bastore, 1) := by decide +kernel
theorem dM_reckon_167 : decode cM_reckon 167 = .ok (.aload_n 0, 1) := by decide +kernel
theorem dM_reckon_168 : decode cM_reckon 168 = .ok (.iload_n 3, 1) := by decide +kernel
theorem dM_reckon_169 : decode cM_reckon 169 = .ok (.iconst 0, 1) := by decide +kernel
theorem dM_reckon_170 : decode cM_reckon 170 = .ok (.invokevirtual 51, 3) := by decide +kernel
theorem dM_reckon_173 : decode cM_reckon 173 = .ok (.pop, 1) := by decide +kernel
theorem dM_reckon_174 : decode cM_reckon 174 = .ok (.aload_n 0, 1) := by decide +kernel
theorem dM_reckon_175 : decode cM_reckon 175 = .ok (.getfield 44, 3) := by decide +kernel
theorem dM_reckon_178 : decode cM_reckon 178 = .ok (.istore_n 3, 1) := by decide +kernel
theorem dM_reckon_179 : decode cM_reckon 179 = .ok (.goto (-150), 3) := by decide +kernel
theorem dM_reckon_182 : decode cM_reckon 182 = .ok (.return_, 1) := by decide +kernel
abbrev cM_fits : ByteArray := prog_5_method_11_code
def yM_fits : MethodName := ⟨RX3, "fits", "()Z"⟩
theorem dM_fits_0 : decode cM_fits 0 = .ok (.aload_n 0, 1) := by decide +kernel
theorem dM_fits_1 : decode cM_fits 1 = .ok (.iconst 0, 1) := by decide +kernel
theorem dM_fits_2 : decode cM_fits 2 = .ok (.aload_n 0, 1) := by decide +kernel
theorem dM_fits_3 : decode cM_fits 3 = .ok (.getfield 34, 3) := by decide +kernel
theorem dM_fits_6 : decode cM_fits 6 = .ok (.invokevirtual 54, 3) := by decide +kernel
theorem dM_fits_9 : decode cM_fits 9 = .ok (.aload_n 0, 1) := by decide +kernel
theorem dM_fits_10 : decode cM_fits 10 = .ok (.getfield 19, 3) := by decide +kernel
theorem dM_fits_13 : decode cM_fits 13 = .ok (.aload_n 0, 1) := by decide +kernel
theorem dM_fits_14 : decode cM_fits 14 = .ok (.getfield 34, 3) := by decide +kernel
theorem dM_fits_17 : decode cM_fits 17 = .ok (.baload, 1) := by decide +kernel
theorem dM_fits_18 : decode cM_fits 18 = .ok (.ireturn, 1) := by decide +kernel
abbrev cM_fitsPart : ByteArray := prog_5_method_12_code
def yM_fitsPart : MethodName := ⟨RX3, "fitsPart", "(II)Z"⟩
theorem dM_fitsPart_0 : decode cM_fitsPart 0 = .ok (.iload_n 1, 1) := by decide +kernel
theorem dM_fitsPart_1 : decode cM_fitsPart 1 = .ok (.ifCond .lt 25, 3) := by decide +kernel
theorem dM_fitsPart_4 : decode cM_fitsPart 4 = .ok (.iload_n 2, 1) := by decide +kernel
theorem dM_fitsPart_5 : decode cM_fitsPart 5 = .ok (.ifCond .lt 21, 3) := by decide +kernel
theorem dM_fitsPart_8 : decode cM_fitsPart 8 = .ok (.iload_n 1, 1) := by decide +kernel
theorem dM_fitsPart_9 : decode cM_fitsPart 9 = .ok (.aload_n 0, 1) := by decide +kernel
theorem dM_fitsPart_10 : decode cM_fitsPart 10 = .ok (.getfield 34, 3) := by decide +kernel
theorem dM_fitsPart_13 : decode cM_fitsPart 13 = .ok (.if_icmp .gt 13, 3) := by decide +kernel
theorem dM_fitsPart_16 : decode cM_fitsPart 16 = .ok (.iload_n 2, 1) := by decide +kernel
theorem dM_fitsPart_17 : decode cM_fitsPart 17 = .ok (.aload_n 0, 1) := by decide +kernel
theorem dM_fitsPart_18 : decode cM_fitsPart 18 = .ok (.getfield 34, 3) := by decide +kernel
theorem dM_fitsPart_21 : decode cM_fitsPart 21 = .ok (.iload_n 1, 1) := by decide +kernel
theorem dM_fitsPart_22 : decode cM_fitsPart 22 = .ok (.isub, 1) := by decide +kernel
theorem dM_fitsPart_23 : decode cM_fitsPart 23 = .ok (.if_icmp .le 5, 3) := by decide +kernel
theorem dM_fitsPart_26 : decode cM_fitsPart 26 = .ok (.iconst 0, 1) := by decide +kernel
theorem dM_fitsPart_27 : decode cM_fitsPart 27 = .ok (.ireturn, 1) := by decide +kernel
theorem dM_fitsPart_28 : decode cM_fitsPart 28 = .ok (.aload_n 0, 1) := by decide +kernel
theorem dM_fitsPart_29 : decode cM_fitsPart 29 = .ok (.iload_n 1, 1) := by decide +kernel
theorem dM_fitsPart_30 : decode cM_fitsPart 30 = .ok (.iload_n 2, 1) := by decide +kernel
theorem dM_fitsPart_31 : decode cM_fitsPart 31 = .ok (.invokevirtual 54, 3) := by decide +kernel
theorem dM_fitsPart_34 : decode cM_fitsPart 34 = .ok (.aload_n 0, 1) := by decide +kernel
theorem dM_fitsPart_35 : decode cM_fitsPart 35 = .ok (.getfield 19, 3) := by decide +kernel
theorem dM_fitsPart_38 : decode cM_fitsPart 38 = .ok (.iload_n 2, 1) := by decide +kernel
theorem dM_fitsPart_39 : decode cM_fitsPart 39 = .ok (.baload, 1) := by decide +kernel
theorem dM_fitsPart_40 : decode cM_fitsPart 40 = .ok (.ireturn, 1) := by decide +kernel
abbrev cM_beginnings : ByteArray := prog_5_method_13_code
def yM_beginnings : MethodName := ⟨RX3, "beginnings", "()I"⟩
theorem dM_beginnings_0 : decode cM_beginnings 0 = .ok (.aload_n 0, 1) := by decide +kernel
theorem dM_beginnings_1 : decode cM_beginnings 1 = .ok (.iconst 0, 1) := by decide +kernel
theorem dM_beginnings_2 : decode cM_beginnings 2 = .ok (.aload_n 0, 1) := by decide +kernel
theorem dM_beginnings_3 : decode cM_beginnings 3 = .ok (.getfield 34, 3) := by decide +kernel
theorem dM_beginnings_6 : decode cM_beginnings 6 = .ok (.invokevirtual 54, 3) := by decide +kernel
theorem dM_beginnings_9 : decode cM_beginnings 9 = .ok (.iconst 0, 1) := by decide +kernel
theorem dM_beginnings_10 : decode cM_beginnings 10 = .ok (.istore_n 1, 1) := by decide +kernel
theorem dM_beginnings_11 : decode cM_beginnings 11 = .ok (.iconst 0, 1) := by decide +kernel
theorem dM_beginnings_12 : decode cM_beginnings 12 = .ok (.istore_n 2, 1) := by decide +kernel
theorem dM_beginnings_13 : decode cM_beginnings 13 = .ok (.iload_n 2, 1) := by decide +kernel
theorem dM_beginnings_14 : decode cM_beginnings 14 = .ok (.aload_n 0, 1) := by decide +kernel
theorem dM_beginnings_15 : decode cM_beginnings 15 = .ok (.getfield 34, 3) := by decide +kernel
theorem dM_beginnings_18 : decode cM_beginnings 18 = .ok (.if_icmp .gt 26, 3) := by decide +kernel
theorem dM_beginnings_21 : decode cM_beginnings 21 = .ok (.iload_n 1, 1) := by decide +kernel
theorem dM_beginnings_22 : decode cM_beginnings 22 = .ok (.aload_n 0, 1) := by decide +kernel
theorem dM_beginnings_23 : decode cM_beginnings 23 = .ok (.getfield 19, 3) := by decide +kernel
theorem dM_beginnings_26 : decode cM_beginnings 26 = .ok (.iload_n 2, 1) := by decide +kernel
theorem dM_beginnings_27 : decode cM_beginnings 27 = .ok (.baload, 1) := by decide +kernel
theorem dM_beginnings_28 : decode cM_beginnings 28 = .ok (.ifCond .eq 7, 3) := by decide +kernel
theorem dM_beginnings_31 : decode cM_beginnings 31 = .ok (.iconst 1, 1) := by decide +kernel
theorem dM_beginnings_32 : decode cM_beginnings 32 = .ok (.goto 4, 3) := by decide +kernel
theorem dM_beginnings_35 : decode cM_beginnings 35 = .ok (.iconst 0, 1) := by decide +kernel
theorem dM_beginnings_36 : decode cM_beginnings 36 = .ok (.iadd, 1) := by decide +kernel
theorem dM_beginnings_37 : decode cM_beginnings 37 = .ok (.istore_n 1, 1) := by decide +kernel
theorem dM_beginnings_38 : decode cM_beginnings 38 = .ok (.iinc 2 1, 3) := by decide +kernel
theorem dM_beginnings_41 : decode cM_beginnings 41 = .ok (.goto (-28), 3) := by decide +kernel
theorem dM_beginnings_44 : decode cM_beginnings 44 = .ok (.iload_n 1, 1) := by decide +kernel
theorem dM_beginnings_45 : decode cM_beginnings 45 = .ok (.ireturn, 1) := by decide +kernel
def wsM_tells : List Cond := .code yM_tells cM_tells 2 (some .int) :: ([.fieldLink RX3 13 "WildCardsModel" "pattern" "[I", .fieldLink RX3 31 "WildCardsModel" "size" "I", .fieldLink RX3 37 "WildCardsModel" "told" "I"] ++ wsX30)
def wsM_isOne : List Cond := .code yM_isOne cM_isOne 8 (some .boolean) :: ([.fieldLink RX3 31 "WildCardsModel" "size" "I", .fieldLink RX3 13 "WildCardsModel" "pattern" "[I", .methodLink RX3 40 yM_tells, .instanceMethod yM_tells, .selects RX3 yM_tells yM_tells, .initialized RX3, .code yM_tells cM_tells 2 (some .int), .fieldLink RX3 37 "WildCardsModel" "told" "I", .fieldLink RX3 44 "WildCardsModel" "end" "I"] ++ wsX30)
set_option maxRecDepth 20000 in
theorem gM_isOne_M_tells : GoodIn wsM_isOne (wsV RX3 40 RX3 yM_tells wsM_tells) := goodIn_of _ (by decide +kernel)
def wsM_suits : List Cond := .code yM_suits cM_suits 3 (some .boolean) :: ([.fieldLink RX3 13 "WildCardsModel" "pattern" "[I", .methodLink RX3 47 yM_isOne, .instanceMethod yM_isOne, .selects RX3 yM_isOne yM_isOne, .initialized RX3, .code yM_isOne cM_isOne 8 (some .boolean), .fieldLink RX3 31 "WildCardsModel" "size" "I", .methodLink RX3 40 yM_tells, .instanceMethod yM_tells, .selects RX3 yM_tells yM_tells, .code yM_tells cM_tells 2 (some .int), .fieldLink RX3 37 "WildCardsModel" "told" "I", .fieldLink RX3 44 "WildCardsModel" "end" "I"] ++ wsX30)
set_option maxRecDepth 20000 in
theorem gM_suits_M_isOne : GoodIn wsM_suits (wsV RX3 47 RX3 yM_isOne wsM_isOne) := goodIn_of _ (by decide +kernel)
set_option maxRecDepth 20000 in
theorem gM_suits_M_tells : GoodIn wsM_suits (wsV RX3 40 RX3 yM_tells wsM_tells) := goodIn_of _ (by decide +kernel)
def wsM_reckon : List Cond := .code yM_reckon cM_reckon 5 none :: ([.fieldLink RX3 19 "WildCardsModel" "fit" "[Z", .fieldLink RX3 31 "WildCardsModel" "size" "I", .fieldLink RX3 13 "WildCardsModel" "pattern" "[I", .fieldLink RX3 16 "WildCardsModel" "word" "[I", .methodLink RX3 51 yM_suits, .instanceMethod yM_suits, .selects RX3 yM_suits yM_suits, .initialized RX3, .code yM_suits cM_suits 3 (some .boolean), .methodLink RX3 47 yM_isOne, .instanceMethod yM_isOne, .selects RX3 yM_isOne yM_isOne, .code yM_isOne cM_isOne 8 (some .boolean), .methodLink RX3 40 yM_tells, .instanceMethod yM_tells, .selects RX3 yM_tells yM_tells, .code yM_tells cM_tells 2 (some .int), .fieldLink RX3 37 "WildCardsModel" "told" "I", .fieldLink RX3 44 "WildCardsModel" "end" "I"] ++ wsX30)
set_option maxRecDepth 20000 in
theorem gM_reckon_M_suits : GoodIn wsM_reckon (wsV RX3 51 RX3 yM_suits wsM_suits) := goodIn_of _ (by decide +kernel)
def wsM_fits : List Cond := .code yM_fits cM_fits 1 (some .boolean) :: ([.fieldLink RX3 34 "WildCardsModel" "length" "I", .methodLink RX3 54 yM_reckon, .instanceMethod yM_reckon, .selects RX3 yM_reckon yM_reckon, .initialized RX3, .code yM_reckon cM_reckon 5 none, .fieldLink RX3 19 "WildCardsModel" "fit" "[Z", .fieldLink RX3 31 "WildCardsModel" "size" "I", .fieldLink RX3 13 "WildCardsModel" "pattern" "[I", .fieldLink RX3 16 "WildCardsModel" "word" "[I", .methodLink RX3 51 yM_suits, .instanceMethod yM_suits, .selects RX3 yM_suits yM_suits, .code yM_suits cM_suits 3 (some .boolean), .methodLink RX3 47 yM_isOne, .instanceMethod yM_isOne, .selects RX3 yM_isOne yM_isOne, .code yM_isOne cM_isOne 8 (some .boolean), .methodLink RX3 40 yM_tells, .instanceMethod yM_tells, .selects RX3 yM_tells yM_tells, .code yM_tells cM_tells 2 (some .int), .fieldLink RX3 37 "WildCardsModel" "told" "I", .fieldLink RX3 44 "WildCardsModel" "end" "I"] ++ wsX30)
set_option maxRecDepth 20000 in
theorem gM_fits_M_reckon : GoodIn wsM_fits (wsV RX3 54 RX3 yM_reckon wsM_reckon) := goodIn_of _ (by decide +kernel)
def wsM_fitsPart : List Cond := .code yM_fitsPart cM_fitsPart 3 (some .boolean) :: ([.fieldLink RX3 34 "WildCardsModel" "length" "I", .methodLink RX3 54 yM_reckon, .instanceMethod yM_reckon, .selects RX3 yM_reckon yM_reckon, .initialized RX3, .code yM_reckon cM_reckon 5 none, .fieldLink RX3 19 "WildCardsModel" "fit" "[Z", .fieldLink RX3 31 "WildCardsModel" "size" "I", .fieldLink RX3 13 "WildCardsModel" "pattern" "[I", .fieldLink RX3 16 "WildCardsModel" "word" "[I", .methodLink RX3 51 yM_suits, .instanceMethod yM_suits, .selects RX3 yM_suits yM_suits, .code yM_suits cM_suits 3 (some .boolean), .methodLink RX3 47 yM_isOne, .instanceMethod yM_isOne, .selects RX3 yM_isOne yM_isOne, .code yM_isOne cM_isOne 8 (some .boolean), .methodLink RX3 40 yM_tells, .instanceMethod yM_tells, .selects RX3 yM_tells yM_tells, .code yM_tells cM_tells 2 (some .int), .fieldLink RX3 37 "WildCardsModel" "told" "I", .fieldLink RX3 44 "WildCardsModel" "end" "I"] ++ wsX30)
set_option maxRecDepth 20000 in
theorem gM_fitsPart_M_reckon : GoodIn wsM_fitsPart (wsV RX3 54 RX3 yM_reckon wsM_reckon) := goodIn_of _ (by decide +kernel)
def wsM_beginnings : List Cond := .code yM_beginnings cM_beginnings 3 (some .int) :: ([.fieldLink RX3 34 "WildCardsModel" "length" "I", .methodLink RX3 54 yM_reckon, .instanceMethod yM_reckon, .selects RX3 yM_reckon yM_reckon, .initialized RX3, .code yM_reckon cM_reckon 5 none, .fieldLink RX3 19 "WildCardsModel" "fit" "[Z", .fieldLink RX3 31 "WildCardsModel" "size" "I", .fieldLink RX3 13 "WildCardsModel" "pattern" "[I", .fieldLink RX3 16 "WildCardsModel" "word" "[I", .methodLink RX3 51 yM_suits, .instanceMethod yM_suits, .selects RX3 yM_suits yM_suits, .code yM_suits cM_suits 3 (some .boolean), .methodLink RX3 47 yM_isOne, .instanceMethod yM_isOne, .selects RX3 yM_isOne yM_isOne, .code yM_isOne cM_isOne 8 (some .boolean), .methodLink RX3 40 yM_tells, .instanceMethod yM_tells, .selects RX3 yM_tells yM_tells, .code yM_tells cM_tells 2 (some .int), .fieldLink RX3 37 "WildCardsModel" "told" "I", .fieldLink RX3 44 "WildCardsModel" "end" "I"] ++ wsX30)
set_option maxRecDepth 20000 in
theorem gM_beginnings_M_reckon : GoodIn wsM_beginnings (wsV RX3 54 RX3 yM_reckon wsM_reckon) := goodIn_of _ (by decide +kernel)
set_option maxRecDepth 20000 in
theorem gL_law_X2_init : GoodIn lw_tbl (wsX2_init) := goodIn_p _ [25, 28, 33] (by decide +kernel) (by decide +kernel)
set_option maxRecDepth 20000 in
theorem gL_law_X3_init : GoodIn lw_tbl (wsX3_init) := goodIn_p _ [197, 28] (by decide +kernel) (by decide +kernel)
set_option maxRecDepth 20000 in
theorem gL_law_X2_feed : GoodIn lw_tbl (wsV RL 13 RX2 yX2_feed wsX2_feed) := goodIn_p _ [69, 73] (by decide +kernel) (by decide +kernel)
set_option maxRecDepth 20000 in
theorem gL_law_X3_feed : GoodIn lw_tbl (wsV RL 17 RX3 yX3_feed wsX3_feed) := goodIn_p _ [231, 235] (by decide +kernel) (by decide +kernel)
set_option maxRecDepth 20000 in
theorem gL_law_X2_end : GoodIn lw_tbl (wsV RL 18 RX2 yX2_end wsX2_end) := goodIn_p _ [77] (by decide +kernel) (by decide +kernel)
set_option maxRecDepth 20000 in
theorem gL_law_X3_end : GoodIn lw_tbl (wsV RL 22 RX3 yX3_end wsX3_end) := goodIn_p _ [239] (by decide +kernel) (by decide +kernel)
set_option maxRecDepth 20000 in
theorem gL_law_X2_pattern : GoodIn lw_tbl (wsV RL 23 RX2 yX2_pattern wsX2_pattern) := goodIn_p _ [81, 85, 88, 93, 28, 111, 115, 119, 123, 126, 130, 133, 136, 141, 145, 149, 153, 157] (by decide +kernel) (by decide +kernel)
set_option maxRecDepth 20000 in
theorem gL_law_X3_pattern : GoodIn lw_tbl (wsV RL 27 RX3 yX3_pattern wsX3_pattern) := goodIn_p _ [243] (by decide +kernel) (by decide +kernel)
set_option maxRecDepth 20000 in
theorem gL_law_X2_word : GoodIn lw_tbl (wsV RL 28 RX2 yX2_word wsX2_word) := goodIn_p _ [161] (by decide +kernel) (by decide +kernel)
set_option maxRecDepth 20000 in
theorem gL_law_X3_word : GoodIn lw_tbl (wsV RL 31 RX3 yX3_word wsX3_word) := goodIn_p _ [247] (by decide +kernel) (by decide +kernel)
set_option maxRecDepth 20000 in
theorem gL_law_X2_fits : GoodIn lw_tbl (wsV RL 32 RX2 yX2_fits wsX2_fits) := goodIn_p _ [168, 172, 176, 88, 180, 184, 126] (by decide +kernel) (by decide +kernel)
set_option maxRecDepth 20000 in
theorem gL_law_M_fits : GoodIn lw_tbl (wsV RL 36 RX3 yM_fits wsM_fits) := goodIn_p _ [251, 255, 259, 263, 267] (by decide +kernel) (by decide +kernel)
set_option maxRecDepth 20000 in
theorem gL_law_X2_fitsPart : GoodIn lw_tbl (wsV RL 37 RX2 yX2_fitsPart wsX2_fitsPart) := goodIn_p _ [188, 172, 176, 88, 180, 184, 126] (by decide +kernel) (by decide +kernel)
set_option maxRecDepth 20000 in
theorem gL_law_M_fitsPart : GoodIn lw_tbl (wsV RL 41 RX3 yM_fitsPart wsM_fitsPart) := goodIn_p _ [271, 255, 259, 263, 267] (by decide +kernel) (by decide +kernel)
set_option maxRecDepth 20000 in
theorem gL_law_X2_beginnings : GoodIn lw_tbl (wsV RL 42 RX2 yX2_beginnings wsX2_beginnings) := goodIn_p _ [192, 176, 88, 184, 126, 180] (by decide +kernel) (by decide +kernel)
set_option maxRecDepth 20000 in
theorem gL_law_M_beginnings : GoodIn lw_tbl (wsV RL 45 RX3 yM_beginnings wsM_beginnings) := goodIn_p _ [275, 255, 259, 263, 267] (by decide +kernel) (by decide +kernel)
end
section
section WLK
variable {p : Program} {l : Launch} {e : Env} {R : Room} {s : State} {m : MethodId} {args : Array Value} {below : List Frame} {meth : Method} {c : Code} {H : Heap} {locs : List Loc} {cells slots : Nat} {Q : State → Prop} {pc : Nat} {ls : Array Slot} {rest : List Value} {cc : ByteArray}
theorem wl_asi {x y : Int32} (h : x = y) (k : W p l e R s m args below meth c H locs cells slots Q (F0 m pc ls (.int y :: rest))) : W p l e R s m args below meth c H locs cells slots Q (F0 m pc ls (.int x :: rest)) := by
  rw [h]; exact k
theorem wl_asl {x y : Int64} (h : x = y) (k : W p l e R s m args below meth c H locs cells slots Q (F0 m pc ls (.long y :: rest))) : W p l e R s m args below meth c H locs cells slots Q (F0 m pc ls (.long x :: rest)) := by
  rw [h]; exact k
theorem wl_inc (n k : Nat) {z : Int} (hz : Int32.ofInt z = nI k) : nI n + Int32.ofInt z = nI (n + k) := by
  rw [hz]; exact nI_add n k
/-- a loop: a measure that falls -/
theorem wl_loop {σ : Type} (μ : σ → Nat) (I : σ → Heap → List Loc → Array Slot → Prop)
    (hs : ∀ (x : σ) (H : Heap) (locs : List Loc) (ls : Array Slot), I x H locs ls → (∀ (y : σ) (H : Heap) (locs : List Loc) (ls : Array Slot), I y H locs ls → μ y < μ x → W p l e R s m args below meth c H locs cells slots Q (F0 m pc ls [])) → W p l e R s m args below meth c H locs cells slots Q (F0 m pc ls []))
    (x : σ) (h : I x H locs ls) : W p l e R s m args below meth c H locs cells slots Q (F0 m pc ls []) := by
  have key : ∀ (n : Nat) (x : σ) (H : Heap) (locs : List Loc) (ls : Array Slot), μ x < n → I x H locs ls → W p l e R s m args below meth c H locs cells slots Q (F0 m pc ls []) := by
    intro n
    induction n with
    | zero => intro x H locs ls hm _; exact absurd hm (Nat.not_lt_zero _)
    | succ n ih =>
      intro x H locs ls hm hI
      exact hs x H locs ls hI (fun y H locs ls hy hlt => ih y H locs ls (by omega) hy)
  exact key (μ x + 1) x H locs ls (Nat.lt_succ_self _) h
theorem wl_icmp_eq (hexec : p.tables.exec = Jvm.exec) (hb : c.code = cc) {a b : Nat} {off : Int} {tgt : Nat} (hdg : decode cc pc = .ok (.if_icmp .eq off, 3)) (ht : (pc : Int) + off = (tgt : Int)) (ha : a < 2 ^ 31) (hb2 : b < 2 ^ 31)
    (kt : a = b → W p l e R s m args below meth c H locs cells slots Q (F0 m tgt ls rest)) (kf : a ≠ b → W p l e R s m args below meth c H locs cells slots Q (F0 m (pc + 3) ls rest)) : W p l e R s m args below meth c H locs cells slots Q (F0 m pc ls (.int (nI b) :: .int (nI a) :: rest)) :=
  lv_icmp_eq hexec hb hdg ht (fun h => kt ((nI_eq ha hb2).mp h)) (fun h => kf (fun z => h (by rw [z])))
theorem wl_icmp_ne (hexec : p.tables.exec = Jvm.exec) (hb : c.code = cc) {a b : Nat} {off : Int} {tgt : Nat} (hdg : decode cc pc = .ok (.if_icmp .ne off, 3)) (ht : (pc : Int) + off = (tgt : Int)) (ha : a < 2 ^ 31) (hb2 : b < 2 ^ 31)
    (kt : a ≠ b → W p l e R s m args below meth c H locs cells slots Q (F0 m tgt ls rest)) (kf : a = b → W p l e R s m args below meth c H locs cells slots Q (F0 m (pc + 3) ls rest)) : W p l e R s m args below meth c H locs cells slots Q (F0 m pc ls (.int (nI b) :: .int (nI a) :: rest)) :=
  lv_icmp_ne hexec hb hdg ht (fun h => kt (fun z => h (by rw [z]))) (fun h => kf ((nI_eq ha hb2).mp h))
theorem wl_icmp_ge (hexec : p.tables.exec = Jvm.exec) (hb : c.code = cc) {a b : Nat} {off : Int} {tgt : Nat} (hdg : decode cc pc = .ok (.if_icmp .ge off, 3)) (ht : (pc : Int) + off = (tgt : Int)) (ha : a < 2 ^ 31) (hb2 : b < 2 ^ 31)
    (kt : b ≤ a → W p l e R s m args below meth c H locs cells slots Q (F0 m tgt ls rest)) (kf : a < b → W p l e R s m args below meth c H locs cells slots Q (F0 m (pc + 3) ls rest)) : W p l e R s m args below meth c H locs cells slots Q (F0 m pc ls (.int (nI b) :: .int (nI a) :: rest)) :=
  lv_icmp_ge hexec hb hdg ht (fun h => kt ((nI_leI hb2 ha).mp h)) (fun h => kf (Nat.not_le.mp (fun z => h ((nI_leI hb2 ha).mpr z))))
theorem wl_icmp_lt (hexec : p.tables.exec = Jvm.exec) (hb : c.code = cc) {a b : Nat} {off : Int} {tgt : Nat} (hdg : decode cc pc = .ok (.if_icmp .lt off, 3)) (ht : (pc : Int) + off = (tgt : Int)) (ha : a < 2 ^ 31) (hb2 : b < 2 ^ 31)
    (kt : a < b → W p l e R s m args below meth c H locs cells slots Q (F0 m tgt ls rest)) (kf : b ≤ a → W p l e R s m args below meth c H locs cells slots Q (F0 m (pc + 3) ls rest)) : W p l e R s m args below meth c H locs cells slots Q (F0 m pc ls (.int (nI b) :: .int (nI a) :: rest)) :=
  lv_icmp_lt hexec hb hdg ht (fun h => kt ((nI_ltI ha hb2).mp h)) (fun h => kf (Nat.not_lt.mp (fun z => h ((nI_ltI ha hb2).mpr z))))
theorem wl_icmp_gt (hexec : p.tables.exec = Jvm.exec) (hb : c.code = cc) {a b : Nat} {off : Int} {tgt : Nat} (hdg : decode cc pc = .ok (.if_icmp .gt off, 3)) (ht : (pc : Int) + off = (tgt : Int)) (ha : a < 2 ^ 31) (hb2 : b < 2 ^ 31)
    (kt : b < a → W p l e R s m args below meth c H locs cells slots Q (F0 m tgt ls rest)) (kf : a ≤ b → W p l e R s m args below meth c H locs cells slots Q (F0 m (pc + 3) ls rest)) : W p l e R s m args below meth c H locs cells slots Q (F0 m pc ls (.int (nI b) :: .int (nI a) :: rest)) :=
  lv_icmp_gt hexec hb hdg ht (fun h => kt ((nI_ltI hb2 ha).mp h)) (fun h => kf (Nat.not_lt.mp (fun z => h ((nI_ltI hb2 ha).mpr z))))
theorem wl_icmp_le (hexec : p.tables.exec = Jvm.exec) (hb : c.code = cc) {a b : Nat} {off : Int} {tgt : Nat} (hdg : decode cc pc = .ok (.if_icmp .le off, 3)) (ht : (pc : Int) + off = (tgt : Int)) (ha : a < 2 ^ 31) (hb2 : b < 2 ^ 31)
    (kt : a ≤ b → W p l e R s m args below meth c H locs cells slots Q (F0 m tgt ls rest)) (kf : b < a → W p l e R s m args below meth c H locs cells slots Q (F0 m (pc + 3) ls rest)) : W p l e R s m args below meth c H locs cells slots Q (F0 m pc ls (.int (nI b) :: .int (nI a) :: rest)) :=
  lv_icmp_le hexec hb hdg ht (fun h => kt ((nI_leI ha hb2).mp h)) (fun h => kf (Nat.not_le.mp (fun z => h ((nI_leI ha hb2).mpr z))))
end WLK
theorem wl_same_int {D : va_G} {cl : List vw_C} {tys : List (ClassId × FieldType)} {U : State} {c1 c2 : ClassId} (hK : va_K D cl tys U) (i j : Nat) (h1 : tys[i]? = some (c1, .int)) (h2 : tys[j]? = some (c2, .int)) : c1 = c2 := by
  have a := va_nm_int (hK.2 i _ h1).2
  have b := va_nm_int (hK.2 j _ h2).2
  exact Option.some.inj (a.symm.trans b)
theorem wl_same_long {D : va_G} {cl : List vw_C} {tys : List (ClassId × FieldType)} {U : State} {c1 c2 : ClassId} (hK : va_K D cl tys U) (i j : Nat) (h1 : tys[i]? = some (c1, .long)) (h2 : tys[j]? = some (c2, .long)) : c1 = c2 := by
  have a := va_nm_long (hK.2 i _ h1).2
  have b := va_nm_long (hK.2 j _ h2).2
  exact Option.some.inj (a.symm.trans b)
theorem wl_same_byte {D : va_G} {cl : List vw_C} {tys : List (ClassId × FieldType)} {U : State} {c1 c2 : ClassId} (hK : va_K D cl tys U) (i j : Nat) (h1 : tys[i]? = some (c1, .byte)) (h2 : tys[j]? = some (c2, .byte)) : c1 = c2 := by
  have a := va_nm_byte (hK.2 i _ h1).2
  have b := va_nm_byte (hK.2 j _ h2).2
  exact Option.some.inj (a.symm.trans b)
theorem wl_same_boolean {D : va_G} {cl : List vw_C} {tys : List (ClassId × FieldType)} {U : State} {c1 c2 : ClassId} (hK : va_K D cl tys U) (i j : Nat) (h1 : tys[i]? = some (c1, .boolean)) (h2 : tys[j]? = some (c2, .boolean)) : c1 = c2 := by
  have a := va_nm_boolean (hK.2 i _ h1).2
  have b := va_nm_boolean (hK.2 j _ h2).2
  exact Option.some.inj (a.symm.trans b)
theorem wl_updN (f : Nat → Nat) (k v : Nat) : upd (fun j => nI (f j)) k (nI v) = fun j => nI (va_up f k v j) := by
  funext j
  by_cases h : j = k
  · simp [upd, va_up, h]
  · simp [upd, va_up, h]
theorem wl_cpyN (f g : Nat → Nat) (a b n : Nat) : va_cpy (fun j => nI (f j)) (fun j => nI (g j)) a b n = fun j => nI (va_cpy f g a b n j) := by
  funext j
  by_cases h : b ≤ j ∧ j < b + n
  · simp [va_cpy, h]
  · simp only [va_cpy, if_neg h]
theorem wl_bool {r : Int32} {b : Bool} (h : r = if b then 1 else 0) : narrow .boolean (.int r) = .int r := by
  subst h; cases b <;> rfl
-- bits of rows of longs
def lb (f : Nat → Int64) (k : Nat) : Bool := (f (k / 64)).toBitVec.getLsbD (k % 64)
def bitL (q : Nat) : Int64 := (1 : Int64) <<< ((nI (q % 64)).toInt64 &&& 63)
theorem bitL_bv : ∀ q, q < 64 → ((1 : Int64) <<< ((nI q).toInt64 &&& 63)).toBitVec = BitVec.twoPow 64 q := by decide +kernel
theorem bitL_get (q : Nat) {j : Nat} (hj : j < 64) : (bitL q).toBitVec.getLsbD j = decide (j = q % 64) := by
  unfold bitL
  rw [bitL_bv _ (Nat.mod_lt _ (by decide)), BitVec.getLsbD_twoPow]
  by_cases h : j = q % 64
  · simp [h, Nat.mod_lt]
  · have : ¬ q % 64 = j := fun z => h z.symm
    simp [h, this]
theorem lb_at (f : Nat → Int64) (i : Nat) {j : Nat} (hj : j < 64) : lb f (64 * i + j) = (f i).toBitVec.getLsbD j := by
  unfold lb
  rw [show (64 * i + j) / 64 = i by omega, show (64 * i + j) % 64 = j by omega]
section WLZ
variable {p : Program} {l : Launch} {e : Env} {R : Room} {s : State} {m : MethodId} {args : Array Value} {below : List Frame} {meth : Method} {c : Code} {H : Heap} {locs : List Loc} {cells slots : Nat} {Q : State → Prop} {pc : Nat} {ls : Array Slot} {rest : List Value} {cc : ByteArray}
theorem wl_z {a : Nat} (ha : a < 2 ^ 31) : nI a = 0 ↔ a = 0 := by
  rw [← nI_0]
  exact nI_eq ha (by decide)
theorem wl_if_eq (hexec : p.tables.exec = Jvm.exec) (hb : c.code = cc) {a : Nat} {off : Int} {tgt : Nat} (hdg : decode cc pc = .ok (.ifCond .eq off, 3)) (ht : (pc : Int) + off = (tgt : Int)) (ha : a < 2 ^ 31)
    (kt : a = 0 → W p l e R s m args below meth c H locs cells slots Q (F0 m tgt ls rest)) (kf : a ≠ 0 → W p l e R s m args below meth c H locs cells slots Q (F0 m (pc + 3) ls rest)) : W p l e R s m args below meth c H locs cells slots Q (F0 m pc ls (.int (nI a) :: rest)) :=
  lv_if_eq hexec hb hdg ht (fun h => kt ((wl_z ha).mp h)) (fun h => kf (fun z => h ((wl_z ha).mpr z)))
theorem wl_if_ne (hexec : p.tables.exec = Jvm.exec) (hb : c.code = cc) {a : Nat} {off : Int} {tgt : Nat} (hdg : decode cc pc = .ok (.ifCond .ne off, 3)) (ht : (pc : Int) + off = (tgt : Int)) (ha : a < 2 ^ 31)
    (kt : a ≠ 0 → W p l e R s m args below meth c H locs cells slots Q (F0 m tgt ls rest)) (kf : a = 0 → W p l e R s m args below meth c H locs cells slots Q (F0 m (pc + 3) ls rest)) : W p l e R s m args below meth c H locs cells slots Q (F0 m pc ls (.int (nI a) :: rest)) :=
  lv_if_ne hexec hb hdg ht (fun h => kt (fun z => h ((wl_z ha).mpr z))) (fun h => kf ((wl_z ha).mp h))
end WLZ
def bN (b : Bool) : Nat := if b = true then 1 else 0
theorem bN_lt (b : Bool) : bN b < 2 := by cases b <;> decide
theorem bN_z {b : Bool} (h : bN b = 0) : b = false := by
  cases b with
  | false => rfl
  | true => exact absurd h (by decide)
theorem bN_nz {b : Bool} (h : bN b ≠ 0) : b = true := by
  cases b with
  | true => rfl
  | false => exact absurd rfl h
theorem bN_if (b : Bool) : nI (bN b) = if b = true then (1 : Int32) else 0 := by cases b <;> rfl
theorem wl_updB1 (F : Nat → Bool) (k : Nat) : upd (fun j => nI (bN (F j))) k (vp_nar .boolean (nI 1)) = fun j => nI (bN (va_up F k true j)) := by
  have e : vp_nar .boolean (nI 1) = nI 1 := rfl
  rw [e]
  funext j
  by_cases h : j = k
  · simp [upd, va_up, h, bN]
  · simp [upd, va_up, h]
theorem wl_updB0 (F : Nat → Bool) (k : Nat) : upd (fun j => nI (bN (F j))) k (vp_nar .boolean (nI 0)) = fun j => nI (bN (va_up F k false j)) := by
  have e : vp_nar .boolean (nI 0) = nI 0 := rfl
  rw [e]
  funext j
  by_cases h : j = k
  · simp [upd, va_up, h, bN]
  · simp [upd, va_up, h]
section WLY
variable {p : Program} {l : Launch} {e : Env} {R : Room} {s : State} {m : MethodId} {args : Array Value} {below : List Frame} {meth : Method} {c : Code} {H : Heap} {locs : List Loc} {cells slots : Nat} {Q : State → Prop} {pc : Nat} {ls : Array Slot} {rest : List Value} {cc : ByteArray}
theorem wl_if_le (hexec : p.tables.exec = Jvm.exec) (hb : c.code = cc) {a : Nat} {off : Int} {tgt : Nat} (hdg : decode cc pc = .ok (.ifCond .le off, 3)) (ht : (pc : Int) + off = (tgt : Int)) (ha : a < 2 ^ 31)
    (kt : a = 0 → W p l e R s m args below meth c H locs cells slots Q (F0 m tgt ls rest)) (kf : 0 < a → W p l e R s m args below meth c H locs cells slots Q (F0 m (pc + 3) ls rest)) : W p l e R s m args below meth c H locs cells slots Q (F0 m pc ls (.int (nI a) :: rest)) :=
  lv_if_le hexec hb hdg ht (fun h => kt (by
    rcases Nat.eq_zero_or_pos a with z | z
    · exact z
    · exact absurd h (nI_nle z ha))) (fun h => kf (by
    rcases Nat.eq_zero_or_pos a with z | z
    · subst z; exact absurd (by decide) h
    · exact z))
end WLY
end
section
-- PURE: reading a pattern (a: its bytes, L: how many)
def rbv (a : Nat → Nat) (L i : Nat) : Nat := if a i = 92 ∧ i + 1 < L then a (i + 1) else a i
def rbn (a : Nat → Nat) (L i : Nat) : Nat := if a i = 92 ∧ i + 1 < L then i + 2 else i + 1
def bnd (a : Nat → Nat) (L i : Nat) : Bool := decide (L ≤ i) || decide (a i = 93)
def rng (a : Nat → Nat) (L i : Nat) : Bool := decide (i < L) && decide (a i = 45) && !bnd a L (i + 1)
def thi (a : Nat → Nat) (L i : Nat) : Nat := if rng a L (rbn a L i) = true then rbv a L (rbn a L i + 1) else rbv a L i
def tnx (a : Nat → Nat) (L i : Nat) : Nat := if rng a L (rbn a L i) = true then rbn a L (rbn a L i + 1) else rbn a L i
def brm (a : Nat → Nat) (L : Nat) : Nat → Nat → Nat → Bool
  | 0, _, _ => false
  | n + 1, i, x => if bnd a L i = true then false else (decide (rbv a L i ≤ x ∧ x ≤ thi a L i) || brm a L n (tnx a L i) x)
def bre (a : Nat → Nat) (L : Nat) : Nat → Nat → Nat
  | 0, i => i
  | n + 1, i => if bnd a L i = true then i else bre a L n (tnx a L i)
def brg (a : Nat → Nat) (L i : Nat) : Bool := decide (i < L) && decide (a i = 94)
def brs (a : Nat → Nat) (L i x : Nat) : Bool := if brg a L i = true then !brm a L L (i + 1) x else brm a L L i x
def brn (a : Nat → Nat) (L i : Nat) : Nat := if brg a L i = true then bre a L L (i + 1) + 1 else bre a L L i + 1
def thv (a : Nat → Nat) (L i : Nat) : Option (Nat → Bool) :=
  if a i = 42 then none else if a i = 63 then some (fun _ => true) else if a i = 91 then some (brs a L (i + 1)) else some (fun x => decide (x = rbv a L i))
def thn (a : Nat → Nat) (L i : Nat) : Nat := if a i = 42 then i + 1 else if a i = 63 then i + 1 else if a i = 91 then brn a L (i + 1) else rbn a L i
def ths (a : Nat → Nat) (L : Nat) : Nat → Nat → List (Option (Nat → Bool))
  | 0, _ => []
  | n + 1, i => if i < L then thv a L i :: ths a L n (thn a L i) else []
-- the things' rows
def tT : List (Option (Nat → Bool)) → Nat → Nat → Bool
  | [], _, _ => false
  | none :: r, x, k => tT r x k
  | some S :: r, x, k => if k = 0 then S x else tT r x (k - 1)
def tL : List (Option (Nat → Bool)) → Nat → Bool
  | [], _ => false
  | none :: r, k => decide (k = 0) || tL r k
  | some _ :: r, k => if k = 0 then false else tL r (k - 1)
def tC : List (Option (Nat → Bool)) → Nat
  | [] => 0
  | none :: r => tC r
  | some _ :: r => tC r + 1
theorem tC_app (ts us : List (Option (Nat → Bool))) : tC (ts ++ us) = tC ts + tC us := by
  induction ts with
  | nil => simp [tC]
  | cons t r ih =>
    cases t with
    | none => simp only [List.cons_append, tC, ih]
    | some S => simp only [List.cons_append, tC, ih]; omega
theorem tT_out (ts : List (Option (Nat → Bool))) : ∀ (x k : Nat), tC ts ≤ k → tT ts x k = false := by
  induction ts with
  | nil => intro x k _; rfl
  | cons t r ih =>
    intro x k h
    cases t with
    | none => exact ih x k h
    | some S =>
      simp only [tC] at h
      simp only [tT]
      rw [if_neg (by omega)]
      exact ih x (k - 1) (by omega)
theorem tL_out (ts : List (Option (Nat → Bool))) : ∀ (k : Nat), tC ts < k → tL ts k = false := by
  induction ts with
  | nil => intro k _; rfl
  | cons t r ih =>
    intro k h
    cases t with
    | none =>
      simp only [tC] at h
      simp only [tL]
      rw [ih k h]
      simp only [Bool.or_false, decide_eq_false_iff_not]
      omega
    | some S =>
      simp only [tC] at h
      simp only [tL]
      rw [if_neg (by omega)]
      exact ih (k - 1) (by omega)
theorem tT_star (ts : List (Option (Nat → Bool))) : ∀ (x k : Nat), tT (ts ++ [none]) x k = tT ts x k := by
  induction ts with
  | nil => intro x k; rfl
  | cons t r ih =>
    intro x k
    cases t with
    | none => exact ih x k
    | some S => simp only [List.cons_append, tT, ih]
theorem tL_star (ts : List (Option (Nat → Bool))) : ∀ (k : Nat), tL (ts ++ [none]) k = (tL ts k || decide (k = tC ts)) := by
  induction ts with
  | nil =>
    intro k
    show (decide (k = 0) || false) = (false || decide (k = 0))
    cases decide (k = 0) <;> rfl
  | cons t r ih =>
    intro k
    cases t with
    | none =>
      show (decide (k = 0) || tL (r ++ [none]) k) = ((decide (k = 0) || tL r k) || decide (k = tC r))
      rw [ih, Bool.or_assoc]
    | some S =>
      show (if k = 0 then false else tL (r ++ [none]) (k - 1)) = ((if k = 0 then false else tL r (k - 1)) || decide (k = tC r + 1))
      by_cases h : k = 0
      · rw [if_pos h, if_pos h, show decide (k = tC r + 1) = false from decide_eq_false (by omega)]
        rfl
      · rw [if_neg h, if_neg h, ih, show decide (k - 1 = tC r) = decide (k = tC r + 1) from decide_eq_decide.mpr (by omega)]
theorem tT_one (S : Nat → Bool) (ts : List (Option (Nat → Bool))) : ∀ (x k : Nat), tT (ts ++ [some S]) x k = if k = tC ts then S x else tT ts x k := by
  induction ts with
  | nil =>
    intro x k
    rfl
  | cons t r ih =>
    intro x k
    cases t with
    | none => exact ih x k
    | some S' =>
      show (if k = 0 then S' x else tT (r ++ [some S]) x (k - 1)) = (if k = tC r + 1 then S x else if k = 0 then S' x else tT r x (k - 1))
      by_cases h : k = 0
      · rw [if_pos h, if_neg (show ¬ k = tC r + 1 by omega), if_pos h]
      · rw [if_neg h, if_neg h, ih]
        by_cases h2 : k = tC r + 1
        · rw [if_pos (show k - 1 = tC r by omega), if_pos h2]
        · rw [if_neg (show ¬ k - 1 = tC r by omega), if_neg h2]
theorem tL_one (S : Nat → Bool) (ts : List (Option (Nat → Bool))) : ∀ (k : Nat), tL (ts ++ [some S]) k = tL ts k := by
  induction ts with
  | nil => intro k; simp [tL]
  | cons t r ih =>
    intro k
    cases t with
    | none => simp only [List.cons_append, tL, ih]
    | some S' => simp only [List.cons_append, tL, ih]
-- the places that n bytes of w reach
def rch (T : Nat → Nat → Bool) (P : Nat → Bool) (w : Nat → Nat) : Nat → Nat → Bool
  | 0, k => decide (k = 0)
  | n + 1, k => (decide (0 < k) && rch T P w n (k - 1) && T (w n) (k - 1)) || (rch T P w n k && P k)
-- whether the first n bytes of w fit the things
def fz (ts : List (Option (Nat → Bool))) (w : Nat → Nat) (n : Nat) : Bool := rch (tT ts) (tL ts) w n (tC ts)
theorem rch_one {ts : List (Option (Nat → Bool))} {S : Nat → Bool} {w : Nat → Nat} : ∀ (n k : Nat), k ≤ tC ts → rch (tT (ts ++ [some S])) (tL (ts ++ [some S])) w n k = rch (tT ts) (tL ts) w n k := by
  intro n
  induction n with
  | zero => intro k _; rfl
  | succ n ih =>
    intro k hk
    simp only [rch]
    rw [ih k hk, ih (k - 1) (by omega), tL_one, tT_one]
    by_cases h : k = 0
    · subst h; simp
    · rw [if_neg (by omega)]
/-- one thing more -/
theorem fz_one_s (ts : List (Option (Nat → Bool))) (S : Nat → Bool) (w : Nat → Nat) (n : Nat) : fz (ts ++ [some S]) w (n + 1) = (fz ts w n && S (w n)) := by
  have e : tC (ts ++ [some S]) = tC ts + 1 := by rw [tC_app]; rfl
  unfold fz
  rw [e]
  show ((decide (0 < tC ts + 1) && rch (tT (ts ++ [some S])) (tL (ts ++ [some S])) w n (tC ts) && tT (ts ++ [some S]) (w n) (tC ts)) || (rch (tT (ts ++ [some S])) (tL (ts ++ [some S])) w n (tC ts + 1) && tL (ts ++ [some S]) (tC ts + 1))) = (rch (tT ts) (tL ts) w n (tC ts) && S (w n))
  rw [rch_one n (tC ts) (Nat.le_refl _), tT_one, if_pos rfl, tL_one, tL_out ts (tC ts + 1) (by omega), Bool.and_false, Bool.or_false, show decide (0 < tC ts + 1) = true from decide_eq_true (by omega), Bool.true_and]
theorem fz_one_0 (ts : List (Option (Nat → Bool))) (S : Nat → Bool) (w : Nat → Nat) : fz (ts ++ [some S]) w 0 = false := by
  have e : tC (ts ++ [some S]) = tC ts + 1 := by rw [tC_app]; rfl
  unfold fz
  rw [e]
  show decide (tC ts + 1 = 0) = false
  exact decide_eq_false (by omega)
theorem fz_nil (w : Nat → Nat) (n : Nat) : fz [] w n = decide (n = 0) := by
  cases n with
  | zero => rfl
  | succ n =>
    unfold fz
    simp [tC, rch, tL]
theorem rch_star {ts : List (Option (Nat → Bool))} {w : Nat → Nat} : ∀ (n k : Nat), k < tC ts → rch (tT (ts ++ [none])) (tL (ts ++ [none])) w n k = rch (tT ts) (tL ts) w n k := by
  intro n
  induction n with
  | zero => intro k _; rfl
  | succ n ih =>
    intro k hk
    simp only [rch]
    rw [ih k hk, ih (k - 1) (by omega), tL_star, tT_star, show decide (k = tC ts) = false from decide_eq_false (by omega), Bool.or_false]
theorem fz_star_0 (ts : List (Option (Nat → Bool))) (w : Nat → Nat) : fz (ts ++ [none]) w 0 = fz ts w 0 := by
  unfold fz
  rw [tC_app]
  rfl
theorem fz_star_s (ts : List (Option (Nat → Bool))) (w : Nat → Nat) (n : Nat) : fz (ts ++ [none]) w (n + 1) = (fz ts w (n + 1) || fz (ts ++ [none]) w n) := by
  unfold fz
  rw [tC_app]
  show rch (tT (ts ++ [none])) (tL (ts ++ [none])) w (n + 1) (tC ts) = (rch (tT ts) (tL ts) w (n + 1) (tC ts) || rch (tT (ts ++ [none])) (tL (ts ++ [none])) w n (tC ts))
  have mono : ∀ m, rch (tT ts) (tL ts) w m (tC ts) = true → rch (tT (ts ++ [none])) (tL (ts ++ [none])) w m (tC ts) = true := by
    intro m
    induction m with
    | zero => intro h; exact h
    | succ m ih =>
      intro h
      simp only [rch] at h ⊢
      rw [tT_star, tL_star]
      rcases Bool.or_eq_true_iff.mp h with q | q
      · by_cases z : 0 < tC ts
        · rw [rch_star m (tC ts - 1) (by omega), q]; rfl
        · rw [show decide (0 < tC ts) = false from decide_eq_false z] at q
          simp at q
      · rw [ih (Bool.and_eq_true_iff.mp q).1]
        simp
  simp only [rch]
  rw [tT_star, tL_star]
  have e : (decide (0 < tC ts) && rch (tT (ts ++ [none])) (tL (ts ++ [none])) w n (tC ts - 1) && tT ts (w n) (tC ts - 1)) = (decide (0 < tC ts) && rch (tT ts) (tL ts) w n (tC ts - 1) && tT ts (w n) (tC ts - 1)) := by
    by_cases z : 0 < tC ts
    · rw [rch_star n (tC ts - 1) (by omega)]
    · rw [show decide (0 < tC ts) = false from decide_eq_false z]; rfl
  rw [e, show decide (tC ts = tC ts) = true from decide_eq_true rfl, Bool.or_true, Bool.and_true]
  cases ha : (decide (0 < tC ts) && rch (tT ts) (tL ts) w n (tC ts - 1) && tT ts (w n) (tC ts - 1)) with
  | true => rfl
  | false =>
    cases hb : rch (tT ts) (tL ts) w n (tC ts) with
    | false => rfl
    | true => rw [mono n hb]; simp
end
section
theorem lb_set {f : Nat → Int64} {i q : Nat} {v : Int64} (hi : i = q / 64) (hv : v = bitL q) (k : Nat) : lb (vp_updL f i (f i ||| v)) k = (lb f k || decide (k = q)) := by
  unfold lb vp_updL
  by_cases h : k / 64 = i
  · rw [if_pos h, Int64.toBitVec_or, BitVec.getLsbD_or, hv, bitL_get _ (Nat.mod_lt _ (by decide)), h]
    congr 1
    rw [decide_eq_decide]
    omega
  · rw [if_neg h, show decide (k = q) = false from decide_eq_false (fun z => h (by rw [z, hi])), Bool.or_false]
theorem lb_clr {f : Nat → Int64} {i q : Nat} {v : Int64} (hi : i = q / 64) (hv : v = bitL q) (k : Nat) : lb (vp_updL f i (f i &&& (v ^^^ (-1)))) k = (lb f k && !decide (k = q)) := by
  have ha : (-1 : Int64).toBitVec = BitVec.allOnes 64 := by decide
  unfold lb vp_updL
  by_cases h : k / 64 = i
  · rw [if_pos h, Int64.toBitVec_and, Int64.toBitVec_xor, ha, BitVec.getLsbD_and, BitVec.getLsbD_xor, hv, bitL_get _ (Nat.mod_lt _ (by decide)), BitVec.getLsbD_allOnes, h]
    congr 1
    rw [show decide (k % 64 < 64) = true from decide_eq_true (Nat.mod_lt _ (by decide)), Bool.xor_true]
    congr 1
    rw [decide_eq_decide]
    omega
  · rw [if_neg h, show decide (k = q) = false from decide_eq_false (fun z => h (by rw [z, hi]))]
    simp
theorem bitL_mod (q r : Nat) (h : q % 64 = r % 64) : bitL q = bitL r := by
  unfold bitL
  rw [h]
theorem lb_zero {f : Nat → Int64} {n : Nat} (h : ∀ j, j < n → f j = 0) {k : Nat} (hk : k < 64 * n) : lb f k = false := by
  unfold lb
  rw [h (k / 64) (by omega)]
  exact BitVec.getLsbD_zero
theorem lb_and0 {f : Nat → Int64} {q : Nat} {v : Int64} (hv : v = bitL q) : (f (q / 64) &&& v = 0) ↔ lb f q = false := by
  rw [← Int64.toBitVec_inj, Int64.toBitVec_and, hv]
  unfold lb
  constructor
  · intro h
    have t := congrArg (fun x => x.getLsbD (q % 64)) h
    simp only [BitVec.getLsbD_and] at t
    rw [bitL_get q (Nat.mod_lt _ (by decide))] at t
    simpa using t
  · intro h
    apply BitVec.eq_of_getLsbD_eq
    intro j hj
    rw [BitVec.getLsbD_and, bitL_get q hj]
    by_cases e : j = q % 64
    · rw [e, h]; simp
    · simp [e]
-- one step over a row of 7 longs: the bits
theorem st_shl (x : Int64) {j : Nat} (hj : j < 64) : (x <<< ((nI 1).toInt64 &&& 63)).toBitVec.getLsbD j = (decide (0 < j) && x.toBitVec.getLsbD (j - 1)) := by
  have h : (((nI 1).toInt64 &&& 63).toBitVec.smod 64).toNat = 1 := by decide
  rw [Int64.toBitVec_shiftLeft]
  show (x.toBitVec <<< (((nI 1).toInt64 &&& 63).toBitVec.smod 64).toNat).getLsbD j = _
  rw [h, BitVec.getLsbD_shiftLeft]
  rcases Nat.lt_or_ge j 1 with g | g
  · have : j = 0 := by omega
    subst this
    simp
  · simp [hj, Nat.not_lt.mpr g, show 0 < j by omega]
theorem st_ushr (x : Int64) (j : Nat) : ((x.toUInt64 >>> ((nI 63).toInt64.toUInt64 &&& Int64.toUInt64 63)).toInt64).toBitVec.getLsbD j = (decide (j = 0) && x.toBitVec.getLsbD 63) := by
  have hs : ((nI 63).toInt64.toUInt64 &&& Int64.toUInt64 63).toNat = 63 := by decide
  have e : (x.toUInt64 >>> ((nI 63).toInt64.toUInt64 &&& Int64.toUInt64 63)).toInt64.toBitVec = x.toBitVec >>> 63 := by
    apply BitVec.eq_of_toNat_eq
    show (x.toUInt64 >>> ((nI 63).toInt64.toUInt64 &&& Int64.toUInt64 63)).toNat = _
    rw [UInt64.toNat_shiftRight, hs, BitVec.toNat_ushiftRight]
    rfl
  rw [e, BitVec.getLsbD_ushiftRight]
  by_cases h : j = 0
  · subst h; simp
  · rw [show decide (j = 0) = false from decide_eq_false h, Bool.false_and]
    exact BitVec.getLsbD_of_ge _ _ (by omega)
def stp (fR fT fL : Nat → Int64) (x k : Nat) : Bool := (decide (0 < k) && lb fR (k - 1) && lb fT (448 * x + (k - 1))) || (lb fR k && lb fL k)
def crb (fR fT : Nat → Int64) (x i : Nat) : Bool := decide (0 < i) && lb fR (64 * i - 1) && lb fT (448 * x + (64 * i - 1))
theorem st_mov (fR fT : Nat → Int64) (x i : Nat) {j : Nat} (hj : j < 64) : (fR i &&& fT (x * 7 + i)).toBitVec.getLsbD j = (lb fR (64 * i + j) && lb fT (448 * x + (64 * i + j))) := by
  rw [Int64.toBitVec_and, BitVec.getLsbD_and, lb_at fR i hj, show 448 * x + (64 * i + j) = 64 * (x * 7 + i) + j by omega, lb_at fT _ hj]
/-- the new long at i -/
theorem st_new {fR fT fL g : Nat → Int64} {x i : Nat} {mv cr sy : Int64} (hg : g i = fR i) (hm : mv = g i &&& fT (x * 7 + i)) (hs : sy = g i &&& fL i) (hc : ∀ j, j < 64 → cr.toBitVec.getLsbD j = (decide (j = 0) && crb fR fT x i)) {j : Nat} (hj : j < 64) :
    (((mv <<< ((nI 1).toInt64 &&& 63)) ||| cr) ||| sy).toBitVec.getLsbD j = stp fR fT fL x (64 * i + j) := by
  rw [Int64.toBitVec_or, Int64.toBitVec_or, BitVec.getLsbD_or, BitVec.getLsbD_or, st_shl _ hj, hc j hj, hm, hs, hg, Int64.toBitVec_and (fR i) (fL i), BitVec.getLsbD_and]
  unfold stp
  rw [lb_at fR i hj, lb_at fL i hj]
  congr 1
  by_cases h : j = 0
  · subst h
    unfold crb
    by_cases hi : 0 < i
    · rw [show decide (0 < i) = true from decide_eq_true hi, show decide (0 < 64 * i + 0) = true from decide_eq_true (by omega)]
      simp
    · have : i = 0 := by omega
      subst this
      simp
  · rw [st_mov fR fT x i (show j - 1 < 64 by omega), show decide (j = 0) = false from decide_eq_false h, Bool.false_and, Bool.or_false, show 64 * i + j - 1 = 64 * i + (j - 1) by omega, show decide (0 < j) = true from decide_eq_true (by omega), show decide (0 < 64 * i + j) = true from decide_eq_true (by omega), Bool.true_and, Bool.true_and]
theorem st_cr {fR fT g : Nat → Int64} {x i : Nat} {mv : Int64} (hg : g i = fR i) (hm : mv = g i &&& fT (x * 7 + i)) : ∀ j, j < 64 → ((mv.toUInt64 >>> ((nI 63).toInt64.toUInt64 &&& Int64.toUInt64 63)).toInt64).toBitVec.getLsbD j = (decide (j = 0) && crb fR fT x (i + 1)) := by
  intro j _
  rw [st_ushr, hm, hg, st_mov fR fT x i (show 63 < 64 by decide)]
  unfold crb
  rw [show 64 * (i + 1) - 1 = 64 * i + 63 by omega, show decide (0 < i + 1) = true from decide_eq_true (by omega), Bool.true_and]
theorem st_in {fR fT fL g : Nat → Int64} {x i : Nat} {v : Int64} (h1 : ∀ k, k < 64 * i → lb g k = stp fR fT fL x k) (hv : ∀ j, j < 64 → v.toBitVec.getLsbD j = stp fR fT fL x (64 * i + j)) : ∀ k, k < 64 * (i + 1) → lb (vp_updL g i v) k = stp fR fT fL x k := by
  intro k hk
  by_cases h : k / 64 = i
  · show (vp_updL g i v (k / 64)).toBitVec.getLsbD (k % 64) = _
    rw [h, pk_uLs, hv _ (Nat.mod_lt _ (by decide)), show 64 * i + k % 64 = k by omega]
  · show (vp_updL g i v (k / 64)).toBitVec.getLsbD (k % 64) = _
    rw [pk_uLn h]
    exact h1 k (by omega)
theorem tl_q (b k : Nat) (hk : k < 448) : b * 7 + k / 64 = (448 * b + k) / 64 := by omega
theorem tl_in {fT g : Nat → Int64} {lo b cnt : Nat} {tk : Bool} {v : Int64} (hc : cnt < 448) (hlo : lo ≤ b) (h : ∀ x k, k < 448 → lb g (448 * x + k) = if k = cnt ∧ lo ≤ x ∧ x < b then tk else lb fT (448 * x + k)) (hv : ∀ k, lb (vp_updL g (b * 7 + cnt / 64) v) k = if k = 448 * b + cnt then tk else lb g k) : ∀ x k, k < 448 → lb (vp_updL g (b * 7 + cnt / 64) v) (448 * x + k) = if k = cnt ∧ lo ≤ x ∧ x < b + 1 then tk else lb fT (448 * x + k) := by
  intro x k hk
  rw [hv]
  by_cases e : 448 * x + k = 448 * b + cnt
  · have e1 : x = b := by omega
    have e2 : k = cnt := by omega
    rw [if_pos e, if_pos ⟨e2, by omega, by omega⟩]
  · rw [if_neg e, h x k hk]
    by_cases z : k = cnt ∧ lo ≤ x ∧ x < b
    · rw [if_pos z, if_pos ⟨z.1, z.2.1, by omega⟩]
    · rw [if_neg z, if_neg (fun q => z ⟨q.1, q.2.1, by
        rcases Nat.lt_or_ge x b with y | y
        · exact y
        · exact absurd (by have := q.1; omega) e⟩)]
theorem tl_set {f : Nat → Int64} {i q : Nat} {v : Int64} {tk : Bool} (hi : i = q / 64) (hv : v = bitL q) (ht : tk = true) (k : Nat) : lb (vp_updL f i (f i ||| v)) k = if k = q then tk else lb f k := by
  rw [lb_set hi hv, ht]
  by_cases h : k = q
  · rw [if_pos h]; simp [h]
  · rw [if_neg h]; simp [h]
theorem tl_clr {f : Nat → Int64} {i q : Nat} {v : Int64} {tk : Bool} (hi : i = q / 64) (hv : v = bitL q) (ht : tk = false) (k : Nat) : lb (vp_updL f i (f i &&& (v ^^^ (-1)))) k = if k = q then tk else lb f k := by
  rw [lb_clr hi hv, ht]
  by_cases h : k = q
  · rw [if_pos h]; simp [h]
  · rw [if_neg h]; simp [h]
theorem fl_s {g : Nat → Int64} {i : Nat} {v : Int64} (h : ∀ j, j < i → g j = v) : ∀ j, j < i + 1 → vp_updL g i v j = v := by
  intro j hj
  by_cases e : j = i
  · rw [e, pk_uLs]
  · rw [pk_uLn e]; exact h j (by omega)
theorem sr_in {f : Nat → Int64} (h : ∀ j, j < 7 → f j = 0) : ∀ k, k < 448 → lb (vp_updL f 0 1) k = decide (k = 0) := by
  intro k hk
  unfold lb
  by_cases e : k / 64 = 0
  · rw [e, pk_uLs, show (1 : Int64).toBitVec = BitVec.twoPow 64 0 from by decide, BitVec.getLsbD_twoPow]
    by_cases z : k = 0
    · subst z; simp
    · simp [z, show ¬ 0 = k % 64 by omega]
  · rw [pk_uLn e, h _ (by omega), show decide (k = 0) = false from decide_eq_false (by omega)]
    exact BitVec.getLsbD_zero
theorem er_1 {f : Nat → Int64} {q : Nat} {v : Int64} (hv : v = bitL q) (h : ¬ lg_cmp (f (q / 64) &&& v) 0 = 0) : nI 1 = if lb f q = true then (1 : Int32) else 0 := by
  have : lb f q = true := by
    cases e : lb f q with
    | true => rfl
    | false => exact absurd ((lg_cmp_eq _ _).mpr ((lb_and0 hv).mpr e)) h
  rw [if_pos this]; rfl
theorem er_0 {f : Nat → Int64} {q : Nat} {v : Int64} (hv : v = bitL q) (h : lg_cmp (f (q / 64) &&& v) 0 = 0) : nI 0 = if lb f q = true then (1 : Int32) else 0 := by
  have : lb f q = false := (lb_and0 hv).mp ((lg_cmp_eq _ _).mp h)
  rw [if_neg (by rw [this]; decide)]; rfl
theorem st_keep {g fR : Nat → Int64} {i : Nat} {v : Int64} (h2 : ∀ j, i ≤ j → j < 7 → g j = fR j) : ∀ j, i + 1 ≤ j → j < 7 → vp_updL g i v j = fR j := by
  intro j h1 h3
  rw [pk_uLn (by omega)]
  exact h2 j (by omega) h3
end
section
theorem nI_m1 {n : Nat} (h : n < 2 ^ 31) : ¬ nI n = -1 := by
  intro z
  have : (nI n).toInt = (-1 : Int32).toInt := by rw [z]
  rw [nI_toInt h] at this
  have e : (-1 : Int32).toInt = -1 := by decide
  rw [e] at this
  omega
theorem rb_a {a : Nat → Nat} {L i : Nat} (h : a i ≠ 92) : i + 1 = rbn a L i ∧ nI (a i) = nI (rbv a L i) := by
  unfold rbn rbv
  rw [if_neg (fun z => h z.1), if_neg (fun z => h z.1)]
  exact ⟨rfl, rfl⟩
theorem rb_b {a : Nat → Nat} {L i : Nat} (h : L ≤ i + 1) : i + 1 = rbn a L i ∧ nI (a i) = nI (rbv a L i) := by
  unfold rbn rbv
  rw [if_neg (fun z => by omega), if_neg (fun z => by omega)]
  exact ⟨rfl, rfl⟩
theorem rb_c {a : Nat → Nat} {L i : Nat} (h : a i = 92) (h2 : i + 1 < L) : i + 1 + 1 = rbn a L i ∧ nI (a (i + 1)) = nI (rbv a L i) := by
  unfold rbn rbv
  rw [if_pos ⟨h, h2⟩, if_pos ⟨h, h2⟩]
  exact ⟨rfl, rfl⟩
theorem rbn_le (a : Nat → Nat) {L i : Nat} (h : i < L) : rbn a L i ≤ L ∧ i < rbn a L i := by
  unfold rbn
  by_cases z : a i = 92 ∧ i + 1 < L
  · rw [if_pos z]; omega
  · rw [if_neg z]; omega
theorem rbv_lt {a : Nat → Nat} {L i : Nat} (ha : ∀ j, j < L → a j < 256) (h : i < L) : rbv a L i < 256 := by
  unfold rbv
  by_cases z : a i = 92 ∧ i + 1 < L
  · rw [if_pos z]; exact ha _ z.2
  · rw [if_neg z]; exact ha _ h
theorem bn_1 {a : Nat → Nat} {L i : Nat} (h : L ≤ i ∨ a i = 93) : nI 1 = if bnd a L i = true then (1 : Int32) else 0 := by
  have : bnd a L i = true := by
    unfold bnd
    rcases h with h | h
    · simp [h]
    · simp [h]
  rw [if_pos this]; rfl
theorem bn_0 {a : Nat → Nat} {L i : Nat} (h : i < L) (h2 : a i ≠ 93) : nI 0 = if bnd a L i = true then (1 : Int32) else 0 := by
  have : bnd a L i = false := by
    unfold bnd
    simp [h2, Nat.not_le.mpr h]
  rw [if_neg (by rw [this]; decide)]; rfl
theorem bnd_f {a : Nat → Nat} {L i : Nat} (h : ¬ bnd a L i = true) : i < L ∧ a i ≠ 93 := by
  unfold bnd at h
  simp only [Bool.or_eq_true, decide_eq_true_eq, not_or] at h
  exact ⟨by omega, h.2⟩
theorem rng_1 {a : Nat → Nat} {L i : Nat} (h : i < L) (h2 : a i = 45) (h3 : ¬ bnd a L (i + 1) = true) : rng a L i = true := by
  unfold rng
  simp [h, h2, h3]
theorem rng_a {a : Nat → Nat} {L i : Nat} (h : ¬ i < L) : ¬ rng a L i = true := by
  unfold rng
  simp [h]
theorem rng_b {a : Nat → Nat} {L i : Nat} (h : a i ≠ 45) : ¬ rng a L i = true := by
  unfold rng
  simp [h]
theorem rng_c {a : Nat → Nat} {L i : Nat} (h : bnd a L (i + 1) = true) : ¬ rng a L i = true := by
  unfold rng
  simp [h]
theorem tn_1 {a : Nat → Nat} {L i : Nat} (h : rng a L (rbn a L i) = true) : rbn a L (rbn a L i + 1) = tnx a L i ∧ thi a L i = rbv a L (rbn a L i + 1) := by
  unfold tnx thi
  rw [if_pos h, if_pos h]
  exact ⟨rfl, rfl⟩
theorem tn_0 {a : Nat → Nat} {L i : Nat} (h : ¬ rng a L (rbn a L i) = true) : rbn a L i = tnx a L i ∧ thi a L i = rbv a L i := by
  unfold tnx thi
  rw [if_neg h, if_neg h]
  exact ⟨rfl, rfl⟩
theorem tnx_le (a : Nat → Nat) {L i : Nat} (h : i < L) : tnx a L i ≤ L ∧ i < tnx a L i := by
  have h1 := rbn_le a h
  by_cases z : rng a L (rbn a L i) = true
  · have e := (tn_1 z).1
    have z2 := z
    unfold rng at z2
    simp only [Bool.and_eq_true, decide_eq_true_eq, Bool.not_eq_true'] at z2
    have z3 : rbn a L i + 1 < L := (bnd_f (by rw [z2.2]; decide)).1
    have h2 := rbn_le a z3
    rw [← e]
    omega
  · rw [← (tn_0 z).1]
    exact h1
theorem bre_le (a : Nat → Nat) (L : Nat) : ∀ (n i : Nat), i ≤ L → bre a L n i ≤ L ∧ i ≤ bre a L n i := by
  intro n
  induction n with
  | zero => intro i h; exact ⟨h, Nat.le_refl _⟩
  | succ n ih =>
    intro i h
    simp only [bre]
    by_cases z : bnd a L i = true
    · rw [if_pos z]; exact ⟨h, Nat.le_refl _⟩
    · rw [if_neg z]
      have h1 := tnx_le a (bnd_f z).1
      have h2 := ih _ h1.1
      omega
theorem brg_1 {a : Nat → Nat} {L i : Nat} (h : i < L) (h2 : a i = 94) : brg a L i = true := by
  unfold brg
  simp [h, h2]
theorem brg_a {a : Nat → Nat} {L i : Nat} (h : ¬ i < L) : ¬ brg a L i = true := by
  unfold brg
  simp [h]
theorem brg_b {a : Nat → Nat} {L i : Nat} (h : a i ≠ 94) : ¬ brg a L i = true := by
  unfold brg
  simp [h]
/-- the row of the thing that brackets tell, so far -/
def BR (a : Nat → Nat) (L cnt : Nat) (fT g : Nat → Int64) (neg : Bool) (i0 r i : Nat) : Prop :=
  bre a L (L - r) i = bre a L L i0 ∧ (∀ x, x < 256 → brm a L L i0 x = ((neg ^^ lb g (448 * x + cnt)) || brm a L (L - r) i x)) ∧ (∀ x k, k < 448 → k ≠ cnt → lb g (448 * x + k) = lb fT (448 * x + k))
theorem BR_s {a : Nat → Nat} {L cnt : Nat} {fT g g2 : Nat → Int64} {neg : Bool} {i0 r i : Nat} (hc : cnt < 448) (h : BR a L cnt fT g neg i0 r i) (hr : r < L) (hb : ¬ bnd a L i = true) (hg : ∀ x k, k < 448 → lb g2 (448 * x + k) = if k = cnt ∧ rbv a L i ≤ x ∧ x ≤ thi a L i then !neg else lb g (448 * x + k)) : BR a L cnt fT g2 neg i0 (r + 1) (tnx a L i) := by
  obtain ⟨h1, h2, h3⟩ := h
  have e : L - r = (L - (r + 1)) + 1 := by omega
  rw [e] at h1 h2
  simp only [bre, brm, if_neg hb] at h1 h2
  refine ⟨h1, fun x hx => ?_, fun x k hk hne => ?_⟩
  · rw [h2 x hx, hg x cnt hc]
    by_cases z : rbv a L i ≤ x ∧ x ≤ thi a L i
    · rw [if_pos ⟨rfl, z⟩, show decide (rbv a L i ≤ x ∧ x ≤ thi a L i) = true from decide_eq_true z]
      cases neg <;> simp
    · rw [if_neg (fun q => z q.2), show decide (rbv a L i ≤ x ∧ x ≤ thi a L i) = false from decide_eq_false z, Bool.false_or]
  · rw [hg x k hk, if_neg (fun q => hne q.1)]
    exact h3 x k hk hne
theorem BR_e {a : Nat → Nat} {L cnt : Nat} {fT g : Nat → Int64} {neg : Bool} {i0 r i : Nat} (h : BR a L cnt fT g neg i0 r i) (hr : L ≤ r ∨ bnd a L i = true) : i = bre a L L i0 ∧ (∀ x, x < 256 → brm a L L i0 x = (neg ^^ lb g (448 * x + cnt))) ∧ (∀ x k, k < 448 → k ≠ cnt → lb g (448 * x + k) = lb fT (448 * x + k)) := by
  obtain ⟨h1, h2, h3⟩ := h
  have e1 : bre a L (L - r) i = i := by
    rcases hr with q | q
    · rw [show L - r = 0 by omega]; rfl
    · cases L - r with
      | zero => rfl
      | succ n => simp only [bre, if_pos q]
  have e2 : ∀ x, brm a L (L - r) i x = false := by
    intro x
    rcases hr with q | q
    · rw [show L - r = 0 by omega]; rfl
    · cases L - r with
      | zero => rfl
      | succ n => simp only [brm, if_pos q]
  refine ⟨by rw [← h1, e1], fun x hx => ?_, h3⟩
  rw [h2 x hx, e2, Bool.or_false]
theorem br_1 {a : Nat → Nat} {L cnt i : Nat} {fT g : Nat → Int64} (h : brg a L i = true) (hb : ∀ x, x < 256 → brm a L L (i + 1) x = (true ^^ lb g (448 * x + cnt))) (hk : ∀ x k, k < 448 → k ≠ cnt → lb g (448 * x + k) = lb fT (448 * x + k)) : ∀ x k, x < 256 → k < 448 → lb g (448 * x + k) = if k = cnt then brs a L i x else lb fT (448 * x + k) := by
  intro x k hx hk2
  by_cases z : k = cnt
  · rw [if_pos z, z]
    unfold brs
    rw [if_pos h, hb x hx]
    cases lb g (448 * x + cnt) <;> rfl
  · rw [if_neg z]; exact hk x k hk2 z
theorem br_0 {a : Nat → Nat} {L cnt i : Nat} {fT g : Nat → Int64} (h : ¬ brg a L i = true) (hb : ∀ x, x < 256 → brm a L L i x = (false ^^ lb g (448 * x + cnt))) (hk : ∀ x k, k < 448 → k ≠ cnt → lb g (448 * x + k) = lb fT (448 * x + k)) : ∀ x k, x < 256 → k < 448 → lb g (448 * x + k) = if k = cnt then brs a L i x else lb fT (448 * x + k) := by
  intro x k hx hk2
  by_cases z : k = cnt
  · rw [if_pos z, z]
    unfold brs
    rw [if_neg h, hb x hx]
    cases lb g (448 * x + cnt) <;> rfl
  · rw [if_neg z]; exact hk x k hk2 z
/-- the rows hold the things ts -/
def TR (ts : List (Option (Nat → Bool))) (fT fL : Nat → Int64) (cnt : Nat) : Prop := cnt = tC ts ∧ (∀ x k, x < 256 → k < 448 → lb fT (448 * x + k) = tT ts x k) ∧ (∀ k, k < 448 → lb fL k = tL ts k)
theorem TR_nil {fT fL : Nat → Int64} (h1 : ∀ j, j < 1792 → fT j = 0) (h2 : ∀ j, j < 7 → fL j = 0) : TR [] fT fL 0 :=
  ⟨rfl, fun x k hx hk => lb_zero h1 (by omega), fun k hk => lb_zero h2 (by omega)⟩
theorem TR_star {ts : List (Option (Nat → Bool))} {fT fL fL2 : Nat → Int64} {cnt : Nat} (h : TR ts fT fL cnt) (hl : ∀ k, lb fL2 k = (lb fL k || decide (k = cnt))) : TR (ts ++ [none]) fT fL2 cnt := by
  obtain ⟨h1, h2, h3⟩ := h
  refine ⟨by rw [tC_app]; exact h1, fun x k hx hk => by rw [tT_star]; exact h2 x k hx hk, fun k hk => ?_⟩
  rw [hl, tL_star, h3 k hk, h1]
theorem TR_one {ts : List (Option (Nat → Bool))} {fT fT2 fL : Nat → Int64} {cnt : Nat} {S : Nat → Bool} (h : TR ts fT fL cnt) (ht : ∀ x k, x < 256 → k < 448 → lb fT2 (448 * x + k) = if k = cnt then S x else lb fT (448 * x + k)) : TR (ts ++ [some S]) fT2 fL (cnt + 1) := by
  obtain ⟨h1, h2, h3⟩ := h
  refine ⟨by rw [tC_app, ← h1]; rfl, fun x k hx hk => ?_, fun k hk => by rw [tL_one]; exact h3 k hk⟩
  rw [ht x k hx hk, tT_one, ← h1, h2 x k hx hk]
theorem TR_new {ts : List (Option (Nat → Bool))} {fT fL : Nat → Int64} {cnt : Nat} (h : TR ts fT fL cnt) (hc : cnt < 448) : ∀ x, x < 256 → lb fT (448 * x + cnt) = false := by
  intro x hx
  rw [h.2.1 x cnt hx hc]
  exact tT_out ts x cnt (Nat.le_of_eq h.1.symm)
theorem th_star {a : Nat → Nat} {L i : Nat} (h : a i = 42) : thv a L i = none ∧ i + 1 = thn a L i := by
  unfold thv thn
  rw [if_pos h, if_pos h]
  exact ⟨rfl, rfl⟩
theorem th_any {a : Nat → Nat} {L i : Nat} (h : a i ≠ 42) (h2 : a i = 63) : thv a L i = some (fun _ => true) ∧ i + 1 = thn a L i := by
  unfold thv thn
  rw [if_neg h, if_neg h, if_pos h2, if_pos h2]
  exact ⟨rfl, rfl⟩
theorem th_br {a : Nat → Nat} {L i : Nat} (h : a i ≠ 42) (h2 : a i ≠ 63) (h3 : a i = 91) : thv a L i = some (brs a L (i + 1)) ∧ brn a L (i + 1) = thn a L i := by
  unfold thv thn
  rw [if_neg h, if_neg h, if_neg h2, if_neg h2, if_pos h3, if_pos h3]
  exact ⟨rfl, rfl⟩
theorem th_lit {a : Nat → Nat} {L i : Nat} (h : a i ≠ 42) (h2 : a i ≠ 63) (h3 : a i ≠ 91) : thv a L i = some (fun x => decide (x = rbv a L i)) ∧ rbn a L i = thn a L i := by
  unfold thv thn
  rw [if_neg h, if_neg h, if_neg h2, if_neg h2, if_neg h3, if_neg h3]
  exact ⟨rfl, rfl⟩
theorem thn_le (a : Nat → Nat) {L i : Nat} (h : i < L) : thn a L i ≤ L + 1 ∧ i < thn a L i := by
  unfold thn
  have h1 := rbn_le a h
  split
  · omega
  · split
    · omega
    · split
      · unfold brn
        by_cases z : brg a L (i + 1) = true
        · rw [if_pos z]
          have z2 := z
          unfold brg at z2
          simp only [Bool.and_eq_true, decide_eq_true_eq] at z2
          have h2 := bre_le a L L (i + 1 + 1) (by omega)
          omega
        · rw [if_neg z]
          have h2 := bre_le a L L (i + 1) (by omega)
          omega
      · omega
end
section
theorem tl_end {fT g : Nat → Int64} {lo hi b cnt : Nat} {tk : Bool} (h1 : hi < b) (h3 : b ≤ hi + 1 ∨ b = lo) (h : ∀ x k, k < 448 → lb g (448 * x + k) = if k = cnt ∧ lo ≤ x ∧ x < b then tk else lb fT (448 * x + k)) : ∀ x k, k < 448 → lb g (448 * x + k) = if k = cnt ∧ lo ≤ x ∧ x ≤ hi then tk else lb fT (448 * x + k) := by
  intro x k hk
  rw [h x k hk]
  by_cases z : k = cnt ∧ lo ≤ x ∧ x ≤ hi
  · rw [if_pos z, if_pos ⟨z.1, z.2.1, by omega⟩]
  · rw [if_neg z, if_neg (fun q => z ⟨q.1, q.2.1, by omega⟩)]
end
section
set_option maxHeartbeats 4000000 in
set_option maxRecDepth 100000 in
theorem c_X1_bitOf (l : Launch) (dC : Nat → ClassId) (dI : Nat → Nat → Nat) (cI cJ cZ : ClassId) (sz : Nat) (q : Nat) (hq : q < 2 ^ 31) : Met l yX1_bitOf wsX1_bitOf ({ frames := 0, cells := 0, slots := 0, locals := 0 }) (va_Pc [.int (nI q)] (fun U => U.heap.size = sz ∧ va_P (dC, dI) vwCl [] U.heap ∧ va_K (dC, dI) vwCl [(cI, .int), (cJ, .long), (cZ, .boolean)] U ∧ va_D (fun _ => True) [])) (va_Ql (fun (r : Int64) (u : Unit) => r = bitL q) (fun (u : Unit) (t : State) => va_P (dC, dI) vwCl [] t.heap ∧ va_K (dC, dI) vwCl [(cI, .int), (cJ, .long), (cZ, .boolean)] t ∧ va_D (va_A [] sz) []) (va_A [] sz)) 0 0 (va_A [] sz) := by
  refine Met.ofW (cc := cX1_bitOf) (maxL := 1) (ret := (some .long)) (by decide) rfl ?_
  intro p e s m args below meth c s₁ B hml hv
  obtain ⟨rfl, hsz, hP, hK, hD0⟩ := hv
  have hx := B.exec
  have hb := B.bytes
  have hr := B.returns
  have hts := atoms_spec (ws := wsX1_bitOf) B.pre
  have hown : s.vm.findClass RX1 = some m.cls := findClass_of_methodNamed B.named
  have hlocks := B.notSynchronized
  subst hsz
  have hD := hD0.self (sz := s.heap.size)
  generalize hAe : va_A [] s.heap.size = A at hD ⊢
  have hA : ∀ q : Nat, s.heap.size ≤ q → A q := fun q h => by rw [← hAe]; exact Or.inr h
  have hS : va_S A s.heap s.heap [] := va_S.rf
  have hP : va_P (dC, dI) vwCl [] s.heap := hP
  have hl := lv_entry ([.int (nI q)]) (n := 1) (Nat.le_of_ble_eq_true rfl)
  rw [lg_entry_eq]
  generalize (lg_sl ([.int (nI q)]) ++ List.replicate (1 - (lg_sl ([.int (nI q)])).length) Slot.unset).toArray = ls at hl ⊢
  have hl : lv_has ls 1 [(0, .int (nI q))] := hl
  skip
  refine lv_lconst (v := 1) hx hb dX1_bitOf_0 (by decide) ?_
  refine lv_iload_n hx hb dX1_bitOf_1 rfl (lv_at hl 0 rfl) ?_
  refine lv_bipush (v := nI 64) hx hb dX1_bitOf_2 (by decide) ?_
  refine lv_irem hx hb dX1_bitOf_4 (by decide) ?_
  refine wl_asi (y := nI (q % 64)) (pk_rem (by omega) (by omega) (by omega)) ?_
  refine lv_lshl (v := 1 <<< ((nI (q % 64)).toInt64 &&& 63)) hx hb dX1_bitOf_5 rfl ?_
  have hP9 := hP.sub (ws' := []) [] rfl
  have hD9 := hD.sub (ws' := []) [] (by decide) rfl
  exact W.lret (v := 1 <<< ((nI (q % 64)).toInt64 &&& 63)) hx hb hr  (fun t ht hW => ⟨⟨1 <<< ((nI (q % 64)).toInt64 &&& 63), (), rfl, (show (1 <<< ((nI (q % 64)).toInt64 &&& 63)) = bitL q from rfl), by rw [ht]; exact hP9, va_K.moved hW.alike hK, hD9⟩, hS.F ht⟩) hS.2.2 dX1_bitOf_6
end
section
set_option maxHeartbeats 4000000 in
set_option maxRecDepth 100000 in
theorem c_J7_fill_d0a16 (l : Launch) (dC : Nat → ClassId) (dI : Nat → Nat → Nat) (cI cJ cZ : ClassId) (qa : Nat) (sz : Nat) (n : Nat) (f : Nat → Int64) (v : Int64) (hn : n < 2 ^ 31) : Met l yJ7_fill_d0a16 wsJ7_fill_d0a16 ({ frames := 0, cells := 0, slots := 0, locals := 0 }) (va_Pc [.ref qa, .long v] (fun U => U.heap.size = sz ∧ va_P (dC, dI) vwCl [(qa, .inl (cJ, n, .inr (.inl f)))] U.heap ∧ va_K (dC, dI) vwCl [(cI, .int), (cJ, .long), (cZ, .boolean)] U ∧ va_D (fun _ => True) [(qa, .inl (cJ, n, .inr (.inl f)))])) (va_Qv (fun (u : (Nat → Int64)) => ∀ j, j < n → u j = v) (fun (u : (Nat → Int64)) (t : State) => va_P (dC, dI) vwCl [(qa, .inl (cJ, n, .inr (.inl u)))] t.heap ∧ va_K (dC, dI) vwCl [(cI, .int), (cJ, .long), (cZ, .boolean)] t ∧ va_D (va_A [(qa, .inl (cJ, n, .inr (.inl f)))] sz) [(qa, .inl (cJ, n, .inr (.inl u)))]) (va_A [(qa, .inl (cJ, n, .inr (.inl f)))] sz)) 0 0 (va_A [(qa, .inl (cJ, n, .inr (.inl f)))] sz) := by
  refine Met.ofW (cc := cJ7_fill_d0a16) (maxL := 5) (ret := none) (by decide) rfl ?_
  intro p e s m args below meth c s₁ B hml hv
  obtain ⟨rfl, hsz, hP, hK, hD0⟩ := hv
  have hx := B.exec
  have hb := B.bytes
  have hr := B.returns
  have hts := atoms_spec (ws := wsJ7_fill_d0a16) B.pre
  have hown : s.vm.findClass RJ7 = some m.cls := findClass_of_methodNamed B.named
  have hlocks := B.notSynchronized
  subst hsz
  have hD := hD0.self (sz := s.heap.size)
  generalize hAe : va_A [(qa, .inl (cJ, n, .inr (.inl f)))] s.heap.size = A at hD ⊢
  have hA : ∀ q : Nat, s.heap.size ≤ q → A q := fun q h => by rw [← hAe]; exact Or.inr h
  have hS : va_S A s.heap s.heap [] := va_S.rf
  have hP : va_P (dC, dI) vwCl [(qa, .inl (cJ, n, .inr (.inl f)))] s.heap := hP
  have hl := lv_entry ([.ref qa, .long v]) (n := 5) (Nat.le_of_ble_eq_true rfl)
  rw [lg_entry_eq]
  generalize (lg_sl ([.ref qa, .long v]) ++ List.replicate (5 - (lg_sl ([.ref qa, .long v])).length) Slot.unset).toArray = ls at hl ⊢
  have hl : lv_has ls 5 [(0, .ref qa), (1, .long v)] := hl
  skip
  refine lv_iconst (v := nI 0) hx hb dJ7_fill_d0a16_0 (by decide) ?_
  refine lv_istore_n (lv' := [(3, .int (nI 0)), (0, .ref qa), (1, .long v)]) hx hb dJ7_fill_d0a16_1 rfl hl (by decide) rfl (fun ls hl => ?_)
  refine lv_aload_n hx hb dJ7_fill_d0a16_2 rfl (lv_at hl 1 rfl) ?_
  refine va_alen (v := nI n) hx hb hK hP 0 1 rfl rfl rfl dJ7_fill_d0a16_3 ?_
  refine lv_istore (lv' := [(4, .int (nI n)), (3, .int (nI 0)), (0, .ref qa), (1, .long v)]) hx hb dJ7_fill_d0a16_4 hl (by decide) rfl (fun ls hl => ?_)
  refine wl_loop (σ := Nat × (Nat → Int64)) (fun z9 => n - z9.1) (fun z9 H locs ls => (z9.1 ≤ n) ∧ (∀ j, j < z9.1 → z9.2 j = v) ∧ va_P (dC, dI) vwCl [(qa, .inl (cJ, n, .inr (.inl z9.2)))] H ∧ va_D A [(qa, .inl (cJ, n, .inr (.inl z9.2)))] ∧ va_S A s.heap H locs ∧ lv_has ls 5 [(0, .ref qa), (1, .long v), (3, .int (nI z9.1)), (4, .int (nI n))]) ?_ (0, f) ⟨(show (0) ≤ n from Nat.zero_le _), (show ∀ j, j < (0) → f j = v from fun j hj => absurd hj (Nat.not_lt_zero _)), hP.sub [0] rfl, hD.sub [0] (by decide) rfl, hS, lv_sub hl [2, 3, 1, 0] rfl⟩
  intro z9 H locs ls hI ih6
  obtain ⟨i, g⟩ := z9
  obtain ⟨hi, hg, hP, hD, hS, hl⟩ := hI
  try dsimp only at hi hg hP hD hl
  have hP : va_P (dC, dI) vwCl [(qa, .inl (cJ, n, .inr (.inl g)))] H := hP
  have hD : va_D A [(qa, .inl (cJ, n, .inr (.inl g)))] := hD
  have hl : lv_has ls 5 [(0, .ref qa), (1, .long v), (3, .int (nI i)), (4, .int (nI n))] := hl
  refine lv_iload_n hx hb dJ7_fill_d0a16_6 rfl (lv_at hl 2 rfl) ?_
  refine lv_iload hx hb dJ7_fill_d0a16_7 (lv_at hl 3 rfl) ?_
  refine wl_icmp_ge (tgt := 22) hx hb dJ7_fill_d0a16_9 (by decide) (by omega) (by omega) (fun c9 => ?_) (fun c9 => ?_)
  · skip
    have hP9 := hP.sub (ws' := [(qa, .inl (cJ, n, .inr (.inl g)))]) [0] rfl
    have hD9 := hD.sub (ws' := [(qa, .inl (cJ, n, .inr (.inl g)))]) [0] (by decide) rfl
    exact W.vret hx hb hr (fun t ht hW => ⟨⟨g, rfl, (show ∀ j, j < n → g j = v from fun j hj => hg j (by omega)), by rw [ht]; exact hP9, va_K.moved hW.alike hK, hD9⟩, hS.F ht⟩) hS.2.2 dJ7_fill_d0a16_22
  · skip
    refine lv_aload_n hx hb dJ7_fill_d0a16_12 rfl (lv_at hl 0 rfl) ?_
    refine lv_iload_n hx hb dJ7_fill_d0a16_13 rfl (lv_at hl 2 rfl) ?_
    refine lv_lload_n hx hb dJ7_fill_d0a16_14 rfl (lv_at hl 1 rfl) ?_
    refine va_last hx hb hK hP hD hS 0 1 rfl rfl (vp_in_nI (by omega) (by omega)) dJ7_fill_d0a16_15 (fun H locs hP hD hS => ?_)
    rw [nI_clamp (by omega)] at hP hD
    have hP : va_P (dC, dI) vwCl [(qa, .inl (cJ, n, .inr (.inl (vp_updL g i v))))] H := hP
    have hD : va_D A [(qa, .inl (cJ, n, .inr (.inl (vp_updL g i v))))] := hD
    refine lv_iinc (v := nI (i + 1)) (lv' := [(3, .int (nI (i + 1))), (0, .ref qa), (1, .long v), (4, .int (nI n))]) hx hb dJ7_fill_d0a16_16 hl (k := 2) rfl (wl_inc _ _ (by decide)) (by decide) rfl (fun ls hl => ?_)
    refine lv_goto (tgt := 6) hx hb dJ7_fill_d0a16_19 (by decide) ?_
    exact ih6 (i + 1, vp_updL g i v) H locs ls ⟨(show (i + 1) ≤ n from by omega), (show ∀ j, j < (i + 1) → (vp_updL g i v) j = v from fl_s hg), hP.sub [0] rfl, hD.sub [0] (by decide) rfl, hS, lv_sub hl [1, 2, 0, 3] rfl⟩ (by (try dsimp only); omega)
end
section
set_option maxHeartbeats 4000000 in
set_option maxRecDepth 100000 in
theorem c_X1_init (l : Launch) (dC : Nat → ClassId) (dI : Nat → Nat → Nat) (cI cJ cZ : ClassId) (hT : Nat) (sz : Nat) : Met l yX1_init wsX1_init ({ frames := 1, cells := 3, slots := 1806, locals := 12 }) (va_Pc [.ref hT] (fun U => U.heap.size = sz ∧ va_P (dC, dI) vwCl [(hT, .inr (1, [.null, .null, .null, .int (nI 0)]))] U.heap ∧ va_K (dC, dI) vwCl [(cI, .int), (cJ, .long), (cZ, .boolean)] U ∧ va_D (fun _ => True) [(hT, .inr (1, [.null, .null, .null, .int (nI 0)]))])) (va_Qv (fun (u : Nat × Nat × Nat) => True) (fun (u : Nat × Nat × Nat) (t : State) => va_P (dC, dI) vwCl [(hT, .inr (1, [.ref u.1, .ref u.2.1, .ref u.2.2, .int (nI 0)])), (u.1, .inl (cJ, 1792, .inr (.inl (fun _ => 0)))), (u.2.1, .inl (cJ, 7, .inr (.inl (fun _ => 0)))), (u.2.2, .inl (cJ, 7, .inr (.inl (fun _ => 0))))] t.heap ∧ va_K (dC, dI) vwCl [(cI, .int), (cJ, .long), (cZ, .boolean)] t ∧ va_D (va_A [(hT, .inr (1, [.null, .null, .null, .int (nI 0)]))] sz) [(hT, .inr (1, [.ref u.1, .ref u.2.1, .ref u.2.2, .int (nI 0)])), (u.1, .inl (cJ, 1792, .inr (.inl (fun _ => 0)))), (u.2.1, .inl (cJ, 7, .inr (.inl (fun _ => 0)))), (u.2.2, .inl (cJ, 7, .inr (.inl (fun _ => 0))))]) (va_A [(hT, .inr (1, [.null, .null, .null, .int (nI 0)]))] sz)) 3 1806 (va_A [(hT, .inr (1, [.null, .null, .null, .int (nI 0)]))] sz) := by
  refine Met.ofW (cc := cX1_init) (maxL := 1) (ret := none) (by decide) rfl ?_
  intro p e s m args below meth c s₁ B hml hv
  obtain ⟨rfl, hsz, hP, hK, hD0⟩ := hv
  have hx := B.exec
  have hb := B.bytes
  have hr := B.returns
  have hts := atoms_spec (ws := wsX1_init) B.pre
  have hown : s.vm.findClass RX1 = some m.cls := findClass_of_methodNamed B.named
  have hlocks := B.notSynchronized
  have hin : meth.name = "<init>" := (name_of_methodNamed B.named B.method).1
  subst hsz
  have hD := hD0.self (sz := s.heap.size)
  generalize hAe : va_A [(hT, .inr (1, [.null, .null, .null, .int (nI 0)]))] s.heap.size = A at hD ⊢
  have hA : ∀ q : Nat, s.heap.size ≤ q → A q := fun q h => by rw [← hAe]; exact Or.inr h
  have hS : va_S A s.heap s.heap [] := va_S.rf
  have hP : va_P (dC, dI) vwCl [(hT, .inr (1, [.null, .null, .null, .int (nI 0)]))] s.heap := hP
  have hl := lv_entry ([.ref hT]) (n := 1) (Nat.le_of_ble_eq_true rfl)
  rw [lg_entry_eq]
  generalize (lg_sl ([.ref hT]) ++ List.replicate (1 - (lg_sl ([.ref hT])).length) Slot.unset).toArray = ls at hl ⊢
  have hl : lv_has ls 1 [(0, .ref hT)] := hl
  skip
  refine lv_aload_n hx hb dX1_init_0 rfl (lv_at hl 0 rfl) ?_
  refine W.objInit hx hb hown (hts (.methodLink RX1 5 objectInit) (by decide +kernel)) (hts (.instanceMethod objectInit) (by decide +kernel)) (hts (.code objectInit ⟨#[0xb1]⟩ 1 none) (by decide +kernel)) rfl (by rw [hml]; exact hl.1) rfl dX1_init_1 (Nat.le_of_ble_eq_true rfl) (Nat.le_of_ble_eq_true rfl) ?_
  refine W.eq (g2 := F0 m 4 ls []) rfl ?_
  refine lv_aload_n hx hb dX1_init_4 rfl (lv_at hl 0 rfl) ?_
  refine lv_sipush (v := nI 1792) hx hb dX1_init_5 (by decide) ?_
  refine va_newa (atype := .long) (ty := .long) (N' := 1792) (a0 := (1792, .inr (.inl (fun _ => 0)))) hx hb (hts (.arrayClass .long) (by decide +kernel)) rfl hK hP hD hS hA (fun _ => rfl) (nI_pos (by omega)) (nI_clamp (by omega)) (by decide) (show 0 + 1 ≤ 3 from by decide) (show 0 + 1792 ≤ 1806 from by decide) dX1_init_8 (fun q8 cA H hK1 hP hD hS => ?_)
  obtain rfl : cJ = cA := (wl_same_long hK1 3 1 rfl rfl).symm
  have hP : va_P (dC, dI) vwCl [(hT, .inr (1, [.null, .null, .null, .int (nI 0)])), (q8, .inl (cJ, 1792, .inr (.inl (fun _ => 0))))] H := hP
  have hD : va_D A [(hT, .inr (1, [.null, .null, .null, .int (nI 0)])), (q8, .inl (cJ, 1792, .inr (.inl (fun _ => 0))))] := hD
  refine va_putF (D := (dC, dI)) (ci := 1) (v := .ref q8) (ty := .array .long) (C := RX1) (T := TX1) (N := 4) hx hb hts (by decide +kernel) tyX1 tyX1_ok nmX1 hown hK hP hD hS 0 rfl rfl 0 (by decide) (hts (.fieldLink RX1 11 "WildCards$Things" "takers" "[J") (by decide +kernel)) (fun _ h9 => h9) rfl hin rfl (by decide +kernel) rfl rfl (Nat.le_of_ble_eq_true rfl) dX1_init_10 (fun H locs hP hD hS => ?_)
  have hP : va_P (dC, dI) vwCl [(hT, .inr (1, [.ref q8, .null, .null, .int (nI 0)])), (q8, .inl (cJ, 1792, .inr (.inl (fun _ => 0))))] H := hP
  have hD : va_D A [(hT, .inr (1, [.ref q8, .null, .null, .int (nI 0)])), (q8, .inl (cJ, 1792, .inr (.inl (fun _ => 0))))] := hD
  refine lv_aload_n hx hb dX1_init_13 rfl (lv_at hl 0 rfl) ?_
  refine lv_bipush (v := nI 7) hx hb dX1_init_14 (by decide) ?_
  refine va_newa (atype := .long) (ty := .long) (N' := 7) (a0 := (7, .inr (.inl (fun _ => 0)))) hx hb (hts (.arrayClass .long) (by decide +kernel)) rfl hK hP hD hS hA (fun _ => rfl) (nI_pos (by omega)) (nI_clamp (by omega)) (by decide) (show 0 + 1 + 1 ≤ 3 from by decide) (show 0 + 1792 + 7 ≤ 1806 from by decide) dX1_init_16 (fun q16 cA H hK1 hP hD hS => ?_)
  obtain rfl : cJ = cA := (wl_same_long hK1 3 1 rfl rfl).symm
  have hP : va_P (dC, dI) vwCl [(hT, .inr (1, [.ref q8, .null, .null, .int (nI 0)])), (q8, .inl (cJ, 1792, .inr (.inl (fun _ => 0)))), (q16, .inl (cJ, 7, .inr (.inl (fun _ => 0))))] H := hP
  have hD : va_D A [(hT, .inr (1, [.ref q8, .null, .null, .int (nI 0)])), (q8, .inl (cJ, 1792, .inr (.inl (fun _ => 0)))), (q16, .inl (cJ, 7, .inr (.inl (fun _ => 0))))] := hD
  refine va_putF (D := (dC, dI)) (ci := 1) (v := .ref q16) (ty := .array .long) (C := RX1) (T := TX1) (N := 4) hx hb hts (by decide +kernel) tyX1 tyX1_ok nmX1 hown hK hP hD hS 0 rfl rfl 1 (by decide) (hts (.fieldLink RX1 15 "WildCards$Things" "loops" "[J") (by decide +kernel)) (fun _ h9 => h9) rfl hin rfl (by decide +kernel) rfl rfl (Nat.le_of_ble_eq_true rfl) dX1_init_18 (fun H locs hP hD hS => ?_)
  have hP : va_P (dC, dI) vwCl [(hT, .inr (1, [.ref q8, .ref q16, .null, .int (nI 0)])), (q8, .inl (cJ, 1792, .inr (.inl (fun _ => 0)))), (q16, .inl (cJ, 7, .inr (.inl (fun _ => 0))))] H := hP
  have hD : va_D A [(hT, .inr (1, [.ref q8, .ref q16, .null, .int (nI 0)])), (q8, .inl (cJ, 1792, .inr (.inl (fun _ => 0)))), (q16, .inl (cJ, 7, .inr (.inl (fun _ => 0))))] := hD
  refine lv_aload_n hx hb dX1_init_21 rfl (lv_at hl 0 rfl) ?_
  refine lv_bipush (v := nI 7) hx hb dX1_init_22 (by decide) ?_
  refine va_newa (atype := .long) (ty := .long) (N' := 7) (a0 := (7, .inr (.inl (fun _ => 0)))) hx hb (hts (.arrayClass .long) (by decide +kernel)) rfl hK hP hD hS hA (fun _ => rfl) (nI_pos (by omega)) (nI_clamp (by omega)) (by decide) (show 0 + 1 + 1 + 1 ≤ 3 from by decide) (show 0 + 1792 + 7 + 7 ≤ 1806 from by decide) dX1_init_24 (fun q24 cA H hK1 hP hD hS => ?_)
  obtain rfl : cJ = cA := (wl_same_long hK1 3 1 rfl rfl).symm
  have hP : va_P (dC, dI) vwCl [(hT, .inr (1, [.ref q8, .ref q16, .null, .int (nI 0)])), (q8, .inl (cJ, 1792, .inr (.inl (fun _ => 0)))), (q16, .inl (cJ, 7, .inr (.inl (fun _ => 0)))), (q24, .inl (cJ, 7, .inr (.inl (fun _ => 0))))] H := hP
  have hD : va_D A [(hT, .inr (1, [.ref q8, .ref q16, .null, .int (nI 0)])), (q8, .inl (cJ, 1792, .inr (.inl (fun _ => 0)))), (q16, .inl (cJ, 7, .inr (.inl (fun _ => 0)))), (q24, .inl (cJ, 7, .inr (.inl (fun _ => 0))))] := hD
  refine va_putF (D := (dC, dI)) (ci := 1) (v := .ref q24) (ty := .array .long) (C := RX1) (T := TX1) (N := 4) hx hb hts (by decide +kernel) tyX1 tyX1_ok nmX1 hown hK hP hD hS 0 rfl rfl 2 (by decide) (hts (.fieldLink RX1 18 "WildCards$Things" "reached" "[J") (by decide +kernel)) (fun _ h9 => h9) rfl hin rfl (by decide +kernel) rfl rfl (Nat.le_of_ble_eq_true rfl) dX1_init_26 (fun H locs hP hD hS => ?_)
  have hP : va_P (dC, dI) vwCl [(hT, .inr (1, [.ref q8, .ref q16, .ref q24, .int (nI 0)])), (q8, .inl (cJ, 1792, .inr (.inl (fun _ => 0)))), (q16, .inl (cJ, 7, .inr (.inl (fun _ => 0)))), (q24, .inl (cJ, 7, .inr (.inl (fun _ => 0))))] H := hP
  have hD : va_D A [(hT, .inr (1, [.ref q8, .ref q16, .ref q24, .int (nI 0)])), (q8, .inl (cJ, 1792, .inr (.inl (fun _ => 0)))), (q16, .inl (cJ, 7, .inr (.inl (fun _ => 0)))), (q24, .inl (cJ, 7, .inr (.inl (fun _ => 0))))] := hD
  have hP9 := hP.sub (ws' := [(hT, .inr (1, [.ref q8, .ref q16, .ref q24, .int (nI 0)])), (q8, .inl (cJ, 1792, .inr (.inl (fun _ => 0)))), (q16, .inl (cJ, 7, .inr (.inl (fun _ => 0)))), (q24, .inl (cJ, 7, .inr (.inl (fun _ => 0))))]) [0, 1, 2, 3] rfl
  have hD9 := hD.sub (ws' := [(hT, .inr (1, [.ref q8, .ref q16, .ref q24, .int (nI 0)])), (q8, .inl (cJ, 1792, .inr (.inl (fun _ => 0)))), (q16, .inl (cJ, 7, .inr (.inl (fun _ => 0)))), (q24, .inl (cJ, 7, .inr (.inl (fun _ => 0))))]) [0, 1, 2, 3] (by decide) rfl
  refine W.widen (k := 3) (n := 1806) (by omega) (by omega) ?_
  exact W.vret hx hb hr (fun t ht hW => ⟨⟨(q8, q16, q24), rfl, trivial, by rw [ht]; exact hP9, va_K.moved hW.alike hK, hD9⟩, hS.F ht⟩) hS.2.2 dX1_init_29
end
section
set_option maxHeartbeats 4000000 in
set_option maxRecDepth 100000 in
theorem c_X1_clear (l : Launch) (dC : Nat → ClassId) (dI : Nat → Nat → Nat) (cI cJ cZ : ClassId) (hT qT qL qR : Nat) (sz : Nat) (cnt : Nat) (fT : Nat → Int64) (fL : Nat → Int64) (fR : Nat → Int64) : Met l yX1_clear wsX1_clear ({ frames := 1, cells := 0, slots := 0, locals := 24 }) (va_Pc [.ref hT] (fun U => U.heap.size = sz ∧ va_P (dC, dI) vwCl [(hT, .inr (1, [.ref qT, .ref qL, .ref qR, .int (nI cnt)])), (qT, .inl (cJ, 1792, .inr (.inl fT))), (qL, .inl (cJ, 7, .inr (.inl fL))), (qR, .inl (cJ, 7, .inr (.inl fR)))] U.heap ∧ va_K (dC, dI) vwCl [(cI, .int), (cJ, .long), (cZ, .boolean)] U ∧ va_D (fun _ => True) [(hT, .inr (1, [.ref qT, .ref qL, .ref qR, .int (nI cnt)])), (qT, .inl (cJ, 1792, .inr (.inl fT))), (qL, .inl (cJ, 7, .inr (.inl fL))), (qR, .inl (cJ, 7, .inr (.inl fR)))])) (va_Qv (fun (u : (Nat → Int64) × (Nat → Int64)) => (∀ j, j < 1792 → u.1 j = 0) ∧ (∀ j, j < 7 → u.2 j = 0)) (fun (u : (Nat → Int64) × (Nat → Int64)) (t : State) => va_P (dC, dI) vwCl [(hT, .inr (1, [.ref qT, .ref qL, .ref qR, .int (nI 0)])), (qT, .inl (cJ, 1792, .inr (.inl u.1))), (qL, .inl (cJ, 7, .inr (.inl u.2))), (qR, .inl (cJ, 7, .inr (.inl fR)))] t.heap ∧ va_K (dC, dI) vwCl [(cI, .int), (cJ, .long), (cZ, .boolean)] t ∧ va_D (va_A [(hT, .inr (1, [.ref qT, .ref qL, .ref qR, .int (nI cnt)])), (qT, .inl (cJ, 1792, .inr (.inl fT))), (qL, .inl (cJ, 7, .inr (.inl fL))), (qR, .inl (cJ, 7, .inr (.inl fR)))] sz) [(hT, .inr (1, [.ref qT, .ref qL, .ref qR, .int (nI 0)])), (qT, .inl (cJ, 1792, .inr (.inl u.1))), (qL, .inl (cJ, 7, .inr (.inl u.2))), (qR, .inl (cJ, 7, .inr (.inl fR)))]) (va_A [(hT, .inr (1, [.ref qT, .ref qL, .ref qR, .int (nI cnt)])), (qT, .inl (cJ, 1792, .inr (.inl fT))), (qL, .inl (cJ, 7, .inr (.inl fL))), (qR, .inl (cJ, 7, .inr (.inl fR)))] sz)) 0 0 (va_A [(hT, .inr (1, [.ref qT, .ref qL, .ref qR, .int (nI cnt)])), (qT, .inl (cJ, 1792, .inr (.inl fT))), (qL, .inl (cJ, 7, .inr (.inl fL))), (qR, .inl (cJ, 7, .inr (.inl fR)))] sz) := by
  refine Met.ofW (cc := cX1_clear) (maxL := 1) (ret := none) (by decide) rfl ?_
  intro p e s m args below meth c s₁ B hml hv
  obtain ⟨rfl, hsz, hP, hK, hD0⟩ := hv
  have hx := B.exec
  have hb := B.bytes
  have hr := B.returns
  have hts := atoms_spec (ws := wsX1_clear) B.pre
  have hown : s.vm.findClass RX1 = some m.cls := findClass_of_methodNamed B.named
  have hlocks := B.notSynchronized
  subst hsz
  have hD := hD0.self (sz := s.heap.size)
  generalize hAe : va_A [(hT, .inr (1, [.ref qT, .ref qL, .ref qR, .int (nI cnt)])), (qT, .inl (cJ, 1792, .inr (.inl fT))), (qL, .inl (cJ, 7, .inr (.inl fL))), (qR, .inl (cJ, 7, .inr (.inl fR)))] s.heap.size = A at hD ⊢
  have hA : ∀ q : Nat, s.heap.size ≤ q → A q := fun q h => by rw [← hAe]; exact Or.inr h
  have hS : va_S A s.heap s.heap [] := va_S.rf
  have hP : va_P (dC, dI) vwCl [(hT, .inr (1, [.ref qT, .ref qL, .ref qR, .int (nI cnt)])), (qT, .inl (cJ, 1792, .inr (.inl fT))), (qL, .inl (cJ, 7, .inr (.inl fL))), (qR, .inl (cJ, 7, .inr (.inl fR)))] s.heap := hP
  have hl := lv_entry ([.ref hT]) (n := 1) (Nat.le_of_ble_eq_true rfl)
  rw [lg_entry_eq]
  generalize (lg_sl ([.ref hT]) ++ List.replicate (1 - (lg_sl ([.ref hT])).length) Slot.unset).toArray = ls at hl ⊢
  have hl : lv_has ls 1 [(0, .ref hT)] := hl
  skip
  refine lv_aload_n hx hb dX1_clear_0 rfl (lv_at hl 0 rfl) ?_
  refine va_get (D := (dC, dI)) (ci := 1) (v := .ref qT) (C := RX1) (T := TX1) (N := 4) hx hb hts (by decide +kernel) hown hK hP 0 rfl rfl 0 (by decide) (hts (.fieldLink RX1 11 "WildCards$Things" "takers" "[J") (by decide +kernel)) (fun _ h9 => h9) rfl dX1_clear_1 ?_
  refine lv_lconst (v := 0) hx hb dX1_clear_4 (by decide) ?_
  have hPc := hP.sub (ws' := [(qT, .inl (cJ, 1792, .inr (.inl fT)))]) [1] rfl
  have hDc := hD.sub (ws' := [(qT, .inl (cJ, 1792, .inr (.inl fT)))]) [1] (by decide) rfl
  have hFc := va_free (wc := [(qT, .inl (cJ, 1792, .inr (.inl fT)))]) hD hS hA [1] rfl
  refine va_callv (va_runS (As := [.ref qT, .long 0]) (rest := []) ⟨hx, hb, hml, hown, hts⟩ (c_J7_fill_d0a16 l dC dI cI cJ cZ qT s.heap.size 1792 fT 0 (by omega)) (va_cwS 2 hts gX1_clear_J7_fill_d0a16 rfl rfl rfl (by decide +kernel) ⟨Nat.le_of_ble_eq_true rfl, Nat.le_of_ble_eq_true rfl⟩) ⟨fun a U g mk q => by obtain ⟨q0, q1, qP, qK, qD⟩ := q; exact ⟨q0, q1, qP, va_K.moved (u := U) (U := U.calling g mk a) (Vm.Alike.refl U.vm) qK, qD⟩, fun U hU hW => ⟨rfl, by rw [hU], by rw [hU]; exact hPc, va_K.moved hW.alike hK, hDc.weaken (fun _ _ _ _ => trivial)⟩⟩ rfl rfl hl.1 rfl (lv_room (Nat.le_of_ble_eq_true rfl)) dX1_clear_5 ⟨show 0 + 0 ≤ 0 from by decide, show 0 + 0 ≤ 0 from by decide⟩) hS (fun q _ h => hFc q h) hFc (fun u t H1 locs ht hvm hw5 hB hz1 hk1 hS => ?_)
  obtain ⟨f25, rfl⟩ : ∃ z, z = u := ⟨_, rfl⟩
  obtain ⟨hP1, hK1, hD1⟩ := hB
  rw [ht] at hP1
  try dsimp only at hw5 hP1 hD1
  obtain ⟨hP, hD⟩ := va_join (wr := [(hT, .inr (1, [.ref qT, .ref qL, .ref qR, .int (nI cnt)])), (qL, .inl (cJ, 7, .inr (.inl fL))), (qR, .inl (cJ, 7, .inr (.inl fR)))]) (w1 := [(qT, .inl (cJ, 1792, .inr (.inl f25)))]) hP hD [1] [0, 2, 3] rfl rfl (by decide) (by decide) hk1 hFc hP1 hD1
  generalize H1 = H at hP hS ⊢
  have hP : va_P (dC, dI) vwCl [(hT, .inr (1, [.ref qT, .ref qL, .ref qR, .int (nI cnt)])), (qL, .inl (cJ, 7, .inr (.inl fL))), (qR, .inl (cJ, 7, .inr (.inl fR))), (qT, .inl (cJ, 1792, .inr (.inl f25)))] H := hP
  have hD : va_D A [(hT, .inr (1, [.ref qT, .ref qL, .ref qR, .int (nI cnt)])), (qL, .inl (cJ, 7, .inr (.inl fL))), (qR, .inl (cJ, 7, .inr (.inl fR))), (qT, .inl (cJ, 1792, .inr (.inl f25)))] := hD
  refine lv_aload_n hx hb dX1_clear_8 rfl (lv_at hl 0 rfl) ?_
  refine va_get (D := (dC, dI)) (ci := 1) (v := .ref qL) (C := RX1) (T := TX1) (N := 4) hx hb hts (by decide +kernel) hown hK hP 0 rfl rfl 1 (by decide) (hts (.fieldLink RX1 15 "WildCards$Things" "loops" "[J") (by decide +kernel)) (fun _ h9 => h9) rfl dX1_clear_9 ?_
  refine lv_lconst (v := 0) hx hb dX1_clear_12 (by decide) ?_
  have hPc := hP.sub (ws' := [(qL, .inl (cJ, 7, .inr (.inl fL)))]) [1] rfl
  have hDc := hD.sub (ws' := [(qL, .inl (cJ, 7, .inr (.inl fL)))]) [1] (by decide) rfl
  have hFc := va_free (wc := [(qL, .inl (cJ, 7, .inr (.inl fL)))]) hD hS hA [1] rfl
  refine va_callv (va_runS (As := [.ref qL, .long 0]) (rest := []) ⟨hx, hb, hml, hown, hts⟩ (c_J7_fill_d0a16 l dC dI cI cJ cZ qL H.size 7 fL 0 (by omega)) (va_cwS 2 hts gX1_clear_J7_fill_d0a16 rfl rfl rfl (by decide +kernel) ⟨Nat.le_of_ble_eq_true rfl, Nat.le_of_ble_eq_true rfl⟩) ⟨fun a U g mk q => by obtain ⟨q0, q1, qP, qK, qD⟩ := q; exact ⟨q0, q1, qP, va_K.moved (u := U) (U := U.calling g mk a) (Vm.Alike.refl U.vm) qK, qD⟩, fun U hU hW => ⟨rfl, by rw [hU], by rw [hU]; exact hPc, va_K.moved hW.alike hK, hDc.weaken (fun _ _ _ _ => trivial)⟩⟩ rfl rfl hl.1 rfl (lv_room (Nat.le_of_ble_eq_true rfl)) dX1_clear_13 ⟨show 0 + 0 + 0 ≤ 0 from by decide, show 0 + 0 + 0 ≤ 0 from by decide⟩) hS (fun q _ h => hFc q h) hFc (fun u t H1 locs ht hvm hw13 hB hz1 hk1 hS => ?_)
  obtain ⟨f213, rfl⟩ : ∃ z, z = u := ⟨_, rfl⟩
  obtain ⟨hP1, hK1, hD1⟩ := hB
  rw [ht] at hP1
  try dsimp only at hw13 hP1 hD1
  obtain ⟨hP, hD⟩ := va_join (wr := [(hT, .inr (1, [.ref qT, .ref qL, .ref qR, .int (nI cnt)])), (qR, .inl (cJ, 7, .inr (.inl fR))), (qT, .inl (cJ, 1792, .inr (.inl f25)))]) (w1 := [(qL, .inl (cJ, 7, .inr (.inl f213)))]) hP hD [1] [0, 2, 3] rfl rfl (by decide) (by decide) hk1 hFc hP1 hD1
  generalize H1 = H at hP hS ⊢
  have hP : va_P (dC, dI) vwCl [(hT, .inr (1, [.ref qT, .ref qL, .ref qR, .int (nI cnt)])), (qR, .inl (cJ, 7, .inr (.inl fR))), (qT, .inl (cJ, 1792, .inr (.inl f25))), (qL, .inl (cJ, 7, .inr (.inl f213)))] H := hP
  have hD : va_D A [(hT, .inr (1, [.ref qT, .ref qL, .ref qR, .int (nI cnt)])), (qR, .inl (cJ, 7, .inr (.inl fR))), (qT, .inl (cJ, 1792, .inr (.inl f25))), (qL, .inl (cJ, 7, .inr (.inl f213)))] := hD
  refine lv_aload_n hx hb dX1_clear_16 rfl (lv_at hl 0 rfl) ?_
  refine lv_iconst (v := nI 0) hx hb dX1_clear_17 (by decide) ?_
  refine va_put (D := (dC, dI)) (ci := 1) (v := .int (nI 0)) (ty := .int) (C := RX1) (T := TX1) (N := 4) hx hb hts (by decide +kernel) tyX1 tyX1_ok nmX1 hown hK hP hD hS 0 rfl rfl 3 (by decide) (hts (.fieldLink RX1 27 "WildCards$Things" "count" "I") (by decide +kernel)) (fun _ h9 => h9) rfl (by decide +kernel) rfl rfl (Nat.le_of_ble_eq_true rfl) dX1_clear_18 (fun H locs hP hD hS => ?_)
  have hP : va_P (dC, dI) vwCl [(hT, .inr (1, [.ref qT, .ref qL, .ref qR, .int (nI 0)])), (qR, .inl (cJ, 7, .inr (.inl fR))), (qT, .inl (cJ, 1792, .inr (.inl f25))), (qL, .inl (cJ, 7, .inr (.inl f213)))] H := hP
  have hD : va_D A [(hT, .inr (1, [.ref qT, .ref qL, .ref qR, .int (nI 0)])), (qR, .inl (cJ, 7, .inr (.inl fR))), (qT, .inl (cJ, 1792, .inr (.inl f25))), (qL, .inl (cJ, 7, .inr (.inl f213)))] := hD
  have hP9 := hP.sub (ws' := [(hT, .inr (1, [.ref qT, .ref qL, .ref qR, .int (nI 0)])), (qT, .inl (cJ, 1792, .inr (.inl f25))), (qL, .inl (cJ, 7, .inr (.inl f213))), (qR, .inl (cJ, 7, .inr (.inl fR)))]) [0, 2, 3, 1] rfl
  have hD9 := hD.sub (ws' := [(hT, .inr (1, [.ref qT, .ref qL, .ref qR, .int (nI 0)])), (qT, .inl (cJ, 1792, .inr (.inl f25))), (qL, .inl (cJ, 7, .inr (.inl f213))), (qR, .inl (cJ, 7, .inr (.inl fR)))]) [0, 2, 3, 1] (by decide) rfl
  exact W.vret hx hb hr (fun t ht hW => ⟨⟨(f25, f213), rfl, (show (∀ j, j < 1792 → f25 j = 0) ∧ (∀ j, j < 7 → f213 j = 0) from ⟨hw5, hw13⟩), by rw [ht]; exact hP9, va_K.moved hW.alike hK, hD9⟩, hS.F ht⟩) hS.2.2 dX1_clear_21
end
section
set_option maxHeartbeats 4000000 in
set_option maxRecDepth 100000 in
theorem c_X1_addLoop (l : Launch) (dC : Nat → ClassId) (dI : Nat → Nat → Nat) (cI cJ cZ : ClassId) (hT qT qL qR : Nat) (sz : Nat) (cnt : Nat) (fT : Nat → Int64) (fL : Nat → Int64) (fR : Nat → Int64) (hc : cnt < 448) : Met l yX1_addLoop wsX1_addLoop ({ frames := 1, cells := 0, slots := 0, locals := 20 }) (va_Pc [.ref hT] (fun U => U.heap.size = sz ∧ va_P (dC, dI) vwCl [(hT, .inr (1, [.ref qT, .ref qL, .ref qR, .int (nI cnt)])), (qT, .inl (cJ, 1792, .inr (.inl fT))), (qL, .inl (cJ, 7, .inr (.inl fL))), (qR, .inl (cJ, 7, .inr (.inl fR)))] U.heap ∧ va_K (dC, dI) vwCl [(cI, .int), (cJ, .long), (cZ, .boolean)] U ∧ va_D (fun _ => True) [(hT, .inr (1, [.ref qT, .ref qL, .ref qR, .int (nI cnt)])), (qT, .inl (cJ, 1792, .inr (.inl fT))), (qL, .inl (cJ, 7, .inr (.inl fL))), (qR, .inl (cJ, 7, .inr (.inl fR)))])) (va_Qv (fun (u : (Nat → Int64)) => ∀ k, lb u k = (lb fL k || decide (k = cnt))) (fun (u : (Nat → Int64)) (t : State) => va_P (dC, dI) vwCl [(hT, .inr (1, [.ref qT, .ref qL, .ref qR, .int (nI cnt)])), (qT, .inl (cJ, 1792, .inr (.inl fT))), (qL, .inl (cJ, 7, .inr (.inl u))), (qR, .inl (cJ, 7, .inr (.inl fR)))] t.heap ∧ va_K (dC, dI) vwCl [(cI, .int), (cJ, .long), (cZ, .boolean)] t ∧ va_D (va_A [(hT, .inr (1, [.ref qT, .ref qL, .ref qR, .int (nI cnt)])), (qT, .inl (cJ, 1792, .inr (.inl fT))), (qL, .inl (cJ, 7, .inr (.inl fL))), (qR, .inl (cJ, 7, .inr (.inl fR)))] sz) [(hT, .inr (1, [.ref qT, .ref qL, .ref qR, .int (nI cnt)])), (qT, .inl (cJ, 1792, .inr (.inl fT))), (qL, .inl (cJ, 7, .inr (.inl u))), (qR, .inl (cJ, 7, .inr (.inl fR)))]) (va_A [(hT, .inr (1, [.ref qT, .ref qL, .ref qR, .int (nI cnt)])), (qT, .inl (cJ, 1792, .inr (.inl fT))), (qL, .inl (cJ, 7, .inr (.inl fL))), (qR, .inl (cJ, 7, .inr (.inl fR)))] sz)) 0 0 (va_A [(hT, .inr (1, [.ref qT, .ref qL, .ref qR, .int (nI cnt)])), (qT, .inl (cJ, 1792, .inr (.inl fT))), (qL, .inl (cJ, 7, .inr (.inl fL))), (qR, .inl (cJ, 7, .inr (.inl fR)))] sz) := by
  refine Met.ofW (cc := cX1_addLoop) (maxL := 1) (ret := none) (by decide) rfl ?_
  intro p e s m args below meth c s₁ B hml hv
  obtain ⟨rfl, hsz, hP, hK, hD0⟩ := hv
  have hx := B.exec
  have hb := B.bytes
  have hr := B.returns
  have hts := atoms_spec (ws := wsX1_addLoop) B.pre
  have hown : s.vm.findClass RX1 = some m.cls := findClass_of_methodNamed B.named
  have hlocks := B.notSynchronized
  subst hsz
  have hD := hD0.self (sz := s.heap.size)
  generalize hAe : va_A [(hT, .inr (1, [.ref qT, .ref qL, .ref qR, .int (nI cnt)])), (qT, .inl (cJ, 1792, .inr (.inl fT))), (qL, .inl (cJ, 7, .inr (.inl fL))), (qR, .inl (cJ, 7, .inr (.inl fR)))] s.heap.size = A at hD ⊢
  have hA : ∀ q : Nat, s.heap.size ≤ q → A q := fun q h => by rw [← hAe]; exact Or.inr h
  have hS : va_S A s.heap s.heap [] := va_S.rf
  have hP : va_P (dC, dI) vwCl [(hT, .inr (1, [.ref qT, .ref qL, .ref qR, .int (nI cnt)])), (qT, .inl (cJ, 1792, .inr (.inl fT))), (qL, .inl (cJ, 7, .inr (.inl fL))), (qR, .inl (cJ, 7, .inr (.inl fR)))] s.heap := hP
  have hl := lv_entry ([.ref hT]) (n := 1) (Nat.le_of_ble_eq_true rfl)
  rw [lg_entry_eq]
  generalize (lg_sl ([.ref hT]) ++ List.replicate (1 - (lg_sl ([.ref hT])).length) Slot.unset).toArray = ls at hl ⊢
  have hl : lv_has ls 1 [(0, .ref hT)] := hl
  skip
  refine lv_aload_n hx hb dX1_addLoop_0 rfl (lv_at hl 0 rfl) ?_
  refine va_get (D := (dC, dI)) (ci := 1) (v := .ref qL) (C := RX1) (T := TX1) (N := 4) hx hb hts (by decide +kernel) hown hK hP 0 rfl rfl 1 (by decide) (hts (.fieldLink RX1 15 "WildCards$Things" "loops" "[J") (by decide +kernel)) (fun _ h9 => h9) rfl dX1_addLoop_1 ?_
  refine lv_aload_n hx hb dX1_addLoop_4 rfl (lv_at hl 0 rfl) ?_
  refine va_get (D := (dC, dI)) (ci := 1) (v := .int (nI cnt)) (C := RX1) (T := TX1) (N := 4) hx hb hts (by decide +kernel) hown hK hP 0 rfl rfl 3 (by decide) (hts (.fieldLink RX1 27 "WildCards$Things" "count" "I") (by decide +kernel)) (fun _ h9 => h9) rfl dX1_addLoop_5 ?_
  refine lv_bipush (v := nI 64) hx hb dX1_addLoop_8 (by decide) ?_
  refine lv_idiv hx hb dX1_addLoop_10 (by decide) ?_
  refine wl_asi (y := nI (cnt / 64)) (pk_div (by omega) (by omega) (by omega)) ?_
  refine lv_dup2_11 hx hb dX1_addLoop_11 rfl rfl ?_
  refine va_lald hx hb hK hP 2 1 rfl rfl (vp_in_nI (by omega) (by omega)) dX1_addLoop_12 ?_
  refine wl_asl (y := fL (cnt / 64)) (by rw [nI_clamp (by omega)]) ?_
  refine lv_aload_n hx hb dX1_addLoop_13 rfl (lv_at hl 0 rfl) ?_
  refine va_get (D := (dC, dI)) (ci := 1) (v := .int (nI cnt)) (C := RX1) (T := TX1) (N := 4) hx hb hts (by decide +kernel) hown hK hP 0 rfl rfl 3 (by decide) (hts (.fieldLink RX1 27 "WildCards$Things" "count" "I") (by decide +kernel)) (fun _ h9 => h9) rfl dX1_addLoop_14 ?_
  have hPc := hP.sub (ws' := []) [] rfl
  have hDc := hD.sub (ws' := []) [] (by decide) rfl
  have hFc := va_free (wc := []) hD hS hA [] rfl
  refine va_calll (va_runS (As := [.int (nI cnt)]) (rest := [.long (fL (cnt / 64)), .int (nI (cnt / 64)), .ref qL]) ⟨hx, hb, hml, hown, hts⟩ (c_X1_bitOf l dC dI cI cJ cZ  s.heap.size cnt (by omega)) (va_cwS 1 hts gX1_addLoop_X1_bitOf rfl rfl rfl (by decide +kernel) ⟨Nat.le_of_ble_eq_true rfl, Nat.le_of_ble_eq_true rfl⟩) ⟨fun a U g mk q => by obtain ⟨q0, q1, qP, qK, qD⟩ := q; exact ⟨q0, q1, qP, va_K.moved (u := U) (U := U.calling g mk a) (Vm.Alike.refl U.vm) qK, qD⟩, fun U hU hW => ⟨rfl, by rw [hU], by rw [hU]; exact hPc, va_K.moved hW.alike hK, hDc.weaken (fun _ _ _ _ => trivial)⟩⟩ rfl rfl hl.1 rfl (lv_room (Nat.le_of_ble_eq_true rfl)) dX1_addLoop_17 ⟨show 0 + 0 ≤ 0 from by decide, show 0 + 0 ≤ 0 from by decide⟩) hS (fun q _ h => hFc q h) hFc (fun r17 u t H1 locs ht hvm hw17 hB hz1 hk1 hS => ?_)
  obtain ⟨hP1, hK1, hD1⟩ := hB
  rw [ht] at hP1
  try dsimp only at hw17 hP1 hD1
  obtain ⟨hP, hD⟩ := va_join (wr := [(hT, .inr (1, [.ref qT, .ref qL, .ref qR, .int (nI cnt)])), (qT, .inl (cJ, 1792, .inr (.inl fT))), (qL, .inl (cJ, 7, .inr (.inl fL))), (qR, .inl (cJ, 7, .inr (.inl fR)))]) (w1 := []) hP hD [] [0, 1, 2, 3] rfl rfl (by decide) (by decide) hk1 hFc hP1 hD1
  generalize H1 = H at hP hS ⊢
  have hP : va_P (dC, dI) vwCl [(hT, .inr (1, [.ref qT, .ref qL, .ref qR, .int (nI cnt)])), (qT, .inl (cJ, 1792, .inr (.inl fT))), (qL, .inl (cJ, 7, .inr (.inl fL))), (qR, .inl (cJ, 7, .inr (.inl fR)))] H := hP
  have hD : va_D A [(hT, .inr (1, [.ref qT, .ref qL, .ref qR, .int (nI cnt)])), (qT, .inl (cJ, 1792, .inr (.inl fT))), (qL, .inl (cJ, 7, .inr (.inl fL))), (qR, .inl (cJ, 7, .inr (.inl fR)))] := hD
  refine lv_lor hx hb dX1_addLoop_20 ?_
  refine va_last hx hb hK hP hD hS 2 1 rfl rfl (vp_in_nI (by omega) (by omega)) dX1_addLoop_21 (fun H locs hP hD hS => ?_)
  rw [nI_clamp (by omega)] at hP hD
  have hP : va_P (dC, dI) vwCl [(hT, .inr (1, [.ref qT, .ref qL, .ref qR, .int (nI cnt)])), (qT, .inl (cJ, 1792, .inr (.inl fT))), (qL, .inl (cJ, 7, .inr (.inl (vp_updL fL (cnt / 64) ((fL (cnt / 64)) ||| r17))))), (qR, .inl (cJ, 7, .inr (.inl fR)))] H := hP
  have hD : va_D A [(hT, .inr (1, [.ref qT, .ref qL, .ref qR, .int (nI cnt)])), (qT, .inl (cJ, 1792, .inr (.inl fT))), (qL, .inl (cJ, 7, .inr (.inl (vp_updL fL (cnt / 64) ((fL (cnt / 64)) ||| r17))))), (qR, .inl (cJ, 7, .inr (.inl fR)))] := hD
  have hP9 := hP.sub (ws' := [(hT, .inr (1, [.ref qT, .ref qL, .ref qR, .int (nI cnt)])), (qT, .inl (cJ, 1792, .inr (.inl fT))), (qL, .inl (cJ, 7, .inr (.inl (vp_updL fL (cnt / 64) ((fL (cnt / 64)) ||| r17))))), (qR, .inl (cJ, 7, .inr (.inl fR)))]) [0, 1, 2, 3] rfl
  have hD9 := hD.sub (ws' := [(hT, .inr (1, [.ref qT, .ref qL, .ref qR, .int (nI cnt)])), (qT, .inl (cJ, 1792, .inr (.inl fT))), (qL, .inl (cJ, 7, .inr (.inl (vp_updL fL (cnt / 64) ((fL (cnt / 64)) ||| r17))))), (qR, .inl (cJ, 7, .inr (.inl fR)))]) [0, 1, 2, 3] (by decide) rfl
  exact W.vret hx hb hr (fun t ht hW => ⟨⟨vp_updL fL (cnt / 64) ((fL (cnt / 64)) ||| r17), rfl, (show ∀ k, lb (vp_updL fL (cnt / 64) ((fL (cnt / 64)) ||| r17)) k = (lb fL k || decide (k = cnt)) from fun k => lb_set rfl hw17 k), by rw [ht]; exact hP9, va_K.moved hW.alike hK, hD9⟩, hS.F ht⟩) hS.2.2 dX1_addLoop_22
end
section
set_option maxHeartbeats 4000000 in
set_option maxRecDepth 100000 in
theorem c_X1_tell (l : Launch) (dC : Nat → ClassId) (dI : Nat → Nat → Nat) (cI cJ cZ : ClassId) (hT qT qL qR : Nat) (sz : Nat) (cnt : Nat) (fT : Nat → Int64) (fL : Nat → Int64) (fR : Nat → Int64) (lo : Nat) (hi : Nat) (tb : Nat) (hc : cnt < 448) (hlo : lo < 256) (hhi : hi < 256) (htb : tb < 2) : Met l yX1_tell wsX1_tell ({ frames := 1, cells := 0, slots := 0, locals := 20 }) (va_Pc [.ref hT, .int (nI lo), .int (nI hi), .int (nI tb)] (fun U => U.heap.size = sz ∧ va_P (dC, dI) vwCl [(hT, .inr (1, [.ref qT, .ref qL, .ref qR, .int (nI cnt)])), (qT, .inl (cJ, 1792, .inr (.inl fT))), (qL, .inl (cJ, 7, .inr (.inl fL))), (qR, .inl (cJ, 7, .inr (.inl fR)))] U.heap ∧ va_K (dC, dI) vwCl [(cI, .int), (cJ, .long), (cZ, .boolean)] U ∧ va_D (fun _ => True) [(hT, .inr (1, [.ref qT, .ref qL, .ref qR, .int (nI cnt)])), (qT, .inl (cJ, 1792, .inr (.inl fT))), (qL, .inl (cJ, 7, .inr (.inl fL))), (qR, .inl (cJ, 7, .inr (.inl fR)))])) (va_Qv (fun (u : (Nat → Int64)) => ∀ x k, k < 448 → lb u (448 * x + k) = if k = cnt ∧ lo ≤ x ∧ x ≤ hi then decide (tb ≠ 0) else lb fT (448 * x + k)) (fun (u : (Nat → Int64)) (t : State) => va_P (dC, dI) vwCl [(hT, .inr (1, [.ref qT, .ref qL, .ref qR, .int (nI cnt)])), (qT, .inl (cJ, 1792, .inr (.inl u))), (qL, .inl (cJ, 7, .inr (.inl fL))), (qR, .inl (cJ, 7, .inr (.inl fR)))] t.heap ∧ va_K (dC, dI) vwCl [(cI, .int), (cJ, .long), (cZ, .boolean)] t ∧ va_D (va_A [(hT, .inr (1, [.ref qT, .ref qL, .ref qR, .int (nI cnt)])), (qT, .inl (cJ, 1792, .inr (.inl fT))), (qL, .inl (cJ, 7, .inr (.inl fL))), (qR, .inl (cJ, 7, .inr (.inl fR)))] sz) [(hT, .inr (1, [.ref qT, .ref qL, .ref qR, .int (nI cnt)])), (qT, .inl (cJ, 1792, .inr (.inl u))), (qL, .inl (cJ, 7, .inr (.inl fL))), (qR, .inl (cJ, 7, .inr (.inl fR)))]) (va_A [(hT, .inr (1, [.ref qT, .ref qL, .ref qR, .int (nI cnt)])), (qT, .inl (cJ, 1792, .inr (.inl fT))), (qL, .inl (cJ, 7, .inr (.inl fL))), (qR, .inl (cJ, 7, .inr (.inl fR)))] sz)) 0 0 (va_A [(hT, .inr (1, [.ref qT, .ref qL, .ref qR, .int (nI cnt)])), (qT, .inl (cJ, 1792, .inr (.inl fT))), (qL, .inl (cJ, 7, .inr (.inl fL))), (qR, .inl (cJ, 7, .inr (.inl fR)))] sz) := by
  refine Met.ofW (cc := cX1_tell) (maxL := 8) (ret := none) (by decide) rfl ?_
  intro p e s m args below meth c s₁ B hml hv
  obtain ⟨rfl, hsz, hP, hK, hD0⟩ := hv
  have hx := B.exec
  have hb := B.bytes
  have hr := B.returns
  have hts := atoms_spec (ws := wsX1_tell) B.pre
  have hown : s.vm.findClass RX1 = some m.cls := findClass_of_methodNamed B.named
  have hlocks := B.notSynchronized
  subst hsz
  have hD := hD0.self (sz := s.heap.size)
  generalize hAe : va_A [(hT, .inr (1, [.ref qT, .ref qL, .ref qR, .int (nI cnt)])), (qT, .inl (cJ, 1792, .inr (.inl fT))), (qL, .inl (cJ, 7, .inr (.inl fL))), (qR, .inl (cJ, 7, .inr (.inl fR)))] s.heap.size = A at hD ⊢
  have hA : ∀ q : Nat, s.heap.size ≤ q → A q := fun q h => by rw [← hAe]; exact Or.inr h
  have hS : va_S A s.heap s.heap [] := va_S.rf
  have hP : va_P (dC, dI) vwCl [(hT, .inr (1, [.ref qT, .ref qL, .ref qR, .int (nI cnt)])), (qT, .inl (cJ, 1792, .inr (.inl fT))), (qL, .inl (cJ, 7, .inr (.inl fL))), (qR, .inl (cJ, 7, .inr (.inl fR)))] s.heap := hP
  have hl := lv_entry ([.ref hT, .int (nI lo), .int (nI hi), .int (nI tb)]) (n := 8) (Nat.le_of_ble_eq_true rfl)
  rw [lg_entry_eq]
  generalize (lg_sl ([.ref hT, .int (nI lo), .int (nI hi), .int (nI tb)]) ++ List.replicate (8 - (lg_sl ([.ref hT, .int (nI lo), .int (nI hi), .int (nI tb)])).length) Slot.unset).toArray = ls at hl ⊢
  have hl : lv_has ls 8 [(0, .ref hT), (1, .int (nI lo)), (2, .int (nI hi)), (3, .int (nI tb))] := hl
  skip
  refine lv_iload_n hx hb dX1_tell_0 rfl (lv_at hl 1 rfl) ?_
  refine lv_iconst (v := nI 0) hx hb dX1_tell_1 (by decide) ?_
  refine va_mmax hx hb (by rw [hml]; exact hl.1.symm) hown (hts (.methodLink RX1 35 Lib.Math.max.name) (by decide +kernel)) (hts (.static Lib.Math.max.name) (by decide +kernel)) (hts (.initialized "java/lang/Math") (by decide +kernel)) (hts (.code Lib.Math.max.name Lib.Math.max.code 2 (some .int)) (by decide +kernel)) (Nat.le_of_ble_eq_true rfl) (Nat.le_of_ble_eq_true rfl) (Nat.zero_le _) (Nat.zero_le _) dX1_tell_2 ?_
  refine wl_asi (y := nI lo) (if_neg (nI_nlt (Nat.zero_le _) (by omega))) ?_
  refine lv_istore (lv' := [(4, .int (nI lo)), (0, .ref hT), (1, .int (nI lo)), (2, .int (nI hi)), (3, .int (nI tb))]) hx hb dX1_tell_5 hl (by decide) rfl (fun ls hl => ?_)
  refine lv_iload_n hx hb dX1_tell_7 rfl (lv_at hl 3 rfl) ?_
  refine lv_sipush (v := nI 255) hx hb dX1_tell_8 (by decide) ?_
  refine va_mmin hx hb (by rw [hml]; exact hl.1.symm) hown (hts (.methodLink RX1 41 Lib.Math.min.name) (by decide +kernel)) (hts (.static Lib.Math.min.name) (by decide +kernel)) (hts (.initialized "java/lang/Math") (by decide +kernel)) (hts (.code Lib.Math.min.name Lib.Math.min.code 2 (some .int)) (by decide +kernel)) (Nat.le_of_ble_eq_true rfl) (Nat.le_of_ble_eq_true rfl) (Nat.zero_le _) (Nat.zero_le _) dX1_tell_11 ?_
  refine wl_asi (y := nI hi) (if_neg (nI_nlt (by omega) (by omega))) ?_
  refine lv_istore (lv' := [(5, .int (nI hi)), (4, .int (nI lo)), (0, .ref hT), (1, .int (nI lo)), (2, .int (nI hi)), (3, .int (nI tb))]) hx hb dX1_tell_14 hl (by decide) rfl (fun ls hl => ?_)
  refine lv_iload hx hb dX1_tell_16 (lv_at hl 1 rfl) ?_
  refine lv_istore (lv' := [(6, .int (nI lo)), (5, .int (nI hi)), (4, .int (nI lo)), (0, .ref hT), (1, .int (nI lo)), (2, .int (nI hi)), (3, .int (nI tb))]) hx hb dX1_tell_18 hl (by decide) rfl (fun ls hl => ?_)
  refine wl_loop (σ := Nat × (Nat → Int64)) (fun z9 => 256 - z9.1) (fun z9 H locs ls => (lo ≤ z9.1) ∧ (z9.1 ≤ 256) ∧ (z9.1 ≤ hi + 1 ∨ z9.1 = lo) ∧ (∀ x k, k < 448 → lb z9.2 (448 * x + k) = if k = cnt ∧ lo ≤ x ∧ x < z9.1 then decide (tb ≠ 0) else lb fT (448 * x + k)) ∧ va_P (dC, dI) vwCl [(hT, .inr (1, [.ref qT, .ref qL, .ref qR, .int (nI cnt)])), (qT, .inl (cJ, 1792, .inr (.inl z9.2))), (qL, .inl (cJ, 7, .inr (.inl fL))), (qR, .inl (cJ, 7, .inr (.inl fR)))] H ∧ va_D A [(hT, .inr (1, [.ref qT, .ref qL, .ref qR, .int (nI cnt)])), (qT, .inl (cJ, 1792, .inr (.inl z9.2))), (qL, .inl (cJ, 7, .inr (.inl fL))), (qR, .inl (cJ, 7, .inr (.inl fR)))] ∧ va_S A s.heap H locs ∧ lv_has ls 8 [(0, .ref hT), (1, .int (nI lo)), (2, .int (nI hi)), (3, .int (nI tb)), (4, .int (nI lo)), (5, .int (nI hi)), (6, .int (nI z9.1))]) ?_ (lo, fT) ⟨(show lo ≤ lo from Nat.le_refl _), (show lo ≤ 256 from by omega), (show lo ≤ hi + 1 ∨ lo = lo from Or.inr rfl), (show ∀ x k, k < 448 → lb fT (448 * x + k) = if k = cnt ∧ lo ≤ x ∧ x < lo then decide (tb ≠ 0) else lb fT (448 * x + k) from fun x k _ => by rw [if_neg (by omega)]), hP.sub [0, 1, 2, 3] rfl, hD.sub [0, 1, 2, 3] (by decide) rfl, hS, lv_sub hl [3, 4, 5, 6, 2, 1, 0] rfl⟩
  intro z9 H locs ls hI ih20
  obtain ⟨b, g⟩ := z9
  obtain ⟨hb1, hb2, hb3, hg, hP, hD, hS, hl⟩ := hI
  try dsimp only at hb1 hb2 hb3 hg hP hD hl
  have hP : va_P (dC, dI) vwCl [(hT, .inr (1, [.ref qT, .ref qL, .ref qR, .int (nI cnt)])), (qT, .inl (cJ, 1792, .inr (.inl g))), (qL, .inl (cJ, 7, .inr (.inl fL))), (qR, .inl (cJ, 7, .inr (.inl fR)))] H := hP
  have hD : va_D A [(hT, .inr (1, [.ref qT, .ref qL, .ref qR, .int (nI cnt)])), (qT, .inl (cJ, 1792, .inr (.inl g))), (qL, .inl (cJ, 7, .inr (.inl fL))), (qR, .inl (cJ, 7, .inr (.inl fR)))] := hD
  have hl : lv_has ls 8 [(0, .ref hT), (1, .int (nI lo)), (2, .int (nI hi)), (3, .int (nI tb)), (4, .int (nI lo)), (5, .int (nI hi)), (6, .int (nI b))] := hl
  refine lv_iload hx hb dX1_tell_20 (lv_at hl 6 rfl) ?_
  refine lv_iload hx hb dX1_tell_22 (lv_at hl 5 rfl) ?_
  refine wl_icmp_gt (tgt := 93) hx hb dX1_tell_24 (by decide) (by omega) (by omega) (fun c24 => ?_) (fun c24 => ?_)
  · skip
    have hP9 := hP.sub (ws' := [(hT, .inr (1, [.ref qT, .ref qL, .ref qR, .int (nI cnt)])), (qT, .inl (cJ, 1792, .inr (.inl g))), (qL, .inl (cJ, 7, .inr (.inl fL))), (qR, .inl (cJ, 7, .inr (.inl fR)))]) [0, 1, 2, 3] rfl
    have hD9 := hD.sub (ws' := [(hT, .inr (1, [.ref qT, .ref qL, .ref qR, .int (nI cnt)])), (qT, .inl (cJ, 1792, .inr (.inl g))), (qL, .inl (cJ, 7, .inr (.inl fL))), (qR, .inl (cJ, 7, .inr (.inl fR)))]) [0, 1, 2, 3] (by decide) rfl
    exact W.vret hx hb hr (fun t ht hW => ⟨⟨g, rfl, (show ∀ x k, k < 448 → lb g (448 * x + k) = if k = cnt ∧ lo ≤ x ∧ x ≤ hi then decide (tb ≠ 0) else lb fT (448 * x + k) from tl_end c24 hb3 hg), by rw [ht]; exact hP9, va_K.moved hW.alike hK, hD9⟩, hS.F ht⟩) hS.2.2 dX1_tell_93
  · skip
    refine lv_iload hx hb dX1_tell_27 (lv_at hl 6 rfl) ?_
    refine lv_bipush (v := nI 7) hx hb dX1_tell_29 (by decide) ?_
    refine lv_imul hx hb dX1_tell_31 ?_
    refine wl_asi (y := nI (b * 7)) (pk_mul _ _) ?_
    refine lv_aload_n hx hb dX1_tell_32 rfl (lv_at hl 0 rfl) ?_
    refine va_get (D := (dC, dI)) (ci := 1) (v := .int (nI cnt)) (C := RX1) (T := TX1) (N := 4) hx hb hts (by decide +kernel) hown hK hP 0 rfl rfl 3 (by decide) (hts (.fieldLink RX1 27 "WildCards$Things" "count" "I") (by decide +kernel)) (fun _ h9 => h9) rfl dX1_tell_33 ?_
    refine lv_bipush (v := nI 64) hx hb dX1_tell_36 (by decide) ?_
    refine lv_idiv hx hb dX1_tell_38 (by decide) ?_
    refine wl_asi (y := nI (cnt / 64)) (pk_div (by omega) (by omega) (by omega)) ?_
    refine lv_iadd hx hb dX1_tell_39 ?_
    refine wl_asi (y := nI ((b * 7) + (cnt / 64))) (nI_add _ _) ?_
    refine lv_istore (lv' := [(7, .int (nI ((b * 7) + (cnt / 64)))), (0, .ref hT), (1, .int (nI lo)), (2, .int (nI hi)), (3, .int (nI tb)), (4, .int (nI lo)), (5, .int (nI hi)), (6, .int (nI b))]) hx hb dX1_tell_40 hl (by decide) rfl (fun ls hl => ?_)
    refine lv_iload_n hx hb dX1_tell_42 rfl (lv_at hl 4 rfl) ?_
    refine wl_if_eq (tgt := 66) hx hb dX1_tell_43 (by decide) (by omega) (fun c43 => ?_) (fun c43 => ?_)
    · skip
      refine lv_aload_n hx hb dX1_tell_66 rfl (lv_at hl 1 rfl) ?_
      refine va_get (D := (dC, dI)) (ci := 1) (v := .ref qT) (C := RX1) (T := TX1) (N := 4) hx hb hts (by decide +kernel) hown hK hP 0 rfl rfl 0 (by decide) (hts (.fieldLink RX1 11 "WildCards$Things" "takers" "[J") (by decide +kernel)) (fun _ h9 => h9) rfl dX1_tell_67 ?_
      refine lv_iload hx hb dX1_tell_70 (lv_at hl 0 rfl) ?_
      refine lv_dup2_11 hx hb dX1_tell_72 rfl rfl ?_
      refine va_lald hx hb hK hP 1 1 rfl rfl (vp_in_nI (by omega) (by omega)) dX1_tell_73 ?_
      refine wl_asl (y := g ((b * 7) + (cnt / 64))) (by rw [nI_clamp (by omega)]) ?_
      refine lv_aload_n hx hb dX1_tell_74 rfl (lv_at hl 1 rfl) ?_
      refine va_get (D := (dC, dI)) (ci := 1) (v := .int (nI cnt)) (C := RX1) (T := TX1) (N := 4) hx hb hts (by decide +kernel) hown hK hP 0 rfl rfl 3 (by decide) (hts (.fieldLink RX1 27 "WildCards$Things" "count" "I") (by decide +kernel)) (fun _ h9 => h9) rfl dX1_tell_75 ?_
      have hPc := hP.sub (ws' := []) [] rfl
      have hDc := hD.sub (ws' := []) [] (by decide) rfl
      have hFc := va_free (wc := []) hD hS hA [] rfl
      refine va_calll (va_runS (As := [.int (nI cnt)]) (rest := [.long (g ((b * 7) + (cnt / 64))), .int (nI ((b * 7) + (cnt / 64))), .ref qT]) ⟨hx, hb, hml, hown, hts⟩ (c_X1_bitOf l dC dI cI cJ cZ  H.size cnt (by omega)) (va_cwS 1 hts gX1_tell_X1_bitOf rfl rfl rfl (by decide +kernel) ⟨Nat.le_of_ble_eq_true rfl, Nat.le_of_ble_eq_true rfl⟩) ⟨fun a U g mk q => by obtain ⟨q0, q1, qP, qK, qD⟩ := q; exact ⟨q0, q1, qP, va_K.moved (u := U) (U := U.calling g mk a) (Vm.Alike.refl U.vm) qK, qD⟩, fun U hU hW => ⟨rfl, by rw [hU], by rw [hU]; exact hPc, va_K.moved hW.alike hK, hDc.weaken (fun _ _ _ _ => trivial)⟩⟩ rfl rfl hl.1 rfl (lv_room (Nat.le_of_ble_eq_true rfl)) dX1_tell_78 ⟨show 0 + 0 ≤ 0 from by decide, show 0 + 0 ≤ 0 from by decide⟩) hS (fun q _ h => hFc q h) hFc (fun r78 u t H1 locs ht hvm hw78 hB hz1 hk1 hS => ?_)
      obtain ⟨hP1, hK1, hD1⟩ := hB
      rw [ht] at hP1
      try dsimp only at hw78 hP1 hD1
      obtain ⟨hP, hD⟩ := va_join (wr := [(hT, .inr (1, [.ref qT, .ref qL, .ref qR, .int (nI cnt)])), (qT, .inl (cJ, 1792, .inr (.inl g))), (qL, .inl (cJ, 7, .inr (.inl fL))), (qR, .inl (cJ, 7, .inr (.inl fR)))]) (w1 := []) hP hD [] [0, 1, 2, 3] rfl rfl (by decide) (by decide) hk1 hFc hP1 hD1
      generalize H1 = H at hP hS ⊢
      have hP : va_P (dC, dI) vwCl [(hT, .inr (1, [.ref qT, .ref qL, .ref qR, .int (nI cnt)])), (qT, .inl (cJ, 1792, .inr (.inl g))), (qL, .inl (cJ, 7, .inr (.inl fL))), (qR, .inl (cJ, 7, .inr (.inl fR)))] H := hP
      have hD : va_D A [(hT, .inr (1, [.ref qT, .ref qL, .ref qR, .int (nI cnt)])), (qT, .inl (cJ, 1792, .inr (.inl g))), (qL, .inl (cJ, 7, .inr (.inl fL))), (qR, .inl (cJ, 7, .inr (.inl fR)))] := hD
      refine lv_ldc2 (v := (-1)) hx hb hown (hts (.constantLong RX1 44 (-1)) (by decide +kernel)) dX1_tell_81 ?_
      refine lv_lxor hx hb dX1_tell_84 ?_
      refine lv_land hx hb dX1_tell_85 ?_
      refine va_last hx hb hK hP hD hS 1 1 rfl rfl (vp_in_nI (by omega) (by omega)) dX1_tell_86 (fun H locs hP hD hS => ?_)
      rw [nI_clamp (by omega)] at hP hD
      have hP : va_P (dC, dI) vwCl [(hT, .inr (1, [.ref qT, .ref qL, .ref qR, .int (nI cnt)])), (qT, .inl (cJ, 1792, .inr (.inl (vp_updL g ((b * 7) + (cnt / 64)) ((g ((b * 7) + (cnt / 64))) &&& (r78 ^^^ (-1))))))), (qL, .inl (cJ, 7, .inr (.inl fL))), (qR, .inl (cJ, 7, .inr (.inl fR)))] H := hP
      have hD : va_D A [(hT, .inr (1, [.ref qT, .ref qL, .ref qR, .int (nI cnt)])), (qT, .inl (cJ, 1792, .inr (.inl (vp_updL g ((b * 7) + (cnt / 64)) ((g ((b * 7) + (cnt / 64))) &&& (r78 ^^^ (-1))))))), (qL, .inl (cJ, 7, .inr (.inl fL))), (qR, .inl (cJ, 7, .inr (.inl fR)))] := hD
      refine lv_iinc (v := nI (b + 1)) (lv' := [(6, .int (nI (b + 1))), (7, .int (nI ((b * 7) + (cnt / 64)))), (0, .ref hT), (1, .int (nI lo)), (2, .int (nI hi)), (3, .int (nI tb)), (4, .int (nI lo)), (5, .int (nI hi))]) hx hb dX1_tell_87 hl (k := 7) rfl (wl_inc _ _ (by decide)) (by decide) rfl (fun ls hl => ?_)
      refine lv_goto (tgt := 20) hx hb dX1_tell_90 (by decide) ?_
      exact ih20 (b + 1, vp_updL g ((b * 7) + (cnt / 64)) ((g ((b * 7) + (cnt / 64))) &&& (r78 ^^^ (-1)))) H locs ls ⟨(show lo ≤ (b + 1) from by omega), (show (b + 1) ≤ 256 from by omega), (show (b + 1) ≤ hi + 1 ∨ (b + 1) = lo from Or.inl (by omega)), (show ∀ x k, k < 448 → lb (vp_updL g ((b * 7) + (cnt / 64)) ((g ((b * 7) + (cnt / 64))) &&& (r78 ^^^ (-1)))) (448 * x + k) = if k = cnt ∧ lo ≤ x ∧ x < (b + 1) then decide (tb ≠ 0) else lb fT (448 * x + k) from tl_in hc hb1 hg (fun k => tl_clr (tl_q b cnt hc) (hw78.trans (bitL_mod _ _ (by omega))) (decide_eq_false (fun z => z c43)) k)), hP.sub [0, 1, 2, 3] rfl, hD.sub [0, 1, 2, 3] (by decide) rfl, hS, lv_sub hl [2, 3, 4, 5, 6, 7, 0] rfl⟩ (by (try dsimp only); omega)
    · skip
      refine lv_aload_n hx hb dX1_tell_46 rfl (lv_at hl 1 rfl) ?_
      refine va_get (D := (dC, dI)) (ci := 1) (v := .ref qT) (C := RX1) (T := TX1) (N := 4) hx hb hts (by decide +kernel) hown hK hP 0 rfl rfl 0 (by decide) (hts (.fieldLink RX1 11 "WildCards$Things" "takers" "[J") (by decide +kernel)) (fun _ h9 => h9) rfl dX1_tell_47 ?_
      refine lv_iload hx hb dX1_tell_50 (lv_at hl 0 rfl) ?_
      refine lv_dup2_11 hx hb dX1_tell_52 rfl rfl ?_
      refine va_lald hx hb hK hP 1 1 rfl rfl (vp_in_nI (by omega) (by omega)) dX1_tell_53 ?_
      refine wl_asl (y := g ((b * 7) + (cnt / 64))) (by rw [nI_clamp (by omega)]) ?_
      refine lv_aload_n hx hb dX1_tell_54 rfl (lv_at hl 1 rfl) ?_
      refine va_get (D := (dC, dI)) (ci := 1) (v := .int (nI cnt)) (C := RX1) (T := TX1) (N := 4) hx hb hts (by decide +kernel) hown hK hP 0 rfl rfl 3 (by decide) (hts (.fieldLink RX1 27 "WildCards$Things" "count" "I") (by decide +kernel)) (fun _ h9 => h9) rfl dX1_tell_55 ?_
      have hPc := hP.sub (ws' := []) [] rfl
      have hDc := hD.sub (ws' := []) [] (by decide) rfl
      have hFc := va_free (wc := []) hD hS hA [] rfl
      refine va_calll (va_runS (As := [.int (nI cnt)]) (rest := [.long (g ((b * 7) + (cnt / 64))), .int (nI ((b * 7) + (cnt / 64))), .ref qT]) ⟨hx, hb, hml, hown, hts⟩ (c_X1_bitOf l dC dI cI cJ cZ  H.size cnt (by omega)) (va_cwS 1 hts gX1_tell_X1_bitOf rfl rfl rfl (by decide +kernel) ⟨Nat.le_of_ble_eq_true rfl, Nat.le_of_ble_eq_true rfl⟩) ⟨fun a U g mk q => by obtain ⟨q0, q1, qP, qK, qD⟩ := q; exact ⟨q0, q1, qP, va_K.moved (u := U) (U := U.calling g mk a) (Vm.Alike.refl U.vm) qK, qD⟩, fun U hU hW => ⟨rfl, by rw [hU], by rw [hU]; exact hPc, va_K.moved hW.alike hK, hDc.weaken (fun _ _ _ _ => trivial)⟩⟩ rfl rfl hl.1 rfl (lv_room (Nat.le_of_ble_eq_true rfl)) dX1_tell_58 ⟨show 0 + 0 ≤ 0 from by decide, show 0 + 0 ≤ 0 from by decide⟩) hS (fun q _ h => hFc q h) hFc (fun r58 u t H1 locs ht hvm hw58 hB hz1 hk1 hS => ?_)
      obtain ⟨hP1, hK1, hD1⟩ := hB
      rw [ht] at hP1
      try dsimp only at hw58 hP1 hD1
      obtain ⟨hP, hD⟩ := va_join (wr := [(hT, .inr (1, [.ref qT, .ref qL, .ref qR, .int (nI cnt)])), (qT, .inl (cJ, 1792, .inr (.inl g))), (qL, .inl (cJ, 7, .inr (.inl fL))), (qR, .inl (cJ, 7, .inr (.inl fR)))]) (w1 := []) hP hD [] [0, 1, 2, 3] rfl rfl (by decide) (by decide) hk1 hFc hP1 hD1
      generalize H1 = H at hP hS ⊢
      have hP : va_P (dC, dI) vwCl [(hT, .inr (1, [.ref qT, .ref qL, .ref qR, .int (nI cnt)])), (qT, .inl (cJ, 1792, .inr (.inl g))), (qL, .inl (cJ, 7, .inr (.inl fL))), (qR, .inl (cJ, 7, .inr (.inl fR)))] H := hP
      have hD : va_D A [(hT, .inr (1, [.ref qT, .ref qL, .ref qR, .int (nI cnt)])), (qT, .inl (cJ, 1792, .inr (.inl g))), (qL, .inl (cJ, 7, .inr (.inl fL))), (qR, .inl (cJ, 7, .inr (.inl fR)))] := hD
      refine lv_lor hx hb dX1_tell_61 ?_
      refine va_last hx hb hK hP hD hS 1 1 rfl rfl (vp_in_nI (by omega) (by omega)) dX1_tell_62 (fun H locs hP hD hS => ?_)
      rw [nI_clamp (by omega)] at hP hD
      have hP : va_P (dC, dI) vwCl [(hT, .inr (1, [.ref qT, .ref qL, .ref qR, .int (nI cnt)])), (qT, .inl (cJ, 1792, .inr (.inl (vp_updL g ((b * 7) + (cnt / 64)) ((g ((b * 7) + (cnt / 64))) ||| r58))))), (qL, .inl (cJ, 7, .inr (.inl fL))), (qR, .inl (cJ, 7, .inr (.inl fR)))] H := hP
      have hD : va_D A [(hT, .inr (1, [.ref qT, .ref qL, .ref qR, .int (nI cnt)])), (qT, .inl (cJ, 1792, .inr (.inl (vp_updL g ((b * 7) + (cnt / 64)) ((g ((b * 7) + (cnt / 64))) ||| r58))))), (qL, .inl (cJ, 7, .inr (.inl fL))), (qR, .inl (cJ, 7, .inr (.inl fR)))] := hD
      refine lv_goto (tgt := 87) hx hb dX1_tell_63 (by decide) ?_
      refine lv_iinc (v := nI (b + 1)) (lv' := [(6, .int (nI (b + 1))), (7, .int (nI ((b * 7) + (cnt / 64)))), (0, .ref hT), (1, .int (nI lo)), (2, .int (nI hi)), (3, .int (nI tb)), (4, .int (nI lo)), (5, .int (nI hi))]) hx hb dX1_tell_87 hl (k := 7) rfl (wl_inc _ _ (by decide)) (by decide) rfl (fun ls hl => ?_)
      refine lv_goto (tgt := 20) hx hb dX1_tell_90 (by decide) ?_
      exact ih20 (b + 1, vp_updL g ((b * 7) + (cnt / 64)) ((g ((b * 7) + (cnt / 64))) ||| r58)) H locs ls ⟨(show lo ≤ (b + 1) from by omega), (show (b + 1) ≤ 256 from by omega), (show (b + 1) ≤ hi + 1 ∨ (b + 1) = lo from Or.inl (by omega)), (show ∀ x k, k < 448 → lb (vp_updL g ((b * 7) + (cnt / 64)) ((g ((b * 7) + (cnt / 64))) ||| r58)) (448 * x + k) = if k = cnt ∧ lo ≤ x ∧ x < (b + 1) then decide (tb ≠ 0) else lb fT (448 * x + k) from tl_in hc hb1 hg (fun k => tl_set (tl_q b cnt hc) (hw58.trans (bitL_mod _ _ (by omega))) (decide_eq_true c43) k)), hP.sub [0, 1, 2, 3] rfl, hD.sub [0, 1, 2, 3] (by decide) rfl, hS, lv_sub hl [2, 3, 4, 5, 6, 7, 0] rfl⟩ (by (try dsimp only); omega)
end
section
set_option maxHeartbeats 4000000 in
set_option maxRecDepth 100000 in
theorem c_X1_close (l : Launch) (dC : Nat → ClassId) (dI : Nat → Nat → Nat) (cI cJ cZ : ClassId) (hT qT qL qR : Nat) (sz : Nat) (cnt : Nat) (fT : Nat → Int64) (fL : Nat → Int64) (fR : Nat → Int64) (hc : cnt < 400) : Met l yX1_close wsX1_close ({ frames := 0, cells := 0, slots := 0, locals := 0 }) (va_Pc [.ref hT] (fun U => U.heap.size = sz ∧ va_P (dC, dI) vwCl [(hT, .inr (1, [.ref qT, .ref qL, .ref qR, .int (nI cnt)])), (qT, .inl (cJ, 1792, .inr (.inl fT))), (qL, .inl (cJ, 7, .inr (.inl fL))), (qR, .inl (cJ, 7, .inr (.inl fR)))] U.heap ∧ va_K (dC, dI) vwCl [(cI, .int), (cJ, .long), (cZ, .boolean)] U ∧ va_D (fun _ => True) [(hT, .inr (1, [.ref qT, .ref qL, .ref qR, .int (nI cnt)])), (qT, .inl (cJ, 1792, .inr (.inl fT))), (qL, .inl (cJ, 7, .inr (.inl fL))), (qR, .inl (cJ, 7, .inr (.inl fR)))])) (va_Qv (fun (u : Unit) => True) (fun (u : Unit) (t : State) => va_P (dC, dI) vwCl [(hT, .inr (1, [.ref qT, .ref qL, .ref qR, .int (nI (cnt + 1))])), (qT, .inl (cJ, 1792, .inr (.inl fT))), (qL, .inl (cJ, 7, .inr (.inl fL))), (qR, .inl (cJ, 7, .inr (.inl fR)))] t.heap ∧ va_K (dC, dI) vwCl [(cI, .int), (cJ, .long), (cZ, .boolean)] t ∧ va_D (va_A [(hT, .inr (1, [.ref qT, .ref qL, .ref qR, .int (nI cnt)])), (qT, .inl (cJ, 1792, .inr (.inl fT))), (qL, .inl (cJ, 7, .inr (.inl fL))), (qR, .inl (cJ, 7, .inr (.inl fR)))] sz) [(hT, .inr (1, [.ref qT, .ref qL, .ref qR, .int (nI (cnt + 1))])), (qT, .inl (cJ, 1792, .inr (.inl fT))), (qL, .inl (cJ, 7, .inr (.inl fL))), (qR, .inl (cJ, 7, .inr (.inl fR)))]) (va_A [(hT, .inr (1, [.ref qT, .ref qL, .ref qR, .int (nI cnt)])), (qT, .inl (cJ, 1792, .inr (.inl fT))), (qL, .inl (cJ, 7, .inr (.inl fL))), (qR, .inl (cJ, 7, .inr (.inl fR)))] sz)) 0 0 (va_A [(hT, .inr (1, [.ref qT, .ref qL, .ref qR, .int (nI cnt)])), (qT, .inl (cJ, 1792, .inr (.inl fT))), (qL, .inl (cJ, 7, .inr (.inl fL))), (qR, .inl (cJ, 7, .inr (.inl fR)))] sz) := by
  refine Met.ofW (cc := cX1_close) (maxL := 1) (ret := none) (by decide) rfl ?_
  intro p e s m args below meth c s₁ B hml hv
  obtain ⟨rfl, hsz, hP, hK, hD0⟩ := hv
  have hx := B.exec
  have hb := B.bytes
  have hr := B.returns
  have hts := atoms_spec (ws := wsX1_close) B.pre
  have hown : s.vm.findClass RX1 = some m.cls := findClass_of_methodNamed B.named
  have hlocks := B.notSynchronized
  subst hsz
  have hD := hD0.self (sz := s.heap.size)
  generalize hAe : va_A [(hT, .inr (1, [.ref qT, .ref qL, .ref qR, .int (nI cnt)])), (qT, .inl (cJ, 1792, .inr (.inl fT))), (qL, .inl (cJ, 7, .inr (.inl fL))), (qR, .inl (cJ, 7, .inr (.inl fR)))] s.heap.size = A at hD ⊢
  have hA : ∀ q : Nat, s.heap.size ≤ q → A q := fun q h => by rw [← hAe]; exact Or.inr h
  have hS : va_S A s.heap s.heap [] := va_S.rf
  have hP : va_P (dC, dI) vwCl [(hT, .inr (1, [.ref qT, .ref qL, .ref qR, .int (nI cnt)])), (qT, .inl (cJ, 1792, .inr (.inl fT))), (qL, .inl (cJ, 7, .inr (.inl fL))), (qR, .inl (cJ, 7, .inr (.inl fR)))] s.heap := hP
  have hl := lv_entry ([.ref hT]) (n := 1) (Nat.le_of_ble_eq_true rfl)
  rw [lg_entry_eq]
  generalize (lg_sl ([.ref hT]) ++ List.replicate (1 - (lg_sl ([.ref hT])).length) Slot.unset).toArray = ls at hl ⊢
  have hl : lv_has ls 1 [(0, .ref hT)] := hl
  skip
  refine lv_aload_n hx hb dX1_close_0 rfl (lv_at hl 0 rfl) ?_
  refine va_get (D := (dC, dI)) (ci := 1) (v := .int (nI cnt)) (C := RX1) (T := TX1) (N := 4) hx hb hts (by decide +kernel) hown hK hP 0 rfl rfl 3 (by decide) (hts (.fieldLink RX1 27 "WildCards$Things" "count" "I") (by decide +kernel)) (fun _ h9 => h9) rfl dX1_close_1 ?_
  refine lv_sipush (v := nI 400) hx hb dX1_close_4 (by decide) ?_
  refine wl_icmp_ge (tgt := 20) hx hb dX1_close_7 (by decide) (by omega) (by omega) (fun c7 => ?_) (fun c7 => ?_)
  · skip
    exact absurd c7 (by omega)
  · skip
    refine lv_aload_n hx hb dX1_close_10 rfl (lv_at hl 0 rfl) ?_
    refine lv_dup hx hb dX1_close_11 rfl ?_
    refine va_get (D := (dC, dI)) (ci := 1) (v := .int (nI cnt)) (C := RX1) (T := TX1) (N := 4) hx hb hts (by decide +kernel) hown hK hP 0 rfl rfl 3 (by decide) (hts (.fieldLink RX1 27 "WildCards$Things" "count" "I") (by decide +kernel)) (fun _ h9 => h9) rfl dX1_close_12 ?_
    refine lv_iconst (v := nI 1) hx hb dX1_close_15 (by decide) ?_
    refine lv_iadd hx hb dX1_close_16 ?_
    refine wl_asi (y := nI (cnt + 1)) (nI_add _ _) ?_
    refine va_put (D := (dC, dI)) (ci := 1) (v := .int (nI (cnt + 1))) (ty := .int) (C := RX1) (T := TX1) (N := 4) hx hb hts (by decide +kernel) tyX1 tyX1_ok nmX1 hown hK hP hD hS 0 rfl rfl 3 (by decide) (hts (.fieldLink RX1 27 "WildCards$Things" "count" "I") (by decide +kernel)) (fun _ h9 => h9) rfl (by decide +kernel) rfl rfl (Nat.le_of_ble_eq_true rfl) dX1_close_17 (fun H locs hP hD hS => ?_)
    have hP : va_P (dC, dI) vwCl [(hT, .inr (1, [.ref qT, .ref qL, .ref qR, .int (nI (cnt + 1))])), (qT, .inl (cJ, 1792, .inr (.inl fT))), (qL, .inl (cJ, 7, .inr (.inl fL))), (qR, .inl (cJ, 7, .inr (.inl fR)))] H := hP
    have hD : va_D A [(hT, .inr (1, [.ref qT, .ref qL, .ref qR, .int (nI (cnt + 1))])), (qT, .inl (cJ, 1792, .inr (.inl fT))), (qL, .inl (cJ, 7, .inr (.inl fL))), (qR, .inl (cJ, 7, .inr (.inl fR)))] := hD
    have hP9 := hP.sub (ws' := [(hT, .inr (1, [.ref qT, .ref qL, .ref qR, .int (nI (cnt + 1))])), (qT, .inl (cJ, 1792, .inr (.inl fT))), (qL, .inl (cJ, 7, .inr (.inl fL))), (qR, .inl (cJ, 7, .inr (.inl fR)))]) [0, 1, 2, 3] rfl
    have hD9 := hD.sub (ws' := [(hT, .inr (1, [.ref qT, .ref qL, .ref qR, .int (nI (cnt + 1))])), (qT, .inl (cJ, 1792, .inr (.inl fT))), (qL, .inl (cJ, 7, .inr (.inl fL))), (qR, .inl (cJ, 7, .inr (.inl fR)))]) [0, 1, 2, 3] (by decide) rfl
    exact W.vret hx hb hr (fun t ht hW => ⟨⟨(), rfl, trivial, by rw [ht]; exact hP9, va_K.moved hW.alike hK, hD9⟩, hS.F ht⟩) hS.2.2 dX1_close_20
end
section
set_option maxHeartbeats 4000000 in
set_option maxRecDepth 100000 in
theorem c_X1_start (l : Launch) (dC : Nat → ClassId) (dI : Nat → Nat → Nat) (cI cJ cZ : ClassId) (hT qT qL qR : Nat) (sz : Nat) (cnt : Nat) (fT : Nat → Int64) (fL : Nat → Int64) (fR : Nat → Int64) : Met l yX1_start wsX1_start ({ frames := 1, cells := 0, slots := 0, locals := 24 }) (va_Pc [.ref hT] (fun U => U.heap.size = sz ∧ va_P (dC, dI) vwCl [(hT, .inr (1, [.ref qT, .ref qL, .ref qR, .int (nI cnt)])), (qT, .inl (cJ, 1792, .inr (.inl fT))), (qL, .inl (cJ, 7, .inr (.inl fL))), (qR, .inl (cJ, 7, .inr (.inl fR)))] U.heap ∧ va_K (dC, dI) vwCl [(cI, .int), (cJ, .long), (cZ, .boolean)] U ∧ va_D (fun _ => True) [(hT, .inr (1, [.ref qT, .ref qL, .ref qR, .int (nI cnt)])), (qT, .inl (cJ, 1792, .inr (.inl fT))), (qL, .inl (cJ, 7, .inr (.inl fL))), (qR, .inl (cJ, 7, .inr (.inl fR)))])) (va_Qv (fun (u : (Nat → Int64)) => ∀ k, k < 448 → lb u k = decide (k = 0)) (fun (u : (Nat → Int64)) (t : State) => va_P (dC, dI) vwCl [(hT, .inr (1, [.ref qT, .ref qL, .ref qR, .int (nI cnt)])), (qT, .inl (cJ, 1792, .inr (.inl fT))), (qL, .inl (cJ, 7, .inr (.inl fL))), (qR, .inl (cJ, 7, .inr (.inl u)))] t.heap ∧ va_K (dC, dI) vwCl [(cI, .int), (cJ, .long), (cZ, .boolean)] t ∧ va_D (va_A [(hT, .inr (1, [.ref qT, .ref qL, .ref qR, .int (nI cnt)])), (qT, .inl (cJ, 1792, .inr (.inl fT))), (qL, .inl (cJ, 7, .inr (.inl fL))), (qR, .inl (cJ, 7, .inr (.inl fR)))] sz) [(hT, .inr (1, [.ref qT, .ref qL, .ref qR, .int (nI cnt)])), (qT, .inl (cJ, 1792, .inr (.inl fT))), (qL, .inl (cJ, 7, .inr (.inl fL))), (qR, .inl (cJ, 7, .inr (.inl u)))]) (va_A [(hT, .inr (1, [.ref qT, .ref qL, .ref qR, .int (nI cnt)])), (qT, .inl (cJ, 1792, .inr (.inl fT))), (qL, .inl (cJ, 7, .inr (.inl fL))), (qR, .inl (cJ, 7, .inr (.inl fR)))] sz)) 0 0 (va_A [(hT, .inr (1, [.ref qT, .ref qL, .ref qR, .int (nI cnt)])), (qT, .inl (cJ, 1792, .inr (.inl fT))), (qL, .inl (cJ, 7, .inr (.inl fL))), (qR, .inl (cJ, 7, .inr (.inl fR)))] sz) := by
  refine Met.ofW (cc := cX1_start) (maxL := 1) (ret := none) (by decide) rfl ?_
  intro p e s m args below meth c s₁ B hml hv
  obtain ⟨rfl, hsz, hP, hK, hD0⟩ := hv
  have hx := B.exec
  have hb := B.bytes
  have hr := B.returns
  have hts := atoms_spec (ws := wsX1_start) B.pre
  have hown : s.vm.findClass RX1 = some m.cls := findClass_of_methodNamed B.named
  have hlocks := B.notSynchronized
  subst hsz
  have hD := hD0.self (sz := s.heap.size)
  generalize hAe : va_A [(hT, .inr (1, [.ref qT, .ref qL, .ref qR, .int (nI cnt)])), (qT, .inl (cJ, 1792, .inr (.inl fT))), (qL, .inl (cJ, 7, .inr (.inl fL))), (qR, .inl (cJ, 7, .inr (.inl fR)))] s.heap.size = A at hD ⊢
  have hA : ∀ q : Nat, s.heap.size ≤ q → A q := fun q h => by rw [← hAe]; exact Or.inr h
  have hS : va_S A s.heap s.heap [] := va_S.rf
  have hP : va_P (dC, dI) vwCl [(hT, .inr (1, [.ref qT, .ref qL, .ref qR, .int (nI cnt)])), (qT, .inl (cJ, 1792, .inr (.inl fT))), (qL, .inl (cJ, 7, .inr (.inl fL))), (qR, .inl (cJ, 7, .inr (.inl fR)))] s.heap := hP
  have hl := lv_entry ([.ref hT]) (n := 1) (Nat.le_of_ble_eq_true rfl)
  rw [lg_entry_eq]
  generalize (lg_sl ([.ref hT]) ++ List.replicate (1 - (lg_sl ([.ref hT])).length) Slot.unset).toArray = ls at hl ⊢
  have hl : lv_has ls 1 [(0, .ref hT)] := hl
  skip
  refine lv_aload_n hx hb dX1_start_0 rfl (lv_at hl 0 rfl) ?_
  refine va_get (D := (dC, dI)) (ci := 1) (v := .ref qR) (C := RX1) (T := TX1) (N := 4) hx hb hts (by decide +kernel) hown hK hP 0 rfl rfl 2 (by decide) (hts (.fieldLink RX1 18 "WildCards$Things" "reached" "[J") (by decide +kernel)) (fun _ h9 => h9) rfl dX1_start_1 ?_
  refine lv_lconst (v := 0) hx hb dX1_start_4 (by decide) ?_
  have hPc := hP.sub (ws' := [(qR, .inl (cJ, 7, .inr (.inl fR)))]) [3] rfl
  have hDc := hD.sub (ws' := [(qR, .inl (cJ, 7, .inr (.inl fR)))]) [3] (by decide) rfl
  have hFc := va_free (wc := [(qR, .inl (cJ, 7, .inr (.inl fR)))]) hD hS hA [3] rfl
  refine va_callv (va_runS (As := [.ref qR, .long 0]) (rest := []) ⟨hx, hb, hml, hown, hts⟩ (c_J7_fill_d0a16 l dC dI cI cJ cZ qR s.heap.size 7 fR 0 (by omega)) (va_cwS 2 hts gX1_start_J7_fill_d0a16 rfl rfl rfl (by decide +kernel) ⟨Nat.le_of_ble_eq_true rfl, Nat.le_of_ble_eq_true rfl⟩) ⟨fun a U g mk q => by obtain ⟨q0, q1, qP, qK, qD⟩ := q; exact ⟨q0, q1, qP, va_K.moved (u := U) (U := U.calling g mk a) (Vm.Alike.refl U.vm) qK, qD⟩, fun U hU hW => ⟨rfl, by rw [hU], by rw [hU]; exact hPc, va_K.moved hW.alike hK, hDc.weaken (fun _ _ _ _ => trivial)⟩⟩ rfl rfl hl.1 rfl (lv_room (Nat.le_of_ble_eq_true rfl)) dX1_start_5 ⟨show 0 + 0 ≤ 0 from by decide, show 0 + 0 ≤ 0 from by decide⟩) hS (fun q _ h => hFc q h) hFc (fun u t H1 locs ht hvm hw5 hB hz1 hk1 hS => ?_)
  obtain ⟨f25, rfl⟩ : ∃ z, z = u := ⟨_, rfl⟩
  obtain ⟨hP1, hK1, hD1⟩ := hB
  rw [ht] at hP1
  try dsimp only at hw5 hP1 hD1
  obtain ⟨hP, hD⟩ := va_join (wr := [(hT, .inr (1, [.ref qT, .ref qL, .ref qR, .int (nI cnt)])), (qT, .inl (cJ, 1792, .inr (.inl fT))), (qL, .inl (cJ, 7, .inr (.inl fL)))]) (w1 := [(qR, .inl (cJ, 7, .inr (.inl f25)))]) hP hD [3] [0, 1, 2] rfl rfl (by decide) (by decide) hk1 hFc hP1 hD1
  generalize H1 = H at hP hS ⊢
  have hP : va_P (dC, dI) vwCl [(hT, .inr (1, [.ref qT, .ref qL, .ref qR, .int (nI cnt)])), (qT, .inl (cJ, 1792, .inr (.inl fT))), (qL, .inl (cJ, 7, .inr (.inl fL))), (qR, .inl (cJ, 7, .inr (.inl f25)))] H := hP
  have hD : va_D A [(hT, .inr (1, [.ref qT, .ref qL, .ref qR, .int (nI cnt)])), (qT, .inl (cJ, 1792, .inr (.inl fT))), (qL, .inl (cJ, 7, .inr (.inl fL))), (qR, .inl (cJ, 7, .inr (.inl f25)))] := hD
  refine lv_aload_n hx hb dX1_start_8 rfl (lv_at hl 0 rfl) ?_
  refine va_get (D := (dC, dI)) (ci := 1) (v := .ref qR) (C := RX1) (T := TX1) (N := 4) hx hb hts (by decide +kernel) hown hK hP 0 rfl rfl 2 (by decide) (hts (.fieldLink RX1 18 "WildCards$Things" "reached" "[J") (by decide +kernel)) (fun _ h9 => h9) rfl dX1_start_9 ?_
  refine lv_iconst (v := nI 0) hx hb dX1_start_12 (by decide) ?_
  refine lv_lconst (v := 1) hx hb dX1_start_13 (by decide) ?_
  refine va_last hx hb hK hP hD hS 3 1 rfl rfl (vp_in_nI (by omega) (by omega)) dX1_start_14 (fun H locs hP hD hS => ?_)
  rw [nI_clamp (by omega)] at hP hD
  have hP : va_P (dC, dI) vwCl [(hT, .inr (1, [.ref qT, .ref qL, .ref qR, .int (nI cnt)])), (qT, .inl (cJ, 1792, .inr (.inl fT))), (qL, .inl (cJ, 7, .inr (.inl fL))), (qR, .inl (cJ, 7, .inr (.inl (vp_updL f25 0 1))))] H := hP
  have hD : va_D A [(hT, .inr (1, [.ref qT, .ref qL, .ref qR, .int (nI cnt)])), (qT, .inl (cJ, 1792, .inr (.inl fT))), (qL, .inl (cJ, 7, .inr (.inl fL))), (qR, .inl (cJ, 7, .inr (.inl (vp_updL f25 0 1))))] := hD
  have hP9 := hP.sub (ws' := [(hT, .inr (1, [.ref qT, .ref qL, .ref qR, .int (nI cnt)])), (qT, .inl (cJ, 1792, .inr (.inl fT))), (qL, .inl (cJ, 7, .inr (.inl fL))), (qR, .inl (cJ, 7, .inr (.inl (vp_updL f25 0 1))))]) [0, 1, 2, 3] rfl
  have hD9 := hD.sub (ws' := [(hT, .inr (1, [.ref qT, .ref qL, .ref qR, .int (nI cnt)])), (qT, .inl (cJ, 1792, .inr (.inl fT))), (qL, .inl (cJ, 7, .inr (.inl fL))), (qR, .inl (cJ, 7, .inr (.inl (vp_updL f25 0 1))))]) [0, 1, 2, 3] (by decide) rfl
  exact W.vret hx hb hr (fun t ht hW => ⟨⟨vp_updL f25 0 1, rfl, (show ∀ k, k < 448 → lb (vp_updL f25 0 1) k = decide (k = 0) from sr_in hw5), by rw [ht]; exact hP9, va_K.moved hW.alike hK, hD9⟩, hS.F ht⟩) hS.2.2 dX1_start_15
end
section
set_option maxHeartbeats 4000000 in
set_option maxRecDepth 100000 in
theorem c_X1_step (l : Launch) (dC : Nat → ClassId) (dI : Nat → Nat → Nat) (cI cJ cZ : ClassId) (hT qT qL qR : Nat) (sz : Nat) (cnt : Nat) (fT : Nat → Int64) (fL : Nat → Int64) (fR : Nat → Int64) (x : Nat) (hx8 : x < 256) : Met l yX1_step wsX1_step ({ frames := 0, cells := 0, slots := 0, locals := 0 }) (va_Pc [.ref hT, .int (nI x)] (fun U => U.heap.size = sz ∧ va_P (dC, dI) vwCl [(hT, .inr (1, [.ref qT, .ref qL, .ref qR, .int (nI cnt)])), (qT, .inl (cJ, 1792, .inr (.inl fT))), (qL, .inl (cJ, 7, .inr (.inl fL))), (qR, .inl (cJ, 7, .inr (.inl fR)))] U.heap ∧ va_K (dC, dI) vwCl [(cI, .int), (cJ, .long), (cZ, .boolean)] U ∧ va_D (fun _ => True) [(hT, .inr (1, [.ref qT, .ref qL, .ref qR, .int (nI cnt)])), (qT, .inl (cJ, 1792, .inr (.inl fT))), (qL, .inl (cJ, 7, .inr (.inl fL))), (qR, .inl (cJ, 7, .inr (.inl fR)))])) (va_Qv (fun (u : (Nat → Int64)) => ∀ k, k < 448 → lb u k = stp fR fT fL x k) (fun (u : (Nat → Int64)) (t : State) => va_P (dC, dI) vwCl [(hT, .inr (1, [.ref qT, .ref qL, .ref qR, .int (nI cnt)])), (qT, .inl (cJ, 1792, .inr (.inl fT))), (qL, .inl (cJ, 7, .inr (.inl fL))), (qR, .inl (cJ, 7, .inr (.inl u)))] t.heap ∧ va_K (dC, dI) vwCl [(cI, .int), (cJ, .long), (cZ, .boolean)] t ∧ va_D (va_A [(hT, .inr (1, [.ref qT, .ref qL, .ref qR, .int (nI cnt)])), (qT, .inl (cJ, 1792, .inr (.inl fT))), (qL, .inl (cJ, 7, .inr (.inl fL))), (qR, .inl (cJ, 7, .inr (.inl fR)))] sz) [(hT, .inr (1, [.ref qT, .ref qL, .ref qR, .int (nI cnt)])), (qT, .inl (cJ, 1792, .inr (.inl fT))), (qL, .inl (cJ, 7, .inr (.inl fL))), (qR, .inl (cJ, 7, .inr (.inl u)))]) (va_A [(hT, .inr (1, [.ref qT, .ref qL, .ref qR, .int (nI cnt)])), (qT, .inl (cJ, 1792, .inr (.inl fT))), (qL, .inl (cJ, 7, .inr (.inl fL))), (qR, .inl (cJ, 7, .inr (.inl fR)))] sz)) 0 0 (va_A [(hT, .inr (1, [.ref qT, .ref qL, .ref qR, .int (nI cnt)])), (qT, .inl (cJ, 1792, .inr (.inl fT))), (qL, .inl (cJ, 7, .inr (.inl fL))), (qR, .inl (cJ, 7, .inr (.inl fR)))] sz) := by
  refine Met.ofW (cc := cX1_step) (maxL := 10) (ret := none) (by decide) rfl ?_
  intro p e s m args below meth c s₁ B hml hv
  obtain ⟨rfl, hsz, hP, hK, hD0⟩ := hv
  have hx := B.exec
  have hb := B.bytes
  have hr := B.returns
  have hts := atoms_spec (ws := wsX1_step) B.pre
  have hown : s.vm.findClass RX1 = some m.cls := findClass_of_methodNamed B.named
  have hlocks := B.notSynchronized
  subst hsz
  have hD := hD0.self (sz := s.heap.size)
  generalize hAe : va_A [(hT, .inr (1, [.ref qT, .ref qL, .ref qR, .int (nI cnt)])), (qT, .inl (cJ, 1792, .inr (.inl fT))), (qL, .inl (cJ, 7, .inr (.inl fL))), (qR, .inl (cJ, 7, .inr (.inl fR)))] s.heap.size = A at hD ⊢
  have hA : ∀ q : Nat, s.heap.size ≤ q → A q := fun q h => by rw [← hAe]; exact Or.inr h
  have hS : va_S A s.heap s.heap [] := va_S.rf
  have hP : va_P (dC, dI) vwCl [(hT, .inr (1, [.ref qT, .ref qL, .ref qR, .int (nI cnt)])), (qT, .inl (cJ, 1792, .inr (.inl fT))), (qL, .inl (cJ, 7, .inr (.inl fL))), (qR, .inl (cJ, 7, .inr (.inl fR)))] s.heap := hP
  have hl := lv_entry ([.ref hT, .int (nI x)]) (n := 10) (Nat.le_of_ble_eq_true rfl)
  rw [lg_entry_eq]
  generalize (lg_sl ([.ref hT, .int (nI x)]) ++ List.replicate (10 - (lg_sl ([.ref hT, .int (nI x)])).length) Slot.unset).toArray = ls at hl ⊢
  have hl : lv_has ls 10 [(0, .ref hT), (1, .int (nI x))] := hl
  skip
  refine lv_iload_n hx hb dX1_step_0 rfl (lv_at hl 1 rfl) ?_
  refine lv_sipush (v := nI 255) hx hb dX1_step_1 (by decide) ?_
  refine lv_iand hx hb dX1_step_4 ?_
  refine wl_asi (y := nI x) (by rw [pk_andN (by omega) 8 rfl, Nat.mod_eq_of_lt hx8]) ?_
  refine lv_bipush (v := nI 7) hx hb dX1_step_5 (by decide) ?_
  refine lv_imul hx hb dX1_step_7 ?_
  refine wl_asi (y := nI (x * 7)) (pk_mul _ _) ?_
  refine lv_istore_n (lv' := [(2, .int (nI (x * 7))), (0, .ref hT), (1, .int (nI x))]) hx hb dX1_step_8 rfl hl (by decide) rfl (fun ls hl => ?_)
  refine lv_lconst (v := 0) hx hb dX1_step_9 (by decide) ?_
  refine lv_lstore_n (lv' := [(3, .long 0), (2, .int (nI (x * 7))), (0, .ref hT), (1, .int (nI x))]) hx hb dX1_step_10 rfl hl (by decide) rfl (fun ls hl => ?_)
  refine lv_iconst (v := nI 0) hx hb dX1_step_11 (by decide) ?_
  refine lv_istore (lv' := [(5, .int (nI 0)), (3, .long 0), (2, .int (nI (x * 7))), (0, .ref hT), (1, .int (nI x))]) hx hb dX1_step_12 hl (by decide) rfl (fun ls hl => ?_)
  refine wl_loop (σ := Nat × (Nat → Int64) × Int64) (fun z9 => 7 - z9.1) (fun z9 H locs ls => (z9.1 ≤ 7) ∧ (∀ k, k < 64 * z9.1 → lb z9.2.1 k = stp fR fT fL x k) ∧ (∀ j, z9.1 ≤ j → j < 7 → z9.2.1 j = fR j) ∧ (∀ j, j < 64 → (z9.2.2 : Int64).toBitVec.getLsbD j = (decide (j = 0) && crb fR fT x z9.1)) ∧ va_P (dC, dI) vwCl [(hT, .inr (1, [.ref qT, .ref qL, .ref qR, .int (nI cnt)])), (qT, .inl (cJ, 1792, .inr (.inl fT))), (qL, .inl (cJ, 7, .inr (.inl fL))), (qR, .inl (cJ, 7, .inr (.inl z9.2.1)))] H ∧ va_D A [(hT, .inr (1, [.ref qT, .ref qL, .ref qR, .int (nI cnt)])), (qT, .inl (cJ, 1792, .inr (.inl fT))), (qL, .inl (cJ, 7, .inr (.inl fL))), (qR, .inl (cJ, 7, .inr (.inl z9.2.1)))] ∧ va_S A s.heap H locs ∧ lv_has ls 10 [(0, .ref hT), (1, .int (nI x)), (2, .int (nI (x * 7))), (3, .long z9.2.2), (5, .int (nI z9.1))]) ?_ (0, fR, 0) ⟨(show (0) ≤ 7 from Nat.zero_le _), (show ∀ k, k < 64 * (0) → lb fR k = stp fR fT fL x k from fun k hk => absurd hk (by omega)), (show ∀ j, (0) ≤ j → j < 7 → fR j = fR j from fun j _ _ => rfl), (show ∀ j, j < 64 → ((0) : Int64).toBitVec.getLsbD j = (decide (j = 0) && crb fR fT x (0)) from fun j _ => by rw [show crb fR fT x 0 = false from rfl, Bool.and_false]; exact BitVec.getLsbD_zero), hP.sub [0, 1, 2, 3] rfl, hD.sub [0, 1, 2, 3] (by decide) rfl, hS, lv_sub hl [3, 4, 2, 1, 0] rfl⟩
  intro z9 H locs ls hI ih14
  obtain ⟨i, g, cr⟩ := z9
  obtain ⟨hi, h1, h2, hc, hP, hD, hS, hl⟩ := hI
  try dsimp only at hi h1 h2 hc hP hD hl
  have hP : va_P (dC, dI) vwCl [(hT, .inr (1, [.ref qT, .ref qL, .ref qR, .int (nI cnt)])), (qT, .inl (cJ, 1792, .inr (.inl fT))), (qL, .inl (cJ, 7, .inr (.inl fL))), (qR, .inl (cJ, 7, .inr (.inl g)))] H := hP
  have hD : va_D A [(hT, .inr (1, [.ref qT, .ref qL, .ref qR, .int (nI cnt)])), (qT, .inl (cJ, 1792, .inr (.inl fT))), (qL, .inl (cJ, 7, .inr (.inl fL))), (qR, .inl (cJ, 7, .inr (.inl g)))] := hD
  have hl : lv_has ls 10 [(0, .ref hT), (1, .int (nI x)), (2, .int (nI (x * 7))), (3, .long cr), (5, .int (nI i))] := hl
  refine lv_iload hx hb dX1_step_14 (lv_at hl 4 rfl) ?_
  refine lv_bipush (v := nI 7) hx hb dX1_step_16 (by decide) ?_
  refine wl_icmp_ge (tgt := 85) hx hb dX1_step_18 (by decide) (by omega) (by omega) (fun c18 => ?_) (fun c18 => ?_)
  · skip
    have hP9 := hP.sub (ws' := [(hT, .inr (1, [.ref qT, .ref qL, .ref qR, .int (nI cnt)])), (qT, .inl (cJ, 1792, .inr (.inl fT))), (qL, .inl (cJ, 7, .inr (.inl fL))), (qR, .inl (cJ, 7, .inr (.inl g)))]) [0, 1, 2, 3] rfl
    have hD9 := hD.sub (ws' := [(hT, .inr (1, [.ref qT, .ref qL, .ref qR, .int (nI cnt)])), (qT, .inl (cJ, 1792, .inr (.inl fT))), (qL, .inl (cJ, 7, .inr (.inl fL))), (qR, .inl (cJ, 7, .inr (.inl g)))]) [0, 1, 2, 3] (by decide) rfl
    exact W.vret hx hb hr (fun t ht hW => ⟨⟨g, rfl, (show ∀ k, k < 448 → lb g k = stp fR fT fL x k from fun k hk => h1 k (by omega)), by rw [ht]; exact hP9, va_K.moved hW.alike hK, hD9⟩, hS.F ht⟩) hS.2.2 dX1_step_85
  · skip
    refine lv_aload_n hx hb dX1_step_21 rfl (lv_at hl 0 rfl) ?_
    refine va_get (D := (dC, dI)) (ci := 1) (v := .ref qR) (C := RX1) (T := TX1) (N := 4) hx hb hts (by decide +kernel) hown hK hP 0 rfl rfl 2 (by decide) (hts (.fieldLink RX1 18 "WildCards$Things" "reached" "[J") (by decide +kernel)) (fun _ h9 => h9) rfl dX1_step_22 ?_
    refine lv_iload hx hb dX1_step_25 (lv_at hl 4 rfl) ?_
    refine va_lald hx hb hK hP 3 1 rfl rfl (vp_in_nI (by omega) (by omega)) dX1_step_27 ?_
    refine wl_asl (y := g i) (by rw [nI_clamp (by omega)]) ?_
    refine lv_aload_n hx hb dX1_step_28 rfl (lv_at hl 0 rfl) ?_
    refine va_get (D := (dC, dI)) (ci := 1) (v := .ref qT) (C := RX1) (T := TX1) (N := 4) hx hb hts (by decide +kernel) hown hK hP 0 rfl rfl 0 (by decide) (hts (.fieldLink RX1 11 "WildCards$Things" "takers" "[J") (by decide +kernel)) (fun _ h9 => h9) rfl dX1_step_29 ?_
    refine lv_iload_n hx hb dX1_step_32 rfl (lv_at hl 2 rfl) ?_
    refine lv_iload hx hb dX1_step_33 (lv_at hl 4 rfl) ?_
    refine lv_iadd hx hb dX1_step_35 ?_
    refine wl_asi (y := nI ((x * 7) + i)) (nI_add _ _) ?_
    refine va_lald hx hb hK hP 1 1 rfl rfl (vp_in_nI (by omega) (by omega)) dX1_step_36 ?_
    refine wl_asl (y := fT ((x * 7) + i)) (by rw [nI_clamp (by omega)]) ?_
    refine lv_land hx hb dX1_step_37 ?_
    refine lv_topl (fun mv emv => ?_)
    refine lv_lstore (lv' := [(6, .long mv), (0, .ref hT), (1, .int (nI x)), (2, .int (nI (x * 7))), (3, .long cr), (5, .int (nI i))]) hx hb dX1_step_38 hl (by decide) rfl (fun ls hl => ?_)
    refine lv_aload_n hx hb dX1_step_40 rfl (lv_at hl 1 rfl) ?_
    refine va_get (D := (dC, dI)) (ci := 1) (v := .ref qR) (C := RX1) (T := TX1) (N := 4) hx hb hts (by decide +kernel) hown hK hP 0 rfl rfl 2 (by decide) (hts (.fieldLink RX1 18 "WildCards$Things" "reached" "[J") (by decide +kernel)) (fun _ h9 => h9) rfl dX1_step_41 ?_
    refine lv_iload hx hb dX1_step_44 (lv_at hl 5 rfl) ?_
    refine va_lald hx hb hK hP 3 1 rfl rfl (vp_in_nI (by omega) (by omega)) dX1_step_46 ?_
    refine wl_asl (y := g i) (by rw [nI_clamp (by omega)]) ?_
    refine lv_aload_n hx hb dX1_step_47 rfl (lv_at hl 1 rfl) ?_
    refine va_get (D := (dC, dI)) (ci := 1) (v := .ref qL) (C := RX1) (T := TX1) (N := 4) hx hb hts (by decide +kernel) hown hK hP 0 rfl rfl 1 (by decide) (hts (.fieldLink RX1 15 "WildCards$Things" "loops" "[J") (by decide +kernel)) (fun _ h9 => h9) rfl dX1_step_48 ?_
    refine lv_iload hx hb dX1_step_51 (lv_at hl 5 rfl) ?_
    refine va_lald hx hb hK hP 2 1 rfl rfl (vp_in_nI (by omega) (by omega)) dX1_step_53 ?_
    refine wl_asl (y := fL i) (by rw [nI_clamp (by omega)]) ?_
    refine lv_land hx hb dX1_step_54 ?_
    refine lv_topl (fun sy esy => ?_)
    refine lv_lstore (lv' := [(8, .long sy), (6, .long mv), (0, .ref hT), (1, .int (nI x)), (2, .int (nI (x * 7))), (3, .long cr), (5, .int (nI i))]) hx hb dX1_step_55 hl (by decide) rfl (fun ls hl => ?_)
    refine lv_aload_n hx hb dX1_step_57 rfl (lv_at hl 2 rfl) ?_
    refine va_get (D := (dC, dI)) (ci := 1) (v := .ref qR) (C := RX1) (T := TX1) (N := 4) hx hb hts (by decide +kernel) hown hK hP 0 rfl rfl 2 (by decide) (hts (.fieldLink RX1 18 "WildCards$Things" "reached" "[J") (by decide +kernel)) (fun _ h9 => h9) rfl dX1_step_58 ?_
    refine lv_iload hx hb dX1_step_61 (lv_at hl 6 rfl) ?_
    refine lv_lload hx hb dX1_step_63 (lv_at hl 1 rfl) ?_
    refine lv_iconst (v := nI 1) hx hb dX1_step_65 (by decide) ?_
    refine lv_lshl (v := mv <<< ((nI 1).toInt64 &&& 63)) hx hb dX1_step_66 rfl ?_
    refine lv_lload_n hx hb dX1_step_67 rfl (lv_at hl 5 rfl) ?_
    refine lv_lor hx hb dX1_step_68 ?_
    refine lv_lload hx hb dX1_step_69 (lv_at hl 0 rfl) ?_
    refine lv_lor hx hb dX1_step_71 ?_
    refine va_last hx hb hK hP hD hS 3 1 rfl rfl (vp_in_nI (by omega) (by omega)) dX1_step_72 (fun H locs hP hD hS => ?_)
    rw [nI_clamp (by omega)] at hP hD
    have hP : va_P (dC, dI) vwCl [(hT, .inr (1, [.ref qT, .ref qL, .ref qR, .int (nI cnt)])), (qT, .inl (cJ, 1792, .inr (.inl fT))), (qL, .inl (cJ, 7, .inr (.inl fL))), (qR, .inl (cJ, 7, .inr (.inl (vp_updL g i (((mv <<< ((nI 1).toInt64 &&& 63)) ||| cr) ||| sy)))))] H := hP
    have hD : va_D A [(hT, .inr (1, [.ref qT, .ref qL, .ref qR, .int (nI cnt)])), (qT, .inl (cJ, 1792, .inr (.inl fT))), (qL, .inl (cJ, 7, .inr (.inl fL))), (qR, .inl (cJ, 7, .inr (.inl (vp_updL g i (((mv <<< ((nI 1).toInt64 &&& 63)) ||| cr) ||| sy)))))] := hD
    refine lv_lload hx hb dX1_step_73 (lv_at hl 1 rfl) ?_
    refine lv_bipush (v := nI 63) hx hb dX1_step_75 (by decide) ?_
    refine lv_lushr (v := (mv.toUInt64 >>> ((nI 63).toInt64.toUInt64 &&& Int64.toUInt64 63)).toInt64) hx hb dX1_step_77 rfl ?_
    refine lv_lstore_n (lv' := [(3, .long ((mv.toUInt64 >>> ((nI 63).toInt64.toUInt64 &&& Int64.toUInt64 63)).toInt64)), (8, .long sy), (6, .long mv), (0, .ref hT), (1, .int (nI x)), (2, .int (nI (x * 7))), (5, .int (nI i))]) hx hb dX1_step_78 rfl hl (by decide) rfl (fun ls hl => ?_)
    refine lv_iinc (v := nI (i + 1)) (lv' := [(5, .int (nI (i + 1))), (3, .long ((mv.toUInt64 >>> ((nI 63).toInt64.toUInt64 &&& Int64.toUInt64 63)).toInt64)), (8, .long sy), (6, .long mv), (0, .ref hT), (1, .int (nI x)), (2, .int (nI (x * 7)))]) hx hb dX1_step_79 hl (k := 6) rfl (wl_inc _ _ (by decide)) (by decide) rfl (fun ls hl => ?_)
    refine lv_goto (tgt := 14) hx hb dX1_step_82 (by decide) ?_
    exact ih14 (i + 1, vp_updL g i (((mv <<< ((nI 1).toInt64 &&& 63)) ||| cr) ||| sy), (mv.toUInt64 >>> ((nI 63).toInt64.toUInt64 &&& Int64.toUInt64 63)).toInt64) H locs ls ⟨(show (i + 1) ≤ 7 from by omega), (show ∀ k, k < 64 * (i + 1) → lb (vp_updL g i (((mv <<< ((nI 1).toInt64 &&& 63)) ||| cr) ||| sy)) k = stp fR fT fL x k from st_in h1 (fun j hj => st_new (h2 i (Nat.le_refl _) (by omega)) emv esy hc hj)), (show ∀ j, (i + 1) ≤ j → j < 7 → (vp_updL g i (((mv <<< ((nI 1).toInt64 &&& 63)) ||| cr) ||| sy)) j = fR j from st_keep h2), (show ∀ j, j < 64 → (((mv.toUInt64 >>> ((nI 63).toInt64.toUInt64 &&& Int64.toUInt64 63)).toInt64) : Int64).toBitVec.getLsbD j = (decide (j = 0) && crb fR fT x (i + 1)) from st_cr (h2 i (Nat.le_refl _) (by omega)) emv), hP.sub [0, 1, 2, 3] rfl, hD.sub [0, 1, 2, 3] (by decide) rfl, hS, lv_sub hl [4, 5, 6, 1, 0] rfl⟩ (by (try dsimp only); omega)
end
section
set_option maxHeartbeats 4000000 in
set_option maxRecDepth 100000 in
theorem c_X1_endIsReached (l : Launch) (dC : Nat → ClassId) (dI : Nat → Nat → Nat) (cI cJ cZ : ClassId) (hT qT qL qR : Nat) (sz : Nat) (cnt : Nat) (fT : Nat → Int64) (fL : Nat → Int64) (fR : Nat → Int64) (hc : cnt < 448) : Met l yX1_endIsReached wsX1_endIsReached ({ frames := 1, cells := 0, slots := 0, locals := 20 }) (va_Pc [.ref hT] (fun U => U.heap.size = sz ∧ va_P (dC, dI) vwCl [(hT, .inr (1, [.ref qT, .ref qL, .ref qR, .int (nI cnt)])), (qT, .inl (cJ, 1792, .inr (.inl fT))), (qL, .inl (cJ, 7, .inr (.inl fL))), (qR, .inl (cJ, 7, .inr (.inl fR)))] U.heap ∧ va_K (dC, dI) vwCl [(cI, .int), (cJ, .long), (cZ, .boolean)] U ∧ va_D (fun _ => True) [(hT, .inr (1, [.ref qT, .ref qL, .ref qR, .int (nI cnt)])), (qT, .inl (cJ, 1792, .inr (.inl fT))), (qL, .inl (cJ, 7, .inr (.inl fL))), (qR, .inl (cJ, 7, .inr (.inl fR)))])) (va_Qi (fun (r : Int32) (u : Unit) => r = if lb fR cnt = true then 1 else 0) (fun (u : Unit) (t : State) => va_P (dC, dI) vwCl [(hT, .inr (1, [.ref qT, .ref qL, .ref qR, .int (nI cnt)])), (qT, .inl (cJ, 1792, .inr (.inl fT))), (qL, .inl (cJ, 7, .inr (.inl fL))), (qR, .inl (cJ, 7, .inr (.inl fR)))] t.heap ∧ va_K (dC, dI) vwCl [(cI, .int), (cJ, .long), (cZ, .boolean)] t ∧ va_D (va_A [(hT, .inr (1, [.ref qT, .ref qL, .ref qR, .int (nI cnt)])), (qT, .inl (cJ, 1792, .inr (.inl fT))), (qL, .inl (cJ, 7, .inr (.inl fL))), (qR, .inl (cJ, 7, .inr (.inl fR)))] sz) [(hT, .inr (1, [.ref qT, .ref qL, .ref qR, .int (nI cnt)])), (qT, .inl (cJ, 1792, .inr (.inl fT))), (qL, .inl (cJ, 7, .inr (.inl fL))), (qR, .inl (cJ, 7, .inr (.inl fR)))]) (va_A [(hT, .inr (1, [.ref qT, .ref qL, .ref qR, .int (nI cnt)])), (qT, .inl (cJ, 1792, .inr (.inl fT))), (qL, .inl (cJ, 7, .inr (.inl fL))), (qR, .inl (cJ, 7, .inr (.inl fR)))] sz)) 0 0 (va_A [(hT, .inr (1, [.ref qT, .ref qL, .ref qR, .int (nI cnt)])), (qT, .inl (cJ, 1792, .inr (.inl fT))), (qL, .inl (cJ, 7, .inr (.inl fL))), (qR, .inl (cJ, 7, .inr (.inl fR)))] sz) := by
  refine Met.ofW (cc := cX1_endIsReached) (maxL := 1) (ret := (some .boolean)) (by decide) rfl ?_
  intro p e s m args below meth c s₁ B hml hv
  obtain ⟨rfl, hsz, hP, hK, hD0⟩ := hv
  have hx := B.exec
  have hb := B.bytes
  have hr := B.returns
  have hts := atoms_spec (ws := wsX1_endIsReached) B.pre
  have hown : s.vm.findClass RX1 = some m.cls := findClass_of_methodNamed B.named
  have hlocks := B.notSynchronized
  subst hsz
  have hD := hD0.self (sz := s.heap.size)
  generalize hAe : va_A [(hT, .inr (1, [.ref qT, .ref qL, .ref qR, .int (nI cnt)])), (qT, .inl (cJ, 1792, .inr (.inl fT))), (qL, .inl (cJ, 7, .inr (.inl fL))), (qR, .inl (cJ, 7, .inr (.inl fR)))] s.heap.size = A at hD ⊢
  have hA : ∀ q : Nat, s.heap.size ≤ q → A q := fun q h => by rw [← hAe]; exact Or.inr h
  have hS : va_S A s.heap s.heap [] := va_S.rf
  have hP : va_P (dC, dI) vwCl [(hT, .inr (1, [.ref qT, .ref qL, .ref qR, .int (nI cnt)])), (qT, .inl (cJ, 1792, .inr (.inl fT))), (qL, .inl (cJ, 7, .inr (.inl fL))), (qR, .inl (cJ, 7, .inr (.inl fR)))] s.heap := hP
  have hl := lv_entry ([.ref hT]) (n := 1) (Nat.le_of_ble_eq_true rfl)
  rw [lg_entry_eq]
  generalize (lg_sl ([.ref hT]) ++ List.replicate (1 - (lg_sl ([.ref hT])).length) Slot.unset).toArray = ls at hl ⊢
  have hl : lv_has ls 1 [(0, .ref hT)] := hl
  skip
  refine lv_aload_n hx hb dX1_endIsReached_0 rfl (lv_at hl 0 rfl) ?_
  refine va_get (D := (dC, dI)) (ci := 1) (v := .ref qR) (C := RX1) (T := TX1) (N := 4) hx hb hts (by decide +kernel) hown hK hP 0 rfl rfl 2 (by decide) (hts (.fieldLink RX1 18 "WildCards$Things" "reached" "[J") (by decide +kernel)) (fun _ h9 => h9) rfl dX1_endIsReached_1 ?_
  refine lv_aload_n hx hb dX1_endIsReached_4 rfl (lv_at hl 0 rfl) ?_
  refine va_get (D := (dC, dI)) (ci := 1) (v := .int (nI cnt)) (C := RX1) (T := TX1) (N := 4) hx hb hts (by decide +kernel) hown hK hP 0 rfl rfl 3 (by decide) (hts (.fieldLink RX1 27 "WildCards$Things" "count" "I") (by decide +kernel)) (fun _ h9 => h9) rfl dX1_endIsReached_5 ?_
  refine lv_bipush (v := nI 64) hx hb dX1_endIsReached_8 (by decide) ?_
  refine lv_idiv hx hb dX1_endIsReached_10 (by decide) ?_
  refine wl_asi (y := nI (cnt / 64)) (pk_div (by omega) (by omega) (by omega)) ?_
  refine va_lald hx hb hK hP 3 1 rfl rfl (vp_in_nI (by omega) (by omega)) dX1_endIsReached_11 ?_
  refine wl_asl (y := fR (cnt / 64)) (by rw [nI_clamp (by omega)]) ?_
  refine lv_aload_n hx hb dX1_endIsReached_12 rfl (lv_at hl 0 rfl) ?_
  refine va_get (D := (dC, dI)) (ci := 1) (v := .int (nI cnt)) (C := RX1) (T := TX1) (N := 4) hx hb hts (by decide +kernel) hown hK hP 0 rfl rfl 3 (by decide) (hts (.fieldLink RX1 27 "WildCards$Things" "count" "I") (by decide +kernel)) (fun _ h9 => h9) rfl dX1_endIsReached_13 ?_
  have hPc := hP.sub (ws' := []) [] rfl
  have hDc := hD.sub (ws' := []) [] (by decide) rfl
  have hFc := va_free (wc := []) hD hS hA [] rfl
  refine va_calll (va_runS (As := [.int (nI cnt)]) (rest := [.long (fR (cnt / 64))]) ⟨hx, hb, hml, hown, hts⟩ (c_X1_bitOf l dC dI cI cJ cZ  s.heap.size cnt (by omega)) (va_cwS 1 hts gX1_endIsReached_X1_bitOf rfl rfl rfl (by decide +kernel) ⟨Nat.le_of_ble_eq_true rfl, Nat.le_of_ble_eq_true rfl⟩) ⟨fun a U g mk q => by obtain ⟨q0, q1, qP, qK, qD⟩ := q; exact ⟨q0, q1, qP, va_K.moved (u := U) (U := U.calling g mk a) (Vm.Alike.refl U.vm) qK, qD⟩, fun U hU hW => ⟨rfl, by rw [hU], by rw [hU]; exact hPc, va_K.moved hW.alike hK, hDc.weaken (fun _ _ _ _ => trivial)⟩⟩ rfl rfl hl.1 rfl (lv_room (Nat.le_of_ble_eq_true rfl)) dX1_endIsReached_16 ⟨show 0 + 0 ≤ 0 from by decide, show 0 + 0 ≤ 0 from by decide⟩) hS (fun q _ h => hFc q h) hFc (fun r16 u t H1 locs ht hvm hw16 hB hz1 hk1 hS => ?_)
  obtain ⟨hP1, hK1, hD1⟩ := hB
  rw [ht] at hP1
  try dsimp only at hw16 hP1 hD1
  obtain ⟨hP, hD⟩ := va_join (wr := [(hT, .inr (1, [.ref qT, .ref qL, .ref qR, .int (nI cnt)])), (qT, .inl (cJ, 1792, .inr (.inl fT))), (qL, .inl (cJ, 7, .inr (.inl fL))), (qR, .inl (cJ, 7, .inr (.inl fR)))]) (w1 := []) hP hD [] [0, 1, 2, 3] rfl rfl (by decide) (by decide) hk1 hFc hP1 hD1
  generalize H1 = H at hP hS ⊢
  have hP : va_P (dC, dI) vwCl [(hT, .inr (1, [.ref qT, .ref qL, .ref qR, .int (nI cnt)])), (qT, .inl (cJ, 1792, .inr (.inl fT))), (qL, .inl (cJ, 7, .inr (.inl fL))), (qR, .inl (cJ, 7, .inr (.inl fR)))] H := hP
  have hD : va_D A [(hT, .inr (1, [.ref qT, .ref qL, .ref qR, .int (nI cnt)])), (qT, .inl (cJ, 1792, .inr (.inl fT))), (qL, .inl (cJ, 7, .inr (.inl fL))), (qR, .inl (cJ, 7, .inr (.inl fR)))] := hD
  refine lv_land hx hb dX1_endIsReached_19 ?_
  refine lv_lconst (v := 0) hx hb dX1_endIsReached_20 (by decide) ?_
  refine W.lcmp hx hb dX1_endIsReached_21 ?_
  refine lv_if_eq (tgt := 29) hx hb dX1_endIsReached_22 (by decide) (fun c22 => ?_) (fun c22 => ?_)
  · skip
    refine lv_iconst (v := nI 0) hx hb dX1_endIsReached_29 (by decide) ?_
    have hP9 := hP.sub (ws' := [(hT, .inr (1, [.ref qT, .ref qL, .ref qR, .int (nI cnt)])), (qT, .inl (cJ, 1792, .inr (.inl fT))), (qL, .inl (cJ, 7, .inr (.inl fL))), (qR, .inl (cJ, 7, .inr (.inl fR)))]) [0, 1, 2, 3] rfl
    have hD9 := hD.sub (ws' := [(hT, .inr (1, [.ref qT, .ref qL, .ref qR, .int (nI cnt)])), (qT, .inl (cJ, 1792, .inr (.inl fT))), (qL, .inl (cJ, 7, .inr (.inl fL))), (qR, .inl (cJ, 7, .inr (.inl fR)))]) [0, 1, 2, 3] (by decide) rfl
    exact W.zret (v := nI 0) hx hb hr (by decide) (fun t ht hW => ⟨⟨nI 0, (), rfl, (show (nI 0) = if lb fR cnt = true then 1 else 0 from er_0 hw16 c22), by rw [ht]; exact hP9, va_K.moved hW.alike hK, hD9⟩, hS.F ht⟩) hS.2.2 dX1_endIsReached_30
  · skip
    refine lv_iconst (v := nI 1) hx hb dX1_endIsReached_25 (by decide) ?_
    refine lv_goto (tgt := 30) hx hb dX1_endIsReached_26 (by decide) ?_
    have hP9 := hP.sub (ws' := [(hT, .inr (1, [.ref qT, .ref qL, .ref qR, .int (nI cnt)])), (qT, .inl (cJ, 1792, .inr (.inl fT))), (qL, .inl (cJ, 7, .inr (.inl fL))), (qR, .inl (cJ, 7, .inr (.inl fR)))]) [0, 1, 2, 3] rfl
    have hD9 := hD.sub (ws' := [(hT, .inr (1, [.ref qT, .ref qL, .ref qR, .int (nI cnt)])), (qT, .inl (cJ, 1792, .inr (.inl fT))), (qL, .inl (cJ, 7, .inr (.inl fL))), (qR, .inl (cJ, 7, .inr (.inl fR)))]) [0, 1, 2, 3] (by decide) rfl
    exact W.zret (v := nI 1) hx hb hr (by decide) (fun t ht hW => ⟨⟨nI 1, (), rfl, (show (nI 1) = if lb fR cnt = true then 1 else 0 from er_1 hw16 c22), by rw [ht]; exact hP9, va_K.moved hW.alike hK, hD9⟩, hS.F ht⟩) hS.2.2 dX1_endIsReached_30
end
section
theorem BR_i0 {a : Nat → Nat} {L cnt i : Nat} {fT : Nat → Int64} (h : ∀ x, x < 256 → lb fT (448 * x + cnt) = false) : BR a L cnt fT fT false i 0 i := by
  refine ⟨rfl, fun x hx => ?_, fun _ _ _ _ => rfl⟩
  rw [h x hx]
  simp
theorem BR_i1 {a : Nat → Nat} {L cnt i : Nat} {fT g : Nat → Int64} (hc : cnt < 448) (h : ∀ x, x < 256 → lb fT (448 * x + cnt) = false) (hg : ∀ x k, k < 448 → lb g (448 * x + k) = if k = cnt ∧ 0 ≤ x ∧ x ≤ 255 then decide (1 ≠ 0) else lb fT (448 * x + k)) : BR a L cnt fT g true (i + 1) 0 (i + 1) := by
  refine ⟨rfl, fun x hx => ?_, fun x k hk hne => ?_⟩
  · rw [hg x cnt hc, if_pos ⟨rfl, Nat.zero_le _, by omega⟩]
    simp
  · rw [hg x k hk, if_neg (fun q => hne q.1)]
theorem brn_1 {a : Nat → Nat} {L i : Nat} (h : brg a L i = true) : brn a L i = bre a L L (i + 1) + 1 := by
  unfold brn
  rw [if_pos h]
theorem brn_0 {a : Nat → Nat} {L i : Nat} (h : ¬ brg a L i = true) : brn a L i = bre a L L i + 1 := by
  unfold brn
  rw [if_neg h]
theorem ti_any {fT g : Nat → Int64} {cnt : Nat} (h : ∀ x k, k < 448 → lb g (448 * x + k) = if k = cnt ∧ 0 ≤ x ∧ x ≤ 255 then decide (1 ≠ 0) else lb fT (448 * x + k)) : ∀ x k, x < 256 → k < 448 → lb g (448 * x + k) = if k = cnt then (fun _ : Nat => true) x else lb fT (448 * x + k) := by
  intro x k hx hk
  rw [h x k hk]
  by_cases z : k = cnt
  · rw [if_pos ⟨z, Nat.zero_le _, by omega⟩, if_pos z]; rfl
  · rw [if_neg (fun q => z q.1), if_neg z]
theorem ti_lit {fT g : Nat → Int64} {cnt v : Nat} (h : ∀ x k, k < 448 → lb g (448 * x + k) = if k = cnt ∧ v ≤ x ∧ x ≤ v then decide (1 ≠ 0) else lb fT (448 * x + k)) (hn : ∀ x, x < 256 → lb fT (448 * x + cnt) = false) : ∀ x k, x < 256 → k < 448 → lb g (448 * x + k) = if k = cnt then (fun x => decide (x = v)) x else lb fT (448 * x + k) := by
  intro x k hx hk
  rw [h x k hk]
  by_cases z : k = cnt
  · rw [if_pos z]
    by_cases y : x = v
    · rw [if_pos ⟨z, by omega, by omega⟩]; simp [y]
    · rw [if_neg (fun q => y (by omega)), z, hn x hx]; simp [y]
  · rw [if_neg (fun q => z q.1), if_neg z]
theorem ths_s {a : Nat → Nat} {L r i : Nat} {ts us : List (Option (Nat → Bool))} (hr : r < L) (hi : i < L) (h : us = ts ++ ths a L (L - r) i) : us = (ts ++ [thv a L i]) ++ ths a L (L - (r + 1)) (thn a L i) := by
  rw [h, show L - r = (L - (r + 1)) + 1 by omega]
  simp only [ths, if_pos hi, List.append_assoc, List.singleton_append]
theorem ths_e {a : Nat → Nat} {L r i : Nat} {ts us : List (Option (Nat → Bool))} (h : us = ts ++ ths a L (L - r) i) (hr : L ≤ r ∨ L ≤ i) : us = ts := by
  rw [h]
  rcases hr with q | q
  · rw [show L - r = 0 by omega]; simp [ths]
  · cases L - r with
    | zero => simp [ths]
    | succ n => simp [ths, Nat.not_lt.mpr q]
theorem tC_s {ts : List (Option (Nat → Bool))} {t : Option (Nat → Bool)} {r : Nat} (h : tC ts ≤ r) : tC (ts ++ [t]) ≤ r + 1 := by
  rw [tC_app]
  cases t with
  | none => simp only [tC]; omega
  | some S => simp only [tC]; omega
end
section
set_option maxHeartbeats 4000000 in
set_option maxRecDepth 100000 in
theorem c_X0_init (l : Launch) (dC : Nat → ClassId) (dI : Nat → Nat → Nat) (cI cJ cZ : ClassId) (hR qB hT : Nat) (sz : Nat) (L : Nat) : Met l yX0_init wsX0_init ({ frames := 1, cells := 0, slots := 0, locals := 12 }) (va_Pc [.ref hR, .ref qB, .int (nI L), .ref hT] (fun U => U.heap.size = sz ∧ va_P (dC, dI) vwCl [(hR, .inr (0, [.null, .int (nI 0), .null, .int (nI 0)]))] U.heap ∧ va_K (dC, dI) vwCl [(cI, .int), (cJ, .long), (cZ, .boolean)] U ∧ va_D (fun _ => True) [(hR, .inr (0, [.null, .int (nI 0), .null, .int (nI 0)]))])) (va_Qv (fun (u : Unit) => True) (fun (u : Unit) (t : State) => va_P (dC, dI) vwCl [(hR, .inr (0, [.ref qB, .int (nI L), .ref hT, .int (nI 0)]))] t.heap ∧ va_K (dC, dI) vwCl [(cI, .int), (cJ, .long), (cZ, .boolean)] t ∧ va_D (va_A [(hR, .inr (0, [.null, .int (nI 0), .null, .int (nI 0)]))] sz) [(hR, .inr (0, [.ref qB, .int (nI L), .ref hT, .int (nI 0)]))]) (va_A [(hR, .inr (0, [.null, .int (nI 0), .null, .int (nI 0)]))] sz)) 0 0 (va_A [(hR, .inr (0, [.null, .int (nI 0), .null, .int (nI 0)]))] sz) := by
  refine Met.ofW (cc := cX0_init) (maxL := 4) (ret := none) (by decide) rfl ?_
  intro p e s m args below meth c s₁ B hml hv
  obtain ⟨rfl, hsz, hP, hK, hD0⟩ := hv
  have hx := B.exec
  have hb := B.bytes
  have hr := B.returns
  have hts := atoms_spec (ws := wsX0_init) B.pre
  have hown : s.vm.findClass RX0 = some m.cls := findClass_of_methodNamed B.named
  have hlocks := B.notSynchronized
  have hin : meth.name = "<init>" := (name_of_methodNamed B.named B.method).1
  subst hsz
  have hD := hD0.self (sz := s.heap.size)
  generalize hAe : va_A [(hR, .inr (0, [.null, .int (nI 0), .null, .int (nI 0)]))] s.heap.size = A at hD ⊢
  have hA : ∀ q : Nat, s.heap.size ≤ q → A q := fun q h => by rw [← hAe]; exact Or.inr h
  have hS : va_S A s.heap s.heap [] := va_S.rf
  have hP : va_P (dC, dI) vwCl [(hR, .inr (0, [.null, .int (nI 0), .null, .int (nI 0)]))] s.heap := hP
  have hl := lv_entry ([.ref hR, .ref qB, .int (nI L), .ref hT]) (n := 4) (Nat.le_of_ble_eq_true rfl)
  rw [lg_entry_eq]
  generalize (lg_sl ([.ref hR, .ref qB, .int (nI L), .ref hT]) ++ List.replicate (4 - (lg_sl ([.ref hR, .ref qB, .int (nI L), .ref hT])).length) Slot.unset).toArray = ls at hl ⊢
  have hl : lv_has ls 4 [(0, .ref hR), (1, .ref qB), (2, .int (nI L)), (3, .ref hT)] := hl
  skip
  refine lv_aload_n hx hb dX0_init_0 rfl (lv_at hl 0 rfl) ?_
  refine W.objInit hx hb hown (hts (.methodLink RX0 3 objectInit) (by decide +kernel)) (hts (.instanceMethod objectInit) (by decide +kernel)) (hts (.code objectInit ⟨#[0xb1]⟩ 1 none) (by decide +kernel)) rfl (by rw [hml]; exact hl.1) rfl dX0_init_1 (Nat.le_of_ble_eq_true rfl) (Nat.le_of_ble_eq_true rfl) ?_
  refine W.eq (g2 := F0 m 4 ls []) rfl ?_
  refine lv_aload_n hx hb dX0_init_4 rfl (lv_at hl 0 rfl) ?_
  refine lv_aload_n hx hb dX0_init_5 rfl (lv_at hl 1 rfl) ?_
  refine va_putF (D := (dC, dI)) (ci := 0) (v := .ref qB) (ty := .array .int) (C := RX0) (T := TX0) (N := 4) hx hb hts (by decide +kernel) tyX0 tyX0_ok nmX0 hown hK hP hD hS 0 rfl rfl 0 (by decide) (hts (.fieldLink RX0 9 "WildCards$Reader" "bytes" "[I") (by decide +kernel)) (fun _ h9 => h9) rfl hin rfl (by decide +kernel) rfl rfl (Nat.le_of_ble_eq_true rfl) dX0_init_6 (fun H locs hP hD hS => ?_)
  have hP : va_P (dC, dI) vwCl [(hR, .inr (0, [.ref qB, .int (nI 0), .null, .int (nI 0)]))] H := hP
  have hD : va_D A [(hR, .inr (0, [.ref qB, .int (nI 0), .null, .int (nI 0)]))] := hD
  refine lv_aload_n hx hb dX0_init_9 rfl (lv_at hl 0 rfl) ?_
  refine lv_iload_n hx hb dX0_init_10 rfl (lv_at hl 2 rfl) ?_
  refine va_putF (D := (dC, dI)) (ci := 0) (v := .int (nI L)) (ty := .int) (C := RX0) (T := TX0) (N := 4) hx hb hts (by decide +kernel) tyX0 tyX0_ok nmX0 hown hK hP hD hS 0 rfl rfl 1 (by decide) (hts (.fieldLink RX0 15 "WildCards$Reader" "length" "I") (by decide +kernel)) (fun _ h9 => h9) rfl hin rfl (by decide +kernel) rfl rfl (Nat.le_of_ble_eq_true rfl) dX0_init_11 (fun H locs hP hD hS => ?_)
  have hP : va_P (dC, dI) vwCl [(hR, .inr (0, [.ref qB, .int (nI L), .null, .int (nI 0)]))] H := hP
  have hD : va_D A [(hR, .inr (0, [.ref qB, .int (nI L), .null, .int (nI 0)]))] := hD
  refine lv_aload_n hx hb dX0_init_14 rfl (lv_at hl 0 rfl) ?_
  refine lv_aload_n hx hb dX0_init_15 rfl (lv_at hl 3 rfl) ?_
  refine va_putF (D := (dC, dI)) (ci := 0) (v := .ref hT) (ty := .object "WildCards$Things") (C := RX0) (T := TX0) (N := 4) hx hb hts (by decide +kernel) tyX0 tyX0_ok nmX0 hown hK hP hD hS 0 rfl rfl 2 (by decide) (hts (.fieldLink RX0 19 "WildCards$Reader" "things" "LWildCards$Things;") (by decide +kernel)) (fun _ h9 => h9) rfl hin rfl (by decide +kernel) rfl rfl (Nat.le_of_ble_eq_true rfl) dX0_init_16 (fun H locs hP hD hS => ?_)
  have hP : va_P (dC, dI) vwCl [(hR, .inr (0, [.ref qB, .int (nI L), .ref hT, .int (nI 0)]))] H := hP
  have hD : va_D A [(hR, .inr (0, [.ref qB, .int (nI L), .ref hT, .int (nI 0)]))] := hD
  have hP9 := hP.sub (ws' := [(hR, .inr (0, [.ref qB, .int (nI L), .ref hT, .int (nI 0)]))]) [0] rfl
  have hD9 := hD.sub (ws' := [(hR, .inr (0, [.ref qB, .int (nI L), .ref hT, .int (nI 0)]))]) [0] (by decide) rfl
  exact W.vret hx hb hr (fun t ht hW => ⟨⟨(), rfl, trivial, by rw [ht]; exact hP9, va_K.moved hW.alike hK, hD9⟩, hS.F ht⟩) hS.2.2 dX0_init_19
end
section
set_option maxHeartbeats 4000000 in
set_option maxRecDepth 100000 in
theorem c_X0_byteAt (l : Launch) (dC : Nat → ClassId) (dI : Nat → Nat → Nat) (cI cJ cZ : ClassId) (hR qB hT : Nat) (sz : Nat) (L : Nat) (ix : Nat) (a : Nat → Nat) (pp : Nat) (hL : L ≤ 400) (hp : pp < 2 ^ 31) : Met l yX0_byteAt wsX0_byteAt ({ frames := 0, cells := 0, slots := 0, locals := 0 }) (va_Pc [.ref hR, .int (nI pp)] (fun U => U.heap.size = sz ∧ va_P (dC, dI) vwCl [(hR, .inr (0, [.ref qB, .int (nI L), .ref hT, .int (nI ix)])), (qB, .inl (cI, 400, .inl (fun j => nI (a j))))] U.heap ∧ va_K (dC, dI) vwCl [(cI, .int), (cJ, .long), (cZ, .boolean)] U ∧ va_D (fun _ => True) [(hR, .inr (0, [.ref qB, .int (nI L), .ref hT, .int (nI ix)])), (qB, .inl (cI, 400, .inl (fun j => nI (a j))))])) (va_Qi (fun (r : Int32) (u : Unit) => r = if pp < L then nI (a pp) else (-1)) (fun (u : Unit) (t : State) => va_P (dC, dI) vwCl [(hR, .inr (0, [.ref qB, .int (nI L), .ref hT, .int (nI ix)])), (qB, .inl (cI, 400, .inl (fun j => nI (a j))))] t.heap ∧ va_K (dC, dI) vwCl [(cI, .int), (cJ, .long), (cZ, .boolean)] t ∧ va_D (va_A [(hR, .inr (0, [.ref qB, .int (nI L), .ref hT, .int (nI ix)])), (qB, .inl (cI, 400, .inl (fun j => nI (a j))))] sz) [(hR, .inr (0, [.ref qB, .int (nI L), .ref hT, .int (nI ix)])), (qB, .inl (cI, 400, .inl (fun j => nI (a j))))]) (va_A [(hR, .inr (0, [.ref qB, .int (nI L), .ref hT, .int (nI ix)])), (qB, .inl (cI, 400, .inl (fun j => nI (a j))))] sz)) 0 0 (va_A [(hR, .inr (0, [.ref qB, .int (nI L), .ref hT, .int (nI ix)])), (qB, .inl (cI, 400, .inl (fun j => nI (a j))))] sz) := by
  refine Met.ofW (cc := cX0_byteAt) (maxL := 2) (ret := (some .int)) (by decide) rfl ?_
  intro p e s m args below meth c s₁ B hml hv
  obtain ⟨rfl, hsz, hP, hK, hD0⟩ := hv
  have hx := B.exec
  have hb := B.bytes
  have hr := B.returns
  have hts := atoms_spec (ws := wsX0_byteAt) B.pre
  have hown : s.vm.findClass RX0 = some m.cls := findClass_of_methodNamed B.named
  have hlocks := B.notSynchronized
  subst hsz
  have hD := hD0.self (sz := s.heap.size)
  generalize hAe : va_A [(hR, .inr (0, [.ref qB, .int (nI L), .ref hT, .int (nI ix)])), (qB, .inl (cI, 400, .inl (fun j => nI (a j))))] s.heap.size = A at hD ⊢
  have hA : ∀ q : Nat, s.heap.size ≤ q → A q := fun q h => by rw [← hAe]; exact Or.inr h
  have hS : va_S A s.heap s.heap [] := va_S.rf
  have hP : va_P (dC, dI) vwCl [(hR, .inr (0, [.ref qB, .int (nI L), .ref hT, .int (nI ix)])), (qB, .inl (cI, 400, .inl (fun j => nI (a j))))] s.heap := hP
  have hl := lv_entry ([.ref hR, .int (nI pp)]) (n := 2) (Nat.le_of_ble_eq_true rfl)
  rw [lg_entry_eq]
  generalize (lg_sl ([.ref hR, .int (nI pp)]) ++ List.replicate (2 - (lg_sl ([.ref hR, .int (nI pp)])).length) Slot.unset).toArray = ls at hl ⊢
  have hl : lv_has ls 2 [(0, .ref hR), (1, .int (nI pp))] := hl
  skip
  refine lv_iload_n hx hb dX0_byteAt_0 rfl (lv_at hl 1 rfl) ?_
  refine lv_if_lt (tgt := 21) hx hb dX0_byteAt_1 (by decide) (fun c1 => ?_) (fun c1 => ?_)
  · exact absurd c1 (nI_pos (by omega))
  · skip
    refine lv_iload_n hx hb dX0_byteAt_4 rfl (lv_at hl 1 rfl) ?_
    refine lv_aload_n hx hb dX0_byteAt_5 rfl (lv_at hl 0 rfl) ?_
    refine va_get (D := (dC, dI)) (ci := 0) (v := .int (nI L)) (C := RX0) (T := TX0) (N := 4) hx hb hts (by decide +kernel) hown hK hP 0 rfl rfl 1 (by decide) (hts (.fieldLink RX0 15 "WildCards$Reader" "length" "I") (by decide +kernel)) (fun _ h9 => h9) rfl dX0_byteAt_6 ?_
    refine wl_icmp_ge (tgt := 21) hx hb dX0_byteAt_9 (by decide) (by omega) (by omega) (fun c9 => ?_) (fun c9 => ?_)
    · skip
      refine lv_iconst (v := (-1)) hx hb dX0_byteAt_21 (by decide) ?_
      have hP9 := hP.sub (ws' := [(hR, .inr (0, [.ref qB, .int (nI L), .ref hT, .int (nI ix)])), (qB, .inl (cI, 400, .inl (fun j => nI (a j))))]) [0, 1] rfl
      have hD9 := hD.sub (ws' := [(hR, .inr (0, [.ref qB, .int (nI L), .ref hT, .int (nI ix)])), (qB, .inl (cI, 400, .inl (fun j => nI (a j))))]) [0, 1] (by decide) rfl
      exact W.iret (v := (-1)) hx hb hr  (fun t ht hW => ⟨⟨(-1), (), rfl, (show ((-1)) = if pp < L then nI (a pp) else (-1) from by rw [if_neg (by omega)]), by rw [ht]; exact hP9, va_K.moved hW.alike hK, hD9⟩, hS.F ht⟩) hS.2.2 dX0_byteAt_22
    · skip
      refine lv_aload_n hx hb dX0_byteAt_12 rfl (lv_at hl 0 rfl) ?_
      refine va_get (D := (dC, dI)) (ci := 0) (v := .ref qB) (C := RX0) (T := TX0) (N := 4) hx hb hts (by decide +kernel) hown hK hP 0 rfl rfl 0 (by decide) (hts (.fieldLink RX0 9 "WildCards$Reader" "bytes" "[I") (by decide +kernel)) (fun _ h9 => h9) rfl dX0_byteAt_13 ?_
      refine lv_iload_n hx hb dX0_byteAt_16 rfl (lv_at hl 1 rfl) ?_
      refine va_iald hx hb hK hP 1 0 rfl rfl (vp_in_nI (by omega) (by omega)) dX0_byteAt_17 ?_
      refine wl_asi (y := nI (a pp)) (by rw [nI_clamp (by omega)]) ?_
      refine lv_goto (tgt := 22) hx hb dX0_byteAt_18 (by decide) ?_
      have hP9 := hP.sub (ws' := [(hR, .inr (0, [.ref qB, .int (nI L), .ref hT, .int (nI ix)])), (qB, .inl (cI, 400, .inl (fun j => nI (a j))))]) [0, 1] rfl
      have hD9 := hD.sub (ws' := [(hR, .inr (0, [.ref qB, .int (nI L), .ref hT, .int (nI ix)])), (qB, .inl (cI, 400, .inl (fun j => nI (a j))))]) [0, 1] (by decide) rfl
      exact W.iret (v := nI (a pp)) hx hb hr  (fun t ht hW => ⟨⟨nI (a pp), (), rfl, (show (nI (a pp)) = if pp < L then nI (a pp) else (-1) from by rw [if_pos c9]), by rw [ht]; exact hP9, va_K.moved hW.alike hK, hD9⟩, hS.F ht⟩) hS.2.2 dX0_byteAt_22
end
section
set_option maxHeartbeats 4000000 in
set_option maxRecDepth 100000 in
theorem c_X0_bracketsEndAt (l : Launch) (dC : Nat → ClassId) (dI : Nat → Nat → Nat) (cI cJ cZ : ClassId) (hR qB hT : Nat) (sz : Nat) (L : Nat) (ix : Nat) (a : Nat → Nat) (pp : Nat) (hL : L ≤ 400) (ha : ∀ j, j < L → a j < 256) (hp : pp < 2 ^ 31) : Met l yX0_bracketsEndAt wsX0_bracketsEndAt ({ frames := 1, cells := 0, slots := 0, locals := 21 }) (va_Pc [.ref hR, .int (nI pp)] (fun U => U.heap.size = sz ∧ va_P (dC, dI) vwCl [(hR, .inr (0, [.ref qB, .int (nI L), .ref hT, .int (nI ix)])), (qB, .inl (cI, 400, .inl (fun j => nI (a j))))] U.heap ∧ va_K (dC, dI) vwCl [(cI, .int), (cJ, .long), (cZ, .boolean)] U ∧ va_D (fun _ => True) [(hR, .inr (0, [.ref qB, .int (nI L), .ref hT, .int (nI ix)])), (qB, .inl (cI, 400, .inl (fun j => nI (a j))))])) (va_Qi (fun (r : Int32) (u : Unit) => r = if bnd a L pp = true then 1 else 0) (fun (u : Unit) (t : State) => va_P (dC, dI) vwCl [(hR, .inr (0, [.ref qB, .int (nI L), .ref hT, .int (nI ix)])), (qB, .inl (cI, 400, .inl (fun j => nI (a j))))] t.heap ∧ va_K (dC, dI) vwCl [(cI, .int), (cJ, .long), (cZ, .boolean)] t ∧ va_D (va_A [(hR, .inr (0, [.ref qB, .int (nI L), .ref hT, .int (nI ix)])), (qB, .inl (cI, 400, .inl (fun j => nI (a j))))] sz) [(hR, .inr (0, [.ref qB, .int (nI L), .ref hT, .int (nI ix)])), (qB, .inl (cI, 400, .inl (fun j => nI (a j))))]) (va_A [(hR, .inr (0, [.ref qB, .int (nI L), .ref hT, .int (nI ix)])), (qB, .inl (cI, 400, .inl (fun j => nI (a j))))] sz)) 0 0 (va_A [(hR, .inr (0, [.ref qB, .int (nI L), .ref hT, .int (nI ix)])), (qB, .inl (cI, 400, .inl (fun j => nI (a j))))] sz) := by
  refine Met.ofW (cc := cX0_bracketsEndAt) (maxL := 3) (ret := (some .boolean)) (by decide) rfl ?_
  intro p e s m args below meth c s₁ B hml hv
  obtain ⟨rfl, hsz, hP, hK, hD0⟩ := hv
  have hx := B.exec
  have hb := B.bytes
  have hr := B.returns
  have hts := atoms_spec (ws := wsX0_bracketsEndAt) B.pre
  have hown : s.vm.findClass RX0 = some m.cls := findClass_of_methodNamed B.named
  have hlocks := B.notSynchronized
  subst hsz
  have hD := hD0.self (sz := s.heap.size)
  generalize hAe : va_A [(hR, .inr (0, [.ref qB, .int (nI L), .ref hT, .int (nI ix)])), (qB, .inl (cI, 400, .inl (fun j => nI (a j))))] s.heap.size = A at hD ⊢
  have hA : ∀ q : Nat, s.heap.size ≤ q → A q := fun q h => by rw [← hAe]; exact Or.inr h
  have hS : va_S A s.heap s.heap [] := va_S.rf
  have hP : va_P (dC, dI) vwCl [(hR, .inr (0, [.ref qB, .int (nI L), .ref hT, .int (nI ix)])), (qB, .inl (cI, 400, .inl (fun j => nI (a j))))] s.heap := hP
  have hl := lv_entry ([.ref hR, .int (nI pp)]) (n := 3) (Nat.le_of_ble_eq_true rfl)
  rw [lg_entry_eq]
  generalize (lg_sl ([.ref hR, .int (nI pp)]) ++ List.replicate (3 - (lg_sl ([.ref hR, .int (nI pp)])).length) Slot.unset).toArray = ls at hl ⊢
  have hl : lv_has ls 3 [(0, .ref hR), (1, .int (nI pp))] := hl
  skip
  refine lv_aload_n hx hb dX0_bracketsEndAt_0 rfl (lv_at hl 0 rfl) ?_
  refine lv_iload_n hx hb dX0_bracketsEndAt_1 rfl (lv_at hl 1 rfl) ?_
  have hPc := hP.sub (ws' := [(hR, .inr (0, [.ref qB, .int (nI L), .ref hT, .int (nI ix)])), (qB, .inl (cI, 400, .inl (fun j => nI (a j))))]) [0, 1] rfl
  have hDc := hD.sub (ws' := [(hR, .inr (0, [.ref qB, .int (nI L), .ref hT, .int (nI ix)])), (qB, .inl (cI, 400, .inl (fun j => nI (a j))))]) [0, 1] (by decide) rfl
  have hFc := va_free (wc := [(hR, .inr (0, [.ref qB, .int (nI L), .ref hT, .int (nI ix)])), (qB, .inl (cI, 400, .inl (fun j => nI (a j))))]) hD hS hA [0, 1] rfl
  refine va_calli (va_runV (As := [.int (nI pp)]) (rest := []) ⟨hx, hb, hml, hown, hts⟩ (c_X0_byteAt l dC dI cI cJ cZ hR qB hT s.heap.size L ix a pp (by omega) (by omega)) (cwV 1 hts gX0_bracketsEndAt_X0_byteAt rfl rfl rfl (by decide +kernel) ⟨Nat.le_of_ble_eq_true rfl, Nat.le_of_ble_eq_true rfl⟩) ⟨fun a U g mk q => by obtain ⟨q0, q1, qP, qK, qD⟩ := q; exact ⟨q0, q1, qP, va_K.moved (u := U) (U := U.calling g mk a) (Vm.Alike.refl U.vm) qK, qD⟩, va_recv hK hPc (ci := 0) (q0 := 0) rfl rfl, fun U hU hW => ⟨rfl, by rw [hU], by rw [hU]; exact hPc, va_K.moved hW.alike hK, hDc.weaken (fun _ _ _ _ => trivial)⟩⟩ rfl rfl hl.1 rfl (lv_room (Nat.le_of_ble_eq_true rfl)) dX0_bracketsEndAt_2 ⟨show 0 + 0 ≤ 0 from by decide, show 0 + 0 ≤ 0 from by decide⟩) hS (fun q _ h => hFc q h) hFc (fun r2 u t H1 locs ht hvm hw2 hB hz1 hk1 hS => ?_)
  obtain ⟨hP1, hK1, hD1⟩ := hB
  rw [ht] at hP1
  try dsimp only at hw2 hP1 hD1
  obtain ⟨hP, hD⟩ := va_join (wr := []) (w1 := [(hR, .inr (0, [.ref qB, .int (nI L), .ref hT, .int (nI ix)])), (qB, .inl (cI, 400, .inl (fun j => nI (a j))))]) hP hD [0, 1] [] rfl rfl (by decide) (by decide) hk1 hFc hP1 hD1
  generalize H1 = H at hP hS ⊢
  have hP : va_P (dC, dI) vwCl [(hR, .inr (0, [.ref qB, .int (nI L), .ref hT, .int (nI ix)])), (qB, .inl (cI, 400, .inl (fun j => nI (a j))))] H := hP
  have hD : va_D A [(hR, .inr (0, [.ref qB, .int (nI L), .ref hT, .int (nI ix)])), (qB, .inl (cI, 400, .inl (fun j => nI (a j))))] := hD
  by_cases hp2 : pp < L
  · skip
    have h8 := ha pp hp2
    refine wl_asi (y := nI (a pp)) (by rw [hw2, if_pos hp2]) ?_
    refine lv_istore_n (lv' := [(2, .int (nI (a pp))), (0, .ref hR), (1, .int (nI pp))]) hx hb dX0_bracketsEndAt_5 rfl hl (by decide) rfl (fun ls hl => ?_)
    refine lv_iload_n hx hb dX0_bracketsEndAt_6 rfl (lv_at hl 0 rfl) ?_
    refine lv_bipush (v := nI 93) hx hb dX0_bracketsEndAt_7 (by decide) ?_
    refine wl_icmp_eq (tgt := 17) hx hb dX0_bracketsEndAt_9 (by decide) (by omega) (by omega) (fun c9 => ?_) (fun c9 => ?_)
    · skip
      refine lv_iconst (v := nI 1) hx hb dX0_bracketsEndAt_17 (by decide) ?_
      refine lv_goto (tgt := 22) hx hb dX0_bracketsEndAt_18 (by decide) ?_
      have hP9 := hP.sub (ws' := [(hR, .inr (0, [.ref qB, .int (nI L), .ref hT, .int (nI ix)])), (qB, .inl (cI, 400, .inl (fun j => nI (a j))))]) [0, 1] rfl
      have hD9 := hD.sub (ws' := [(hR, .inr (0, [.ref qB, .int (nI L), .ref hT, .int (nI ix)])), (qB, .inl (cI, 400, .inl (fun j => nI (a j))))]) [0, 1] (by decide) rfl
      exact W.zret (v := nI 1) hx hb hr (by decide) (fun t ht hW => ⟨⟨nI 1, (), rfl, (show (nI 1) = if bnd a L pp = true then 1 else 0 from bn_1 (Or.inr c9)), by rw [ht]; exact hP9, va_K.moved hW.alike hK, hD9⟩, hS.F ht⟩) hS.2.2 dX0_bracketsEndAt_22
    · skip
      refine lv_iload_n hx hb dX0_bracketsEndAt_12 rfl (lv_at hl 0 rfl) ?_
      refine lv_iconst (v := (-1)) hx hb dX0_bracketsEndAt_13 (by decide) ?_
      refine lv_icmp_ne (tgt := 21) hx hb dX0_bracketsEndAt_14 (by decide) (fun c14 => ?_) (fun c14 => ?_)
      · skip
        refine lv_iconst (v := nI 0) hx hb dX0_bracketsEndAt_21 (by decide) ?_
        have hP9 := hP.sub (ws' := [(hR, .inr (0, [.ref qB, .int (nI L), .ref hT, .int (nI ix)])), (qB, .inl (cI, 400, .inl (fun j => nI (a j))))]) [0, 1] rfl
        have hD9 := hD.sub (ws' := [(hR, .inr (0, [.ref qB, .int (nI L), .ref hT, .int (nI ix)])), (qB, .inl (cI, 400, .inl (fun j => nI (a j))))]) [0, 1] (by decide) rfl
        exact W.zret (v := nI 0) hx hb hr (by decide) (fun t ht hW => ⟨⟨nI 0, (), rfl, (show (nI 0) = if bnd a L pp = true then 1 else 0 from bn_0 hp2 c9), by rw [ht]; exact hP9, va_K.moved hW.alike hK, hD9⟩, hS.F ht⟩) hS.2.2 dX0_bracketsEndAt_22
      · skip
        first | exact absurd c14 (nI_m1 (by omega)) | exact absurd (nI_m1 (by omega)) c14
  · skip
    refine wl_asi (y := (-1)) (by rw [hw2, if_neg hp2]) ?_
    refine lv_istore_n (lv' := [(2, .int (-1)), (0, .ref hR), (1, .int (nI pp))]) hx hb dX0_bracketsEndAt_5 rfl hl (by decide) rfl (fun ls hl => ?_)
    refine lv_iload_n hx hb dX0_bracketsEndAt_6 rfl (lv_at hl 0 rfl) ?_
    refine lv_bipush (v := nI 93) hx hb dX0_bracketsEndAt_7 (by decide) ?_
    refine lv_icmp_eq (tgt := 17) hx hb dX0_bracketsEndAt_9 (by decide) (fun c9 => ?_) (fun c9 => ?_)
    · skip
      exact absurd c9 (by decide)
    · skip
      refine lv_iload_n hx hb dX0_bracketsEndAt_12 rfl (lv_at hl 0 rfl) ?_
      refine lv_iconst (v := (-1)) hx hb dX0_bracketsEndAt_13 (by decide) ?_
      refine lv_icmp_ne (tgt := 21) hx hb dX0_bracketsEndAt_14 (by decide) (fun c14 => ?_) (fun c14 => ?_)
      · skip
        exact absurd rfl c14
      · skip
        refine lv_iconst (v := nI 1) hx hb dX0_bracketsEndAt_17 (by decide) ?_
        refine lv_goto (tgt := 22) hx hb dX0_bracketsEndAt_18 (by decide) ?_
        have hP9 := hP.sub (ws' := [(hR, .inr (0, [.ref qB, .int (nI L), .ref hT, .int (nI ix)])), (qB, .inl (cI, 400, .inl (fun j => nI (a j))))]) [0, 1] rfl
        have hD9 := hD.sub (ws' := [(hR, .inr (0, [.ref qB, .int (nI L), .ref hT, .int (nI ix)])), (qB, .inl (cI, 400, .inl (fun j => nI (a j))))]) [0, 1] (by decide) rfl
        exact W.zret (v := nI 1) hx hb hr (by decide) (fun t ht hW => ⟨⟨nI 1, (), rfl, (show (nI 1) = if bnd a L pp = true then 1 else 0 from bn_1 (Or.inl (by omega))), by rw [ht]; exact hP9, va_K.moved hW.alike hK, hD9⟩, hS.F ht⟩) hS.2.2 dX0_bracketsEndAt_22
end
section
set_option maxHeartbeats 4000000 in
set_option maxRecDepth 100000 in
theorem c_X0_readByte (l : Launch) (dC : Nat → ClassId) (dI : Nat → Nat → Nat) (cI cJ cZ : ClassId) (hR qB hT : Nat) (sz : Nat) (L : Nat) (ix : Nat) (a : Nat → Nat) (hL : L ≤ 400) (ha : ∀ j, j < L → a j < 256) (hat : ix < L) : Met l yX0_readByte wsX0_readByte ({ frames := 1, cells := 0, slots := 0, locals := 21 }) (va_Pc [.ref hR] (fun U => U.heap.size = sz ∧ va_P (dC, dI) vwCl [(hR, .inr (0, [.ref qB, .int (nI L), .ref hT, .int (nI ix)])), (qB, .inl (cI, 400, .inl (fun j => nI (a j))))] U.heap ∧ va_K (dC, dI) vwCl [(cI, .int), (cJ, .long), (cZ, .boolean)] U ∧ va_D (fun _ => True) [(hR, .inr (0, [.ref qB, .int (nI L), .ref hT, .int (nI ix)])), (qB, .inl (cI, 400, .inl (fun j => nI (a j))))])) (va_Qi (fun (r : Int32) (u : Nat) => u = rbn a L ix ∧ r = nI (rbv a L ix)) (fun (u : Nat) (t : State) => va_P (dC, dI) vwCl [(hR, .inr (0, [.ref qB, .int (nI L), .ref hT, .int (nI u)])), (qB, .inl (cI, 400, .inl (fun j => nI (a j))))] t.heap ∧ va_K (dC, dI) vwCl [(cI, .int), (cJ, .long), (cZ, .boolean)] t ∧ va_D (va_A [(hR, .inr (0, [.ref qB, .int (nI L), .ref hT, .int (nI ix)])), (qB, .inl (cI, 400, .inl (fun j => nI (a j))))] sz) [(hR, .inr (0, [.ref qB, .int (nI L), .ref hT, .int (nI u)])), (qB, .inl (cI, 400, .inl (fun j => nI (a j))))]) (va_A [(hR, .inr (0, [.ref qB, .int (nI L), .ref hT, .int (nI ix)])), (qB, .inl (cI, 400, .inl (fun j => nI (a j))))] sz)) 0 0 (va_A [(hR, .inr (0, [.ref qB, .int (nI L), .ref hT, .int (nI ix)])), (qB, .inl (cI, 400, .inl (fun j => nI (a j))))] sz) := by
  refine Met.ofW (cc := cX0_readByte) (maxL := 2) (ret := (some .int)) (by decide) rfl ?_
  intro p e s m args below meth c s₁ B hml hv
  obtain ⟨rfl, hsz, hP, hK, hD0⟩ := hv
  have hx := B.exec
  have hb := B.bytes
  have hr := B.returns
  have hts := atoms_spec (ws := wsX0_readByte) B.pre
  have hown : s.vm.findClass RX0 = some m.cls := findClass_of_methodNamed B.named
  have hlocks := B.notSynchronized
  subst hsz
  have hD := hD0.self (sz := s.heap.size)
  generalize hAe : va_A [(hR, .inr (0, [.ref qB, .int (nI L), .ref hT, .int (nI ix)])), (qB, .inl (cI, 400, .inl (fun j => nI (a j))))] s.heap.size = A at hD ⊢
  have hA : ∀ q : Nat, s.heap.size ≤ q → A q := fun q h => by rw [← hAe]; exact Or.inr h
  have hS : va_S A s.heap s.heap [] := va_S.rf
  have hP : va_P (dC, dI) vwCl [(hR, .inr (0, [.ref qB, .int (nI L), .ref hT, .int (nI ix)])), (qB, .inl (cI, 400, .inl (fun j => nI (a j))))] s.heap := hP
  have hl := lv_entry ([.ref hR]) (n := 2) (Nat.le_of_ble_eq_true rfl)
  rw [lg_entry_eq]
  generalize (lg_sl ([.ref hR]) ++ List.replicate (2 - (lg_sl ([.ref hR])).length) Slot.unset).toArray = ls at hl ⊢
  have hl : lv_has ls 2 [(0, .ref hR)] := hl
  skip
  have h8 := ha ix hat
  refine lv_aload_n hx hb dX0_readByte_0 rfl (lv_at hl 0 rfl) ?_
  refine lv_aload_n hx hb dX0_readByte_1 rfl (lv_at hl 0 rfl) ?_
  refine va_get (D := (dC, dI)) (ci := 0) (v := .int (nI ix)) (C := RX0) (T := TX0) (N := 4) hx hb hts (by decide +kernel) hown hK hP 0 rfl rfl 3 (by decide) (hts (.fieldLink RX0 23 "WildCards$Reader" "at" "I") (by decide +kernel)) (fun _ h9 => h9) rfl dX0_readByte_2 ?_
  have hPc := hP.sub (ws' := [(hR, .inr (0, [.ref qB, .int (nI L), .ref hT, .int (nI ix)])), (qB, .inl (cI, 400, .inl (fun j => nI (a j))))]) [0, 1] rfl
  have hDc := hD.sub (ws' := [(hR, .inr (0, [.ref qB, .int (nI L), .ref hT, .int (nI ix)])), (qB, .inl (cI, 400, .inl (fun j => nI (a j))))]) [0, 1] (by decide) rfl
  have hFc := va_free (wc := [(hR, .inr (0, [.ref qB, .int (nI L), .ref hT, .int (nI ix)])), (qB, .inl (cI, 400, .inl (fun j => nI (a j))))]) hD hS hA [0, 1] rfl
  refine va_calli (va_runV (As := [.int (nI ix)]) (rest := []) ⟨hx, hb, hml, hown, hts⟩ (c_X0_byteAt l dC dI cI cJ cZ hR qB hT s.heap.size L ix a ix (by omega) (by omega)) (cwV 1 hts gX0_readByte_X0_byteAt rfl rfl rfl (by decide +kernel) ⟨Nat.le_of_ble_eq_true rfl, Nat.le_of_ble_eq_true rfl⟩) ⟨fun a U g mk q => by obtain ⟨q0, q1, qP, qK, qD⟩ := q; exact ⟨q0, q1, qP, va_K.moved (u := U) (U := U.calling g mk a) (Vm.Alike.refl U.vm) qK, qD⟩, va_recv hK hPc (ci := 0) (q0 := 0) rfl rfl, fun U hU hW => ⟨rfl, by rw [hU], by rw [hU]; exact hPc, va_K.moved hW.alike hK, hDc.weaken (fun _ _ _ _ => trivial)⟩⟩ rfl rfl hl.1 rfl (lv_room (Nat.le_of_ble_eq_true rfl)) dX0_readByte_5 ⟨show 0 + 0 ≤ 0 from by decide, show 0 + 0 ≤ 0 from by decide⟩) hS (fun q _ h => hFc q h) hFc (fun r5 u t H1 locs ht hvm hw5 hB hz1 hk1 hS => ?_)
  obtain ⟨hP1, hK1, hD1⟩ := hB
  rw [ht] at hP1
  try dsimp only at hw5 hP1 hD1
  obtain ⟨hP, hD⟩ := va_join (wr := []) (w1 := [(hR, .inr (0, [.ref qB, .int (nI L), .ref hT, .int (nI ix)])), (qB, .inl (cI, 400, .inl (fun j => nI (a j))))]) hP hD [0, 1] [] rfl rfl (by decide) (by decide) hk1 hFc hP1 hD1
  generalize H1 = H at hP hS ⊢
  have hP : va_P (dC, dI) vwCl [(hR, .inr (0, [.ref qB, .int (nI L), .ref hT, .int (nI ix)])), (qB, .inl (cI, 400, .inl (fun j => nI (a j))))] H := hP
  have hD : va_D A [(hR, .inr (0, [.ref qB, .int (nI L), .ref hT, .int (nI ix)])), (qB, .inl (cI, 400, .inl (fun j => nI (a j))))] := hD
  refine wl_asi (y := nI (a ix)) (by rw [hw5, if_pos hat]) ?_
  refine lv_istore_n (lv' := [(1, .int (nI (a ix))), (0, .ref hR)]) hx hb dX0_readByte_8 rfl hl (by decide) rfl (fun ls hl => ?_)
  refine lv_aload_n hx hb dX0_readByte_9 rfl (lv_at hl 1 rfl) ?_
  refine lv_dup hx hb dX0_readByte_10 rfl ?_
  refine va_get (D := (dC, dI)) (ci := 0) (v := .int (nI ix)) (C := RX0) (T := TX0) (N := 4) hx hb hts (by decide +kernel) hown hK hP 0 rfl rfl 3 (by decide) (hts (.fieldLink RX0 23 "WildCards$Reader" "at" "I") (by decide +kernel)) (fun _ h9 => h9) rfl dX0_readByte_11 ?_
  refine lv_iconst (v := nI 1) hx hb dX0_readByte_14 (by decide) ?_
  refine lv_iadd hx hb dX0_readByte_15 ?_
  refine wl_asi (y := nI (ix + 1)) (nI_add _ _) ?_
  refine va_put (D := (dC, dI)) (ci := 0) (v := .int (nI (ix + 1))) (ty := .int) (C := RX0) (T := TX0) (N := 4) hx hb hts (by decide +kernel) tyX0 tyX0_ok nmX0 hown hK hP hD hS 0 rfl rfl 3 (by decide) (hts (.fieldLink RX0 23 "WildCards$Reader" "at" "I") (by decide +kernel)) (fun _ h9 => h9) rfl (by decide +kernel) rfl rfl (Nat.le_of_ble_eq_true rfl) dX0_readByte_16 (fun H locs hP hD hS => ?_)
  have hP : va_P (dC, dI) vwCl [(hR, .inr (0, [.ref qB, .int (nI L), .ref hT, .int (nI (ix + 1))])), (qB, .inl (cI, 400, .inl (fun j => nI (a j))))] H := hP
  have hD : va_D A [(hR, .inr (0, [.ref qB, .int (nI L), .ref hT, .int (nI (ix + 1))])), (qB, .inl (cI, 400, .inl (fun j => nI (a j))))] := hD
  refine lv_iload_n hx hb dX0_readByte_19 rfl (lv_at hl 0 rfl) ?_
  refine lv_bipush (v := nI 92) hx hb dX0_readByte_20 (by decide) ?_
  refine wl_icmp_ne (tgt := 55) hx hb dX0_readByte_22 (by decide) (by omega) (by omega) (fun c22 => ?_) (fun c22 => ?_)
  · skip
    refine lv_iload_n hx hb dX0_readByte_55 rfl (lv_at hl 0 rfl) ?_
    have hP9 := hP.sub (ws' := [(hR, .inr (0, [.ref qB, .int (nI L), .ref hT, .int (nI (ix + 1))])), (qB, .inl (cI, 400, .inl (fun j => nI (a j))))]) [0, 1] rfl
    have hD9 := hD.sub (ws' := [(hR, .inr (0, [.ref qB, .int (nI L), .ref hT, .int (nI (ix + 1))])), (qB, .inl (cI, 400, .inl (fun j => nI (a j))))]) [0, 1] (by decide) rfl
    exact W.iret (v := nI (a ix)) hx hb hr  (fun t ht hW => ⟨⟨nI (a ix), ix + 1, rfl, (show (ix + 1) = rbn a L ix ∧ (nI (a ix)) = nI (rbv a L ix) from rb_a c22), by rw [ht]; exact hP9, va_K.moved hW.alike hK, hD9⟩, hS.F ht⟩) hS.2.2 dX0_readByte_56
  · skip
    refine lv_aload_n hx hb dX0_readByte_25 rfl (lv_at hl 1 rfl) ?_
    refine va_get (D := (dC, dI)) (ci := 0) (v := .int (nI (ix + 1))) (C := RX0) (T := TX0) (N := 4) hx hb hts (by decide +kernel) hown hK hP 0 rfl rfl 3 (by decide) (hts (.fieldLink RX0 23 "WildCards$Reader" "at" "I") (by decide +kernel)) (fun _ h9 => h9) rfl dX0_readByte_26 ?_
    refine lv_aload_n hx hb dX0_readByte_29 rfl (lv_at hl 1 rfl) ?_
    refine va_get (D := (dC, dI)) (ci := 0) (v := .int (nI L)) (C := RX0) (T := TX0) (N := 4) hx hb hts (by decide +kernel) hown hK hP 0 rfl rfl 1 (by decide) (hts (.fieldLink RX0 15 "WildCards$Reader" "length" "I") (by decide +kernel)) (fun _ h9 => h9) rfl dX0_readByte_30 ?_
    refine wl_icmp_ge (tgt := 55) hx hb dX0_readByte_33 (by decide) (by omega) (by omega) (fun c33 => ?_) (fun c33 => ?_)
    · skip
      refine lv_iload_n hx hb dX0_readByte_55 rfl (lv_at hl 0 rfl) ?_
      have hP9 := hP.sub (ws' := [(hR, .inr (0, [.ref qB, .int (nI L), .ref hT, .int (nI (ix + 1))])), (qB, .inl (cI, 400, .inl (fun j => nI (a j))))]) [0, 1] rfl
      have hD9 := hD.sub (ws' := [(hR, .inr (0, [.ref qB, .int (nI L), .ref hT, .int (nI (ix + 1))])), (qB, .inl (cI, 400, .inl (fun j => nI (a j))))]) [0, 1] (by decide) rfl
      exact W.iret (v := nI (a ix)) hx hb hr  (fun t ht hW => ⟨⟨nI (a ix), ix + 1, rfl, (show (ix + 1) = rbn a L ix ∧ (nI (a ix)) = nI (rbv a L ix) from rb_b c33), by rw [ht]; exact hP9, va_K.moved hW.alike hK, hD9⟩, hS.F ht⟩) hS.2.2 dX0_readByte_56
    · skip
      have h9 := ha (ix + 1) c33
      refine lv_aload_n hx hb dX0_readByte_36 rfl (lv_at hl 1 rfl) ?_
      refine lv_aload_n hx hb dX0_readByte_37 rfl (lv_at hl 1 rfl) ?_
      refine va_get (D := (dC, dI)) (ci := 0) (v := .int (nI (ix + 1))) (C := RX0) (T := TX0) (N := 4) hx hb hts (by decide +kernel) hown hK hP 0 rfl rfl 3 (by decide) (hts (.fieldLink RX0 23 "WildCards$Reader" "at" "I") (by decide +kernel)) (fun _ h9 => h9) rfl dX0_readByte_38 ?_
      have hPc := hP.sub (ws' := [(hR, .inr (0, [.ref qB, .int (nI L), .ref hT, .int (nI (ix + 1))])), (qB, .inl (cI, 400, .inl (fun j => nI (a j))))]) [0, 1] rfl
      have hDc := hD.sub (ws' := [(hR, .inr (0, [.ref qB, .int (nI L), .ref hT, .int (nI (ix + 1))])), (qB, .inl (cI, 400, .inl (fun j => nI (a j))))]) [0, 1] (by decide) rfl
      have hFc := va_free (wc := [(hR, .inr (0, [.ref qB, .int (nI L), .ref hT, .int (nI (ix + 1))])), (qB, .inl (cI, 400, .inl (fun j => nI (a j))))]) hD hS hA [0, 1] rfl
      refine va_calli (va_runV (As := [.int (nI (ix + 1))]) (rest := []) ⟨hx, hb, hml, hown, hts⟩ (c_X0_byteAt l dC dI cI cJ cZ hR qB hT H.size L (ix + 1) a (ix + 1) (by omega) (by omega)) (cwV 1 hts gX0_readByte_X0_byteAt rfl rfl rfl (by decide +kernel) ⟨Nat.le_of_ble_eq_true rfl, Nat.le_of_ble_eq_true rfl⟩) ⟨fun a U g mk q => by obtain ⟨q0, q1, qP, qK, qD⟩ := q; exact ⟨q0, q1, qP, va_K.moved (u := U) (U := U.calling g mk a) (Vm.Alike.refl U.vm) qK, qD⟩, va_recv hK hPc (ci := 0) (q0 := 0) rfl rfl, fun U hU hW => ⟨rfl, by rw [hU], by rw [hU]; exact hPc, va_K.moved hW.alike hK, hDc.weaken (fun _ _ _ _ => trivial)⟩⟩ rfl rfl hl.1 rfl (lv_room (Nat.le_of_ble_eq_true rfl)) dX0_readByte_41 ⟨show 0 + 0 + 0 ≤ 0 from by decide, show 0 + 0 + 0 ≤ 0 from by decide⟩) hS (fun q _ h => hFc q h) hFc (fun r41 u t H1 locs ht hvm hw41 hB hz1 hk1 hS => ?_)
      obtain ⟨hP1, hK1, hD1⟩ := hB
      rw [ht] at hP1
      try dsimp only at hw41 hP1 hD1
      obtain ⟨hP, hD⟩ := va_join (wr := []) (w1 := [(hR, .inr (0, [.ref qB, .int (nI L), .ref hT, .int (nI (ix + 1))])), (qB, .inl (cI, 400, .inl (fun j => nI (a j))))]) hP hD [0, 1] [] rfl rfl (by decide) (by decide) hk1 hFc hP1 hD1
      generalize H1 = H at hP hS ⊢
      have hP : va_P (dC, dI) vwCl [(hR, .inr (0, [.ref qB, .int (nI L), .ref hT, .int (nI (ix + 1))])), (qB, .inl (cI, 400, .inl (fun j => nI (a j))))] H := hP
      have hD : va_D A [(hR, .inr (0, [.ref qB, .int (nI L), .ref hT, .int (nI (ix + 1))])), (qB, .inl (cI, 400, .inl (fun j => nI (a j))))] := hD
      refine wl_asi (y := nI (a (ix + 1))) (by rw [hw41, if_pos c33]) ?_
      refine lv_istore_n (lv' := [(1, .int (nI (a (ix + 1)))), (0, .ref hR)]) hx hb dX0_readByte_44 rfl hl (by decide) rfl (fun ls hl => ?_)
      refine lv_aload_n hx hb dX0_readByte_45 rfl (lv_at hl 1 rfl) ?_
      refine lv_dup hx hb dX0_readByte_46 rfl ?_
      refine va_get (D := (dC, dI)) (ci := 0) (v := .int (nI (ix + 1))) (C := RX0) (T := TX0) (N := 4) hx hb hts (by decide +kernel) hown hK hP 0 rfl rfl 3 (by decide) (hts (.fieldLink RX0 23 "WildCards$Reader" "at" "I") (by decide +kernel)) (fun _ h9 => h9) rfl dX0_readByte_47 ?_
      refine lv_iconst (v := nI 1) hx hb dX0_readByte_50 (by decide) ?_
      refine lv_iadd hx hb dX0_readByte_51 ?_
      refine wl_asi (y := nI ((ix + 1) + 1)) (nI_add _ _) ?_
      refine va_put (D := (dC, dI)) (ci := 0) (v := .int (nI ((ix + 1) + 1))) (ty := .int) (C := RX0) (T := TX0) (N := 4) hx hb hts (by decide +kernel) tyX0 tyX0_ok nmX0 hown hK hP hD hS 0 rfl rfl 3 (by decide) (hts (.fieldLink RX0 23 "WildCards$Reader" "at" "I") (by decide +kernel)) (fun _ h9 => h9) rfl (by decide +kernel) rfl rfl (Nat.le_of_ble_eq_true rfl) dX0_readByte_52 (fun H locs hP hD hS => ?_)
      have hP : va_P (dC, dI) vwCl [(hR, .inr (0, [.ref qB, .int (nI L), .ref hT, .int (nI ((ix + 1) + 1))])), (qB, .inl (cI, 400, .inl (fun j => nI (a j))))] H := hP
      have hD : va_D A [(hR, .inr (0, [.ref qB, .int (nI L), .ref hT, .int (nI ((ix + 1) + 1))])), (qB, .inl (cI, 400, .inl (fun j => nI (a j))))] := hD
      refine lv_iload_n hx hb dX0_readByte_55 rfl (lv_at hl 0 rfl) ?_
      have hP9 := hP.sub (ws' := [(hR, .inr (0, [.ref qB, .int (nI L), .ref hT, .int (nI ((ix + 1) + 1))])), (qB, .inl (cI, 400, .inl (fun j => nI (a j))))]) [0, 1] rfl
      have hD9 := hD.sub (ws' := [(hR, .inr (0, [.ref qB, .int (nI L), .ref hT, .int (nI ((ix + 1) + 1))])), (qB, .inl (cI, 400, .inl (fun j => nI (a j))))]) [0, 1] (by decide) rfl
      exact W.iret (v := nI (a (ix + 1))) hx hb hr  (fun t ht hW => ⟨⟨nI (a (ix + 1)), (ix + 1) + 1, rfl, (show ((ix + 1) + 1) = rbn a L ix ∧ (nI (a (ix + 1))) = nI (rbv a L ix) from rb_c c22 c33), by rw [ht]; exact hP9, va_K.moved hW.alike hK, hD9⟩, hS.F ht⟩) hS.2.2 dX0_readByte_56
end
section
set_option maxHeartbeats 4000000 in
set_option maxRecDepth 100000 in
theorem c_X0_readTold (l : Launch) (dC : Nat → ClassId) (dI : Nat → Nat → Nat) (cI cJ cZ : ClassId) (hR qB hT qT qL qR : Nat) (sz : Nat) (L : Nat) (ix : Nat) (a : Nat → Nat) (cnt : Nat) (fT : Nat → Int64) (fL : Nat → Int64) (fR : Nat → Int64) (tb : Nat) (hL : L ≤ 400) (ha : ∀ j, j < L → a j < 256) (hat : ix < L) (hc : cnt < 448) (htb : tb < 2) : Met l yX0_readTold wsX0_readTold ({ frames := 2, cells := 0, slots := 0, locals := 47 }) (va_Pc [.ref hR, .int (nI tb)] (fun U => U.heap.size = sz ∧ va_P (dC, dI) vwCl [(hR, .inr (0, [.ref qB, .int (nI L), .ref hT, .int (nI ix)])), (qB, .inl (cI, 400, .inl (fun j => nI (a j)))), (hT, .inr (1, [.ref qT, .ref qL, .ref qR, .int (nI cnt)])), (qT, .inl (cJ, 1792, .inr (.inl fT))), (qL, .inl (cJ, 7, .inr (.inl fL))), (qR, .inl (cJ, 7, .inr (.inl fR)))] U.heap ∧ va_K (dC, dI) vwCl [(cI, .int), (cJ, .long), (cZ, .boolean)] U ∧ va_D (fun _ => True) [(hR, .inr (0, [.ref qB, .int (nI L), .ref hT, .int (nI ix)])), (qB, .inl (cI, 400, .inl (fun j => nI (a j)))), (hT, .inr (1, [.ref qT, .ref qL, .ref qR, .int (nI cnt)])), (qT, .inl (cJ, 1792, .inr (.inl fT))), (qL, .inl (cJ, 7, .inr (.inl fL))), (qR, .inl (cJ, 7, .inr (.inl fR)))])) (va_Qv (fun (u : Nat × (Nat → Int64)) => u.1 = tnx a L ix ∧ ∀ x k, k < 448 → lb u.2 (448 * x + k) = if k = cnt ∧ rbv a L ix ≤ x ∧ x ≤ thi a L ix then decide (tb ≠ 0) else lb fT (448 * x + k)) (fun (u : Nat × (Nat → Int64)) (t : State) => va_P (dC, dI) vwCl [(hR, .inr (0, [.ref qB, .int (nI L), .ref hT, .int (nI u.1)])), (qB, .inl (cI, 400, .inl (fun j => nI (a j)))), (hT, .inr (1, [.ref qT, .ref qL, .ref qR, .int (nI cnt)])), (qT, .inl (cJ, 1792, .inr (.inl u.2))), (qL, .inl (cJ, 7, .inr (.inl fL))), (qR, .inl (cJ, 7, .inr (.inl fR)))] t.heap ∧ va_K (dC, dI) vwCl [(cI, .int), (cJ, .long), (cZ, .boolean)] t ∧ va_D (va_A [(hR, .inr (0, [.ref qB, .int (nI L), .ref hT, .int (nI ix)])), (qB, .inl (cI, 400, .inl (fun j => nI (a j)))), (hT, .inr (1, [.ref qT, .ref qL, .ref qR, .int (nI cnt)])), (qT, .inl (cJ, 1792, .inr (.inl fT))), (qL, .inl (cJ, 7, .inr (.inl fL))), (qR, .inl (cJ, 7, .inr (.inl fR)))] sz) [(hR, .inr (0, [.ref qB, .int (nI L), .ref hT, .int (nI u.1)])), (qB, .inl (cI, 400, .inl (fun j => nI (a j)))), (hT, .inr (1, [.ref qT, .ref qL, .ref qR, .int (nI cnt)])), (qT, .inl (cJ, 1792, .inr (.inl u.2))), (qL, .inl (cJ, 7, .inr (.inl fL))), (qR, .inl (cJ, 7, .inr (.inl fR)))]) (va_A [(hR, .inr (0, [.ref qB, .int (nI L), .ref hT, .int (nI ix)])), (qB, .inl (cI, 400, .inl (fun j => nI (a j)))), (hT, .inr (1, [.ref qT, .ref qL, .ref qR, .int (nI cnt)])), (qT, .inl (cJ, 1792, .inr (.inl fT))), (qL, .inl (cJ, 7, .inr (.inl fL))), (qR, .inl (cJ, 7, .inr (.inl fR)))] sz)) 0 0 (va_A [(hR, .inr (0, [.ref qB, .int (nI L), .ref hT, .int (nI ix)])), (qB, .inl (cI, 400, .inl (fun j => nI (a j)))), (hT, .inr (1, [.ref qT, .ref qL, .ref qR, .int (nI cnt)])), (qT, .inl (cJ, 1792, .inr (.inl fT))), (qL, .inl (cJ, 7, .inr (.inl fL))), (qR, .inl (cJ, 7, .inr (.inl fR)))] sz) := by
  refine Met.ofW (cc := cX0_readTold) (maxL := 4) (ret := none) (by decide) rfl ?_
  intro p e s m args below meth c s₁ B hml hv
  obtain ⟨rfl, hsz, hP, hK, hD0⟩ := hv
  have hx := B.exec
  have hb := B.bytes
  have hr := B.returns
  have hts := atoms_spec (ws := wsX0_readTold) B.pre
  have hown : s.vm.findClass RX0 = some m.cls := findClass_of_methodNamed B.named
  have hlocks := B.notSynchronized
  subst hsz
  have hD := hD0.self (sz := s.heap.size)
  generalize hAe : va_A [(hR, .inr (0, [.ref qB, .int (nI L), .ref hT, .int (nI ix)])), (qB, .inl (cI, 400, .inl (fun j => nI (a j)))), (hT, .inr (1, [.ref qT, .ref qL, .ref qR, .int (nI cnt)])), (qT, .inl (cJ, 1792, .inr (.inl fT))), (qL, .inl (cJ, 7, .inr (.inl fL))), (qR, .inl (cJ, 7, .inr (.inl fR)))] s.heap.size = A at hD ⊢
  have hA : ∀ q : Nat, s.heap.size ≤ q → A q := fun q h => by rw [← hAe]; exact Or.inr h
  have hS : va_S A s.heap s.heap [] := va_S.rf
  have hP : va_P (dC, dI) vwCl [(hR, .inr (0, [.ref qB, .int (nI L), .ref hT, .int (nI ix)])), (qB, .inl (cI, 400, .inl (fun j => nI (a j)))), (hT, .inr (1, [.ref qT, .ref qL, .ref qR, .int (nI cnt)])), (qT, .inl (cJ, 1792, .inr (.inl fT))), (qL, .inl (cJ, 7, .inr (.inl fL))), (qR, .inl (cJ, 7, .inr (.inl fR)))] s.heap := hP
  have hl := lv_entry ([.ref hR, .int (nI tb)]) (n := 4) (Nat.le_of_ble_eq_true rfl)
  rw [lg_entry_eq]
  generalize (lg_sl ([.ref hR, .int (nI tb)]) ++ List.replicate (4 - (lg_sl ([.ref hR, .int (nI tb)])).length) Slot.unset).toArray = ls at hl ⊢
  have hl : lv_has ls 4 [(0, .ref hR), (1, .int (nI tb))] := hl
  skip
  refine lv_aload_n hx hb dX0_readTold_0 rfl (lv_at hl 0 rfl) ?_
  have hPc := hP.sub (ws' := [(hR, .inr (0, [.ref qB, .int (nI L), .ref hT, .int (nI ix)])), (qB, .inl (cI, 400, .inl (fun j => nI (a j))))]) [0, 1] rfl
  have hDc := hD.sub (ws' := [(hR, .inr (0, [.ref qB, .int (nI L), .ref hT, .int (nI ix)])), (qB, .inl (cI, 400, .inl (fun j => nI (a j))))]) [0, 1] (by decide) rfl
  have hFc := va_free (wc := [(hR, .inr (0, [.ref qB, .int (nI L), .ref hT, .int (nI ix)])), (qB, .inl (cI, 400, .inl (fun j => nI (a j))))]) hD hS hA [0, 1] rfl
  refine va_calli (va_runV (As := []) (rest := []) ⟨hx, hb, hml, hown, hts⟩ (c_X0_readByte l dC dI cI cJ cZ hR qB hT s.heap.size L ix a hL ha hat) (cwV 0 hts gX0_readTold_X0_readByte rfl rfl rfl (by decide +kernel) ⟨Nat.le_of_ble_eq_true rfl, Nat.le_of_ble_eq_true rfl⟩) ⟨fun a U g mk q => by obtain ⟨q0, q1, qP, qK, qD⟩ := q; exact ⟨q0, q1, qP, va_K.moved (u := U) (U := U.calling g mk a) (Vm.Alike.refl U.vm) qK, qD⟩, va_recv hK hPc (ci := 0) (q0 := 0) rfl rfl, fun U hU hW => ⟨rfl, by rw [hU], by rw [hU]; exact hPc, va_K.moved hW.alike hK, hDc.weaken (fun _ _ _ _ => trivial)⟩⟩ rfl rfl hl.1 rfl (lv_room (Nat.le_of_ble_eq_true rfl)) dX0_readTold_1 ⟨show 0 + 0 ≤ 0 from by decide, show 0 + 0 ≤ 0 from by decide⟩) hS (fun q _ h => hFc q h) hFc (fun r1 u t H1 locs ht hvm hw1 hB hz1 hk1 hS => ?_)
  obtain ⟨ix21, rfl⟩ : ∃ z, z = u := ⟨_, rfl⟩
  obtain ⟨hP1, hK1, hD1⟩ := hB
  rw [ht] at hP1
  try dsimp only at hw1 hP1 hD1
  obtain ⟨hP, hD⟩ := va_join (wr := [(hT, .inr (1, [.ref qT, .ref qL, .ref qR, .int (nI cnt)])), (qT, .inl (cJ, 1792, .inr (.inl fT))), (qL, .inl (cJ, 7, .inr (.inl fL))), (qR, .inl (cJ, 7, .inr (.inl fR)))]) (w1 := [(hR, .inr (0, [.ref qB, .int (nI L), .ref hT, .int (nI ix21)])), (qB, .inl (cI, 400, .inl (fun j => nI (a j))))]) hP hD [0, 1] [2, 3, 4, 5] rfl rfl (by decide) (by decide) hk1 hFc hP1 hD1
  generalize H1 = H at hP hS ⊢
  have hP : va_P (dC, dI) vwCl [(hT, .inr (1, [.ref qT, .ref qL, .ref qR, .int (nI cnt)])), (qT, .inl (cJ, 1792, .inr (.inl fT))), (qL, .inl (cJ, 7, .inr (.inl fL))), (qR, .inl (cJ, 7, .inr (.inl fR))), (hR, .inr (0, [.ref qB, .int (nI L), .ref hT, .int (nI ix21)])), (qB, .inl (cI, 400, .inl (fun j => nI (a j))))] H := hP
  have hD : va_D A [(hT, .inr (1, [.ref qT, .ref qL, .ref qR, .int (nI cnt)])), (qT, .inl (cJ, 1792, .inr (.inl fT))), (qL, .inl (cJ, 7, .inr (.inl fL))), (qR, .inl (cJ, 7, .inr (.inl fR))), (hR, .inr (0, [.ref qB, .int (nI L), .ref hT, .int (nI ix21)])), (qB, .inl (cI, 400, .inl (fun j => nI (a j))))] := hD
  obtain ⟨rfl, hr1⟩ := hw1
  refine wl_asi (y := nI (rbv a L ix)) (hr1) ?_
  have h7 := rbn_le a hat
  have h6 := rbv_lt ha hat
  refine lv_istore_n (lv' := [(2, .int (nI (rbv a L ix))), (0, .ref hR), (1, .int (nI tb))]) hx hb dX0_readTold_4 rfl hl (by decide) rfl (fun ls hl => ?_)
  refine lv_iload_n hx hb dX0_readTold_5 rfl (lv_at hl 0 rfl) ?_
  refine lv_istore_n (lv' := [(3, .int (nI (rbv a L ix))), (2, .int (nI (rbv a L ix))), (0, .ref hR), (1, .int (nI tb))]) hx hb dX0_readTold_6 rfl hl (by decide) rfl (fun ls hl => ?_)
  refine lv_aload_n hx hb dX0_readTold_7 rfl (lv_at hl 2 rfl) ?_
  refine lv_aload_n hx hb dX0_readTold_8 rfl (lv_at hl 2 rfl) ?_
  refine va_get (D := (dC, dI)) (ci := 0) (v := .int (nI (rbn a L ix))) (C := RX0) (T := TX0) (N := 4) hx hb hts (by decide +kernel) hown hK hP 4 rfl rfl 3 (by decide) (hts (.fieldLink RX0 23 "WildCards$Reader" "at" "I") (by decide +kernel)) (fun _ h9 => h9) rfl dX0_readTold_9 ?_
  have hPc := hP.sub (ws' := [(hR, .inr (0, [.ref qB, .int (nI L), .ref hT, .int (nI (rbn a L ix))])), (qB, .inl (cI, 400, .inl (fun j => nI (a j))))]) [4, 5] rfl
  have hDc := hD.sub (ws' := [(hR, .inr (0, [.ref qB, .int (nI L), .ref hT, .int (nI (rbn a L ix))])), (qB, .inl (cI, 400, .inl (fun j => nI (a j))))]) [4, 5] (by decide) rfl
  have hFc := va_free (wc := [(hR, .inr (0, [.ref qB, .int (nI L), .ref hT, .int (nI (rbn a L ix))])), (qB, .inl (cI, 400, .inl (fun j => nI (a j))))]) hD hS hA [4, 5] rfl
  refine va_calli (va_runV (As := [.int (nI (rbn a L ix))]) (rest := []) ⟨hx, hb, hml, hown, hts⟩ (c_X0_byteAt l dC dI cI cJ cZ hR qB hT H.size L (rbn a L ix) a (rbn a L ix) hL (by omega)) (cwV 1 hts gX0_readTold_X0_byteAt rfl rfl rfl (by decide +kernel) ⟨Nat.le_of_ble_eq_true rfl, Nat.le_of_ble_eq_true rfl⟩) ⟨fun a U g mk q => by obtain ⟨q0, q1, qP, qK, qD⟩ := q; exact ⟨q0, q1, qP, va_K.moved (u := U) (U := U.calling g mk a) (Vm.Alike.refl U.vm) qK, qD⟩, va_recv hK hPc (ci := 0) (q0 := 0) rfl rfl, fun U hU hW => ⟨rfl, by rw [hU], by rw [hU]; exact hPc, va_K.moved hW.alike hK, hDc.weaken (fun _ _ _ _ => trivial)⟩⟩ rfl rfl hl.1 rfl (lv_room (Nat.le_of_ble_eq_true rfl)) dX0_readTold_12 ⟨show 0 + 0 + 0 ≤ 0 from by decide, show 0 + 0 + 0 ≤ 0 from by decide⟩) hS (fun q _ h => hFc q h) hFc (fun r12 u t H1 locs ht hvm hw12 hB hz1 hk1 hS => ?_)
  obtain ⟨hP1, hK1, hD1⟩ := hB
  rw [ht] at hP1
  try dsimp only at hw12 hP1 hD1
  obtain ⟨hP, hD⟩ := va_join (wr := [(hT, .inr (1, [.ref qT, .ref qL, .ref qR, .int (nI cnt)])), (qT, .inl (cJ, 1792, .inr (.inl fT))), (qL, .inl (cJ, 7, .inr (.inl fL))), (qR, .inl (cJ, 7, .inr (.inl fR)))]) (w1 := [(hR, .inr (0, [.ref qB, .int (nI L), .ref hT, .int (nI (rbn a L ix))])), (qB, .inl (cI, 400, .inl (fun j => nI (a j))))]) hP hD [4, 5] [0, 1, 2, 3] rfl rfl (by decide) (by decide) hk1 hFc hP1 hD1
  generalize H1 = H at hP hS ⊢
  have hP : va_P (dC, dI) vwCl [(hT, .inr (1, [.ref qT, .ref qL, .ref qR, .int (nI cnt)])), (qT, .inl (cJ, 1792, .inr (.inl fT))), (qL, .inl (cJ, 7, .inr (.inl fL))), (qR, .inl (cJ, 7, .inr (.inl fR))), (hR, .inr (0, [.ref qB, .int (nI L), .ref hT, .int (nI (rbn a L ix))])), (qB, .inl (cI, 400, .inl (fun j => nI (a j))))] H := hP
  have hD : va_D A [(hT, .inr (1, [.ref qT, .ref qL, .ref qR, .int (nI cnt)])), (qT, .inl (cJ, 1792, .inr (.inl fT))), (qL, .inl (cJ, 7, .inr (.inl fL))), (qR, .inl (cJ, 7, .inr (.inl fR))), (hR, .inr (0, [.ref qB, .int (nI L), .ref hT, .int (nI (rbn a L ix))])), (qB, .inl (cI, 400, .inl (fun j => nI (a j))))] := hD
  by_cases hp2 : rbn a L ix < L
  · skip
    have h8 := ha _ hp2
    refine wl_asi (y := nI (a (rbn a L ix))) (by rw [hw12, if_pos hp2]) ?_
    refine lv_bipush (v := nI 45) hx hb dX0_readTold_15 (by decide) ?_
    refine wl_icmp_ne (tgt := 48) hx hb dX0_readTold_17 (by decide) (by omega) (by omega) (fun c17 => ?_) (fun c17 => ?_)
    · skip
      refine lv_aload_n hx hb dX0_readTold_48 rfl (lv_at hl 2 rfl) ?_
      refine va_get (D := (dC, dI)) (ci := 0) (v := .ref hT) (C := RX0) (T := TX0) (N := 4) hx hb hts (by decide +kernel) hown hK hP 4 rfl rfl 2 (by decide) (hts (.fieldLink RX0 19 "WildCards$Reader" "things" "LWildCards$Things;") (by decide +kernel)) (fun _ h9 => h9) rfl dX0_readTold_49 ?_
      refine lv_iload_n hx hb dX0_readTold_52 rfl (lv_at hl 1 rfl) ?_
      refine lv_iload_n hx hb dX0_readTold_53 rfl (lv_at hl 0 rfl) ?_
      refine lv_iload_n hx hb dX0_readTold_54 rfl (lv_at hl 3 rfl) ?_
      have hPc := hP.sub (ws' := [(hT, .inr (1, [.ref qT, .ref qL, .ref qR, .int (nI cnt)])), (qT, .inl (cJ, 1792, .inr (.inl fT))), (qL, .inl (cJ, 7, .inr (.inl fL))), (qR, .inl (cJ, 7, .inr (.inl fR)))]) [0, 1, 2, 3] rfl
      have hDc := hD.sub (ws' := [(hT, .inr (1, [.ref qT, .ref qL, .ref qR, .int (nI cnt)])), (qT, .inl (cJ, 1792, .inr (.inl fT))), (qL, .inl (cJ, 7, .inr (.inl fL))), (qR, .inl (cJ, 7, .inr (.inl fR)))]) [0, 1, 2, 3] (by decide) rfl
      have hFc := va_free (wc := [(hT, .inr (1, [.ref qT, .ref qL, .ref qR, .int (nI cnt)])), (qT, .inl (cJ, 1792, .inr (.inl fT))), (qL, .inl (cJ, 7, .inr (.inl fL))), (qR, .inl (cJ, 7, .inr (.inl fR)))]) hD hS hA [0, 1, 2, 3] rfl
      refine va_callv (va_runV (As := [.int (nI (rbv a L ix)), .int (nI (rbv a L ix)), .int (nI tb)]) (rest := []) ⟨hx, hb, hml, hown, hts⟩ (c_X1_tell l dC dI cI cJ cZ hT qT qL qR H.size cnt fT fL fR (rbv a L ix) (rbv a L ix) tb (by omega) (by omega) (by omega) (by omega)) (cwV 3 hts gX0_readTold_X1_tell rfl rfl rfl (by decide +kernel) ⟨Nat.le_of_ble_eq_true rfl, Nat.le_of_ble_eq_true rfl⟩) ⟨fun a U g mk q => by obtain ⟨q0, q1, qP, qK, qD⟩ := q; exact ⟨q0, q1, qP, va_K.moved (u := U) (U := U.calling g mk a) (Vm.Alike.refl U.vm) qK, qD⟩, va_recv hK hPc (ci := 1) (q0 := 0) rfl rfl, fun U hU hW => ⟨rfl, by rw [hU], by rw [hU]; exact hPc, va_K.moved hW.alike hK, hDc.weaken (fun _ _ _ _ => trivial)⟩⟩ rfl rfl hl.1 rfl (lv_room (Nat.le_of_ble_eq_true rfl)) dX0_readTold_55 ⟨show 0 + 0 + 0 + 0 ≤ 0 from by decide, show 0 + 0 + 0 + 0 ≤ 0 from by decide⟩) hS (fun q _ h => hFc q h) hFc (fun u t H1 locs ht hvm hw55 hB hz1 hk1 hS => ?_)
      obtain ⟨fT255, rfl⟩ : ∃ z, z = u := ⟨_, rfl⟩
      obtain ⟨hP1, hK1, hD1⟩ := hB
      rw [ht] at hP1
      try dsimp only at hw55 hP1 hD1
      obtain ⟨hP, hD⟩ := va_join (wr := [(hR, .inr (0, [.ref qB, .int (nI L), .ref hT, .int (nI (rbn a L ix))])), (qB, .inl (cI, 400, .inl (fun j => nI (a j))))]) (w1 := [(hT, .inr (1, [.ref qT, .ref qL, .ref qR, .int (nI cnt)])), (qT, .inl (cJ, 1792, .inr (.inl fT255))), (qL, .inl (cJ, 7, .inr (.inl fL))), (qR, .inl (cJ, 7, .inr (.inl fR)))]) hP hD [0, 1, 2, 3] [4, 5] rfl rfl (by decide) (by decide) hk1 hFc hP1 hD1
      generalize H1 = H at hP hS ⊢
      have hP : va_P (dC, dI) vwCl [(hR, .inr (0, [.ref qB, .int (nI L), .ref hT, .int (nI (rbn a L ix))])), (qB, .inl (cI, 400, .inl (fun j => nI (a j)))), (hT, .inr (1, [.ref qT, .ref qL, .ref qR, .int (nI cnt)])), (qT, .inl (cJ, 1792, .inr (.inl fT255))), (qL, .inl (cJ, 7, .inr (.inl fL))), (qR, .inl (cJ, 7, .inr (.inl fR)))] H := hP
      have hD : va_D A [(hR, .inr (0, [.ref qB, .int (nI L), .ref hT, .int (nI (rbn a L ix))])), (qB, .inl (cI, 400, .inl (fun j => nI (a j)))), (hT, .inr (1, [.ref qT, .ref qL, .ref qR, .int (nI cnt)])), (qT, .inl (cJ, 1792, .inr (.inl fT255))), (qL, .inl (cJ, 7, .inr (.inl fL))), (qR, .inl (cJ, 7, .inr (.inl fR)))] := hD
      have hP9 := hP.sub (ws' := [(hR, .inr (0, [.ref qB, .int (nI L), .ref hT, .int (nI (rbn a L ix))])), (qB, .inl (cI, 400, .inl (fun j => nI (a j)))), (hT, .inr (1, [.ref qT, .ref qL, .ref qR, .int (nI cnt)])), (qT, .inl (cJ, 1792, .inr (.inl fT255))), (qL, .inl (cJ, 7, .inr (.inl fL))), (qR, .inl (cJ, 7, .inr (.inl fR)))]) [0, 1, 2, 3, 4, 5] rfl
      have hD9 := hD.sub (ws' := [(hR, .inr (0, [.ref qB, .int (nI L), .ref hT, .int (nI (rbn a L ix))])), (qB, .inl (cI, 400, .inl (fun j => nI (a j)))), (hT, .inr (1, [.ref qT, .ref qL, .ref qR, .int (nI cnt)])), (qT, .inl (cJ, 1792, .inr (.inl fT255))), (qL, .inl (cJ, 7, .inr (.inl fL))), (qR, .inl (cJ, 7, .inr (.inl fR)))]) [0, 1, 2, 3, 4, 5] (by decide) rfl
      exact W.vret hx hb hr (fun t ht hW => ⟨⟨(rbn a L ix, fT255), rfl, (show (rbn a L ix) = tnx a L ix ∧ ∀ x k, k < 448 → lb fT255 (448 * x + k) = if k = cnt ∧ rbv a L ix ≤ x ∧ x ≤ thi a L ix then decide (tb ≠ 0) else lb fT (448 * x + k) from ⟨(tn_0 (rng_b c17)).1, by rw [(tn_0 (rng_b c17)).2]; exact hw55⟩), by rw [ht]; exact hP9, va_K.moved hW.alike hK, hD9⟩, hS.F ht⟩) hS.2.2 dX0_readTold_58
    · skip
      refine lv_aload_n hx hb dX0_readTold_20 rfl (lv_at hl 2 rfl) ?_
      refine lv_aload_n hx hb dX0_readTold_21 rfl (lv_at hl 2 rfl) ?_
      refine va_get (D := (dC, dI)) (ci := 0) (v := .int (nI (rbn a L ix))) (C := RX0) (T := TX0) (N := 4) hx hb hts (by decide +kernel) hown hK hP 4 rfl rfl 3 (by decide) (hts (.fieldLink RX0 23 "WildCards$Reader" "at" "I") (by decide +kernel)) (fun _ h9 => h9) rfl dX0_readTold_22 ?_
      refine lv_iconst (v := nI 1) hx hb dX0_readTold_25 (by decide) ?_
      refine lv_iadd hx hb dX0_readTold_26 ?_
      refine wl_asi (y := nI ((rbn a L ix) + 1)) (nI_add _ _) ?_
      have hPc := hP.sub (ws' := [(hR, .inr (0, [.ref qB, .int (nI L), .ref hT, .int (nI (rbn a L ix))])), (qB, .inl (cI, 400, .inl (fun j => nI (a j))))]) [4, 5] rfl
      have hDc := hD.sub (ws' := [(hR, .inr (0, [.ref qB, .int (nI L), .ref hT, .int (nI (rbn a L ix))])), (qB, .inl (cI, 400, .inl (fun j => nI (a j))))]) [4, 5] (by decide) rfl
      have hFc := va_free (wc := [(hR, .inr (0, [.ref qB, .int (nI L), .ref hT, .int (nI (rbn a L ix))])), (qB, .inl (cI, 400, .inl (fun j => nI (a j))))]) hD hS hA [4, 5] rfl
      refine va_calli (va_runV (As := [.int (nI ((rbn a L ix) + 1))]) (rest := []) ⟨hx, hb, hml, hown, hts⟩ (c_X0_bracketsEndAt l dC dI cI cJ cZ hR qB hT H.size L (rbn a L ix) a ((rbn a L ix) + 1) hL ha (by omega)) (cwV 1 hts gX0_readTold_X0_bracketsEndAt rfl rfl rfl (by decide +kernel) ⟨Nat.le_of_ble_eq_true rfl, Nat.le_of_ble_eq_true rfl⟩) ⟨fun a U g mk q => by obtain ⟨q0, q1, qP, qK, qD⟩ := q; exact ⟨q0, q1, qP, va_K.moved (u := U) (U := U.calling g mk a) (Vm.Alike.refl U.vm) qK, qD⟩, va_recv hK hPc (ci := 0) (q0 := 0) rfl rfl, fun U hU hW => ⟨rfl, by rw [hU], by rw [hU]; exact hPc, va_K.moved hW.alike hK, hDc.weaken (fun _ _ _ _ => trivial)⟩⟩ rfl rfl hl.1 rfl (lv_room (Nat.le_of_ble_eq_true rfl)) dX0_readTold_27 ⟨show 0 + 0 + 0 + 0 ≤ 0 from by decide, show 0 + 0 + 0 + 0 ≤ 0 from by decide⟩) hS (fun q _ h => hFc q h) hFc (fun r27 u t H1 locs ht hvm hw27 hB hz1 hk1 hS => ?_)
      obtain ⟨hP1, hK1, hD1⟩ := hB
      rw [ht] at hP1
      try dsimp only at hw27 hP1 hD1
      obtain ⟨hP, hD⟩ := va_join (wr := [(hT, .inr (1, [.ref qT, .ref qL, .ref qR, .int (nI cnt)])), (qT, .inl (cJ, 1792, .inr (.inl fT))), (qL, .inl (cJ, 7, .inr (.inl fL))), (qR, .inl (cJ, 7, .inr (.inl fR)))]) (w1 := [(hR, .inr (0, [.ref qB, .int (nI L), .ref hT, .int (nI (rbn a L ix))])), (qB, .inl (cI, 400, .inl (fun j => nI (a j))))]) hP hD [4, 5] [0, 1, 2, 3] rfl rfl (by decide) (by decide) hk1 hFc hP1 hD1
      generalize H1 = H at hP hS ⊢
      have hP : va_P (dC, dI) vwCl [(hT, .inr (1, [.ref qT, .ref qL, .ref qR, .int (nI cnt)])), (qT, .inl (cJ, 1792, .inr (.inl fT))), (qL, .inl (cJ, 7, .inr (.inl fL))), (qR, .inl (cJ, 7, .inr (.inl fR))), (hR, .inr (0, [.ref qB, .int (nI L), .ref hT, .int (nI (rbn a L ix))])), (qB, .inl (cI, 400, .inl (fun j => nI (a j))))] H := hP
      have hD : va_D A [(hT, .inr (1, [.ref qT, .ref qL, .ref qR, .int (nI cnt)])), (qT, .inl (cJ, 1792, .inr (.inl fT))), (qL, .inl (cJ, 7, .inr (.inl fL))), (qR, .inl (cJ, 7, .inr (.inl fR))), (hR, .inr (0, [.ref qB, .int (nI L), .ref hT, .int (nI (rbn a L ix))])), (qB, .inl (cI, 400, .inl (fun j => nI (a j))))] := hD
      by_cases hb2 : bnd a L (rbn a L ix + 1) = true
      · skip
        refine wl_asi (y := nI 1) (by rw [hw27, if_pos hb2]; rfl) ?_
        refine lv_if_ne (tgt := 48) hx hb dX0_readTold_30 (by decide) (fun c30 => ?_) (fun c30 => ?_)
        rotate_left
        · first | exact absurd c30 (by decide) | exact absurd (by decide) c30
        · skip
          refine lv_aload_n hx hb dX0_readTold_48 rfl (lv_at hl 2 rfl) ?_
          refine va_get (D := (dC, dI)) (ci := 0) (v := .ref hT) (C := RX0) (T := TX0) (N := 4) hx hb hts (by decide +kernel) hown hK hP 4 rfl rfl 2 (by decide) (hts (.fieldLink RX0 19 "WildCards$Reader" "things" "LWildCards$Things;") (by decide +kernel)) (fun _ h9 => h9) rfl dX0_readTold_49 ?_
          refine lv_iload_n hx hb dX0_readTold_52 rfl (lv_at hl 1 rfl) ?_
          refine lv_iload_n hx hb dX0_readTold_53 rfl (lv_at hl 0 rfl) ?_
          refine lv_iload_n hx hb dX0_readTold_54 rfl (lv_at hl 3 rfl) ?_
          have hPc := hP.sub (ws' := [(hT, .inr (1, [.ref qT, .ref qL, .ref qR, .int (nI cnt)])), (qT, .inl (cJ, 1792, .inr (.inl fT))), (qL, .inl (cJ, 7, .inr (.inl fL))), (qR, .inl (cJ, 7, .inr (.inl fR)))]) [0, 1, 2, 3] rfl
          have hDc := hD.sub (ws' := [(hT, .inr (1, [.ref qT, .ref qL, .ref qR, .int (nI cnt)])), (qT, .inl (cJ, 1792, .inr (.inl fT))), (qL, .inl (cJ, 7, .inr (.inl fL))), (qR, .inl (cJ, 7, .inr (.inl fR)))]) [0, 1, 2, 3] (by decide) rfl
          have hFc := va_free (wc := [(hT, .inr (1, [.ref qT, .ref qL, .ref qR, .int (nI cnt)])), (qT, .inl (cJ, 1792, .inr (.inl fT))), (qL, .inl (cJ, 7, .inr (.inl fL))), (qR, .inl (cJ, 7, .inr (.inl fR)))]) hD hS hA [0, 1, 2, 3] rfl
          refine va_callv (va_runV (As := [.int (nI (rbv a L ix)), .int (nI (rbv a L ix)), .int (nI tb)]) (rest := []) ⟨hx, hb, hml, hown, hts⟩ (c_X1_tell l dC dI cI cJ cZ hT qT qL qR H.size cnt fT fL fR (rbv a L ix) (rbv a L ix) tb (by omega) (by omega) (by omega) (by omega)) (cwV 3 hts gX0_readTold_X1_tell rfl rfl rfl (by decide +kernel) ⟨Nat.le_of_ble_eq_true rfl, Nat.le_of_ble_eq_true rfl⟩) ⟨fun a U g mk q => by obtain ⟨q0, q1, qP, qK, qD⟩ := q; exact ⟨q0, q1, qP, va_K.moved (u := U) (U := U.calling g mk a) (Vm.Alike.refl U.vm) qK, qD⟩, va_recv hK hPc (ci := 1) (q0 := 0) rfl rfl, fun U hU hW => ⟨rfl, by rw [hU], by rw [hU]; exact hPc, va_K.moved hW.alike hK, hDc.weaken (fun _ _ _ _ => trivial)⟩⟩ rfl rfl hl.1 rfl (lv_room (Nat.le_of_ble_eq_true rfl)) dX0_readTold_55 ⟨show 0 + 0 + 0 + 0 + 0 ≤ 0 from by decide, show 0 + 0 + 0 + 0 + 0 ≤ 0 from by decide⟩) hS (fun q _ h => hFc q h) hFc (fun u t H1 locs ht hvm hw55 hB hz1 hk1 hS => ?_)
          obtain ⟨fT255, rfl⟩ : ∃ z, z = u := ⟨_, rfl⟩
          obtain ⟨hP1, hK1, hD1⟩ := hB
          rw [ht] at hP1
          try dsimp only at hw55 hP1 hD1
          obtain ⟨hP, hD⟩ := va_join (wr := [(hR, .inr (0, [.ref qB, .int (nI L), .ref hT, .int (nI (rbn a L ix))])), (qB, .inl (cI, 400, .inl (fun j => nI (a j))))]) (w1 := [(hT, .inr (1, [.ref qT, .ref qL, .ref qR, .int (nI cnt)])), (qT, .inl (cJ, 1792, .inr (.inl fT255))), (qL, .inl (cJ, 7, .inr (.inl fL))), (qR, .inl (cJ, 7, .inr (.inl fR)))]) hP hD [0, 1, 2, 3] [4, 5] rfl rfl (by decide) (by decide) hk1 hFc hP1 hD1
          generalize H1 = H at hP hS ⊢
          have hP : va_P (dC, dI) vwCl [(hR, .inr (0, [.ref qB, .int (nI L), .ref hT, .int (nI (rbn a L ix))])), (qB, .inl (cI, 400, .inl (fun j => nI (a j)))), (hT, .inr (1, [.ref qT, .ref qL, .ref qR, .int (nI cnt)])), (qT, .inl (cJ, 1792, .inr (.inl fT255))), (qL, .inl (cJ, 7, .inr (.inl fL))), (qR, .inl (cJ, 7, .inr (.inl fR)))] H := hP
          have hD : va_D A [(hR, .inr (0, [.ref qB, .int (nI L), .ref hT, .int (nI (rbn a L ix))])), (qB, .inl (cI, 400, .inl (fun j => nI (a j)))), (hT, .inr (1, [.ref qT, .ref qL, .ref qR, .int (nI cnt)])), (qT, .inl (cJ, 1792, .inr (.inl fT255))), (qL, .inl (cJ, 7, .inr (.inl fL))), (qR, .inl (cJ, 7, .inr (.inl fR)))] := hD
          have hP9 := hP.sub (ws' := [(hR, .inr (0, [.ref qB, .int (nI L), .ref hT, .int (nI (rbn a L ix))])), (qB, .inl (cI, 400, .inl (fun j => nI (a j)))), (hT, .inr (1, [.ref qT, .ref qL, .ref qR, .int (nI cnt)])), (qT, .inl (cJ, 1792, .inr (.inl fT255))), (qL, .inl (cJ, 7, .inr (.inl fL))), (qR, .inl (cJ, 7, .inr (.inl fR)))]) [0, 1, 2, 3, 4, 5] rfl
          have hD9 := hD.sub (ws' := [(hR, .inr (0, [.ref qB, .int (nI L), .ref hT, .int (nI (rbn a L ix))])), (qB, .inl (cI, 400, .inl (fun j => nI (a j)))), (hT, .inr (1, [.ref qT, .ref qL, .ref qR, .int (nI cnt)])), (qT, .inl (cJ, 1792, .inr (.inl fT255))), (qL, .inl (cJ, 7, .inr (.inl fL))), (qR, .inl (cJ, 7, .inr (.inl fR)))]) [0, 1, 2, 3, 4, 5] (by decide) rfl
          exact W.vret hx hb hr (fun t ht hW => ⟨⟨(rbn a L ix, fT255), rfl, (show (rbn a L ix) = tnx a L ix ∧ ∀ x k, k < 448 → lb fT255 (448 * x + k) = if k = cnt ∧ rbv a L ix ≤ x ∧ x ≤ thi a L ix then decide (tb ≠ 0) else lb fT (448 * x + k) from ⟨(tn_0 (rng_c hb2)).1, by rw [(tn_0 (rng_c hb2)).2]; exact hw55⟩), by rw [ht]; exact hP9, va_K.moved hW.alike hK, hD9⟩, hS.F ht⟩) hS.2.2 dX0_readTold_58
      · skip
        refine wl_asi (y := nI 0) (by rw [hw27, if_neg hb2]; rfl) ?_
        have h3 := (bnd_f hb2).1
        refine lv_if_ne (tgt := 48) hx hb dX0_readTold_30 (by decide) (fun c30 => ?_) (fun c30 => ?_)
        · first | exact absurd c30 (by decide) | exact absurd (by decide) c30
        · skip
          refine lv_aload_n hx hb dX0_readTold_33 rfl (lv_at hl 2 rfl) ?_
          refine lv_dup hx hb dX0_readTold_34 rfl ?_
          refine va_get (D := (dC, dI)) (ci := 0) (v := .int (nI (rbn a L ix))) (C := RX0) (T := TX0) (N := 4) hx hb hts (by decide +kernel) hown hK hP 4 rfl rfl 3 (by decide) (hts (.fieldLink RX0 23 "WildCards$Reader" "at" "I") (by decide +kernel)) (fun _ h9 => h9) rfl dX0_readTold_35 ?_
          refine lv_iconst (v := nI 1) hx hb dX0_readTold_38 (by decide) ?_
          refine lv_iadd hx hb dX0_readTold_39 ?_
          refine wl_asi (y := nI ((rbn a L ix) + 1)) (nI_add _ _) ?_
          refine va_put (D := (dC, dI)) (ci := 0) (v := .int (nI ((rbn a L ix) + 1))) (ty := .int) (C := RX0) (T := TX0) (N := 4) hx hb hts (by decide +kernel) tyX0 tyX0_ok nmX0 hown hK hP hD hS 4 rfl rfl 3 (by decide) (hts (.fieldLink RX0 23 "WildCards$Reader" "at" "I") (by decide +kernel)) (fun _ h9 => h9) rfl (by decide +kernel) rfl rfl (Nat.le_of_ble_eq_true rfl) dX0_readTold_40 (fun H locs hP hD hS => ?_)
          have hP : va_P (dC, dI) vwCl [(hT, .inr (1, [.ref qT, .ref qL, .ref qR, .int (nI cnt)])), (qT, .inl (cJ, 1792, .inr (.inl fT))), (qL, .inl (cJ, 7, .inr (.inl fL))), (qR, .inl (cJ, 7, .inr (.inl fR))), (hR, .inr (0, [.ref qB, .int (nI L), .ref hT, .int (nI ((rbn a L ix) + 1))])), (qB, .inl (cI, 400, .inl (fun j => nI (a j))))] H := hP
          have hD : va_D A [(hT, .inr (1, [.ref qT, .ref qL, .ref qR, .int (nI cnt)])), (qT, .inl (cJ, 1792, .inr (.inl fT))), (qL, .inl (cJ, 7, .inr (.inl fL))), (qR, .inl (cJ, 7, .inr (.inl fR))), (hR, .inr (0, [.ref qB, .int (nI L), .ref hT, .int (nI ((rbn a L ix) + 1))])), (qB, .inl (cI, 400, .inl (fun j => nI (a j))))] := hD
          refine lv_aload_n hx hb dX0_readTold_43 rfl (lv_at hl 2 rfl) ?_
          have hPc := hP.sub (ws' := [(hR, .inr (0, [.ref qB, .int (nI L), .ref hT, .int (nI ((rbn a L ix) + 1))])), (qB, .inl (cI, 400, .inl (fun j => nI (a j))))]) [4, 5] rfl
          have hDc := hD.sub (ws' := [(hR, .inr (0, [.ref qB, .int (nI L), .ref hT, .int (nI ((rbn a L ix) + 1))])), (qB, .inl (cI, 400, .inl (fun j => nI (a j))))]) [4, 5] (by decide) rfl
          have hFc := va_free (wc := [(hR, .inr (0, [.ref qB, .int (nI L), .ref hT, .int (nI ((rbn a L ix) + 1))])), (qB, .inl (cI, 400, .inl (fun j => nI (a j))))]) hD hS hA [4, 5] rfl
          refine va_calli (va_runV (As := []) (rest := []) ⟨hx, hb, hml, hown, hts⟩ (c_X0_readByte l dC dI cI cJ cZ hR qB hT H.size L ((rbn a L ix) + 1) a hL ha h3) (cwV 0 hts gX0_readTold_X0_readByte rfl rfl rfl (by decide +kernel) ⟨Nat.le_of_ble_eq_true rfl, Nat.le_of_ble_eq_true rfl⟩) ⟨fun a U g mk q => by obtain ⟨q0, q1, qP, qK, qD⟩ := q; exact ⟨q0, q1, qP, va_K.moved (u := U) (U := U.calling g mk a) (Vm.Alike.refl U.vm) qK, qD⟩, va_recv hK hPc (ci := 0) (q0 := 0) rfl rfl, fun U hU hW => ⟨rfl, by rw [hU], by rw [hU]; exact hPc, va_K.moved hW.alike hK, hDc.weaken (fun _ _ _ _ => trivial)⟩⟩ rfl rfl hl.1 rfl (lv_room (Nat.le_of_ble_eq_true rfl)) dX0_readTold_44 ⟨show 0 + 0 + 0 + 0 + 0 ≤ 0 from by decide, show 0 + 0 + 0 + 0 + 0 ≤ 0 from by decide⟩) hS (fun q _ h => hFc q h) hFc (fun r44 u t H1 locs ht hvm hw44 hB hz1 hk1 hS => ?_)
          obtain ⟨ix244, rfl⟩ : ∃ z, z = u := ⟨_, rfl⟩
          obtain ⟨hP1, hK1, hD1⟩ := hB
          rw [ht] at hP1
          try dsimp only at hw44 hP1 hD1
          obtain ⟨hP, hD⟩ := va_join (wr := [(hT, .inr (1, [.ref qT, .ref qL, .ref qR, .int (nI cnt)])), (qT, .inl (cJ, 1792, .inr (.inl fT))), (qL, .inl (cJ, 7, .inr (.inl fL))), (qR, .inl (cJ, 7, .inr (.inl fR)))]) (w1 := [(hR, .inr (0, [.ref qB, .int (nI L), .ref hT, .int (nI ix244)])), (qB, .inl (cI, 400, .inl (fun j => nI (a j))))]) hP hD [4, 5] [0, 1, 2, 3] rfl rfl (by decide) (by decide) hk1 hFc hP1 hD1
          generalize H1 = H at hP hS ⊢
          have hP : va_P (dC, dI) vwCl [(hT, .inr (1, [.ref qT, .ref qL, .ref qR, .int (nI cnt)])), (qT, .inl (cJ, 1792, .inr (.inl fT))), (qL, .inl (cJ, 7, .inr (.inl fL))), (qR, .inl (cJ, 7, .inr (.inl fR))), (hR, .inr (0, [.ref qB, .int (nI L), .ref hT, .int (nI ix244)])), (qB, .inl (cI, 400, .inl (fun j => nI (a j))))] H := hP
          have hD : va_D A [(hT, .inr (1, [.ref qT, .ref qL, .ref qR, .int (nI cnt)])), (qT, .inl (cJ, 1792, .inr (.inl fT))), (qL, .inl (cJ, 7, .inr (.inl fL))), (qR, .inl (cJ, 7, .inr (.inl fR))), (hR, .inr (0, [.ref qB, .int (nI L), .ref hT, .int (nI ix244)])), (qB, .inl (cI, 400, .inl (fun j => nI (a j))))] := hD
          obtain ⟨rfl, hr44⟩ := hw44
          refine wl_asi (y := nI (rbv a L (rbn a L ix + 1))) (hr44) ?_
          have h5 := rbv_lt ha h3
          refine lv_istore_n (lv' := [(3, .int (nI (rbv a L (rbn a L ix + 1)))), (2, .int (nI (rbv a L ix))), (0, .ref hR), (1, .int (nI tb))]) hx hb dX0_readTold_47 rfl hl (by decide) rfl (fun ls hl => ?_)
          refine lv_aload_n hx hb dX0_readTold_48 rfl (lv_at hl 2 rfl) ?_
          refine va_get (D := (dC, dI)) (ci := 0) (v := .ref hT) (C := RX0) (T := TX0) (N := 4) hx hb hts (by decide +kernel) hown hK hP 4 rfl rfl 2 (by decide) (hts (.fieldLink RX0 19 "WildCards$Reader" "things" "LWildCards$Things;") (by decide +kernel)) (fun _ h9 => h9) rfl dX0_readTold_49 ?_
          refine lv_iload_n hx hb dX0_readTold_52 rfl (lv_at hl 1 rfl) ?_
          refine lv_iload_n hx hb dX0_readTold_53 rfl (lv_at hl 0 rfl) ?_
          refine lv_iload_n hx hb dX0_readTold_54 rfl (lv_at hl 3 rfl) ?_
          have hPc := hP.sub (ws' := [(hT, .inr (1, [.ref qT, .ref qL, .ref qR, .int (nI cnt)])), (qT, .inl (cJ, 1792, .inr (.inl fT))), (qL, .inl (cJ, 7, .inr (.inl fL))), (qR, .inl (cJ, 7, .inr (.inl fR)))]) [0, 1, 2, 3] rfl
          have hDc := hD.sub (ws' := [(hT, .inr (1, [.ref qT, .ref qL, .ref qR, .int (nI cnt)])), (qT, .inl (cJ, 1792, .inr (.inl fT))), (qL, .inl (cJ, 7, .inr (.inl fL))), (qR, .inl (cJ, 7, .inr (.inl fR)))]) [0, 1, 2, 3] (by decide) rfl
          have hFc := va_free (wc := [(hT, .inr (1, [.ref qT, .ref qL, .ref qR, .int (nI cnt)])), (qT, .inl (cJ, 1792, .inr (.inl fT))), (qL, .inl (cJ, 7, .inr (.inl fL))), (qR, .inl (cJ, 7, .inr (.inl fR)))]) hD hS hA [0, 1, 2, 3] rfl
          refine va_callv (va_runV (As := [.int (nI (rbv a L ix)), .int (nI (rbv a L (rbn a L ix + 1))), .int (nI tb)]) (rest := []) ⟨hx, hb, hml, hown, hts⟩ (c_X1_tell l dC dI cI cJ cZ hT qT qL qR H.size cnt fT fL fR (rbv a L ix) (rbv a L (rbn a L ix + 1)) tb (by omega) (by omega) (by omega) (by omega)) (cwV 3 hts gX0_readTold_X1_tell rfl rfl rfl (by decide +kernel) ⟨Nat.le_of_ble_eq_true rfl, Nat.le_of_ble_eq_true rfl⟩) ⟨fun a U g mk q => by obtain ⟨q0, q1, qP, qK, qD⟩ := q; exact ⟨q0, q1, qP, va_K.moved (u := U) (U := U.calling g mk a) (Vm.Alike.refl U.vm) qK, qD⟩, va_recv hK hPc (ci := 1) (q0 := 0) rfl rfl, fun U hU hW => ⟨rfl, by rw [hU], by rw [hU]; exact hPc, va_K.moved hW.alike hK, hDc.weaken (fun _ _ _ _ => trivial)⟩⟩ rfl rfl hl.1 rfl (lv_room (Nat.le_of_ble_eq_true rfl)) dX0_readTold_55 ⟨show 0 + 0 + 0 + 0 + 0 + 0 ≤ 0 from by decide, show 0 + 0 + 0 + 0 + 0 + 0 ≤ 0 from by decide⟩) hS (fun q _ h => hFc q h) hFc (fun u t H1 locs ht hvm hw55 hB hz1 hk1 hS => ?_)
          obtain ⟨fT255, rfl⟩ : ∃ z, z = u := ⟨_, rfl⟩
          obtain ⟨hP1, hK1, hD1⟩ := hB
          rw [ht] at hP1
          try dsimp only at hw55 hP1 hD1
          obtain ⟨hP, hD⟩ := va_join (wr := [(hR, .inr (0, [.ref qB, .int (nI L), .ref hT, .int (nI (rbn a L (rbn a L ix + 1)))])), (qB, .inl (cI, 400, .inl (fun j => nI (a j))))]) (w1 := [(hT, .inr (1, [.ref qT, .ref qL, .ref qR, .int (nI cnt)])), (qT, .inl (cJ, 1792, .inr (.inl fT255))), (qL, .inl (cJ, 7, .inr (.inl fL))), (qR, .inl (cJ, 7, .inr (.inl fR)))]) hP hD [0, 1, 2, 3] [4, 5] rfl rfl (by decide) (by decide) hk1 hFc hP1 hD1
          generalize H1 = H at hP hS ⊢
          have hP : va_P (dC, dI) vwCl [(hR, .inr (0, [.ref qB, .int (nI L), .ref hT, .int (nI (rbn a L (rbn a L ix + 1)))])), (qB, .inl (cI, 400, .inl (fun j => nI (a j)))), (hT, .inr (1, [.ref qT, .ref qL, .ref qR, .int (nI cnt)])), (qT, .inl (cJ, 1792, .inr (.inl fT255))), (qL, .inl (cJ, 7, .inr (.inl fL))), (qR, .inl (cJ, 7, .inr (.inl fR)))] H := hP
          have hD : va_D A [(hR, .inr (0, [.ref qB, .int (nI L), .ref hT, .int (nI (rbn a L (rbn a L ix + 1)))])), (qB, .inl (cI, 400, .inl (fun j => nI (a j)))), (hT, .inr (1, [.ref qT, .ref qL, .ref qR, .int (nI cnt)])), (qT, .inl (cJ, 1792, .inr (.inl fT255))), (qL, .inl (cJ, 7, .inr (.inl fL))), (qR, .inl (cJ, 7, .inr (.inl fR)))] := hD
          have hP9 := hP.sub (ws' := [(hR, .inr (0, [.ref qB, .int (nI L), .ref hT, .int (nI (rbn a L (rbn a L ix + 1)))])), (qB, .inl (cI, 400, .inl (fun j => nI (a j)))), (hT, .inr (1, [.ref qT, .ref qL, .ref qR, .int (nI cnt)])), (qT, .inl (cJ, 1792, .inr (.inl fT255))), (qL, .inl (cJ, 7, .inr (.inl fL))), (qR, .inl (cJ, 7, .inr (.inl fR)))]) [0, 1, 2, 3, 4, 5] rfl
          have hD9 := hD.sub (ws' := [(hR, .inr (0, [.ref qB, .int (nI L), .ref hT, .int (nI (rbn a L (rbn a L ix + 1)))])), (qB, .inl (cI, 400, .inl (fun j => nI (a j)))), (hT, .inr (1, [.ref qT, .ref qL, .ref qR, .int (nI cnt)])), (qT, .inl (cJ, 1792, .inr (.inl fT255))), (qL, .inl (cJ, 7, .inr (.inl fL))), (qR, .inl (cJ, 7, .inr (.inl fR)))]) [0, 1, 2, 3, 4, 5] (by decide) rfl
          exact W.vret hx hb hr (fun t ht hW => ⟨⟨(rbn a L (rbn a L ix + 1), fT255), rfl, (show (rbn a L (rbn a L ix + 1)) = tnx a L ix ∧ ∀ x k, k < 448 → lb fT255 (448 * x + k) = if k = cnt ∧ rbv a L ix ≤ x ∧ x ≤ thi a L ix then decide (tb ≠ 0) else lb fT (448 * x + k) from ⟨(tn_1 (rng_1 hp2 c17 hb2)).1, by rw [(tn_1 (rng_1 hp2 c17 hb2)).2]; exact hw55⟩), by rw [ht]; exact hP9, va_K.moved hW.alike hK, hD9⟩, hS.F ht⟩) hS.2.2 dX0_readTold_58
  · skip
    refine wl_asi (y := (-1)) (by rw [hw12, if_neg hp2]) ?_
    refine lv_bipush (v := nI 45) hx hb dX0_readTold_15 (by decide) ?_
    refine lv_icmp_ne (tgt := 48) hx hb dX0_readTold_17 (by decide) (fun c17 => ?_) (fun c17 => ?_)
    · skip
      refine lv_aload_n hx hb dX0_readTold_48 rfl (lv_at hl 2 rfl) ?_
      refine va_get (D := (dC, dI)) (ci := 0) (v := .ref hT) (C := RX0) (T := TX0) (N := 4) hx hb hts (by decide +kernel) hown hK hP 4 rfl rfl 2 (by decide) (hts (.fieldLink RX0 19 "WildCards$Reader" "things" "LWildCards$Things;") (by decide +kernel)) (fun _ h9 => h9) rfl dX0_readTold_49 ?_
      refine lv_iload_n hx hb dX0_readTold_52 rfl (lv_at hl 1 rfl) ?_
      refine lv_iload_n hx hb dX0_readTold_53 rfl (lv_at hl 0 rfl) ?_
      refine lv_iload_n hx hb dX0_readTold_54 rfl (lv_at hl 3 rfl) ?_
      have hPc := hP.sub (ws' := [(hT, .inr (1, [.ref qT, .ref qL, .ref qR, .int (nI cnt)])), (qT, .inl (cJ, 1792, .inr (.inl fT))), (qL, .inl (cJ, 7, .inr (.inl fL))), (qR, .inl (cJ, 7, .inr (.inl fR)))]) [0, 1, 2, 3] rfl
      have hDc := hD.sub (ws' := [(hT, .inr (1, [.ref qT, .ref qL, .ref qR, .int (nI cnt)])), (qT, .inl (cJ, 1792, .inr (.inl fT))), (qL, .inl (cJ, 7, .inr (.inl fL))), (qR, .inl (cJ, 7, .inr (.inl fR)))]) [0, 1, 2, 3] (by decide) rfl
      have hFc := va_free (wc := [(hT, .inr (1, [.ref qT, .ref qL, .ref qR, .int (nI cnt)])), (qT, .inl (cJ, 1792, .inr (.inl fT))), (qL, .inl (cJ, 7, .inr (.inl fL))), (qR, .inl (cJ, 7, .inr (.inl fR)))]) hD hS hA [0, 1, 2, 3] rfl
      refine va_callv (va_runV (As := [.int (nI (rbv a L ix)), .int (nI (rbv a L ix)), .int (nI tb)]) (rest := []) ⟨hx, hb, hml, hown, hts⟩ (c_X1_tell l dC dI cI cJ cZ hT qT qL qR H.size cnt fT fL fR (rbv a L ix) (rbv a L ix) tb (by omega) (by omega) (by omega) (by omega)) (cwV 3 hts gX0_readTold_X1_tell rfl rfl rfl (by decide +kernel) ⟨Nat.le_of_ble_eq_true rfl, Nat.le_of_ble_eq_true rfl⟩) ⟨fun a U g mk q => by obtain ⟨q0, q1, qP, qK, qD⟩ := q; exact ⟨q0, q1, qP, va_K.moved (u := U) (U := U.calling g mk a) (Vm.Alike.refl U.vm) qK, qD⟩, va_recv hK hPc (ci := 1) (q0 := 0) rfl rfl, fun U hU hW => ⟨rfl, by rw [hU], by rw [hU]; exact hPc, va_K.moved hW.alike hK, hDc.weaken (fun _ _ _ _ => trivial)⟩⟩ rfl rfl hl.1 rfl (lv_room (Nat.le_of_ble_eq_true rfl)) dX0_readTold_55 ⟨show 0 + 0 + 0 + 0 ≤ 0 from by decide, show 0 + 0 + 0 + 0 ≤ 0 from by decide⟩) hS (fun q _ h => hFc q h) hFc (fun u t H1 locs ht hvm hw55 hB hz1 hk1 hS => ?_)
      obtain ⟨fT255, rfl⟩ : ∃ z, z = u := ⟨_, rfl⟩
      obtain ⟨hP1, hK1, hD1⟩ := hB
      rw [ht] at hP1
      try dsimp only at hw55 hP1 hD1
      obtain ⟨hP, hD⟩ := va_join (wr := [(hR, .inr (0, [.ref qB, .int (nI L), .ref hT, .int (nI (rbn a L ix))])), (qB, .inl (cI, 400, .inl (fun j => nI (a j))))]) (w1 := [(hT, .inr (1, [.ref qT, .ref qL, .ref qR, .int (nI cnt)])), (qT, .inl (cJ, 1792, .inr (.inl fT255))), (qL, .inl (cJ, 7, .inr (.inl fL))), (qR, .inl (cJ, 7, .inr (.inl fR)))]) hP hD [0, 1, 2, 3] [4, 5] rfl rfl (by decide) (by decide) hk1 hFc hP1 hD1
      generalize H1 = H at hP hS ⊢
      have hP : va_P (dC, dI) vwCl [(hR, .inr (0, [.ref qB, .int (nI L), .ref hT, .int (nI (rbn a L ix))])), (qB, .inl (cI, 400, .inl (fun j => nI (a j)))), (hT, .inr (1, [.ref qT, .ref qL, .ref qR, .int (nI cnt)])), (qT, .inl (cJ, 1792, .inr (.inl fT255))), (qL, .inl (cJ, 7, .inr (.inl fL))), (qR, .inl (cJ, 7, .inr (.inl fR)))] H := hP
      have hD : va_D A [(hR, .inr (0, [.ref qB, .int (nI L), .ref hT, .int (nI (rbn a L ix))])), (qB, .inl (cI, 400, .inl (fun j => nI (a j)))), (hT, .inr (1, [.ref qT, .ref qL, .ref qR, .int (nI cnt)])), (qT, .inl (cJ, 1792, .inr (.inl fT255))), (qL, .inl (cJ, 7, .inr (.inl fL))), (qR, .inl (cJ, 7, .inr (.inl fR)))] := hD
      have hP9 := hP.sub (ws' := [(hR, .inr (0, [.ref qB, .int (nI L), .ref hT, .int (nI (rbn a L ix))])), (qB, .inl (cI, 400, .inl (fun j => nI (a j)))), (hT, .inr (1, [.ref qT, .ref qL, .ref qR, .int (nI cnt)])), (qT, .inl (cJ, 1792, .inr (.inl fT255))), (qL, .inl (cJ, 7, .inr (.inl fL))), (qR, .inl (cJ, 7, .inr (.inl fR)))]) [0, 1, 2, 3, 4, 5] rfl
      have hD9 := hD.sub (ws' := [(hR, .inr (0, [.ref qB, .int (nI L), .ref hT, .int (nI (rbn a L ix))])), (qB, .inl (cI, 400, .inl (fun j => nI (a j)))), (hT, .inr (1, [.ref qT, .ref qL, .ref qR, .int (nI cnt)])), (qT, .inl (cJ, 1792, .inr (.inl fT255))), (qL, .inl (cJ, 7, .inr (.inl fL))), (qR, .inl (cJ, 7, .inr (.inl fR)))]) [0, 1, 2, 3, 4, 5] (by decide) rfl
      exact W.vret hx hb hr (fun t ht hW => ⟨⟨(rbn a L ix, fT255), rfl, (show (rbn a L ix) = tnx a L ix ∧ ∀ x k, k < 448 → lb fT255 (448 * x + k) = if k = cnt ∧ rbv a L ix ≤ x ∧ x ≤ thi a L ix then decide (tb ≠ 0) else lb fT (448 * x + k) from ⟨(tn_0 (rng_a hp2)).1, by rw [(tn_0 (rng_a hp2)).2]; exact hw55⟩), by rw [ht]; exact hP9, va_K.moved hW.alike hK, hD9⟩, hS.F ht⟩) hS.2.2 dX0_readTold_58
    · skip
      first | exact absurd c17 (by decide) | exact absurd (by decide) c17
end
section
set_option maxHeartbeats 4000000 in
set_option maxRecDepth 100000 in
theorem c_X0_readBrackets (l : Launch) (dC : Nat → ClassId) (dI : Nat → Nat → Nat) (cI cJ cZ : ClassId) (hR qB hT qT qL qR : Nat) (sz : Nat) (L : Nat) (ix : Nat) (a : Nat → Nat) (cnt : Nat) (fT : Nat → Int64) (fL : Nat → Int64) (fR : Nat → Int64) (hL : L ≤ 400) (ha : ∀ j, j < L → a j < 256) (hat : ix ≤ L) (hc : cnt < 448) (hnew : ∀ x, x < 256 → lb fT (448 * x + cnt) = false) : Met l yX0_readBrackets wsX0_readBrackets ({ frames := 3, cells := 0, slots := 0, locals := 70 }) (va_Pc [.ref hR] (fun U => U.heap.size = sz ∧ va_P (dC, dI) vwCl [(hR, .inr (0, [.ref qB, .int (nI L), .ref hT, .int (nI ix)])), (qB, .inl (cI, 400, .inl (fun j => nI (a j)))), (hT, .inr (1, [.ref qT, .ref qL, .ref qR, .int (nI cnt)])), (qT, .inl (cJ, 1792, .inr (.inl fT))), (qL, .inl (cJ, 7, .inr (.inl fL))), (qR, .inl (cJ, 7, .inr (.inl fR)))] U.heap ∧ va_K (dC, dI) vwCl [(cI, .int), (cJ, .long), (cZ, .boolean)] U ∧ va_D (fun _ => True) [(hR, .inr (0, [.ref qB, .int (nI L), .ref hT, .int (nI ix)])), (qB, .inl (cI, 400, .inl (fun j => nI (a j)))), (hT, .inr (1, [.ref qT, .ref qL, .ref qR, .int (nI cnt)])), (qT, .inl (cJ, 1792, .inr (.inl fT))), (qL, .inl (cJ, 7, .inr (.inl fL))), (qR, .inl (cJ, 7, .inr (.inl fR)))])) (va_Qv (fun (u : Nat × (Nat → Int64)) => u.1 = brn a L ix ∧ ∀ x k, x < 256 → k < 448 → lb u.2 (448 * x + k) = if k = cnt then brs a L ix x else lb fT (448 * x + k)) (fun (u : Nat × (Nat → Int64)) (t : State) => va_P (dC, dI) vwCl [(hR, .inr (0, [.ref qB, .int (nI L), .ref hT, .int (nI u.1)])), (qB, .inl (cI, 400, .inl (fun j => nI (a j)))), (hT, .inr (1, [.ref qT, .ref qL, .ref qR, .int (nI cnt)])), (qT, .inl (cJ, 1792, .inr (.inl u.2))), (qL, .inl (cJ, 7, .inr (.inl fL))), (qR, .inl (cJ, 7, .inr (.inl fR)))] t.heap ∧ va_K (dC, dI) vwCl [(cI, .int), (cJ, .long), (cZ, .boolean)] t ∧ va_D (va_A [(hR, .inr (0, [.ref qB, .int (nI L), .ref hT, .int (nI ix)])), (qB, .inl (cI, 400, .inl (fun j => nI (a j)))), (hT, .inr (1, [.ref qT, .ref qL, .ref qR, .int (nI cnt)])), (qT, .inl (cJ, 1792, .inr (.inl fT))), (qL, .inl (cJ, 7, .inr (.inl fL))), (qR, .inl (cJ, 7, .inr (.inl fR)))] sz) [(hR, .inr (0, [.ref qB, .int (nI L), .ref hT, .int (nI u.1)])), (qB, .inl (cI, 400, .inl (fun j => nI (a j)))), (hT, .inr (1, [.ref qT, .ref qL, .ref qR, .int (nI cnt)])), (qT, .inl (cJ, 1792, .inr (.inl u.2))), (qL, .inl (cJ, 7, .inr (.inl fL))), (qR, .inl (cJ, 7, .inr (.inl fR)))]) (va_A [(hR, .inr (0, [.ref qB, .int (nI L), .ref hT, .int (nI ix)])), (qB, .inl (cI, 400, .inl (fun j => nI (a j)))), (hT, .inr (1, [.ref qT, .ref qL, .ref qR, .int (nI cnt)])), (qT, .inl (cJ, 1792, .inr (.inl fT))), (qL, .inl (cJ, 7, .inr (.inl fL))), (qR, .inl (cJ, 7, .inr (.inl fR)))] sz)) 0 0 (va_A [(hR, .inr (0, [.ref qB, .int (nI L), .ref hT, .int (nI ix)])), (qB, .inl (cI, 400, .inl (fun j => nI (a j)))), (hT, .inr (1, [.ref qT, .ref qL, .ref qR, .int (nI cnt)])), (qT, .inl (cJ, 1792, .inr (.inl fT))), (qL, .inl (cJ, 7, .inr (.inl fL))), (qR, .inl (cJ, 7, .inr (.inl fR)))] sz) := by
  refine Met.ofW (cc := cX0_readBrackets) (maxL := 3) (ret := none) (by decide) rfl ?_
  intro p e s m args below meth c s₁ B hml hv
  obtain ⟨rfl, hsz, hP, hK, hD0⟩ := hv
  have hx := B.exec
  have hb := B.bytes
  have hr := B.returns
  have hts := atoms_spec (ws := wsX0_readBrackets) B.pre
  have hown : s.vm.findClass RX0 = some m.cls := findClass_of_methodNamed B.named
  have hlocks := B.notSynchronized
  subst hsz
  have hD := hD0.self (sz := s.heap.size)
  generalize hAe : va_A [(hR, .inr (0, [.ref qB, .int (nI L), .ref hT, .int (nI ix)])), (qB, .inl (cI, 400, .inl (fun j => nI (a j)))), (hT, .inr (1, [.ref qT, .ref qL, .ref qR, .int (nI cnt)])), (qT, .inl (cJ, 1792, .inr (.inl fT))), (qL, .inl (cJ, 7, .inr (.inl fL))), (qR, .inl (cJ, 7, .inr (.inl fR)))] s.heap.size = A at hD ⊢
  have hA : ∀ q : Nat, s.heap.size ≤ q → A q := fun q h => by rw [← hAe]; exact Or.inr h
  have hS : va_S A s.heap s.heap [] := va_S.rf
  have hP : va_P (dC, dI) vwCl [(hR, .inr (0, [.ref qB, .int (nI L), .ref hT, .int (nI ix)])), (qB, .inl (cI, 400, .inl (fun j => nI (a j)))), (hT, .inr (1, [.ref qT, .ref qL, .ref qR, .int (nI cnt)])), (qT, .inl (cJ, 1792, .inr (.inl fT))), (qL, .inl (cJ, 7, .inr (.inl fL))), (qR, .inl (cJ, 7, .inr (.inl fR)))] s.heap := hP
  have hl := lv_entry ([.ref hR]) (n := 3) (Nat.le_of_ble_eq_true rfl)
  rw [lg_entry_eq]
  generalize (lg_sl ([.ref hR]) ++ List.replicate (3 - (lg_sl ([.ref hR])).length) Slot.unset).toArray = ls at hl ⊢
  have hl : lv_has ls 3 [(0, .ref hR)] := hl
  skip
  refine lv_aload_n hx hb dX0_readBrackets_0 rfl (lv_at hl 0 rfl) ?_
  refine lv_aload_n hx hb dX0_readBrackets_1 rfl (lv_at hl 0 rfl) ?_
  refine va_get (D := (dC, dI)) (ci := 0) (v := .int (nI ix)) (C := RX0) (T := TX0) (N := 4) hx hb hts (by decide +kernel) hown hK hP 0 rfl rfl 3 (by decide) (hts (.fieldLink RX0 23 "WildCards$Reader" "at" "I") (by decide +kernel)) (fun _ h9 => h9) rfl dX0_readBrackets_2 ?_
  have hPc := hP.sub (ws' := [(hR, .inr (0, [.ref qB, .int (nI L), .ref hT, .int (nI ix)])), (qB, .inl (cI, 400, .inl (fun j => nI (a j))))]) [0, 1] rfl
  have hDc := hD.sub (ws' := [(hR, .inr (0, [.ref qB, .int (nI L), .ref hT, .int (nI ix)])), (qB, .inl (cI, 400, .inl (fun j => nI (a j))))]) [0, 1] (by decide) rfl
  have hFc := va_free (wc := [(hR, .inr (0, [.ref qB, .int (nI L), .ref hT, .int (nI ix)])), (qB, .inl (cI, 400, .inl (fun j => nI (a j))))]) hD hS hA [0, 1] rfl
  refine va_calli (va_runV (As := [.int (nI ix)]) (rest := []) ⟨hx, hb, hml, hown, hts⟩ (c_X0_byteAt l dC dI cI cJ cZ hR qB hT s.heap.size L ix a ix hL (by omega)) (cwV 1 hts gX0_readBrackets_X0_byteAt rfl rfl rfl (by decide +kernel) ⟨Nat.le_of_ble_eq_true rfl, Nat.le_of_ble_eq_true rfl⟩) ⟨fun a U g mk q => by obtain ⟨q0, q1, qP, qK, qD⟩ := q; exact ⟨q0, q1, qP, va_K.moved (u := U) (U := U.calling g mk a) (Vm.Alike.refl U.vm) qK, qD⟩, va_recv hK hPc (ci := 0) (q0 := 0) rfl rfl, fun U hU hW => ⟨rfl, by rw [hU], by rw [hU]; exact hPc, va_K.moved hW.alike hK, hDc.weaken (fun _ _ _ _ => trivial)⟩⟩ rfl rfl hl.1 rfl (lv_room (Nat.le_of_ble_eq_true rfl)) dX0_readBrackets_5 ⟨show 0 + 0 ≤ 0 from by decide, show 0 + 0 ≤ 0 from by decide⟩) hS (fun q _ h => hFc q h) hFc (fun r5 u t H1 locs ht hvm hw5 hB hz1 hk1 hS => ?_)
  obtain ⟨hP1, hK1, hD1⟩ := hB
  rw [ht] at hP1
  try dsimp only at hw5 hP1 hD1
  obtain ⟨hP, hD⟩ := va_join (wr := [(hT, .inr (1, [.ref qT, .ref qL, .ref qR, .int (nI cnt)])), (qT, .inl (cJ, 1792, .inr (.inl fT))), (qL, .inl (cJ, 7, .inr (.inl fL))), (qR, .inl (cJ, 7, .inr (.inl fR)))]) (w1 := [(hR, .inr (0, [.ref qB, .int (nI L), .ref hT, .int (nI ix)])), (qB, .inl (cI, 400, .inl (fun j => nI (a j))))]) hP hD [0, 1] [2, 3, 4, 5] rfl rfl (by decide) (by decide) hk1 hFc hP1 hD1
  generalize H1 = H at hP hS ⊢
  have hP : va_P (dC, dI) vwCl [(hT, .inr (1, [.ref qT, .ref qL, .ref qR, .int (nI cnt)])), (qT, .inl (cJ, 1792, .inr (.inl fT))), (qL, .inl (cJ, 7, .inr (.inl fL))), (qR, .inl (cJ, 7, .inr (.inl fR))), (hR, .inr (0, [.ref qB, .int (nI L), .ref hT, .int (nI ix)])), (qB, .inl (cI, 400, .inl (fun j => nI (a j))))] H := hP
  have hD : va_D A [(hT, .inr (1, [.ref qT, .ref qL, .ref qR, .int (nI cnt)])), (qT, .inl (cJ, 1792, .inr (.inl fT))), (qL, .inl (cJ, 7, .inr (.inl fL))), (qR, .inl (cJ, 7, .inr (.inl fR))), (hR, .inr (0, [.ref qB, .int (nI L), .ref hT, .int (nI ix)])), (qB, .inl (cI, 400, .inl (fun j => nI (a j))))] := hD
  by_cases hp2 : ix < L
  · skip
    have h8 := ha _ hp2
    refine wl_asi (y := nI (a ix)) (by rw [hw5, if_pos hp2]) ?_
    refine lv_bipush (v := nI 94) hx hb dX0_readBrackets_8 (by decide) ?_
    refine wl_icmp_eq (tgt := 17) hx hb dX0_readBrackets_10 (by decide) (by omega) (by omega) (fun c10 => ?_) (fun c10 => ?_)
    · skip
      refine lv_iconst (v := nI 0) hx hb dX0_readBrackets_17 (by decide) ?_
      refine lv_istore_n (lv' := [(1, .int (nI 0)), (0, .ref hR)]) hx hb dX0_readBrackets_18 rfl hl (by decide) rfl (fun ls hl => ?_)
      refine lv_iload_n hx hb dX0_readBrackets_19 rfl (lv_at hl 0 rfl) ?_
      refine lv_if_ne (tgt := 45) hx hb dX0_readBrackets_20 (by decide) (fun c20 => ?_) (fun c20 => ?_)
      · first | exact absurd c20 (by decide) | exact absurd (by decide) c20
      · skip
        refine lv_aload_n hx hb dX0_readBrackets_23 rfl (lv_at hl 1 rfl) ?_
        refine lv_dup hx hb dX0_readBrackets_24 rfl ?_
        refine va_get (D := (dC, dI)) (ci := 0) (v := .int (nI ix)) (C := RX0) (T := TX0) (N := 4) hx hb hts (by decide +kernel) hown hK hP 4 rfl rfl 3 (by decide) (hts (.fieldLink RX0 23 "WildCards$Reader" "at" "I") (by decide +kernel)) (fun _ h9 => h9) rfl dX0_readBrackets_25 ?_
        refine lv_iconst (v := nI 1) hx hb dX0_readBrackets_28 (by decide) ?_
        refine lv_iadd hx hb dX0_readBrackets_29 ?_
        refine wl_asi (y := nI (ix + 1)) (nI_add _ _) ?_
        refine va_put (D := (dC, dI)) (ci := 0) (v := .int (nI (ix + 1))) (ty := .int) (C := RX0) (T := TX0) (N := 4) hx hb hts (by decide +kernel) tyX0 tyX0_ok nmX0 hown hK hP hD hS 4 rfl rfl 3 (by decide) (hts (.fieldLink RX0 23 "WildCards$Reader" "at" "I") (by decide +kernel)) (fun _ h9 => h9) rfl (by decide +kernel) rfl rfl (Nat.le_of_ble_eq_true rfl) dX0_readBrackets_30 (fun H locs hP hD hS => ?_)
        have hP : va_P (dC, dI) vwCl [(hT, .inr (1, [.ref qT, .ref qL, .ref qR, .int (nI cnt)])), (qT, .inl (cJ, 1792, .inr (.inl fT))), (qL, .inl (cJ, 7, .inr (.inl fL))), (qR, .inl (cJ, 7, .inr (.inl fR))), (hR, .inr (0, [.ref qB, .int (nI L), .ref hT, .int (nI (ix + 1))])), (qB, .inl (cI, 400, .inl (fun j => nI (a j))))] H := hP
        have hD : va_D A [(hT, .inr (1, [.ref qT, .ref qL, .ref qR, .int (nI cnt)])), (qT, .inl (cJ, 1792, .inr (.inl fT))), (qL, .inl (cJ, 7, .inr (.inl fL))), (qR, .inl (cJ, 7, .inr (.inl fR))), (hR, .inr (0, [.ref qB, .int (nI L), .ref hT, .int (nI (ix + 1))])), (qB, .inl (cI, 400, .inl (fun j => nI (a j))))] := hD
        refine lv_aload_n hx hb dX0_readBrackets_33 rfl (lv_at hl 1 rfl) ?_
        refine va_get (D := (dC, dI)) (ci := 0) (v := .ref hT) (C := RX0) (T := TX0) (N := 4) hx hb hts (by decide +kernel) hown hK hP 4 rfl rfl 2 (by decide) (hts (.fieldLink RX0 19 "WildCards$Reader" "things" "LWildCards$Things;") (by decide +kernel)) (fun _ h9 => h9) rfl dX0_readBrackets_34 ?_
        refine lv_iconst (v := nI 0) hx hb dX0_readBrackets_37 (by decide) ?_
        refine lv_sipush (v := nI 255) hx hb dX0_readBrackets_38 (by decide) ?_
        refine lv_iconst (v := nI 1) hx hb dX0_readBrackets_41 (by decide) ?_
        have hPc := hP.sub (ws' := [(hT, .inr (1, [.ref qT, .ref qL, .ref qR, .int (nI cnt)])), (qT, .inl (cJ, 1792, .inr (.inl fT))), (qL, .inl (cJ, 7, .inr (.inl fL))), (qR, .inl (cJ, 7, .inr (.inl fR)))]) [0, 1, 2, 3] rfl
        have hDc := hD.sub (ws' := [(hT, .inr (1, [.ref qT, .ref qL, .ref qR, .int (nI cnt)])), (qT, .inl (cJ, 1792, .inr (.inl fT))), (qL, .inl (cJ, 7, .inr (.inl fL))), (qR, .inl (cJ, 7, .inr (.inl fR)))]) [0, 1, 2, 3] (by decide) rfl
        have hFc := va_free (wc := [(hT, .inr (1, [.ref qT, .ref qL, .ref qR, .int (nI cnt)])), (qT, .inl (cJ, 1792, .inr (.inl fT))), (qL, .inl (cJ, 7, .inr (.inl fL))), (qR, .inl (cJ, 7, .inr (.inl fR)))]) hD hS hA [0, 1, 2, 3] rfl
        refine va_callv (va_runV (As := [.int (nI 0), .int (nI 255), .int (nI 1)]) (rest := []) ⟨hx, hb, hml, hown, hts⟩ (c_X1_tell l dC dI cI cJ cZ hT qT qL qR H.size cnt fT fL fR 0 255 1 (by omega) (by omega) (by omega) (by omega)) (cwV 3 hts gX0_readBrackets_X1_tell rfl rfl rfl (by decide +kernel) ⟨Nat.le_of_ble_eq_true rfl, Nat.le_of_ble_eq_true rfl⟩) ⟨fun a U g mk q => by obtain ⟨q0, q1, qP, qK, qD⟩ := q; exact ⟨q0, q1, qP, va_K.moved (u := U) (U := U.calling g mk a) (Vm.Alike.refl U.vm) qK, qD⟩, va_recv hK hPc (ci := 1) (q0 := 0) rfl rfl, fun U hU hW => ⟨rfl, by rw [hU], by rw [hU]; exact hPc, va_K.moved hW.alike hK, hDc.weaken (fun _ _ _ _ => trivial)⟩⟩ rfl rfl hl.1 rfl (lv_room (Nat.le_of_ble_eq_true rfl)) dX0_readBrackets_42 ⟨show 0 + 0 + 0 ≤ 0 from by decide, show 0 + 0 + 0 ≤ 0 from by decide⟩) hS (fun q _ h => hFc q h) hFc (fun u t H1 locs ht hvm hw42 hB hz1 hk1 hS => ?_)
        obtain ⟨fT242, rfl⟩ : ∃ z, z = u := ⟨_, rfl⟩
        obtain ⟨hP1, hK1, hD1⟩ := hB
        rw [ht] at hP1
        try dsimp only at hw42 hP1 hD1
        obtain ⟨hP, hD⟩ := va_join (wr := [(hR, .inr (0, [.ref qB, .int (nI L), .ref hT, .int (nI (ix + 1))])), (qB, .inl (cI, 400, .inl (fun j => nI (a j))))]) (w1 := [(hT, .inr (1, [.ref qT, .ref qL, .ref qR, .int (nI cnt)])), (qT, .inl (cJ, 1792, .inr (.inl fT242))), (qL, .inl (cJ, 7, .inr (.inl fL))), (qR, .inl (cJ, 7, .inr (.inl fR)))]) hP hD [0, 1, 2, 3] [4, 5] rfl rfl (by decide) (by decide) hk1 hFc hP1 hD1
        generalize H1 = H at hP hS ⊢
        have hP : va_P (dC, dI) vwCl [(hR, .inr (0, [.ref qB, .int (nI L), .ref hT, .int (nI (ix + 1))])), (qB, .inl (cI, 400, .inl (fun j => nI (a j)))), (hT, .inr (1, [.ref qT, .ref qL, .ref qR, .int (nI cnt)])), (qT, .inl (cJ, 1792, .inr (.inl fT242))), (qL, .inl (cJ, 7, .inr (.inl fL))), (qR, .inl (cJ, 7, .inr (.inl fR)))] H := hP
        have hD : va_D A [(hR, .inr (0, [.ref qB, .int (nI L), .ref hT, .int (nI (ix + 1))])), (qB, .inl (cI, 400, .inl (fun j => nI (a j)))), (hT, .inr (1, [.ref qT, .ref qL, .ref qR, .int (nI cnt)])), (qT, .inl (cJ, 1792, .inr (.inl fT242))), (qL, .inl (cJ, 7, .inr (.inl fL))), (qR, .inl (cJ, 7, .inr (.inl fR)))] := hD
        refine lv_iconst (v := nI 0) hx hb dX0_readBrackets_45 (by decide) ?_
        refine lv_istore_n (lv' := [(2, .int (nI 0)), (1, .int (nI 0)), (0, .ref hR)]) hx hb dX0_readBrackets_46 rfl hl (by decide) rfl (fun ls hl => ?_)
        refine wl_loop (σ := Nat × Nat × (Nat → Int64)) (fun z9 => L - z9.1) (fun z9 H locs ls => (z9.1 ≤ L) ∧ (z9.2.1 ≤ L) ∧ (BR a L cnt fT z9.2.2 true (ix + 1) z9.1 z9.2.1) ∧ va_P (dC, dI) vwCl [(hR, .inr (0, [.ref qB, .int (nI L), .ref hT, .int (nI z9.2.1)])), (qB, .inl (cI, 400, .inl (fun j => nI (a j)))), (hT, .inr (1, [.ref qT, .ref qL, .ref qR, .int (nI cnt)])), (qT, .inl (cJ, 1792, .inr (.inl z9.2.2))), (qL, .inl (cJ, 7, .inr (.inl fL))), (qR, .inl (cJ, 7, .inr (.inl fR)))] H ∧ va_D A [(hR, .inr (0, [.ref qB, .int (nI L), .ref hT, .int (nI z9.2.1)])), (qB, .inl (cI, 400, .inl (fun j => nI (a j)))), (hT, .inr (1, [.ref qT, .ref qL, .ref qR, .int (nI cnt)])), (qT, .inl (cJ, 1792, .inr (.inl z9.2.2))), (qL, .inl (cJ, 7, .inr (.inl fL))), (qR, .inl (cJ, 7, .inr (.inl fR)))] ∧ va_S A s.heap H locs ∧ lv_has ls 3 [(0, .ref hR), (1, .int (nI 0)), (2, .int (nI z9.1))]) ?_ (0, ix + 1, fT242) ⟨(show (0) ≤ L from Nat.zero_le _), (show (ix + 1) ≤ L from by omega), (show BR a L cnt fT fT242 true (ix + 1) (0) (ix + 1) from BR_i1 hc hnew hw42), hP.sub [0, 1, 2, 3, 4, 5] rfl, hD.sub [0, 1, 2, 3, 4, 5] (by decide) rfl, hS, lv_sub hl [2, 1, 0] rfl⟩
        intro z9 H locs ls hI ih47
        obtain ⟨rr, jx, g⟩ := z9
        obtain ⟨hr1, hj, hBR, hP, hD, hS, hl⟩ := hI
        try dsimp only at hr1 hj hBR hP hD hl
        have hP : va_P (dC, dI) vwCl [(hR, .inr (0, [.ref qB, .int (nI L), .ref hT, .int (nI jx)])), (qB, .inl (cI, 400, .inl (fun j => nI (a j)))), (hT, .inr (1, [.ref qT, .ref qL, .ref qR, .int (nI cnt)])), (qT, .inl (cJ, 1792, .inr (.inl g))), (qL, .inl (cJ, 7, .inr (.inl fL))), (qR, .inl (cJ, 7, .inr (.inl fR)))] H := hP
        have hD : va_D A [(hR, .inr (0, [.ref qB, .int (nI L), .ref hT, .int (nI jx)])), (qB, .inl (cI, 400, .inl (fun j => nI (a j)))), (hT, .inr (1, [.ref qT, .ref qL, .ref qR, .int (nI cnt)])), (qT, .inl (cJ, 1792, .inr (.inl g))), (qL, .inl (cJ, 7, .inr (.inl fL))), (qR, .inl (cJ, 7, .inr (.inl fR)))] := hD
        have hl : lv_has ls 3 [(0, .ref hR), (1, .int (nI 0)), (2, .int (nI rr))] := hl
        refine lv_iload_n hx hb dX0_readBrackets_47 rfl (lv_at hl 2 rfl) ?_
        refine lv_aload_n hx hb dX0_readBrackets_48 rfl (lv_at hl 0 rfl) ?_
        refine va_get (D := (dC, dI)) (ci := 0) (v := .int (nI L)) (C := RX0) (T := TX0) (N := 4) hx hb hts (by decide +kernel) hown hK hP 0 rfl rfl 1 (by decide) (hts (.fieldLink RX0 15 "WildCards$Reader" "length" "I") (by decide +kernel)) (fun _ h9 => h9) rfl dX0_readBrackets_49 ?_
        refine wl_icmp_ge (tgt := 77) hx hb dX0_readBrackets_52 (by decide) (by omega) (by omega) (fun c52 => ?_) (fun c52 => ?_)
        · skip
          refine lv_aload_n hx hb dX0_readBrackets_77 rfl (lv_at hl 0 rfl) ?_
          refine lv_dup hx hb dX0_readBrackets_78 rfl ?_
          refine va_get (D := (dC, dI)) (ci := 0) (v := .int (nI jx)) (C := RX0) (T := TX0) (N := 4) hx hb hts (by decide +kernel) hown hK hP 0 rfl rfl 3 (by decide) (hts (.fieldLink RX0 23 "WildCards$Reader" "at" "I") (by decide +kernel)) (fun _ h9 => h9) rfl dX0_readBrackets_79 ?_
          refine lv_iconst (v := nI 1) hx hb dX0_readBrackets_82 (by decide) ?_
          refine lv_iadd hx hb dX0_readBrackets_83 ?_
          refine wl_asi (y := nI (jx + 1)) (nI_add _ _) ?_
          refine va_put (D := (dC, dI)) (ci := 0) (v := .int (nI (jx + 1))) (ty := .int) (C := RX0) (T := TX0) (N := 4) hx hb hts (by decide +kernel) tyX0 tyX0_ok nmX0 hown hK hP hD hS 0 rfl rfl 3 (by decide) (hts (.fieldLink RX0 23 "WildCards$Reader" "at" "I") (by decide +kernel)) (fun _ h9 => h9) rfl (by decide +kernel) rfl rfl (Nat.le_of_ble_eq_true rfl) dX0_readBrackets_84 (fun H locs hP hD hS => ?_)
          have hP : va_P (dC, dI) vwCl [(hR, .inr (0, [.ref qB, .int (nI L), .ref hT, .int (nI (jx + 1))])), (qB, .inl (cI, 400, .inl (fun j => nI (a j)))), (hT, .inr (1, [.ref qT, .ref qL, .ref qR, .int (nI cnt)])), (qT, .inl (cJ, 1792, .inr (.inl g))), (qL, .inl (cJ, 7, .inr (.inl fL))), (qR, .inl (cJ, 7, .inr (.inl fR)))] H := hP
          have hD : va_D A [(hR, .inr (0, [.ref qB, .int (nI L), .ref hT, .int (nI (jx + 1))])), (qB, .inl (cI, 400, .inl (fun j => nI (a j)))), (hT, .inr (1, [.ref qT, .ref qL, .ref qR, .int (nI cnt)])), (qT, .inl (cJ, 1792, .inr (.inl g))), (qL, .inl (cJ, 7, .inr (.inl fL))), (qR, .inl (cJ, 7, .inr (.inl fR)))] := hD
          have hP9 := hP.sub (ws' := [(hR, .inr (0, [.ref qB, .int (nI L), .ref hT, .int (nI (jx + 1))])), (qB, .inl (cI, 400, .inl (fun j => nI (a j)))), (hT, .inr (1, [.ref qT, .ref qL, .ref qR, .int (nI cnt)])), (qT, .inl (cJ, 1792, .inr (.inl g))), (qL, .inl (cJ, 7, .inr (.inl fL))), (qR, .inl (cJ, 7, .inr (.inl fR)))]) [0, 1, 2, 3, 4, 5] rfl
          have hD9 := hD.sub (ws' := [(hR, .inr (0, [.ref qB, .int (nI L), .ref hT, .int (nI (jx + 1))])), (qB, .inl (cI, 400, .inl (fun j => nI (a j)))), (hT, .inr (1, [.ref qT, .ref qL, .ref qR, .int (nI cnt)])), (qT, .inl (cJ, 1792, .inr (.inl g))), (qL, .inl (cJ, 7, .inr (.inl fL))), (qR, .inl (cJ, 7, .inr (.inl fR)))]) [0, 1, 2, 3, 4, 5] (by decide) rfl
          exact W.vret hx hb hr (fun t ht hW => ⟨⟨(jx + 1, g), rfl, (show (jx + 1) = brn a L ix ∧ ∀ x k, x < 256 → k < 448 → lb g (448 * x + k) = if k = cnt then brs a L ix x else lb fT (448 * x + k) from ⟨by rw [brn_1 (brg_1 hp2 c10), ← (BR_e hBR (Or.inl c52)).1], br_1 (brg_1 hp2 c10) (BR_e hBR (Or.inl c52)).2.1 (BR_e hBR (Or.inl c52)).2.2⟩), by rw [ht]; exact hP9, va_K.moved hW.alike hK, hD9⟩, hS.F ht⟩) hS.2.2 dX0_readBrackets_87
        · skip
          refine lv_aload_n hx hb dX0_readBrackets_55 rfl (lv_at hl 0 rfl) ?_
          refine lv_aload_n hx hb dX0_readBrackets_56 rfl (lv_at hl 0 rfl) ?_
          refine va_get (D := (dC, dI)) (ci := 0) (v := .int (nI jx)) (C := RX0) (T := TX0) (N := 4) hx hb hts (by decide +kernel) hown hK hP 0 rfl rfl 3 (by decide) (hts (.fieldLink RX0 23 "WildCards$Reader" "at" "I") (by decide +kernel)) (fun _ h9 => h9) rfl dX0_readBrackets_57 ?_
          have hPc := hP.sub (ws' := [(hR, .inr (0, [.ref qB, .int (nI L), .ref hT, .int (nI jx)])), (qB, .inl (cI, 400, .inl (fun j => nI (a j))))]) [0, 1] rfl
          have hDc := hD.sub (ws' := [(hR, .inr (0, [.ref qB, .int (nI L), .ref hT, .int (nI jx)])), (qB, .inl (cI, 400, .inl (fun j => nI (a j))))]) [0, 1] (by decide) rfl
          have hFc := va_free (wc := [(hR, .inr (0, [.ref qB, .int (nI L), .ref hT, .int (nI jx)])), (qB, .inl (cI, 400, .inl (fun j => nI (a j))))]) hD hS hA [0, 1] rfl
          refine va_calli (va_runV (As := [.int (nI jx)]) (rest := []) ⟨hx, hb, hml, hown, hts⟩ (c_X0_bracketsEndAt l dC dI cI cJ cZ hR qB hT H.size L jx a jx hL ha (by omega)) (cwV 1 hts gX0_readBrackets_X0_bracketsEndAt rfl rfl rfl (by decide +kernel) ⟨Nat.le_of_ble_eq_true rfl, Nat.le_of_ble_eq_true rfl⟩) ⟨fun a U g mk q => by obtain ⟨q0, q1, qP, qK, qD⟩ := q; exact ⟨q0, q1, qP, va_K.moved (u := U) (U := U.calling g mk a) (Vm.Alike.refl U.vm) qK, qD⟩, va_recv hK hPc (ci := 0) (q0 := 0) rfl rfl, fun U hU hW => ⟨rfl, by rw [hU], by rw [hU]; exact hPc, va_K.moved hW.alike hK, hDc.weaken (fun _ _ _ _ => trivial)⟩⟩ rfl rfl hl.1 rfl (lv_room (Nat.le_of_ble_eq_true rfl)) dX0_readBrackets_60 ⟨show 0 + 0 + 0 + 0 ≤ 0 from by decide, show 0 + 0 + 0 + 0 ≤ 0 from by decide⟩) hS (fun q _ h => hFc q h) hFc (fun r60 u t H1 locs ht hvm hw60 hB hz1 hk1 hS => ?_)
          obtain ⟨hP1, hK1, hD1⟩ := hB
          rw [ht] at hP1
          try dsimp only at hw60 hP1 hD1
          obtain ⟨hP, hD⟩ := va_join (wr := [(hT, .inr (1, [.ref qT, .ref qL, .ref qR, .int (nI cnt)])), (qT, .inl (cJ, 1792, .inr (.inl g))), (qL, .inl (cJ, 7, .inr (.inl fL))), (qR, .inl (cJ, 7, .inr (.inl fR)))]) (w1 := [(hR, .inr (0, [.ref qB, .int (nI L), .ref hT, .int (nI jx)])), (qB, .inl (cI, 400, .inl (fun j => nI (a j))))]) hP hD [0, 1] [2, 3, 4, 5] rfl rfl (by decide) (by decide) hk1 hFc hP1 hD1
          generalize H1 = H at hP hS ⊢
          have hP : va_P (dC, dI) vwCl [(hT, .inr (1, [.ref qT, .ref qL, .ref qR, .int (nI cnt)])), (qT, .inl (cJ, 1792, .inr (.inl g))), (qL, .inl (cJ, 7, .inr (.inl fL))), (qR, .inl (cJ, 7, .inr (.inl fR))), (hR, .inr (0, [.ref qB, .int (nI L), .ref hT, .int (nI jx)])), (qB, .inl (cI, 400, .inl (fun j => nI (a j))))] H := hP
          have hD : va_D A [(hT, .inr (1, [.ref qT, .ref qL, .ref qR, .int (nI cnt)])), (qT, .inl (cJ, 1792, .inr (.inl g))), (qL, .inl (cJ, 7, .inr (.inl fL))), (qR, .inl (cJ, 7, .inr (.inl fR))), (hR, .inr (0, [.ref qB, .int (nI L), .ref hT, .int (nI jx)])), (qB, .inl (cI, 400, .inl (fun j => nI (a j))))] := hD
          by_cases hb2 : bnd a L jx = true
          · skip
            refine wl_asi (y := nI 1) (by rw [hw60, if_pos hb2]; rfl) ?_
            refine lv_if_ne (tgt := 77) hx hb dX0_readBrackets_63 (by decide) (fun c63 => ?_) (fun c63 => ?_)
            rotate_left
            · first | exact absurd c63 (by decide) | exact absurd (by decide) c63
            · skip
              refine lv_aload_n hx hb dX0_readBrackets_77 rfl (lv_at hl 0 rfl) ?_
              refine lv_dup hx hb dX0_readBrackets_78 rfl ?_
              refine va_get (D := (dC, dI)) (ci := 0) (v := .int (nI jx)) (C := RX0) (T := TX0) (N := 4) hx hb hts (by decide +kernel) hown hK hP 4 rfl rfl 3 (by decide) (hts (.fieldLink RX0 23 "WildCards$Reader" "at" "I") (by decide +kernel)) (fun _ h9 => h9) rfl dX0_readBrackets_79 ?_
              refine lv_iconst (v := nI 1) hx hb dX0_readBrackets_82 (by decide) ?_
              refine lv_iadd hx hb dX0_readBrackets_83 ?_
              refine wl_asi (y := nI (jx + 1)) (nI_add _ _) ?_
              refine va_put (D := (dC, dI)) (ci := 0) (v := .int (nI (jx + 1))) (ty := .int) (C := RX0) (T := TX0) (N := 4) hx hb hts (by decide +kernel) tyX0 tyX0_ok nmX0 hown hK hP hD hS 4 rfl rfl 3 (by decide) (hts (.fieldLink RX0 23 "WildCards$Reader" "at" "I") (by decide +kernel)) (fun _ h9 => h9) rfl (by decide +kernel) rfl rfl (Nat.le_of_ble_eq_true rfl) dX0_readBrackets_84 (fun H locs hP hD hS => ?_)
              have hP : va_P (dC, dI) vwCl [(hT, .inr (1, [.ref qT, .ref qL, .ref qR, .int (nI cnt)])), (qT, .inl (cJ, 1792, .inr (.inl g))), (qL, .inl (cJ, 7, .inr (.inl fL))), (qR, .inl (cJ, 7, .inr (.inl fR))), (hR, .inr (0, [.ref qB, .int (nI L), .ref hT, .int (nI (jx + 1))])), (qB, .inl (cI, 400, .inl (fun j => nI (a j))))] H := hP
              have hD : va_D A [(hT, .inr (1, [.ref qT, .ref qL, .ref qR, .int (nI cnt)])), (qT, .inl (cJ, 1792, .inr (.inl g))), (qL, .inl (cJ, 7, .inr (.inl fL))), (qR, .inl (cJ, 7, .inr (.inl fR))), (hR, .inr (0, [.ref qB, .int (nI L), .ref hT, .int (nI (jx + 1))])), (qB, .inl (cI, 400, .inl (fun j => nI (a j))))] := hD
              have hP9 := hP.sub (ws' := [(hR, .inr (0, [.ref qB, .int (nI L), .ref hT, .int (nI (jx + 1))])), (qB, .inl (cI, 400, .inl (fun j => nI (a j)))), (hT, .inr (1, [.ref qT, .ref qL, .ref qR, .int (nI cnt)])), (qT, .inl (cJ, 1792, .inr (.inl g))), (qL, .inl (cJ, 7, .inr (.inl fL))), (qR, .inl (cJ, 7, .inr (.inl fR)))]) [4, 5, 0, 1, 2, 3] rfl
              have hD9 := hD.sub (ws' := [(hR, .inr (0, [.ref qB, .int (nI L), .ref hT, .int (nI (jx + 1))])), (qB, .inl (cI, 400, .inl (fun j => nI (a j)))), (hT, .inr (1, [.ref qT, .ref qL, .ref qR, .int (nI cnt)])), (qT, .inl (cJ, 1792, .inr (.inl g))), (qL, .inl (cJ, 7, .inr (.inl fL))), (qR, .inl (cJ, 7, .inr (.inl fR)))]) [4, 5, 0, 1, 2, 3] (by decide) rfl
              exact W.vret hx hb hr (fun t ht hW => ⟨⟨(jx + 1, g), rfl, (show (jx + 1) = brn a L ix ∧ ∀ x k, x < 256 → k < 448 → lb g (448 * x + k) = if k = cnt then brs a L ix x else lb fT (448 * x + k) from ⟨by rw [brn_1 (brg_1 hp2 c10), ← (BR_e hBR (Or.inr hb2)).1], br_1 (brg_1 hp2 c10) (BR_e hBR (Or.inr hb2)).2.1 (BR_e hBR (Or.inr hb2)).2.2⟩), by rw [ht]; exact hP9, va_K.moved hW.alike hK, hD9⟩, hS.F ht⟩) hS.2.2 dX0_readBrackets_87
          · skip
            refine wl_asi (y := nI 0) (by rw [hw60, if_neg hb2]; rfl) ?_
            refine lv_if_ne (tgt := 77) hx hb dX0_readBrackets_63 (by decide) (fun c63 => ?_) (fun c63 => ?_)
            · first | exact absurd c63 (by decide) | exact absurd (by decide) c63
            · skip
              refine lv_aload_n hx hb dX0_readBrackets_66 rfl (lv_at hl 0 rfl) ?_
              refine lv_iload_n hx hb dX0_readBrackets_67 rfl (lv_at hl 1 rfl) ?_
              have hPc := hP.sub (ws' := [(hR, .inr (0, [.ref qB, .int (nI L), .ref hT, .int (nI jx)])), (qB, .inl (cI, 400, .inl (fun j => nI (a j)))), (hT, .inr (1, [.ref qT, .ref qL, .ref qR, .int (nI cnt)])), (qT, .inl (cJ, 1792, .inr (.inl g))), (qL, .inl (cJ, 7, .inr (.inl fL))), (qR, .inl (cJ, 7, .inr (.inl fR)))]) [4, 5, 0, 1, 2, 3] rfl
              have hDc := hD.sub (ws' := [(hR, .inr (0, [.ref qB, .int (nI L), .ref hT, .int (nI jx)])), (qB, .inl (cI, 400, .inl (fun j => nI (a j)))), (hT, .inr (1, [.ref qT, .ref qL, .ref qR, .int (nI cnt)])), (qT, .inl (cJ, 1792, .inr (.inl g))), (qL, .inl (cJ, 7, .inr (.inl fL))), (qR, .inl (cJ, 7, .inr (.inl fR)))]) [4, 5, 0, 1, 2, 3] (by decide) rfl
              have hFc := va_free (wc := [(hR, .inr (0, [.ref qB, .int (nI L), .ref hT, .int (nI jx)])), (qB, .inl (cI, 400, .inl (fun j => nI (a j)))), (hT, .inr (1, [.ref qT, .ref qL, .ref qR, .int (nI cnt)])), (qT, .inl (cJ, 1792, .inr (.inl g))), (qL, .inl (cJ, 7, .inr (.inl fL))), (qR, .inl (cJ, 7, .inr (.inl fR)))]) hD hS hA [4, 5, 0, 1, 2, 3] rfl
              refine va_callv (va_runV (As := [.int (nI 0)]) (rest := []) ⟨hx, hb, hml, hown, hts⟩ (c_X0_readTold l dC dI cI cJ cZ hR qB hT qT qL qR H.size L jx a cnt g fL fR 0 hL ha (bnd_f hb2).1 hc (by omega)) (cwV 1 hts gX0_readBrackets_X0_readTold rfl rfl rfl (by decide +kernel) ⟨Nat.le_of_ble_eq_true rfl, Nat.le_of_ble_eq_true rfl⟩) ⟨fun a U g mk q => by obtain ⟨q0, q1, qP, qK, qD⟩ := q; exact ⟨q0, q1, qP, va_K.moved (u := U) (U := U.calling g mk a) (Vm.Alike.refl U.vm) qK, qD⟩, va_recv hK hPc (ci := 0) (q0 := 0) rfl rfl, fun U hU hW => ⟨rfl, by rw [hU], by rw [hU]; exact hPc, va_K.moved hW.alike hK, hDc.weaken (fun _ _ _ _ => trivial)⟩⟩ rfl rfl hl.1 rfl (lv_room (Nat.le_of_ble_eq_true rfl)) dX0_readBrackets_68 ⟨show 0 + 0 + 0 + 0 + 0 ≤ 0 from by decide, show 0 + 0 + 0 + 0 + 0 ≤ 0 from by decide⟩) hS (fun q _ h => hFc q h) hFc (fun u t H1 locs ht hvm hw68 hB hz1 hk1 hS => ?_)
              obtain ⟨ix268, fT268⟩ := u
              obtain ⟨hP1, hK1, hD1⟩ := hB
              rw [ht] at hP1
              try dsimp only at hw68 hP1 hD1
              obtain ⟨hP, hD⟩ := va_join (wr := []) (w1 := [(hR, .inr (0, [.ref qB, .int (nI L), .ref hT, .int (nI ix268)])), (qB, .inl (cI, 400, .inl (fun j => nI (a j)))), (hT, .inr (1, [.ref qT, .ref qL, .ref qR, .int (nI cnt)])), (qT, .inl (cJ, 1792, .inr (.inl fT268))), (qL, .inl (cJ, 7, .inr (.inl fL))), (qR, .inl (cJ, 7, .inr (.inl fR)))]) hP hD [4, 5, 0, 1, 2, 3] [] rfl rfl (by decide) (by decide) hk1 hFc hP1 hD1
              generalize H1 = H at hP hS ⊢
              have hP : va_P (dC, dI) vwCl [(hR, .inr (0, [.ref qB, .int (nI L), .ref hT, .int (nI ix268)])), (qB, .inl (cI, 400, .inl (fun j => nI (a j)))), (hT, .inr (1, [.ref qT, .ref qL, .ref qR, .int (nI cnt)])), (qT, .inl (cJ, 1792, .inr (.inl fT268))), (qL, .inl (cJ, 7, .inr (.inl fL))), (qR, .inl (cJ, 7, .inr (.inl fR)))] H := hP
              have hD : va_D A [(hR, .inr (0, [.ref qB, .int (nI L), .ref hT, .int (nI ix268)])), (qB, .inl (cI, 400, .inl (fun j => nI (a j)))), (hT, .inr (1, [.ref qT, .ref qL, .ref qR, .int (nI cnt)])), (qT, .inl (cJ, 1792, .inr (.inl fT268))), (qL, .inl (cJ, 7, .inr (.inl fL))), (qR, .inl (cJ, 7, .inr (.inl fR)))] := hD
              obtain ⟨rfl, hw68⟩ := hw68
              replace hw68 := And.intro True.intro hw68
              refine lv_iinc (v := nI (rr + 1)) (lv' := [(2, .int (nI (rr + 1))), (0, .ref hR), (1, .int (nI 0))]) hx hb dX0_readBrackets_71 hl (k := 2) rfl (wl_inc _ _ (by decide)) (by decide) rfl (fun ls hl => ?_)
              refine lv_goto (tgt := 47) hx hb dX0_readBrackets_74 (by decide) ?_
              exact ih47 (rr + 1, tnx a L jx, fT268) H locs ls ⟨(show (rr + 1) ≤ L from by omega), (show (tnx a L jx) ≤ L from (tnx_le a (bnd_f hb2).1).1), (show BR a L cnt fT fT268 true (ix + 1) (rr + 1) (tnx a L jx) from BR_s hc hBR (by omega) hb2 hw68.2), hP.sub [0, 1, 2, 3, 4, 5] rfl, hD.sub [0, 1, 2, 3, 4, 5] (by decide) rfl, hS, lv_sub hl [1, 2, 0] rfl⟩ (by (try dsimp only); omega)
    · skip
      refine lv_iconst (v := nI 1) hx hb dX0_readBrackets_13 (by decide) ?_
      refine lv_goto (tgt := 18) hx hb dX0_readBrackets_14 (by decide) ?_
      refine lv_istore_n (lv' := [(1, .int (nI 1)), (0, .ref hR)]) hx hb dX0_readBrackets_18 rfl hl (by decide) rfl (fun ls hl => ?_)
      refine lv_iload_n hx hb dX0_readBrackets_19 rfl (lv_at hl 0 rfl) ?_
      refine lv_if_ne (tgt := 45) hx hb dX0_readBrackets_20 (by decide) (fun c20 => ?_) (fun c20 => ?_)
      rotate_left
      · first | exact absurd c20 (by decide) | exact absurd (by decide) c20
      · skip
        refine lv_iconst (v := nI 0) hx hb dX0_readBrackets_45 (by decide) ?_
        refine lv_istore_n (lv' := [(2, .int (nI 0)), (1, .int (nI 1)), (0, .ref hR)]) hx hb dX0_readBrackets_46 rfl hl (by decide) rfl (fun ls hl => ?_)
        refine wl_loop (σ := Nat × Nat × (Nat → Int64)) (fun z9 => L - z9.1) (fun z9 H locs ls => (z9.1 ≤ L) ∧ (z9.2.1 ≤ L) ∧ (BR a L cnt fT z9.2.2 false ix z9.1 z9.2.1) ∧ va_P (dC, dI) vwCl [(hR, .inr (0, [.ref qB, .int (nI L), .ref hT, .int (nI z9.2.1)])), (qB, .inl (cI, 400, .inl (fun j => nI (a j)))), (hT, .inr (1, [.ref qT, .ref qL, .ref qR, .int (nI cnt)])), (qT, .inl (cJ, 1792, .inr (.inl z9.2.2))), (qL, .inl (cJ, 7, .inr (.inl fL))), (qR, .inl (cJ, 7, .inr (.inl fR)))] H ∧ va_D A [(hR, .inr (0, [.ref qB, .int (nI L), .ref hT, .int (nI z9.2.1)])), (qB, .inl (cI, 400, .inl (fun j => nI (a j)))), (hT, .inr (1, [.ref qT, .ref qL, .ref qR, .int (nI cnt)])), (qT, .inl (cJ, 1792, .inr (.inl z9.2.2))), (qL, .inl (cJ, 7, .inr (.inl fL))), (qR, .inl (cJ, 7, .inr (.inl fR)))] ∧ va_S A s.heap H locs ∧ lv_has ls 3 [(0, .ref hR), (1, .int (nI 1)), (2, .int (nI z9.1))]) ?_ (0, ix, fT) ⟨(show (0) ≤ L from Nat.zero_le _), (show ix ≤ L from hat), (show BR a L cnt fT fT false ix (0) ix from BR_i0 hnew), hP.sub [4, 5, 0, 1, 2, 3] rfl, hD.sub [4, 5, 0, 1, 2, 3] (by decide) rfl, hS, lv_sub hl [2, 1, 0] rfl⟩
        intro z9 H locs ls hI ih47
        obtain ⟨rr, jx, g⟩ := z9
        obtain ⟨hr1, hj, hBR, hP, hD, hS, hl⟩ := hI
        try dsimp only at hr1 hj hBR hP hD hl
        have hP : va_P (dC, dI) vwCl [(hR, .inr (0, [.ref qB, .int (nI L), .ref hT, .int (nI jx)])), (qB, .inl (cI, 400, .inl (fun j => nI (a j)))), (hT, .inr (1, [.ref qT, .ref qL, .ref qR, .int (nI cnt)])), (qT, .inl (cJ, 1792, .inr (.inl g))), (qL, .inl (cJ, 7, .inr (.inl fL))), (qR, .inl (cJ, 7, .inr (.inl fR)))] H := hP
        have hD : va_D A [(hR, .inr (0, [.ref qB, .int (nI L), .ref hT, .int (nI jx)])), (qB, .inl (cI, 400, .inl (fun j => nI (a j)))), (hT, .inr (1, [.ref qT, .ref qL, .ref qR, .int (nI cnt)])), (qT, .inl (cJ, 1792, .inr (.inl g))), (qL, .inl (cJ, 7, .inr (.inl fL))), (qR, .inl (cJ, 7, .inr (.inl fR)))] := hD
        have hl : lv_has ls 3 [(0, .ref hR), (1, .int (nI 1)), (2, .int (nI rr))] := hl
        refine lv_iload_n hx hb dX0_readBrackets_47 rfl (lv_at hl 2 rfl) ?_
        refine lv_aload_n hx hb dX0_readBrackets_48 rfl (lv_at hl 0 rfl) ?_
        refine va_get (D := (dC, dI)) (ci := 0) (v := .int (nI L)) (C := RX0) (T := TX0) (N := 4) hx hb hts (by decide +kernel) hown hK hP 0 rfl rfl 1 (by decide) (hts (.fieldLink RX0 15 "WildCards$Reader" "length" "I") (by decide +kernel)) (fun _ h9 => h9) rfl dX0_readBrackets_49 ?_
        refine wl_icmp_ge (tgt := 77) hx hb dX0_readBrackets_52 (by decide) (by omega) (by omega) (fun c52 => ?_) (fun c52 => ?_)
        · skip
          refine lv_aload_n hx hb dX0_readBrackets_77 rfl (lv_at hl 0 rfl) ?_
          refine lv_dup hx hb dX0_readBrackets_78 rfl ?_
          refine va_get (D := (dC, dI)) (ci := 0) (v := .int (nI jx)) (C := RX0) (T := TX0) (N := 4) hx hb hts (by decide +kernel) hown hK hP 0 rfl rfl 3 (by decide) (hts (.fieldLink RX0 23 "WildCards$Reader" "at" "I") (by decide +kernel)) (fun _ h9 => h9) rfl dX0_readBrackets_79 ?_
          refine lv_iconst (v := nI 1) hx hb dX0_readBrackets_82 (by decide) ?_
          refine lv_iadd hx hb dX0_readBrackets_83 ?_
          refine wl_asi (y := nI (jx + 1)) (nI_add _ _) ?_
          refine va_put (D := (dC, dI)) (ci := 0) (v := .int (nI (jx + 1))) (ty := .int) (C := RX0) (T := TX0) (N := 4) hx hb hts (by decide +kernel) tyX0 tyX0_ok nmX0 hown hK hP hD hS 0 rfl rfl 3 (by decide) (hts (.fieldLink RX0 23 "WildCards$Reader" "at" "I") (by decide +kernel)) (fun _ h9 => h9) rfl (by decide +kernel) rfl rfl (Nat.le_of_ble_eq_true rfl) dX0_readBrackets_84 (fun H locs hP hD hS => ?_)
          have hP : va_P (dC, dI) vwCl [(hR, .inr (0, [.ref qB, .int (nI L), .ref hT, .int (nI (jx + 1))])), (qB, .inl (cI, 400, .inl (fun j => nI (a j)))), (hT, .inr (1, [.ref qT, .ref qL, .ref qR, .int (nI cnt)])), (qT, .inl (cJ, 1792, .inr (.inl g))), (qL, .inl (cJ, 7, .inr (.inl fL))), (qR, .inl (cJ, 7, .inr (.inl fR)))] H := hP
          have hD : va_D A [(hR, .inr (0, [.ref qB, .int (nI L), .ref hT, .int (nI (jx + 1))])), (qB, .inl (cI, 400, .inl (fun j => nI (a j)))), (hT, .inr (1, [.ref qT, .ref qL, .ref qR, .int (nI cnt)])), (qT, .inl (cJ, 1792, .inr (.inl g))), (qL, .inl (cJ, 7, .inr (.inl fL))), (qR, .inl (cJ, 7, .inr (.inl fR)))] := hD
          have hP9 := hP.sub (ws' := [(hR, .inr (0, [.ref qB, .int (nI L), .ref hT, .int (nI (jx + 1))])), (qB, .inl (cI, 400, .inl (fun j => nI (a j)))), (hT, .inr (1, [.ref qT, .ref qL, .ref qR, .int (nI cnt)])), (qT, .inl (cJ, 1792, .inr (.inl g))), (qL, .inl (cJ, 7, .inr (.inl fL))), (qR, .inl (cJ, 7, .inr (.inl fR)))]) [0, 1, 2, 3, 4, 5] rfl
          have hD9 := hD.sub (ws' := [(hR, .inr (0, [.ref qB, .int (nI L), .ref hT, .int (nI (jx + 1))])), (qB, .inl (cI, 400, .inl (fun j => nI (a j)))), (hT, .inr (1, [.ref qT, .ref qL, .ref qR, .int (nI cnt)])), (qT, .inl (cJ, 1792, .inr (.inl g))), (qL, .inl (cJ, 7, .inr (.inl fL))), (qR, .inl (cJ, 7, .inr (.inl fR)))]) [0, 1, 2, 3, 4, 5] (by decide) rfl
          exact W.vret hx hb hr (fun t ht hW => ⟨⟨(jx + 1, g), rfl, (show (jx + 1) = brn a L ix ∧ ∀ x k, x < 256 → k < 448 → lb g (448 * x + k) = if k = cnt then brs a L ix x else lb fT (448 * x + k) from ⟨by rw [brn_0 (brg_b c10), ← (BR_e hBR (Or.inl c52)).1], br_0 (brg_b c10) (BR_e hBR (Or.inl c52)).2.1 (BR_e hBR (Or.inl c52)).2.2⟩), by rw [ht]; exact hP9, va_K.moved hW.alike hK, hD9⟩, hS.F ht⟩) hS.2.2 dX0_readBrackets_87
        · skip
          refine lv_aload_n hx hb dX0_readBrackets_55 rfl (lv_at hl 0 rfl) ?_
          refine lv_aload_n hx hb dX0_readBrackets_56 rfl (lv_at hl 0 rfl) ?_
          refine va_get (D := (dC, dI)) (ci := 0) (v := .int (nI jx)) (C := RX0) (T := TX0) (N := 4) hx hb hts (by decide +kernel) hown hK hP 0 rfl rfl 3 (by decide) (hts (.fieldLink RX0 23 "WildCards$Reader" "at" "I") (by decide +kernel)) (fun _ h9 => h9) rfl dX0_readBrackets_57 ?_
          have hPc := hP.sub (ws' := [(hR, .inr (0, [.ref qB, .int (nI L), .ref hT, .int (nI jx)])), (qB, .inl (cI, 400, .inl (fun j => nI (a j))))]) [0, 1] rfl
          have hDc := hD.sub (ws' := [(hR, .inr (0, [.ref qB, .int (nI L), .ref hT, .int (nI jx)])), (qB, .inl (cI, 400, .inl (fun j => nI (a j))))]) [0, 1] (by decide) rfl
          have hFc := va_free (wc := [(hR, .inr (0, [.ref qB, .int (nI L), .ref hT, .int (nI jx)])), (qB, .inl (cI, 400, .inl (fun j => nI (a j))))]) hD hS hA [0, 1] rfl
          refine va_calli (va_runV (As := [.int (nI jx)]) (rest := []) ⟨hx, hb, hml, hown, hts⟩ (c_X0_bracketsEndAt l dC dI cI cJ cZ hR qB hT H.size L jx a jx hL ha (by omega)) (cwV 1 hts gX0_readBrackets_X0_bracketsEndAt rfl rfl rfl (by decide +kernel) ⟨Nat.le_of_ble_eq_true rfl, Nat.le_of_ble_eq_true rfl⟩) ⟨fun a U g mk q => by obtain ⟨q0, q1, qP, qK, qD⟩ := q; exact ⟨q0, q1, qP, va_K.moved (u := U) (U := U.calling g mk a) (Vm.Alike.refl U.vm) qK, qD⟩, va_recv hK hPc (ci := 0) (q0 := 0) rfl rfl, fun U hU hW => ⟨rfl, by rw [hU], by rw [hU]; exact hPc, va_K.moved hW.alike hK, hDc.weaken (fun _ _ _ _ => trivial)⟩⟩ rfl rfl hl.1 rfl (lv_room (Nat.le_of_ble_eq_true rfl)) dX0_readBrackets_60 ⟨show 0 + 0 + 0 ≤ 0 from by decide, show 0 + 0 + 0 ≤ 0 from by decide⟩) hS (fun q _ h => hFc q h) hFc (fun r60 u t H1 locs ht hvm hw60 hB hz1 hk1 hS => ?_)
          obtain ⟨hP1, hK1, hD1⟩ := hB
          rw [ht] at hP1
          try dsimp only at hw60 hP1 hD1
          obtain ⟨hP, hD⟩ := va_join (wr := [(hT, .inr (1, [.ref qT, .ref qL, .ref qR, .int (nI cnt)])), (qT, .inl (cJ, 1792, .inr (.inl g))), (qL, .inl (cJ, 7, .inr (.inl fL))), (qR, .inl (cJ, 7, .inr (.inl fR)))]) (w1 := [(hR, .inr (0, [.ref qB, .int (nI L), .ref hT, .int (nI jx)])), (qB, .inl (cI, 400, .inl (fun j => nI (a j))))]) hP hD [0, 1] [2, 3, 4, 5] rfl rfl (by decide) (by decide) hk1 hFc hP1 hD1
          generalize H1 = H at hP hS ⊢
          have hP : va_P (dC, dI) vwCl [(hT, .inr (1, [.ref qT, .ref qL, .ref qR, .int (nI cnt)])), (qT, .inl (cJ, 1792, .inr (.inl g))), (qL, .inl (cJ, 7, .inr (.inl fL))), (qR, .inl (cJ, 7, .inr (.inl fR))), (hR, .inr (0, [.ref qB, .int (nI L), .ref hT, .int (nI jx)])), (qB, .inl (cI, 400, .inl (fun j => nI (a j))))] H := hP
          have hD : va_D A [(hT, .inr (1, [.ref qT, .ref qL, .ref qR, .int (nI cnt)])), (qT, .inl (cJ, 1792, .inr (.inl g))), (qL, .inl (cJ, 7, .inr (.inl fL))), (qR, .inl (cJ, 7, .inr (.inl fR))), (hR, .inr (0, [.ref qB, .int (nI L), .ref hT, .int (nI jx)])), (qB, .inl (cI, 400, .inl (fun j => nI (a j))))] := hD
          by_cases hb2 : bnd a L jx = true
          · skip
            refine wl_asi (y := nI 1) (by rw [hw60, if_pos hb2]; rfl) ?_
            refine lv_if_ne (tgt := 77) hx hb dX0_readBrackets_63 (by decide) (fun c63 => ?_) (fun c63 => ?_)
            rotate_left
            · first | exact absurd c63 (by decide) | exact absurd (by decide) c63
            · skip
              refine lv_aload_n hx hb dX0_readBrackets_77 rfl (lv_at hl 0 rfl) ?_
              refine lv_dup hx hb dX0_readBrackets_78 rfl ?_
              refine va_get (D := (dC, dI)) (ci := 0) (v := .int (nI jx)) (C := RX0) (T := TX0) (N := 4) hx hb hts (by decide +kernel) hown hK hP 4 rfl rfl 3 (by decide) (hts (.fieldLink RX0 23 "WildCards$Reader" "at" "I") (by decide +kernel)) (fun _ h9 => h9) rfl dX0_readBrackets_79 ?_
              refine lv_iconst (v := nI 1) hx hb dX0_readBrackets_82 (by decide) ?_
              refine lv_iadd hx hb dX0_readBrackets_83 ?_
              refine wl_asi (y := nI (jx + 1)) (nI_add _ _) ?_
              refine va_put (D := (dC, dI)) (ci := 0) (v := .int (nI (jx + 1))) (ty := .int) (C := RX0) (T := TX0) (N := 4) hx hb hts (by decide +kernel) tyX0 tyX0_ok nmX0 hown hK hP hD hS 4 rfl rfl 3 (by decide) (hts (.fieldLink RX0 23 "WildCards$Reader" "at" "I") (by decide +kernel)) (fun _ h9 => h9) rfl (by decide +kernel) rfl rfl (Nat.le_of_ble_eq_true rfl) dX0_readBrackets_84 (fun H locs hP hD hS => ?_)
              have hP : va_P (dC, dI) vwCl [(hT, .inr (1, [.ref qT, .ref qL, .ref qR, .int (nI cnt)])), (qT, .inl (cJ, 1792, .inr (.inl g))), (qL, .inl (cJ, 7, .inr (.inl fL))), (qR, .inl (cJ, 7, .inr (.inl fR))), (hR, .inr (0, [.ref qB, .int (nI L), .ref hT, .int (nI (jx + 1))])), (qB, .inl (cI, 400, .inl (fun j => nI (a j))))] H := hP
              have hD : va_D A [(hT, .inr (1, [.ref qT, .ref qL, .ref qR, .int (nI cnt)])), (qT, .inl (cJ, 1792, .inr (.inl g))), (qL, .inl (cJ, 7, .inr (.inl fL))), (qR, .inl (cJ, 7, .inr (.inl fR))), (hR, .inr (0, [.ref qB, .int (nI L), .ref hT, .int (nI (jx + 1))])), (qB, .inl (cI, 400, .inl (fun j => nI (a j))))] := hD
              have hP9 := hP.sub (ws' := [(hR, .inr (0, [.ref qB, .int (nI L), .ref hT, .int (nI (jx + 1))])), (qB, .inl (cI, 400, .inl (fun j => nI (a j)))), (hT, .inr (1, [.ref qT, .ref qL, .ref qR, .int (nI cnt)])), (qT, .inl (cJ, 1792, .inr (.inl g))), (qL, .inl (cJ, 7, .inr (.inl fL))), (qR, .inl (cJ, 7, .inr (.inl fR)))]) [4, 5, 0, 1, 2, 3] rfl
              have hD9 := hD.sub (ws' := [(hR, .inr (0, [.ref qB, .int (nI L), .ref hT, .int (nI (jx + 1))])), (qB, .inl (cI, 400, .inl (fun j => nI (a j)))), (hT, .inr (1, [.ref qT, .ref qL, .ref qR, .int (nI cnt)])), (qT, .inl (cJ, 1792, .inr (.inl g))), (qL, .inl (cJ, 7, .inr (.inl fL))), (qR, .inl (cJ, 7, .inr (.inl fR)))]) [4, 5, 0, 1, 2, 3] (by decide) rfl
              exact W.vret hx hb hr (fun t ht hW => ⟨⟨(jx + 1, g), rfl, (show (jx + 1) = brn a L ix ∧ ∀ x k, x < 256 → k < 448 → lb g (448 * x + k) = if k = cnt then brs a L ix x else lb fT (448 * x + k) from ⟨by rw [brn_0 (brg_b c10), ← (BR_e hBR (Or.inr hb2)).1], br_0 (brg_b c10) (BR_e hBR (Or.inr hb2)).2.1 (BR_e hBR (Or.inr hb2)).2.2⟩), by rw [ht]; exact hP9, va_K.moved hW.alike hK, hD9⟩, hS.F ht⟩) hS.2.2 dX0_readBrackets_87
          · skip
            refine wl_asi (y := nI 0) (by rw [hw60, if_neg hb2]; rfl) ?_
            refine lv_if_ne (tgt := 77) hx hb dX0_readBrackets_63 (by decide) (fun c63 => ?_) (fun c63 => ?_)
            · first | exact absurd c63 (by decide) | exact absurd (by decide) c63
            · skip
              refine lv_aload_n hx hb dX0_readBrackets_66 rfl (lv_at hl 0 rfl) ?_
              refine lv_iload_n hx hb dX0_readBrackets_67 rfl (lv_at hl 1 rfl) ?_
              have hPc := hP.sub (ws' := [(hR, .inr (0, [.ref qB, .int (nI L), .ref hT, .int (nI jx)])), (qB, .inl (cI, 400, .inl (fun j => nI (a j)))), (hT, .inr (1, [.ref qT, .ref qL, .ref qR, .int (nI cnt)])), (qT, .inl (cJ, 1792, .inr (.inl g))), (qL, .inl (cJ, 7, .inr (.inl fL))), (qR, .inl (cJ, 7, .inr (.inl fR)))]) [4, 5, 0, 1, 2, 3] rfl
              have hDc := hD.sub (ws' := [(hR, .inr (0, [.ref qB, .int (nI L), .ref hT, .int (nI jx)])), (qB, .inl (cI, 400, .inl (fun j => nI (a j)))), (hT, .inr (1, [.ref qT, .ref qL, .ref qR, .int (nI cnt)])), (qT, .inl (cJ, 1792, .inr (.inl g))), (qL, .inl (cJ, 7, .inr (.inl fL))), (qR, .inl (cJ, 7, .inr (.inl fR)))]) [4, 5, 0, 1, 2, 3] (by decide) rfl
              have hFc := va_free (wc := [(hR, .inr (0, [.ref qB, .int (nI L), .ref hT, .int (nI jx)])), (qB, .inl (cI, 400, .inl (fun j => nI (a j)))), (hT, .inr (1, [.ref qT, .ref qL, .ref qR, .int (nI cnt)])), (qT, .inl (cJ, 1792, .inr (.inl g))), (qL, .inl (cJ, 7, .inr (.inl fL))), (qR, .inl (cJ, 7, .inr (.inl fR)))]) hD hS hA [4, 5, 0, 1, 2, 3] rfl
              refine va_callv (va_runV (As := [.int (nI 1)]) (rest := []) ⟨hx, hb, hml, hown, hts⟩ (c_X0_readTold l dC dI cI cJ cZ hR qB hT qT qL qR H.size L jx a cnt g fL fR 1 hL ha (bnd_f hb2).1 hc (by omega)) (cwV 1 hts gX0_readBrackets_X0_readTold rfl rfl rfl (by decide +kernel) ⟨Nat.le_of_ble_eq_true rfl, Nat.le_of_ble_eq_true rfl⟩) ⟨fun a U g mk q => by obtain ⟨q0, q1, qP, qK, qD⟩ := q; exact ⟨q0, q1, qP, va_K.moved (u := U) (U := U.calling g mk a) (Vm.Alike.refl U.vm) qK, qD⟩, va_recv hK hPc (ci := 0) (q0 := 0) rfl rfl, fun U hU hW => ⟨rfl, by rw [hU], by rw [hU]; exact hPc, va_K.moved hW.alike hK, hDc.weaken (fun _ _ _ _ => trivial)⟩⟩ rfl rfl hl.1 rfl (lv_room (Nat.le_of_ble_eq_true rfl)) dX0_readBrackets_68 ⟨show 0 + 0 + 0 + 0 ≤ 0 from by decide, show 0 + 0 + 0 + 0 ≤ 0 from by decide⟩) hS (fun q _ h => hFc q h) hFc (fun u t H1 locs ht hvm hw68 hB hz1 hk1 hS => ?_)
              obtain ⟨ix268, fT268⟩ := u
              obtain ⟨hP1, hK1, hD1⟩ := hB
              rw [ht] at hP1
              try dsimp only at hw68 hP1 hD1
              obtain ⟨hP, hD⟩ := va_join (wr := []) (w1 := [(hR, .inr (0, [.ref qB, .int (nI L), .ref hT, .int (nI ix268)])), (qB, .inl (cI, 400, .inl (fun j => nI (a j)))), (hT, .inr (1, [.ref qT, .ref qL, .ref qR, .int (nI cnt)])), (qT, .inl (cJ, 1792, .inr (.inl fT268))), (qL, .inl (cJ, 7, .inr (.inl fL))), (qR, .inl (cJ, 7, .inr (.inl fR)))]) hP hD [4, 5, 0, 1, 2, 3] [] rfl rfl (by decide) (by decide) hk1 hFc hP1 hD1
              generalize H1 = H at hP hS ⊢
              have hP : va_P (dC, dI) vwCl [(hR, .inr (0, [.ref qB, .int (nI L), .ref hT, .int (nI ix268)])), (qB, .inl (cI, 400, .inl (fun j => nI (a j)))), (hT, .inr (1, [.ref qT, .ref qL, .ref qR, .int (nI cnt)])), (qT, .inl (cJ, 1792, .inr (.inl fT268))), (qL, .inl (cJ, 7, .inr (.inl fL))), (qR, .inl (cJ, 7, .inr (.inl fR)))] H := hP
              have hD : va_D A [(hR, .inr (0, [.ref qB, .int (nI L), .ref hT, .int (nI ix268)])), (qB, .inl (cI, 400, .inl (fun j => nI (a j)))), (hT, .inr (1, [.ref qT, .ref qL, .ref qR, .int (nI cnt)])), (qT, .inl (cJ, 1792, .inr (.inl fT268))), (qL, .inl (cJ, 7, .inr (.inl fL))), (qR, .inl (cJ, 7, .inr (.inl fR)))] := hD
              obtain ⟨rfl, hw68⟩ := hw68
              replace hw68 := And.intro True.intro hw68
              refine lv_iinc (v := nI (rr + 1)) (lv' := [(2, .int (nI (rr + 1))), (0, .ref hR), (1, .int (nI 1))]) hx hb dX0_readBrackets_71 hl (k := 2) rfl (wl_inc _ _ (by decide)) (by decide) rfl (fun ls hl => ?_)
              refine lv_goto (tgt := 47) hx hb dX0_readBrackets_74 (by decide) ?_
              exact ih47 (rr + 1, tnx a L jx, fT268) H locs ls ⟨(show (rr + 1) ≤ L from by omega), (show (tnx a L jx) ≤ L from (tnx_le a (bnd_f hb2).1).1), (show BR a L cnt fT fT268 false ix (rr + 1) (tnx a L jx) from BR_s hc hBR (by omega) hb2 hw68.2), hP.sub [0, 1, 2, 3, 4, 5] rfl, hD.sub [0, 1, 2, 3, 4, 5] (by decide) rfl, hS, lv_sub hl [1, 2, 0] rfl⟩ (by (try dsimp only); omega)
  · skip
    refine wl_asi (y := (-1)) (by rw [hw5, if_neg hp2]) ?_
    refine lv_bipush (v := nI 94) hx hb dX0_readBrackets_8 (by decide) ?_
    refine lv_icmp_eq (tgt := 17) hx hb dX0_readBrackets_10 (by decide) (fun c10 => ?_) (fun c10 => ?_)
    · skip
      exact absurd c10 (by decide)
    · skip
      refine lv_iconst (v := nI 1) hx hb dX0_readBrackets_13 (by decide) ?_
      refine lv_goto (tgt := 18) hx hb dX0_readBrackets_14 (by decide) ?_
      refine lv_istore_n (lv' := [(1, .int (nI 1)), (0, .ref hR)]) hx hb dX0_readBrackets_18 rfl hl (by decide) rfl (fun ls hl => ?_)
      refine lv_iload_n hx hb dX0_readBrackets_19 rfl (lv_at hl 0 rfl) ?_
      refine lv_if_ne (tgt := 45) hx hb dX0_readBrackets_20 (by decide) (fun c20 => ?_) (fun c20 => ?_)
      rotate_left
      · first | exact absurd c20 (by decide) | exact absurd (by decide) c20
      · skip
        refine lv_iconst (v := nI 0) hx hb dX0_readBrackets_45 (by decide) ?_
        refine lv_istore_n (lv' := [(2, .int (nI 0)), (1, .int (nI 1)), (0, .ref hR)]) hx hb dX0_readBrackets_46 rfl hl (by decide) rfl (fun ls hl => ?_)
        refine wl_loop (σ := Nat × Nat × (Nat → Int64)) (fun z9 => L - z9.1) (fun z9 H locs ls => (z9.1 ≤ L) ∧ (z9.2.1 ≤ L) ∧ (BR a L cnt fT z9.2.2 false ix z9.1 z9.2.1) ∧ va_P (dC, dI) vwCl [(hR, .inr (0, [.ref qB, .int (nI L), .ref hT, .int (nI z9.2.1)])), (qB, .inl (cI, 400, .inl (fun j => nI (a j)))), (hT, .inr (1, [.ref qT, .ref qL, .ref qR, .int (nI cnt)])), (qT, .inl (cJ, 1792, .inr (.inl z9.2.2))), (qL, .inl (cJ, 7, .inr (.inl fL))), (qR, .inl (cJ, 7, .inr (.inl fR)))] H ∧ va_D A [(hR, .inr (0, [.ref qB, .int (nI L), .ref hT, .int (nI z9.2.1)])), (qB, .inl (cI, 400, .inl (fun j => nI (a j)))), (hT, .inr (1, [.ref qT, .ref qL, .ref qR, .int (nI cnt)])), (qT, .inl (cJ, 1792, .inr (.inl z9.2.2))), (qL, .inl (cJ, 7, .inr (.inl fL))), (qR, .inl (cJ, 7, .inr (.inl fR)))] ∧ va_S A s.heap H locs ∧ lv_has ls 3 [(0, .ref hR), (1, .int (nI 1)), (2, .int (nI z9.1))]) ?_ (0, ix, fT) ⟨(show (0) ≤ L from Nat.zero_le _), (show ix ≤ L from hat), (show BR a L cnt fT fT false ix (0) ix from BR_i0 hnew), hP.sub [4, 5, 0, 1, 2, 3] rfl, hD.sub [4, 5, 0, 1, 2, 3] (by decide) rfl, hS, lv_sub hl [2, 1, 0] rfl⟩
        intro z9 H locs ls hI ih47
        obtain ⟨rr, jx, g⟩ := z9
        obtain ⟨hr1, hj, hBR, hP, hD, hS, hl⟩ := hI
        try dsimp only at hr1 hj hBR hP hD hl
        have hP : va_P (dC, dI) vwCl [(hR, .inr (0, [.ref qB, .int (nI L), .ref hT, .int (nI jx)])), (qB, .inl (cI, 400, .inl (fun j => nI (a j)))), (hT, .inr (1, [.ref qT, .ref qL, .ref qR, .int (nI cnt)])), (qT, .inl (cJ, 1792, .inr (.inl g))), (qL, .inl (cJ, 7, .inr (.inl fL))), (qR, .inl (cJ, 7, .inr (.inl fR)))] H := hP
        have hD : va_D A [(hR, .inr (0, [.ref qB, .int (nI L), .ref hT, .int (nI jx)])), (qB, .inl (cI, 400, .inl (fun j => nI (a j)))), (hT, .inr (1, [.ref qT, .ref qL, .ref qR, .int (nI cnt)])), (qT, .inl (cJ, 1792, .inr (.inl g))), (qL, .inl (cJ, 7, .inr (.inl fL))), (qR, .inl (cJ, 7, .inr (.inl fR)))] := hD
        have hl : lv_has ls 3 [(0, .ref hR), (1, .int (nI 1)), (2, .int (nI rr))] := hl
        refine lv_iload_n hx hb dX0_readBrackets_47 rfl (lv_at hl 2 rfl) ?_
        refine lv_aload_n hx hb dX0_readBrackets_48 rfl (lv_at hl 0 rfl) ?_
        refine va_get (D := (dC, dI)) (ci := 0) (v := .int (nI L)) (C := RX0) (T := TX0) (N := 4) hx hb hts (by decide +kernel) hown hK hP 0 rfl rfl 1 (by decide) (hts (.fieldLink RX0 15 "WildCards$Reader" "length" "I") (by decide +kernel)) (fun _ h9 => h9) rfl dX0_readBrackets_49 ?_
        refine wl_icmp_ge (tgt := 77) hx hb dX0_readBrackets_52 (by decide) (by omega) (by omega) (fun c52 => ?_) (fun c52 => ?_)
        · skip
          refine lv_aload_n hx hb dX0_readBrackets_77 rfl (lv_at hl 0 rfl) ?_
          refine lv_dup hx hb dX0_readBrackets_78 rfl ?_
          refine va_get (D := (dC, dI)) (ci := 0) (v := .int (nI jx)) (C := RX0) (T := TX0) (N := 4) hx hb hts (by decide +kernel) hown hK hP 0 rfl rfl 3 (by decide) (hts (.fieldLink RX0 23 "WildCards$Reader" "at" "I") (by decide +kernel)) (fun _ h9 => h9) rfl dX0_readBrackets_79 ?_
          refine lv_iconst (v := nI 1) hx hb dX0_readBrackets_82 (by decide) ?_
          refine lv_iadd hx hb dX0_readBrackets_83 ?_
          refine wl_asi (y := nI (jx + 1)) (nI_add _ _) ?_
          refine va_put (D := (dC, dI)) (ci := 0) (v := .int (nI (jx + 1))) (ty := .int) (C := RX0) (T := TX0) (N := 4) hx hb hts (by decide +kernel) tyX0 tyX0_ok nmX0 hown hK hP hD hS 0 rfl rfl 3 (by decide) (hts (.fieldLink RX0 23 "WildCards$Reader" "at" "I") (by decide +kernel)) (fun _ h9 => h9) rfl (by decide +kernel) rfl rfl (Nat.le_of_ble_eq_true rfl) dX0_readBrackets_84 (fun H locs hP hD hS => ?_)
          have hP : va_P (dC, dI) vwCl [(hR, .inr (0, [.ref qB, .int (nI L), .ref hT, .int (nI (jx + 1))])), (qB, .inl (cI, 400, .inl (fun j => nI (a j)))), (hT, .inr (1, [.ref qT, .ref qL, .ref qR, .int (nI cnt)])), (qT, .inl (cJ, 1792, .inr (.inl g))), (qL, .inl (cJ, 7, .inr (.inl fL))), (qR, .inl (cJ, 7, .inr (.inl fR)))] H := hP
          have hD : va_D A [(hR, .inr (0, [.ref qB, .int (nI L), .ref hT, .int (nI (jx + 1))])), (qB, .inl (cI, 400, .inl (fun j => nI (a j)))), (hT, .inr (1, [.ref qT, .ref qL, .ref qR, .int (nI cnt)])), (qT, .inl (cJ, 1792, .inr (.inl g))), (qL, .inl (cJ, 7, .inr (.inl fL))), (qR, .inl (cJ, 7, .inr (.inl fR)))] := hD
          have hP9 := hP.sub (ws' := [(hR, .inr (0, [.ref qB, .int (nI L), .ref hT, .int (nI (jx + 1))])), (qB, .inl (cI, 400, .inl (fun j => nI (a j)))), (hT, .inr (1, [.ref qT, .ref qL, .ref qR, .int (nI cnt)])), (qT, .inl (cJ, 1792, .inr (.inl g))), (qL, .inl (cJ, 7, .inr (.inl fL))), (qR, .inl (cJ, 7, .inr (.inl fR)))]) [0, 1, 2, 3, 4, 5] rfl
          have hD9 := hD.sub (ws' := [(hR, .inr (0, [.ref qB, .int (nI L), .ref hT, .int (nI (jx + 1))])), (qB, .inl (cI, 400, .inl (fun j => nI (a j)))), (hT, .inr (1, [.ref qT, .ref qL, .ref qR, .int (nI cnt)])), (qT, .inl (cJ, 1792, .inr (.inl g))), (qL, .inl (cJ, 7, .inr (.inl fL))), (qR, .inl (cJ, 7, .inr (.inl fR)))]) [0, 1, 2, 3, 4, 5] (by decide) rfl
          exact W.vret hx hb hr (fun t ht hW => ⟨⟨(jx + 1, g), rfl, (show (jx + 1) = brn a L ix ∧ ∀ x k, x < 256 → k < 448 → lb g (448 * x + k) = if k = cnt then brs a L ix x else lb fT (448 * x + k) from ⟨by rw [brn_0 (brg_a hp2), ← (BR_e hBR (Or.inl c52)).1], br_0 (brg_a hp2) (BR_e hBR (Or.inl c52)).2.1 (BR_e hBR (Or.inl c52)).2.2⟩), by rw [ht]; exact hP9, va_K.moved hW.alike hK, hD9⟩, hS.F ht⟩) hS.2.2 dX0_readBrackets_87
        · skip
          refine lv_aload_n hx hb dX0_readBrackets_55 rfl (lv_at hl 0 rfl) ?_
          refine lv_aload_n hx hb dX0_readBrackets_56 rfl (lv_at hl 0 rfl) ?_
          refine va_get (D := (dC, dI)) (ci := 0) (v := .int (nI jx)) (C := RX0) (T := TX0) (N := 4) hx hb hts (by decide +kernel) hown hK hP 0 rfl rfl 3 (by decide) (hts (.fieldLink RX0 23 "WildCards$Reader" "at" "I") (by decide +kernel)) (fun _ h9 => h9) rfl dX0_readBrackets_57 ?_
          have hPc := hP.sub (ws' := [(hR, .inr (0, [.ref qB, .int (nI L), .ref hT, .int (nI jx)])), (qB, .inl (cI, 400, .inl (fun j => nI (a j))))]) [0, 1] rfl
          have hDc := hD.sub (ws' := [(hR, .inr (0, [.ref qB, .int (nI L), .ref hT, .int (nI jx)])), (qB, .inl (cI, 400, .inl (fun j => nI (a j))))]) [0, 1] (by decide) rfl
          have hFc := va_free (wc := [(hR, .inr (0, [.ref qB, .int (nI L), .ref hT, .int (nI jx)])), (qB, .inl (cI, 400, .inl (fun j => nI (a j))))]) hD hS hA [0, 1] rfl
          refine va_calli (va_runV (As := [.int (nI jx)]) (rest := []) ⟨hx, hb, hml, hown, hts⟩ (c_X0_bracketsEndAt l dC dI cI cJ cZ hR qB hT H.size L jx a jx hL ha (by omega)) (cwV 1 hts gX0_readBrackets_X0_bracketsEndAt rfl rfl rfl (by decide +kernel) ⟨Nat.le_of_ble_eq_true rfl, Nat.le_of_ble_eq_true rfl⟩) ⟨fun a U g mk q => by obtain ⟨q0, q1, qP, qK, qD⟩ := q; exact ⟨q0, q1, qP, va_K.moved (u := U) (U := U.calling g mk a) (Vm.Alike.refl U.vm) qK, qD⟩, va_recv hK hPc (ci := 0) (q0 := 0) rfl rfl, fun U hU hW => ⟨rfl, by rw [hU], by rw [hU]; exact hPc, va_K.moved hW.alike hK, hDc.weaken (fun _ _ _ _ => trivial)⟩⟩ rfl rfl hl.1 rfl (lv_room (Nat.le_of_ble_eq_true rfl)) dX0_readBrackets_60 ⟨show 0 + 0 + 0 ≤ 0 from by decide, show 0 + 0 + 0 ≤ 0 from by decide⟩) hS (fun q _ h => hFc q h) hFc (fun r60 u t H1 locs ht hvm hw60 hB hz1 hk1 hS => ?_)
          obtain ⟨hP1, hK1, hD1⟩ := hB
          rw [ht] at hP1
          try dsimp only at hw60 hP1 hD1
          obtain ⟨hP, hD⟩ := va_join (wr := [(hT, .inr (1, [.ref qT, .ref qL, .ref qR, .int (nI cnt)])), (qT, .inl (cJ, 1792, .inr (.inl g))), (qL, .inl (cJ, 7, .inr (.inl fL))), (qR, .inl (cJ, 7, .inr (.inl fR)))]) (w1 := [(hR, .inr (0, [.ref qB, .int (nI L), .ref hT, .int (nI jx)])), (qB, .inl (cI, 400, .inl (fun j => nI (a j))))]) hP hD [0, 1] [2, 3, 4, 5] rfl rfl (by decide) (by decide) hk1 hFc hP1 hD1
          generalize H1 = H at hP hS ⊢
          have hP : va_P (dC, dI) vwCl [(hT, .inr (1, [.ref qT, .ref qL, .ref qR, .int (nI cnt)])), (qT, .inl (cJ, 1792, .inr (.inl g))), (qL, .inl (cJ, 7, .inr (.inl fL))), (qR, .inl (cJ, 7, .inr (.inl fR))), (hR, .inr (0, [.ref qB, .int (nI L), .ref hT, .int (nI jx)])), (qB, .inl (cI, 400, .inl (fun j => nI (a j))))] H := hP
          have hD : va_D A [(hT, .inr (1, [.ref qT, .ref qL, .ref qR, .int (nI cnt)])), (qT, .inl (cJ, 1792, .inr (.inl g))), (qL, .inl (cJ, 7, .inr (.inl fL))), (qR, .inl (cJ, 7, .inr (.inl fR))), (hR, .inr (0, [.ref qB, .int (nI L), .ref hT, .int (nI jx)])), (qB, .inl (cI, 400, .inl (fun j => nI (a j))))] := hD
          by_cases hb2 : bnd a L jx = true
          · skip
            refine wl_asi (y := nI 1) (by rw [hw60, if_pos hb2]; rfl) ?_
            refine lv_if_ne (tgt := 77) hx hb dX0_readBrackets_63 (by decide) (fun c63 => ?_) (fun c63 => ?_)
            rotate_left
            · first | exact absurd c63 (by decide) | exact absurd (by decide) c63
            · skip
              refine lv_aload_n hx hb dX0_readBrackets_77 rfl (lv_at hl 0 rfl) ?_
              refine lv_dup hx hb dX0_readBrackets_78 rfl ?_
              refine va_get (D := (dC, dI)) (ci := 0) (v := .int (nI jx)) (C := RX0) (T := TX0) (N := 4) hx hb hts (by decide +kernel) hown hK hP 4 rfl rfl 3 (by decide) (hts (.fieldLink RX0 23 "WildCards$Reader" "at" "I") (by decide +kernel)) (fun _ h9 => h9) rfl dX0_readBrackets_79 ?_
              refine lv_iconst (v := nI 1) hx hb dX0_readBrackets_82 (by decide) ?_
              refine lv_iadd hx hb dX0_readBrackets_83 ?_
              refine wl_asi (y := nI (jx + 1)) (nI_add _ _) ?_
              refine va_put (D := (dC, dI)) (ci := 0) (v := .int (nI (jx + 1))) (ty := .int) (C := RX0) (T := TX0) (N := 4) hx hb hts (by decide +kernel) tyX0 tyX0_ok nmX0 hown hK hP hD hS 4 rfl rfl 3 (by decide) (hts (.fieldLink RX0 23 "WildCards$Reader" "at" "I") (by decide +kernel)) (fun _ h9 => h9) rfl (by decide +kernel) rfl rfl (Nat.le_of_ble_eq_true rfl) dX0_readBrackets_84 (fun H locs hP hD hS => ?_)
              have hP : va_P (dC, dI) vwCl [(hT, .inr (1, [.ref qT, .ref qL, .ref qR, .int (nI cnt)])), (qT, .inl (cJ, 1792, .inr (.inl g))), (qL, .inl (cJ, 7, .inr (.inl fL))), (qR, .inl (cJ, 7, .inr (.inl fR))), (hR, .inr (0, [.ref qB, .int (nI L), .ref hT, .int (nI (jx + 1))])), (qB, .inl (cI, 400, .inl (fun j => nI (a j))))] H := hP
              have hD : va_D A [(hT, .inr (1, [.ref qT, .ref qL, .ref qR, .int (nI cnt)])), (qT, .inl (cJ, 1792, .inr (.inl g))), (qL, .inl (cJ, 7, .inr (.inl fL))), (qR, .inl (cJ, 7, .inr (.inl fR))), (hR, .inr (0, [.ref qB, .int (nI L), .ref hT, .int (nI (jx + 1))])), (qB, .inl (cI, 400, .inl (fun j => nI (a j))))] := hD
              have hP9 := hP.sub (ws' := [(hR, .inr (0, [.ref qB, .int (nI L), .ref hT, .int (nI (jx + 1))])), (qB, .inl (cI, 400, .inl (fun j => nI (a j)))), (hT, .inr (1, [.ref qT, .ref qL, .ref qR, .int (nI cnt)])), (qT, .inl (cJ, 1792, .inr (.inl g))), (qL, .inl (cJ, 7, .inr (.inl fL))), (qR, .inl (cJ, 7, .inr (.inl fR)))]) [4, 5, 0, 1, 2, 3] rfl
              have hD9 := hD.sub (ws' := [(hR, .inr (0, [.ref qB, .int (nI L), .ref hT, .int (nI (jx + 1))])), (qB, .inl (cI, 400, .inl (fun j => nI (a j)))), (hT, .inr (1, [.ref qT, .ref qL, .ref qR, .int (nI cnt)])), (qT, .inl (cJ, 1792, .inr (.inl g))), (qL, .inl (cJ, 7, .inr (.inl fL))), (qR, .inl (cJ, 7, .inr (.inl fR)))]) [4, 5, 0, 1, 2, 3] (by decide) rfl
              exact W.vret hx hb hr (fun t ht hW => ⟨⟨(jx + 1, g), rfl, (show (jx + 1) = brn a L ix ∧ ∀ x k, x < 256 → k < 448 → lb g (448 * x + k) = if k = cnt then brs a L ix x else lb fT (448 * x + k) from ⟨by rw [brn_0 (brg_a hp2), ← (BR_e hBR (Or.inr hb2)).1], br_0 (brg_a hp2) (BR_e hBR (Or.inr hb2)).2.1 (BR_e hBR (Or.inr hb2)).2.2⟩), by rw [ht]; exact hP9, va_K.moved hW.alike hK, hD9⟩, hS.F ht⟩) hS.2.2 dX0_readBrackets_87
          · skip
            refine wl_asi (y := nI 0) (by rw [hw60, if_neg hb2]; rfl) ?_
            refine lv_if_ne (tgt := 77) hx hb dX0_readBrackets_63 (by decide) (fun c63 => ?_) (fun c63 => ?_)
            · first | exact absurd c63 (by decide) | exact absurd (by decide) c63
            · skip
              refine lv_aload_n hx hb dX0_readBrackets_66 rfl (lv_at hl 0 rfl) ?_
              refine lv_iload_n hx hb dX0_readBrackets_67 rfl (lv_at hl 1 rfl) ?_
              have hPc := hP.sub (ws' := [(hR, .inr (0, [.ref qB, .int (nI L), .ref hT, .int (nI jx)])), (qB, .inl (cI, 400, .inl (fun j => nI (a j)))), (hT, .inr (1, [.ref qT, .ref qL, .ref qR, .int (nI cnt)])), (qT, .inl (cJ, 1792, .inr (.inl g))), (qL, .inl (cJ, 7, .inr (.inl fL))), (qR, .inl (cJ, 7, .inr (.inl fR)))]) [4, 5, 0, 1, 2, 3] rfl
              have hDc := hD.sub (ws' := [(hR, .inr (0, [.ref qB, .int (nI L), .ref hT, .int (nI jx)])), (qB, .inl (cI, 400, .inl (fun j => nI (a j)))), (hT, .inr (1, [.ref qT, .ref qL, .ref qR, .int (nI cnt)])), (qT, .inl (cJ, 1792, .inr (.inl g))), (qL, .inl (cJ, 7, .inr (.inl fL))), (qR, .inl (cJ, 7, .inr (.inl fR)))]) [4, 5, 0, 1, 2, 3] (by decide) rfl
              have hFc := va_free (wc := [(hR, .inr (0, [.ref qB, .int (nI L), .ref hT, .int (nI jx)])), (qB, .inl (cI, 400, .inl (fun j => nI (a j)))), (hT, .inr (1, [.ref qT, .ref qL, .ref qR, .int (nI cnt)])), (qT, .inl (cJ, 1792, .inr (.inl g))), (qL, .inl (cJ, 7, .inr (.inl fL))), (qR, .inl (cJ, 7, .inr (.inl fR)))]) hD hS hA [4, 5, 0, 1, 2, 3] rfl
              refine va_callv (va_runV (As := [.int (nI 1)]) (rest := []) ⟨hx, hb, hml, hown, hts⟩ (c_X0_readTold l dC dI cI cJ cZ hR qB hT qT qL qR H.size L jx a cnt g fL fR 1 hL ha (bnd_f hb2).1 hc (by omega)) (cwV 1 hts gX0_readBrackets_X0_readTold rfl rfl rfl (by decide +kernel) ⟨Nat.le_of_ble_eq_true rfl, Nat.le_of_ble_eq_true rfl⟩) ⟨fun a U g mk q => by obtain ⟨q0, q1, qP, qK, qD⟩ := q; exact ⟨q0, q1, qP, va_K.moved (u := U) (U := U.calling g mk a) (Vm.Alike.refl U.vm) qK, qD⟩, va_recv hK hPc (ci := 0) (q0 := 0) rfl rfl, fun U hU hW => ⟨rfl, by rw [hU], by rw [hU]; exact hPc, va_K.moved hW.alike hK, hDc.weaken (fun _ _ _ _ => trivial)⟩⟩ rfl rfl hl.1 rfl (lv_room (Nat.le_of_ble_eq_true rfl)) dX0_readBrackets_68 ⟨show 0 + 0 + 0 + 0 ≤ 0 from by decide, show 0 + 0 + 0 + 0 ≤ 0 from by decide⟩) hS (fun q _ h => hFc q h) hFc (fun u t H1 locs ht hvm hw68 hB hz1 hk1 hS => ?_)
              obtain ⟨ix268, fT268⟩ := u
              obtain ⟨hP1, hK1, hD1⟩ := hB
              rw [ht] at hP1
              try dsimp only at hw68 hP1 hD1
              obtain ⟨hP, hD⟩ := va_join (wr := []) (w1 := [(hR, .inr (0, [.ref qB, .int (nI L), .ref hT, .int (nI ix268)])), (qB, .inl (cI, 400, .inl (fun j => nI (a j)))), (hT, .inr (1, [.ref qT, .ref qL, .ref qR, .int (nI cnt)])), (qT, .inl (cJ, 1792, .inr (.inl fT268))), (qL, .inl (cJ, 7, .inr (.inl fL))), (qR, .inl (cJ, 7, .inr (.inl fR)))]) hP hD [4, 5, 0, 1, 2, 3] [] rfl rfl (by decide) (by decide) hk1 hFc hP1 hD1
              generalize H1 = H at hP hS ⊢
              have hP : va_P (dC, dI) vwCl [(hR, .inr (0, [.ref qB, .int (nI L), .ref hT, .int (nI ix268)])), (qB, .inl (cI, 400, .inl (fun j => nI (a j)))), (hT, .inr (1, [.ref qT, .ref qL, .ref qR, .int (nI cnt)])), (qT, .inl (cJ, 1792, .inr (.inl fT268))), (qL, .inl (cJ, 7, .inr (.inl fL))), (qR, .inl (cJ, 7, .inr (.inl fR)))] H := hP
              have hD : va_D A [(hR, .inr (0, [.ref qB, .int (nI L), .ref hT, .int (nI ix268)])), (qB, .inl (cI, 400, .inl (fun j => nI (a j)))), (hT, .inr (1, [.ref qT, .ref qL, .ref qR, .int (nI cnt)])), (qT, .inl (cJ, 1792, .inr (.inl fT268))), (qL, .inl (cJ, 7, .inr (.inl fL))), (qR, .inl (cJ, 7, .inr (.inl fR)))] := hD
              obtain ⟨rfl, hw68⟩ := hw68
              replace hw68 := And.intro True.intro hw68
              refine lv_iinc (v := nI (rr + 1)) (lv' := [(2, .int (nI (rr + 1))), (0, .ref hR), (1, .int (nI 1))]) hx hb dX0_readBrackets_71 hl (k := 2) rfl (wl_inc _ _ (by decide)) (by decide) rfl (fun ls hl => ?_)
              refine lv_goto (tgt := 47) hx hb dX0_readBrackets_74 (by decide) ?_
              exact ih47 (rr + 1, tnx a L jx, fT268) H locs ls ⟨(show (rr + 1) ≤ L from by omega), (show (tnx a L jx) ≤ L from (tnx_le a (bnd_f hb2).1).1), (show BR a L cnt fT fT268 false ix (rr + 1) (tnx a L jx) from BR_s hc hBR (by omega) hb2 hw68.2), hP.sub [0, 1, 2, 3, 4, 5] rfl, hD.sub [0, 1, 2, 3, 4, 5] (by decide) rfl, hS, lv_sub hl [1, 2, 0] rfl⟩ (by (try dsimp only); omega)
end
section
set_option maxHeartbeats 4000000 in
set_option maxRecDepth 100000 in
theorem c_X0_readThing (l : Launch) (dC : Nat → ClassId) (dI : Nat → Nat → Nat) (cI cJ cZ : ClassId) (hR qB hT qT qL qR : Nat) (sz : Nat) (L : Nat) (ix : Nat) (a : Nat → Nat) (cnt : Nat) (fT : Nat → Int64) (fL : Nat → Int64) (fR : Nat → Int64) (ts : List (Option (Nat → Bool))) (hL : L ≤ 400) (ha : ∀ j, j < L → a j < 256) (hat : ix < L) (hc : cnt < 400) (hTR : TR ts fT fL cnt) : Met l yX0_readThing wsX0_readThing ({ frames := 4, cells := 0, slots := 0, locals := 92 }) (va_Pc [.ref hR] (fun U => U.heap.size = sz ∧ va_P (dC, dI) vwCl [(hR, .inr (0, [.ref qB, .int (nI L), .ref hT, .int (nI ix)])), (qB, .inl (cI, 400, .inl (fun j => nI (a j)))), (hT, .inr (1, [.ref qT, .ref qL, .ref qR, .int (nI cnt)])), (qT, .inl (cJ, 1792, .inr (.inl fT))), (qL, .inl (cJ, 7, .inr (.inl fL))), (qR, .inl (cJ, 7, .inr (.inl fR)))] U.heap ∧ va_K (dC, dI) vwCl [(cI, .int), (cJ, .long), (cZ, .boolean)] U ∧ va_D (fun _ => True) [(hR, .inr (0, [.ref qB, .int (nI L), .ref hT, .int (nI ix)])), (qB, .inl (cI, 400, .inl (fun j => nI (a j)))), (hT, .inr (1, [.ref qT, .ref qL, .ref qR, .int (nI cnt)])), (qT, .inl (cJ, 1792, .inr (.inl fT))), (qL, .inl (cJ, 7, .inr (.inl fL))), (qR, .inl (cJ, 7, .inr (.inl fR)))])) (va_Qv (fun (u : Nat × Nat × (Nat → Int64) × (Nat → Int64)) => u.1 = thn a L ix ∧ TR (ts ++ [thv a L ix]) u.2.2.1 u.2.2.2 u.2.1) (fun (u : Nat × Nat × (Nat → Int64) × (Nat → Int64)) (t : State) => va_P (dC, dI) vwCl [(hR, .inr (0, [.ref qB, .int (nI L), .ref hT, .int (nI u.1)])), (qB, .inl (cI, 400, .inl (fun j => nI (a j)))), (hT, .inr (1, [.ref qT, .ref qL, .ref qR, .int (nI u.2.1)])), (qT, .inl (cJ, 1792, .inr (.inl u.2.2.1))), (qL, .inl (cJ, 7, .inr (.inl u.2.2.2))), (qR, .inl (cJ, 7, .inr (.inl fR)))] t.heap ∧ va_K (dC, dI) vwCl [(cI, .int), (cJ, .long), (cZ, .boolean)] t ∧ va_D (va_A [(hR, .inr (0, [.ref qB, .int (nI L), .ref hT, .int (nI ix)])), (qB, .inl (cI, 400, .inl (fun j => nI (a j)))), (hT, .inr (1, [.ref qT, .ref qL, .ref qR, .int (nI cnt)])), (qT, .inl (cJ, 1792, .inr (.inl fT))), (qL, .inl (cJ, 7, .inr (.inl fL))), (qR, .inl (cJ, 7, .inr (.inl fR)))] sz) [(hR, .inr (0, [.ref qB, .int (nI L), .ref hT, .int (nI u.1)])), (qB, .inl (cI, 400, .inl (fun j => nI (a j)))), (hT, .inr (1, [.ref qT, .ref qL, .ref qR, .int (nI u.2.1)])), (qT, .inl (cJ, 1792, .inr (.inl u.2.2.1))), (qL, .inl (cJ, 7, .inr (.inl u.2.2.2))), (qR, .inl (cJ, 7, .inr (.inl fR)))]) (va_A [(hR, .inr (0, [.ref qB, .int (nI L), .ref hT, .int (nI ix)])), (qB, .inl (cI, 400, .inl (fun j => nI (a j)))), (hT, .inr (1, [.ref qT, .ref qL, .ref qR, .int (nI cnt)])), (qT, .inl (cJ, 1792, .inr (.inl fT))), (qL, .inl (cJ, 7, .inr (.inl fL))), (qR, .inl (cJ, 7, .inr (.inl fR)))] sz)) 0 0 (va_A [(hR, .inr (0, [.ref qB, .int (nI L), .ref hT, .int (nI ix)])), (qB, .inl (cI, 400, .inl (fun j => nI (a j)))), (hT, .inr (1, [.ref qT, .ref qL, .ref qR, .int (nI cnt)])), (qT, .inl (cJ, 1792, .inr (.inl fT))), (qL, .inl (cJ, 7, .inr (.inl fL))), (qR, .inl (cJ, 7, .inr (.inl fR)))] sz) := by
  refine Met.ofW (cc := cX0_readThing) (maxL := 3) (ret := none) (by decide) rfl ?_
  intro p e s m args below meth c s₁ B hml hv
  obtain ⟨rfl, hsz, hP, hK, hD0⟩ := hv
  have hx := B.exec
  have hb := B.bytes
  have hr := B.returns
  have hts := atoms_spec (ws := wsX0_readThing) B.pre
  have hown : s.vm.findClass RX0 = some m.cls := findClass_of_methodNamed B.named
  have hlocks := B.notSynchronized
  subst hsz
  have hD := hD0.self (sz := s.heap.size)
  generalize hAe : va_A [(hR, .inr (0, [.ref qB, .int (nI L), .ref hT, .int (nI ix)])), (qB, .inl (cI, 400, .inl (fun j => nI (a j)))), (hT, .inr (1, [.ref qT, .ref qL, .ref qR, .int (nI cnt)])), (qT, .inl (cJ, 1792, .inr (.inl fT))), (qL, .inl (cJ, 7, .inr (.inl fL))), (qR, .inl (cJ, 7, .inr (.inl fR)))] s.heap.size = A at hD ⊢
  have hA : ∀ q : Nat, s.heap.size ≤ q → A q := fun q h => by rw [← hAe]; exact Or.inr h
  have hS : va_S A s.heap s.heap [] := va_S.rf
  have hP : va_P (dC, dI) vwCl [(hR, .inr (0, [.ref qB, .int (nI L), .ref hT, .int (nI ix)])), (qB, .inl (cI, 400, .inl (fun j => nI (a j)))), (hT, .inr (1, [.ref qT, .ref qL, .ref qR, .int (nI cnt)])), (qT, .inl (cJ, 1792, .inr (.inl fT))), (qL, .inl (cJ, 7, .inr (.inl fL))), (qR, .inl (cJ, 7, .inr (.inl fR)))] s.heap := hP
  have hl := lv_entry ([.ref hR]) (n := 3) (Nat.le_of_ble_eq_true rfl)
  rw [lg_entry_eq]
  generalize (lg_sl ([.ref hR]) ++ List.replicate (3 - (lg_sl ([.ref hR])).length) Slot.unset).toArray = ls at hl ⊢
  have hl : lv_has ls 3 [(0, .ref hR)] := hl
  skip
  have h8 := ha ix hat
  refine lv_aload_n hx hb dX0_readThing_0 rfl (lv_at hl 0 rfl) ?_
  refine lv_aload_n hx hb dX0_readThing_1 rfl (lv_at hl 0 rfl) ?_
  refine va_get (D := (dC, dI)) (ci := 0) (v := .int (nI ix)) (C := RX0) (T := TX0) (N := 4) hx hb hts (by decide +kernel) hown hK hP 0 rfl rfl 3 (by decide) (hts (.fieldLink RX0 23 "WildCards$Reader" "at" "I") (by decide +kernel)) (fun _ h9 => h9) rfl dX0_readThing_2 ?_
  have hPc := hP.sub (ws' := [(hR, .inr (0, [.ref qB, .int (nI L), .ref hT, .int (nI ix)])), (qB, .inl (cI, 400, .inl (fun j => nI (a j))))]) [0, 1] rfl
  have hDc := hD.sub (ws' := [(hR, .inr (0, [.ref qB, .int (nI L), .ref hT, .int (nI ix)])), (qB, .inl (cI, 400, .inl (fun j => nI (a j))))]) [0, 1] (by decide) rfl
  have hFc := va_free (wc := [(hR, .inr (0, [.ref qB, .int (nI L), .ref hT, .int (nI ix)])), (qB, .inl (cI, 400, .inl (fun j => nI (a j))))]) hD hS hA [0, 1] rfl
  refine va_calli (va_runV (As := [.int (nI ix)]) (rest := []) ⟨hx, hb, hml, hown, hts⟩ (c_X0_byteAt l dC dI cI cJ cZ hR qB hT s.heap.size L ix a ix hL (by omega)) (cwV 1 hts gX0_readThing_X0_byteAt rfl rfl rfl (by decide +kernel) ⟨Nat.le_of_ble_eq_true rfl, Nat.le_of_ble_eq_true rfl⟩) ⟨fun a U g mk q => by obtain ⟨q0, q1, qP, qK, qD⟩ := q; exact ⟨q0, q1, qP, va_K.moved (u := U) (U := U.calling g mk a) (Vm.Alike.refl U.vm) qK, qD⟩, va_recv hK hPc (ci := 0) (q0 := 0) rfl rfl, fun U hU hW => ⟨rfl, by rw [hU], by rw [hU]; exact hPc, va_K.moved hW.alike hK, hDc.weaken (fun _ _ _ _ => trivial)⟩⟩ rfl rfl hl.1 rfl (lv_room (Nat.le_of_ble_eq_true rfl)) dX0_readThing_5 ⟨show 0 + 0 ≤ 0 from by decide, show 0 + 0 ≤ 0 from by decide⟩) hS (fun q _ h => hFc q h) hFc (fun r5 u t H1 locs ht hvm hw5 hB hz1 hk1 hS => ?_)
  obtain ⟨hP1, hK1, hD1⟩ := hB
  rw [ht] at hP1
  try dsimp only at hw5 hP1 hD1
  obtain ⟨hP, hD⟩ := va_join (wr := [(hT, .inr (1, [.ref qT, .ref qL, .ref qR, .int (nI cnt)])), (qT, .inl (cJ, 1792, .inr (.inl fT))), (qL, .inl (cJ, 7, .inr (.inl fL))), (qR, .inl (cJ, 7, .inr (.inl fR)))]) (w1 := [(hR, .inr (0, [.ref qB, .int (nI L), .ref hT, .int (nI ix)])), (qB, .inl (cI, 400, .inl (fun j => nI (a j))))]) hP hD [0, 1] [2, 3, 4, 5] rfl rfl (by decide) (by decide) hk1 hFc hP1 hD1
  generalize H1 = H at hP hS ⊢
  have hP : va_P (dC, dI) vwCl [(hT, .inr (1, [.ref qT, .ref qL, .ref qR, .int (nI cnt)])), (qT, .inl (cJ, 1792, .inr (.inl fT))), (qL, .inl (cJ, 7, .inr (.inl fL))), (qR, .inl (cJ, 7, .inr (.inl fR))), (hR, .inr (0, [.ref qB, .int (nI L), .ref hT, .int (nI ix)])), (qB, .inl (cI, 400, .inl (fun j => nI (a j))))] H := hP
  have hD : va_D A [(hT, .inr (1, [.ref qT, .ref qL, .ref qR, .int (nI cnt)])), (qT, .inl (cJ, 1792, .inr (.inl fT))), (qL, .inl (cJ, 7, .inr (.inl fL))), (qR, .inl (cJ, 7, .inr (.inl fR))), (hR, .inr (0, [.ref qB, .int (nI L), .ref hT, .int (nI ix)])), (qB, .inl (cI, 400, .inl (fun j => nI (a j))))] := hD
  refine wl_asi (y := nI (a ix)) (by rw [hw5, if_pos hat]) ?_
  refine lv_istore_n (lv' := [(1, .int (nI (a ix))), (0, .ref hR)]) hx hb dX0_readThing_8 rfl hl (by decide) rfl (fun ls hl => ?_)
  refine lv_iload_n hx hb dX0_readThing_9 rfl (lv_at hl 0 rfl) ?_
  refine lv_bipush (v := nI 42) hx hb dX0_readThing_10 (by decide) ?_
  refine wl_icmp_ne (tgt := 33) hx hb dX0_readThing_12 (by decide) (by omega) (by omega) (fun c12 => ?_) (fun c12 => ?_)
  · skip
    refine lv_iload_n hx hb dX0_readThing_33 rfl (lv_at hl 0 rfl) ?_
    refine lv_bipush (v := nI 63) hx hb dX0_readThing_34 (by decide) ?_
    refine wl_icmp_ne (tgt := 64) hx hb dX0_readThing_36 (by decide) (by omega) (by omega) (fun c36 => ?_) (fun c36 => ?_)
    · skip
      refine lv_iload_n hx hb dX0_readThing_64 rfl (lv_at hl 0 rfl) ?_
      refine lv_bipush (v := nI 91) hx hb dX0_readThing_65 (by decide) ?_
      refine wl_icmp_ne (tgt := 87) hx hb dX0_readThing_67 (by decide) (by omega) (by omega) (fun c67 => ?_) (fun c67 => ?_)
      · skip
        refine lv_aload_n hx hb dX0_readThing_87 rfl (lv_at hl 1 rfl) ?_
        have hPc := hP.sub (ws' := [(hR, .inr (0, [.ref qB, .int (nI L), .ref hT, .int (nI ix)])), (qB, .inl (cI, 400, .inl (fun j => nI (a j))))]) [4, 5] rfl
        have hDc := hD.sub (ws' := [(hR, .inr (0, [.ref qB, .int (nI L), .ref hT, .int (nI ix)])), (qB, .inl (cI, 400, .inl (fun j => nI (a j))))]) [4, 5] (by decide) rfl
        have hFc := va_free (wc := [(hR, .inr (0, [.ref qB, .int (nI L), .ref hT, .int (nI ix)])), (qB, .inl (cI, 400, .inl (fun j => nI (a j))))]) hD hS hA [4, 5] rfl
        refine va_calli (va_runV (As := []) (rest := []) ⟨hx, hb, hml, hown, hts⟩ (c_X0_readByte l dC dI cI cJ cZ hR qB hT H.size L ix a hL ha hat) (cwV 0 hts gX0_readThing_X0_readByte rfl rfl rfl (by decide +kernel) ⟨Nat.le_of_ble_eq_true rfl, Nat.le_of_ble_eq_true rfl⟩) ⟨fun a U g mk q => by obtain ⟨q0, q1, qP, qK, qD⟩ := q; exact ⟨q0, q1, qP, va_K.moved (u := U) (U := U.calling g mk a) (Vm.Alike.refl U.vm) qK, qD⟩, va_recv hK hPc (ci := 0) (q0 := 0) rfl rfl, fun U hU hW => ⟨rfl, by rw [hU], by rw [hU]; exact hPc, va_K.moved hW.alike hK, hDc.weaken (fun _ _ _ _ => trivial)⟩⟩ rfl rfl hl.1 rfl (lv_room (Nat.le_of_ble_eq_true rfl)) dX0_readThing_88 ⟨show 0 + 0 + 0 ≤ 0 from by decide, show 0 + 0 + 0 ≤ 0 from by decide⟩) hS (fun q _ h => hFc q h) hFc (fun r88 u t H1 locs ht hvm hw88 hB hz1 hk1 hS => ?_)
        obtain ⟨ix288, rfl⟩ : ∃ z, z = u := ⟨_, rfl⟩
        obtain ⟨hP1, hK1, hD1⟩ := hB
        rw [ht] at hP1
        try dsimp only at hw88 hP1 hD1
        obtain ⟨hP, hD⟩ := va_join (wr := [(hT, .inr (1, [.ref qT, .ref qL, .ref qR, .int (nI cnt)])), (qT, .inl (cJ, 1792, .inr (.inl fT))), (qL, .inl (cJ, 7, .inr (.inl fL))), (qR, .inl (cJ, 7, .inr (.inl fR)))]) (w1 := [(hR, .inr (0, [.ref qB, .int (nI L), .ref hT, .int (nI ix288)])), (qB, .inl (cI, 400, .inl (fun j => nI (a j))))]) hP hD [4, 5] [0, 1, 2, 3] rfl rfl (by decide) (by decide) hk1 hFc hP1 hD1
        generalize H1 = H at hP hS ⊢
        have hP : va_P (dC, dI) vwCl [(hT, .inr (1, [.ref qT, .ref qL, .ref qR, .int (nI cnt)])), (qT, .inl (cJ, 1792, .inr (.inl fT))), (qL, .inl (cJ, 7, .inr (.inl fL))), (qR, .inl (cJ, 7, .inr (.inl fR))), (hR, .inr (0, [.ref qB, .int (nI L), .ref hT, .int (nI ix288)])), (qB, .inl (cI, 400, .inl (fun j => nI (a j))))] H := hP
        have hD : va_D A [(hT, .inr (1, [.ref qT, .ref qL, .ref qR, .int (nI cnt)])), (qT, .inl (cJ, 1792, .inr (.inl fT))), (qL, .inl (cJ, 7, .inr (.inl fL))), (qR, .inl (cJ, 7, .inr (.inl fR))), (hR, .inr (0, [.ref qB, .int (nI L), .ref hT, .int (nI ix288)])), (qB, .inl (cI, 400, .inl (fun j => nI (a j))))] := hD
        obtain ⟨rfl, hr88⟩ := hw88
        refine wl_asi (y := nI (rbv a L ix)) (hr88) ?_
        have h6 := rbv_lt ha hat
        refine lv_istore_n (lv' := [(2, .int (nI (rbv a L ix))), (1, .int (nI (a ix))), (0, .ref hR)]) hx hb dX0_readThing_91 rfl hl (by decide) rfl (fun ls hl => ?_)
        refine lv_aload_n hx hb dX0_readThing_92 rfl (lv_at hl 2 rfl) ?_
        refine va_get (D := (dC, dI)) (ci := 0) (v := .ref hT) (C := RX0) (T := TX0) (N := 4) hx hb hts (by decide +kernel) hown hK hP 4 rfl rfl 2 (by decide) (hts (.fieldLink RX0 19 "WildCards$Reader" "things" "LWildCards$Things;") (by decide +kernel)) (fun _ h9 => h9) rfl dX0_readThing_93 ?_
        refine lv_iload_n hx hb dX0_readThing_96 rfl (lv_at hl 0 rfl) ?_
        refine lv_iload_n hx hb dX0_readThing_97 rfl (lv_at hl 0 rfl) ?_
        refine lv_iconst (v := nI 1) hx hb dX0_readThing_98 (by decide) ?_
        have hPc := hP.sub (ws' := [(hT, .inr (1, [.ref qT, .ref qL, .ref qR, .int (nI cnt)])), (qT, .inl (cJ, 1792, .inr (.inl fT))), (qL, .inl (cJ, 7, .inr (.inl fL))), (qR, .inl (cJ, 7, .inr (.inl fR)))]) [0, 1, 2, 3] rfl
        have hDc := hD.sub (ws' := [(hT, .inr (1, [.ref qT, .ref qL, .ref qR, .int (nI cnt)])), (qT, .inl (cJ, 1792, .inr (.inl fT))), (qL, .inl (cJ, 7, .inr (.inl fL))), (qR, .inl (cJ, 7, .inr (.inl fR)))]) [0, 1, 2, 3] (by decide) rfl
        have hFc := va_free (wc := [(hT, .inr (1, [.ref qT, .ref qL, .ref qR, .int (nI cnt)])), (qT, .inl (cJ, 1792, .inr (.inl fT))), (qL, .inl (cJ, 7, .inr (.inl fL))), (qR, .inl (cJ, 7, .inr (.inl fR)))]) hD hS hA [0, 1, 2, 3] rfl
        refine va_callv (va_runV (As := [.int (nI (rbv a L ix)), .int (nI (rbv a L ix)), .int (nI 1)]) (rest := []) ⟨hx, hb, hml, hown, hts⟩ (c_X1_tell l dC dI cI cJ cZ hT qT qL qR H.size cnt fT fL fR (rbv a L ix) (rbv a L ix) 1 (by omega) (by omega) (by omega) (by omega)) (cwV 3 hts gX0_readThing_X1_tell rfl rfl rfl (by decide +kernel) ⟨Nat.le_of_ble_eq_true rfl, Nat.le_of_ble_eq_true rfl⟩) ⟨fun a U g mk q => by obtain ⟨q0, q1, qP, qK, qD⟩ := q; exact ⟨q0, q1, qP, va_K.moved (u := U) (U := U.calling g mk a) (Vm.Alike.refl U.vm) qK, qD⟩, va_recv hK hPc (ci := 1) (q0 := 0) rfl rfl, fun U hU hW => ⟨rfl, by rw [hU], by rw [hU]; exact hPc, va_K.moved hW.alike hK, hDc.weaken (fun _ _ _ _ => trivial)⟩⟩ rfl rfl hl.1 rfl (lv_room (Nat.le_of_ble_eq_true rfl)) dX0_readThing_99 ⟨show 0 + 0 + 0 + 0 ≤ 0 from by decide, show 0 + 0 + 0 + 0 ≤ 0 from by decide⟩) hS (fun q _ h => hFc q h) hFc (fun u t H1 locs ht hvm hw99 hB hz1 hk1 hS => ?_)
        obtain ⟨fT299, rfl⟩ : ∃ z, z = u := ⟨_, rfl⟩
        obtain ⟨hP1, hK1, hD1⟩ := hB
        rw [ht] at hP1
        try dsimp only at hw99 hP1 hD1
        obtain ⟨hP, hD⟩ := va_join (wr := [(hR, .inr (0, [.ref qB, .int (nI L), .ref hT, .int (nI (rbn a L ix))])), (qB, .inl (cI, 400, .inl (fun j => nI (a j))))]) (w1 := [(hT, .inr (1, [.ref qT, .ref qL, .ref qR, .int (nI cnt)])), (qT, .inl (cJ, 1792, .inr (.inl fT299))), (qL, .inl (cJ, 7, .inr (.inl fL))), (qR, .inl (cJ, 7, .inr (.inl fR)))]) hP hD [0, 1, 2, 3] [4, 5] rfl rfl (by decide) (by decide) hk1 hFc hP1 hD1
        generalize H1 = H at hP hS ⊢
        have hP : va_P (dC, dI) vwCl [(hR, .inr (0, [.ref qB, .int (nI L), .ref hT, .int (nI (rbn a L ix))])), (qB, .inl (cI, 400, .inl (fun j => nI (a j)))), (hT, .inr (1, [.ref qT, .ref qL, .ref qR, .int (nI cnt)])), (qT, .inl (cJ, 1792, .inr (.inl fT299))), (qL, .inl (cJ, 7, .inr (.inl fL))), (qR, .inl (cJ, 7, .inr (.inl fR)))] H := hP
        have hD : va_D A [(hR, .inr (0, [.ref qB, .int (nI L), .ref hT, .int (nI (rbn a L ix))])), (qB, .inl (cI, 400, .inl (fun j => nI (a j)))), (hT, .inr (1, [.ref qT, .ref qL, .ref qR, .int (nI cnt)])), (qT, .inl (cJ, 1792, .inr (.inl fT299))), (qL, .inl (cJ, 7, .inr (.inl fL))), (qR, .inl (cJ, 7, .inr (.inl fR)))] := hD
        refine lv_aload_n hx hb dX0_readThing_102 rfl (lv_at hl 2 rfl) ?_
        refine va_get (D := (dC, dI)) (ci := 0) (v := .ref hT) (C := RX0) (T := TX0) (N := 4) hx hb hts (by decide +kernel) hown hK hP 0 rfl rfl 2 (by decide) (hts (.fieldLink RX0 19 "WildCards$Reader" "things" "LWildCards$Things;") (by decide +kernel)) (fun _ h9 => h9) rfl dX0_readThing_103 ?_
        have hPc := hP.sub (ws' := [(hT, .inr (1, [.ref qT, .ref qL, .ref qR, .int (nI cnt)])), (qT, .inl (cJ, 1792, .inr (.inl fT299))), (qL, .inl (cJ, 7, .inr (.inl fL))), (qR, .inl (cJ, 7, .inr (.inl fR)))]) [2, 3, 4, 5] rfl
        have hDc := hD.sub (ws' := [(hT, .inr (1, [.ref qT, .ref qL, .ref qR, .int (nI cnt)])), (qT, .inl (cJ, 1792, .inr (.inl fT299))), (qL, .inl (cJ, 7, .inr (.inl fL))), (qR, .inl (cJ, 7, .inr (.inl fR)))]) [2, 3, 4, 5] (by decide) rfl
        have hFc := va_free (wc := [(hT, .inr (1, [.ref qT, .ref qL, .ref qR, .int (nI cnt)])), (qT, .inl (cJ, 1792, .inr (.inl fT299))), (qL, .inl (cJ, 7, .inr (.inl fL))), (qR, .inl (cJ, 7, .inr (.inl fR)))]) hD hS hA [2, 3, 4, 5] rfl
        refine va_callv (va_runV (As := []) (rest := []) ⟨hx, hb, hml, hown, hts⟩ (c_X1_close l dC dI cI cJ cZ hT qT qL qR H.size cnt fT299 fL fR (by omega)) (cwV 0 hts gX0_readThing_X1_close rfl rfl rfl (by decide +kernel) ⟨Nat.le_of_ble_eq_true rfl, Nat.le_of_ble_eq_true rfl⟩) ⟨fun a U g mk q => by obtain ⟨q0, q1, qP, qK, qD⟩ := q; exact ⟨q0, q1, qP, va_K.moved (u := U) (U := U.calling g mk a) (Vm.Alike.refl U.vm) qK, qD⟩, va_recv hK hPc (ci := 1) (q0 := 0) rfl rfl, fun U hU hW => ⟨rfl, by rw [hU], by rw [hU]; exact hPc, va_K.moved hW.alike hK, hDc.weaken (fun _ _ _ _ => trivial)⟩⟩ rfl rfl hl.1 rfl (lv_room (Nat.le_of_ble_eq_true rfl)) dX0_readThing_106 ⟨show 0 + 0 + 0 + 0 + 0 ≤ 0 from by decide, show 0 + 0 + 0 + 0 + 0 ≤ 0 from by decide⟩) hS (fun q _ h => hFc q h) hFc (fun u t H1 locs ht hvm hw106 hB hz1 hk1 hS => ?_)
        obtain ⟨hP1, hK1, hD1⟩ := hB
        rw [ht] at hP1
        try dsimp only at hw106 hP1 hD1
        obtain ⟨hP, hD⟩ := va_join (wr := [(hR, .inr (0, [.ref qB, .int (nI L), .ref hT, .int (nI (rbn a L ix))])), (qB, .inl (cI, 400, .inl (fun j => nI (a j))))]) (w1 := [(hT, .inr (1, [.ref qT, .ref qL, .ref qR, .int (nI (cnt + 1))])), (qT, .inl (cJ, 1792, .inr (.inl fT299))), (qL, .inl (cJ, 7, .inr (.inl fL))), (qR, .inl (cJ, 7, .inr (.inl fR)))]) hP hD [2, 3, 4, 5] [0, 1] rfl rfl (by decide) (by decide) hk1 hFc hP1 hD1
        generalize H1 = H at hP hS ⊢
        have hP : va_P (dC, dI) vwCl [(hR, .inr (0, [.ref qB, .int (nI L), .ref hT, .int (nI (rbn a L ix))])), (qB, .inl (cI, 400, .inl (fun j => nI (a j)))), (hT, .inr (1, [.ref qT, .ref qL, .ref qR, .int (nI (cnt + 1))])), (qT, .inl (cJ, 1792, .inr (.inl fT299))), (qL, .inl (cJ, 7, .inr (.inl fL))), (qR, .inl (cJ, 7, .inr (.inl fR)))] H := hP
        have hD : va_D A [(hR, .inr (0, [.ref qB, .int (nI L), .ref hT, .int (nI (rbn a L ix))])), (qB, .inl (cI, 400, .inl (fun j => nI (a j)))), (hT, .inr (1, [.ref qT, .ref qL, .ref qR, .int (nI (cnt + 1))])), (qT, .inl (cJ, 1792, .inr (.inl fT299))), (qL, .inl (cJ, 7, .inr (.inl fL))), (qR, .inl (cJ, 7, .inr (.inl fR)))] := hD
        have hP9 := hP.sub (ws' := [(hR, .inr (0, [.ref qB, .int (nI L), .ref hT, .int (nI (rbn a L ix))])), (qB, .inl (cI, 400, .inl (fun j => nI (a j)))), (hT, .inr (1, [.ref qT, .ref qL, .ref qR, .int (nI (cnt + 1))])), (qT, .inl (cJ, 1792, .inr (.inl fT299))), (qL, .inl (cJ, 7, .inr (.inl fL))), (qR, .inl (cJ, 7, .inr (.inl fR)))]) [0, 1, 2, 3, 4, 5] rfl
        have hD9 := hD.sub (ws' := [(hR, .inr (0, [.ref qB, .int (nI L), .ref hT, .int (nI (rbn a L ix))])), (qB, .inl (cI, 400, .inl (fun j => nI (a j)))), (hT, .inr (1, [.ref qT, .ref qL, .ref qR, .int (nI (cnt + 1))])), (qT, .inl (cJ, 1792, .inr (.inl fT299))), (qL, .inl (cJ, 7, .inr (.inl fL))), (qR, .inl (cJ, 7, .inr (.inl fR)))]) [0, 1, 2, 3, 4, 5] (by decide) rfl
        exact W.vret hx hb hr (fun t ht hW => ⟨⟨(rbn a L ix, cnt + 1, fT299, fL), rfl, (show (rbn a L ix) = thn a L ix ∧ TR (ts ++ [thv a L ix]) fT299 fL (cnt + 1) from ⟨(th_lit c12 c36 c67).2, by rw [(th_lit c12 c36 c67).1]; exact TR_one hTR (ti_lit hw99 (TR_new hTR (by omega)))⟩), by rw [ht]; exact hP9, va_K.moved hW.alike hK, hD9⟩, hS.F ht⟩) hS.2.2 dX0_readThing_109
      · skip
        refine lv_aload_n hx hb dX0_readThing_70 rfl (lv_at hl 1 rfl) ?_
        refine lv_dup hx hb dX0_readThing_71 rfl ?_
        refine va_get (D := (dC, dI)) (ci := 0) (v := .int (nI ix)) (C := RX0) (T := TX0) (N := 4) hx hb hts (by decide +kernel) hown hK hP 4 rfl rfl 3 (by decide) (hts (.fieldLink RX0 23 "WildCards$Reader" "at" "I") (by decide +kernel)) (fun _ h9 => h9) rfl dX0_readThing_72 ?_
        refine lv_iconst (v := nI 1) hx hb dX0_readThing_75 (by decide) ?_
        refine lv_iadd hx hb dX0_readThing_76 ?_
        refine wl_asi (y := nI (ix + 1)) (nI_add _ _) ?_
        refine va_put (D := (dC, dI)) (ci := 0) (v := .int (nI (ix + 1))) (ty := .int) (C := RX0) (T := TX0) (N := 4) hx hb hts (by decide +kernel) tyX0 tyX0_ok nmX0 hown hK hP hD hS 4 rfl rfl 3 (by decide) (hts (.fieldLink RX0 23 "WildCards$Reader" "at" "I") (by decide +kernel)) (fun _ h9 => h9) rfl (by decide +kernel) rfl rfl (Nat.le_of_ble_eq_true rfl) dX0_readThing_77 (fun H locs hP hD hS => ?_)
        have hP : va_P (dC, dI) vwCl [(hT, .inr (1, [.ref qT, .ref qL, .ref qR, .int (nI cnt)])), (qT, .inl (cJ, 1792, .inr (.inl fT))), (qL, .inl (cJ, 7, .inr (.inl fL))), (qR, .inl (cJ, 7, .inr (.inl fR))), (hR, .inr (0, [.ref qB, .int (nI L), .ref hT, .int (nI (ix + 1))])), (qB, .inl (cI, 400, .inl (fun j => nI (a j))))] H := hP
        have hD : va_D A [(hT, .inr (1, [.ref qT, .ref qL, .ref qR, .int (nI cnt)])), (qT, .inl (cJ, 1792, .inr (.inl fT))), (qL, .inl (cJ, 7, .inr (.inl fL))), (qR, .inl (cJ, 7, .inr (.inl fR))), (hR, .inr (0, [.ref qB, .int (nI L), .ref hT, .int (nI (ix + 1))])), (qB, .inl (cI, 400, .inl (fun j => nI (a j))))] := hD
        refine lv_aload_n hx hb dX0_readThing_80 rfl (lv_at hl 1 rfl) ?_
        have hPc := hP.sub (ws' := [(hR, .inr (0, [.ref qB, .int (nI L), .ref hT, .int (nI (ix + 1))])), (qB, .inl (cI, 400, .inl (fun j => nI (a j)))), (hT, .inr (1, [.ref qT, .ref qL, .ref qR, .int (nI cnt)])), (qT, .inl (cJ, 1792, .inr (.inl fT))), (qL, .inl (cJ, 7, .inr (.inl fL))), (qR, .inl (cJ, 7, .inr (.inl fR)))]) [4, 5, 0, 1, 2, 3] rfl
        have hDc := hD.sub (ws' := [(hR, .inr (0, [.ref qB, .int (nI L), .ref hT, .int (nI (ix + 1))])), (qB, .inl (cI, 400, .inl (fun j => nI (a j)))), (hT, .inr (1, [.ref qT, .ref qL, .ref qR, .int (nI cnt)])), (qT, .inl (cJ, 1792, .inr (.inl fT))), (qL, .inl (cJ, 7, .inr (.inl fL))), (qR, .inl (cJ, 7, .inr (.inl fR)))]) [4, 5, 0, 1, 2, 3] (by decide) rfl
        have hFc := va_free (wc := [(hR, .inr (0, [.ref qB, .int (nI L), .ref hT, .int (nI (ix + 1))])), (qB, .inl (cI, 400, .inl (fun j => nI (a j)))), (hT, .inr (1, [.ref qT, .ref qL, .ref qR, .int (nI cnt)])), (qT, .inl (cJ, 1792, .inr (.inl fT))), (qL, .inl (cJ, 7, .inr (.inl fL))), (qR, .inl (cJ, 7, .inr (.inl fR)))]) hD hS hA [4, 5, 0, 1, 2, 3] rfl
        refine va_callv (va_runV (As := []) (rest := []) ⟨hx, hb, hml, hown, hts⟩ (c_X0_readBrackets l dC dI cI cJ cZ hR qB hT qT qL qR H.size L (ix + 1) a cnt fT fL fR hL ha (by omega) (by omega) (TR_new hTR (by omega))) (cwV 0 hts gX0_readThing_X0_readBrackets rfl rfl rfl (by decide +kernel) ⟨Nat.le_of_ble_eq_true rfl, Nat.le_of_ble_eq_true rfl⟩) ⟨fun a U g mk q => by obtain ⟨q0, q1, qP, qK, qD⟩ := q; exact ⟨q0, q1, qP, va_K.moved (u := U) (U := U.calling g mk a) (Vm.Alike.refl U.vm) qK, qD⟩, va_recv hK hPc (ci := 0) (q0 := 0) rfl rfl, fun U hU hW => ⟨rfl, by rw [hU], by rw [hU]; exact hPc, va_K.moved hW.alike hK, hDc.weaken (fun _ _ _ _ => trivial)⟩⟩ rfl rfl hl.1 rfl (lv_room (Nat.le_of_ble_eq_true rfl)) dX0_readThing_81 ⟨show 0 + 0 + 0 ≤ 0 from by decide, show 0 + 0 + 0 ≤ 0 from by decide⟩) hS (fun q _ h => hFc q h) hFc (fun u t H1 locs ht hvm hw81 hB hz1 hk1 hS => ?_)
        obtain ⟨ix281, fT281⟩ := u
        obtain ⟨hP1, hK1, hD1⟩ := hB
        rw [ht] at hP1
        try dsimp only at hw81 hP1 hD1
        obtain ⟨hP, hD⟩ := va_join (wr := []) (w1 := [(hR, .inr (0, [.ref qB, .int (nI L), .ref hT, .int (nI ix281)])), (qB, .inl (cI, 400, .inl (fun j => nI (a j)))), (hT, .inr (1, [.ref qT, .ref qL, .ref qR, .int (nI cnt)])), (qT, .inl (cJ, 1792, .inr (.inl fT281))), (qL, .inl (cJ, 7, .inr (.inl fL))), (qR, .inl (cJ, 7, .inr (.inl fR)))]) hP hD [4, 5, 0, 1, 2, 3] [] rfl rfl (by decide) (by decide) hk1 hFc hP1 hD1
        generalize H1 = H at hP hS ⊢
        have hP : va_P (dC, dI) vwCl [(hR, .inr (0, [.ref qB, .int (nI L), .ref hT, .int (nI ix281)])), (qB, .inl (cI, 400, .inl (fun j => nI (a j)))), (hT, .inr (1, [.ref qT, .ref qL, .ref qR, .int (nI cnt)])), (qT, .inl (cJ, 1792, .inr (.inl fT281))), (qL, .inl (cJ, 7, .inr (.inl fL))), (qR, .inl (cJ, 7, .inr (.inl fR)))] H := hP
        have hD : va_D A [(hR, .inr (0, [.ref qB, .int (nI L), .ref hT, .int (nI ix281)])), (qB, .inl (cI, 400, .inl (fun j => nI (a j)))), (hT, .inr (1, [.ref qT, .ref qL, .ref qR, .int (nI cnt)])), (qT, .inl (cJ, 1792, .inr (.inl fT281))), (qL, .inl (cJ, 7, .inr (.inl fL))), (qR, .inl (cJ, 7, .inr (.inl fR)))] := hD
        obtain ⟨rfl, hw81⟩ := hw81
        refine lv_goto (tgt := 102) hx hb dX0_readThing_84 (by decide) ?_
        refine lv_aload_n hx hb dX0_readThing_102 rfl (lv_at hl 1 rfl) ?_
        refine va_get (D := (dC, dI)) (ci := 0) (v := .ref hT) (C := RX0) (T := TX0) (N := 4) hx hb hts (by decide +kernel) hown hK hP 0 rfl rfl 2 (by decide) (hts (.fieldLink RX0 19 "WildCards$Reader" "things" "LWildCards$Things;") (by decide +kernel)) (fun _ h9 => h9) rfl dX0_readThing_103 ?_
        have hPc := hP.sub (ws' := [(hT, .inr (1, [.ref qT, .ref qL, .ref qR, .int (nI cnt)])), (qT, .inl (cJ, 1792, .inr (.inl fT281))), (qL, .inl (cJ, 7, .inr (.inl fL))), (qR, .inl (cJ, 7, .inr (.inl fR)))]) [2, 3, 4, 5] rfl
        have hDc := hD.sub (ws' := [(hT, .inr (1, [.ref qT, .ref qL, .ref qR, .int (nI cnt)])), (qT, .inl (cJ, 1792, .inr (.inl fT281))), (qL, .inl (cJ, 7, .inr (.inl fL))), (qR, .inl (cJ, 7, .inr (.inl fR)))]) [2, 3, 4, 5] (by decide) rfl
        have hFc := va_free (wc := [(hT, .inr (1, [.ref qT, .ref qL, .ref qR, .int (nI cnt)])), (qT, .inl (cJ, 1792, .inr (.inl fT281))), (qL, .inl (cJ, 7, .inr (.inl fL))), (qR, .inl (cJ, 7, .inr (.inl fR)))]) hD hS hA [2, 3, 4, 5] rfl
        refine va_callv (va_runV (As := []) (rest := []) ⟨hx, hb, hml, hown, hts⟩ (c_X1_close l dC dI cI cJ cZ hT qT qL qR H.size cnt fT281 fL fR (by omega)) (cwV 0 hts gX0_readThing_X1_close rfl rfl rfl (by decide +kernel) ⟨Nat.le_of_ble_eq_true rfl, Nat.le_of_ble_eq_true rfl⟩) ⟨fun a U g mk q => by obtain ⟨q0, q1, qP, qK, qD⟩ := q; exact ⟨q0, q1, qP, va_K.moved (u := U) (U := U.calling g mk a) (Vm.Alike.refl U.vm) qK, qD⟩, va_recv hK hPc (ci := 1) (q0 := 0) rfl rfl, fun U hU hW => ⟨rfl, by rw [hU], by rw [hU]; exact hPc, va_K.moved hW.alike hK, hDc.weaken (fun _ _ _ _ => trivial)⟩⟩ rfl rfl hl.1 rfl (lv_room (Nat.le_of_ble_eq_true rfl)) dX0_readThing_106 ⟨show 0 + 0 + 0 + 0 ≤ 0 from by decide, show 0 + 0 + 0 + 0 ≤ 0 from by decide⟩) hS (fun q _ h => hFc q h) hFc (fun u t H1 locs ht hvm hw106 hB hz1 hk1 hS => ?_)
        obtain ⟨hP1, hK1, hD1⟩ := hB
        rw [ht] at hP1
        try dsimp only at hw106 hP1 hD1
        obtain ⟨hP, hD⟩ := va_join (wr := [(hR, .inr (0, [.ref qB, .int (nI L), .ref hT, .int (nI (brn a L (ix + 1)))])), (qB, .inl (cI, 400, .inl (fun j => nI (a j))))]) (w1 := [(hT, .inr (1, [.ref qT, .ref qL, .ref qR, .int (nI (cnt + 1))])), (qT, .inl (cJ, 1792, .inr (.inl fT281))), (qL, .inl (cJ, 7, .inr (.inl fL))), (qR, .inl (cJ, 7, .inr (.inl fR)))]) hP hD [2, 3, 4, 5] [0, 1] rfl rfl (by decide) (by decide) hk1 hFc hP1 hD1
        generalize H1 = H at hP hS ⊢
        have hP : va_P (dC, dI) vwCl [(hR, .inr (0, [.ref qB, .int (nI L), .ref hT, .int (nI (brn a L (ix + 1)))])), (qB, .inl (cI, 400, .inl (fun j => nI (a j)))), (hT, .inr (1, [.ref qT, .ref qL, .ref qR, .int (nI (cnt + 1))])), (qT, .inl (cJ, 1792, .inr (.inl fT281))), (qL, .inl (cJ, 7, .inr (.inl fL))), (qR, .inl (cJ, 7, .inr (.inl fR)))] H := hP
        have hD : va_D A [(hR, .inr (0, [.ref qB, .int (nI L), .ref hT, .int (nI (brn a L (ix + 1)))])), (qB, .inl (cI, 400, .inl (fun j => nI (a j)))), (hT, .inr (1, [.ref qT, .ref qL, .ref qR, .int (nI (cnt + 1))])), (qT, .inl (cJ, 1792, .inr (.inl fT281))), (qL, .inl (cJ, 7, .inr (.inl fL))), (qR, .inl (cJ, 7, .inr (.inl fR)))] := hD
        have hP9 := hP.sub (ws' := [(hR, .inr (0, [.ref qB, .int (nI L), .ref hT, .int (nI (brn a L (ix + 1)))])), (qB, .inl (cI, 400, .inl (fun j => nI (a j)))), (hT, .inr (1, [.ref qT, .ref qL, .ref qR, .int (nI (cnt + 1))])), (qT, .inl (cJ, 1792, .inr (.inl fT281))), (qL, .inl (cJ, 7, .inr (.inl fL))), (qR, .inl (cJ, 7, .inr (.inl fR)))]) [0, 1, 2, 3, 4, 5] rfl
        have hD9 := hD.sub (ws' := [(hR, .inr (0, [.ref qB, .int (nI L), .ref hT, .int (nI (brn a L (ix + 1)))])), (qB, .inl (cI, 400, .inl (fun j => nI (a j)))), (hT, .inr (1, [.ref qT, .ref qL, .ref qR, .int (nI (cnt + 1))])), (qT, .inl (cJ, 1792, .inr (.inl fT281))), (qL, .inl (cJ, 7, .inr (.inl fL))), (qR, .inl (cJ, 7, .inr (.inl fR)))]) [0, 1, 2, 3, 4, 5] (by decide) rfl
        exact W.vret hx hb hr (fun t ht hW => ⟨⟨(brn a L (ix + 1), cnt + 1, fT281, fL), rfl, (show (brn a L (ix + 1)) = thn a L ix ∧ TR (ts ++ [thv a L ix]) fT281 fL (cnt + 1) from ⟨(th_br c12 c36 c67).2, by rw [(th_br c12 c36 c67).1]; exact TR_one hTR hw81⟩), by rw [ht]; exact hP9, va_K.moved hW.alike hK, hD9⟩, hS.F ht⟩) hS.2.2 dX0_readThing_109
    · skip
      refine lv_aload_n hx hb dX0_readThing_39 rfl (lv_at hl 1 rfl) ?_
      refine lv_dup hx hb dX0_readThing_40 rfl ?_
      refine va_get (D := (dC, dI)) (ci := 0) (v := .int (nI ix)) (C := RX0) (T := TX0) (N := 4) hx hb hts (by decide +kernel) hown hK hP 4 rfl rfl 3 (by decide) (hts (.fieldLink RX0 23 "WildCards$Reader" "at" "I") (by decide +kernel)) (fun _ h9 => h9) rfl dX0_readThing_41 ?_
      refine lv_iconst (v := nI 1) hx hb dX0_readThing_44 (by decide) ?_
      refine lv_iadd hx hb dX0_readThing_45 ?_
      refine wl_asi (y := nI (ix + 1)) (nI_add _ _) ?_
      refine va_put (D := (dC, dI)) (ci := 0) (v := .int (nI (ix + 1))) (ty := .int) (C := RX0) (T := TX0) (N := 4) hx hb hts (by decide +kernel) tyX0 tyX0_ok nmX0 hown hK hP hD hS 4 rfl rfl 3 (by decide) (hts (.fieldLink RX0 23 "WildCards$Reader" "at" "I") (by decide +kernel)) (fun _ h9 => h9) rfl (by decide +kernel) rfl rfl (Nat.le_of_ble_eq_true rfl) dX0_readThing_46 (fun H locs hP hD hS => ?_)
      have hP : va_P (dC, dI) vwCl [(hT, .inr (1, [.ref qT, .ref qL, .ref qR, .int (nI cnt)])), (qT, .inl (cJ, 1792, .inr (.inl fT))), (qL, .inl (cJ, 7, .inr (.inl fL))), (qR, .inl (cJ, 7, .inr (.inl fR))), (hR, .inr (0, [.ref qB, .int (nI L), .ref hT, .int (nI (ix + 1))])), (qB, .inl (cI, 400, .inl (fun j => nI (a j))))] H := hP
      have hD : va_D A [(hT, .inr (1, [.ref qT, .ref qL, .ref qR, .int (nI cnt)])), (qT, .inl (cJ, 1792, .inr (.inl fT))), (qL, .inl (cJ, 7, .inr (.inl fL))), (qR, .inl (cJ, 7, .inr (.inl fR))), (hR, .inr (0, [.ref qB, .int (nI L), .ref hT, .int (nI (ix + 1))])), (qB, .inl (cI, 400, .inl (fun j => nI (a j))))] := hD
      refine lv_aload_n hx hb dX0_readThing_49 rfl (lv_at hl 1 rfl) ?_
      refine va_get (D := (dC, dI)) (ci := 0) (v := .ref hT) (C := RX0) (T := TX0) (N := 4) hx hb hts (by decide +kernel) hown hK hP 4 rfl rfl 2 (by decide) (hts (.fieldLink RX0 19 "WildCards$Reader" "things" "LWildCards$Things;") (by decide +kernel)) (fun _ h9 => h9) rfl dX0_readThing_50 ?_
      refine lv_iconst (v := nI 0) hx hb dX0_readThing_53 (by decide) ?_
      refine lv_sipush (v := nI 255) hx hb dX0_readThing_54 (by decide) ?_
      refine lv_iconst (v := nI 1) hx hb dX0_readThing_57 (by decide) ?_
      have hPc := hP.sub (ws' := [(hT, .inr (1, [.ref qT, .ref qL, .ref qR, .int (nI cnt)])), (qT, .inl (cJ, 1792, .inr (.inl fT))), (qL, .inl (cJ, 7, .inr (.inl fL))), (qR, .inl (cJ, 7, .inr (.inl fR)))]) [0, 1, 2, 3] rfl
      have hDc := hD.sub (ws' := [(hT, .inr (1, [.ref qT, .ref qL, .ref qR, .int (nI cnt)])), (qT, .inl (cJ, 1792, .inr (.inl fT))), (qL, .inl (cJ, 7, .inr (.inl fL))), (qR, .inl (cJ, 7, .inr (.inl fR)))]) [0, 1, 2, 3] (by decide) rfl
      have hFc := va_free (wc := [(hT, .inr (1, [.ref qT, .ref qL, .ref qR, .int (nI cnt)])), (qT, .inl (cJ, 1792, .inr (.inl fT))), (qL, .inl (cJ, 7, .inr (.inl fL))), (qR, .inl (cJ, 7, .inr (.inl fR)))]) hD hS hA [0, 1, 2, 3] rfl
      refine va_callv (va_runV (As := [.int (nI 0), .int (nI 255), .int (nI 1)]) (rest := []) ⟨hx, hb, hml, hown, hts⟩ (c_X1_tell l dC dI cI cJ cZ hT qT qL qR H.size cnt fT fL fR 0 255 1 (by omega) (by omega) (by omega) (by omega)) (cwV 3 hts gX0_readThing_X1_tell rfl rfl rfl (by decide +kernel) ⟨Nat.le_of_ble_eq_true rfl, Nat.le_of_ble_eq_true rfl⟩) ⟨fun a U g mk q => by obtain ⟨q0, q1, qP, qK, qD⟩ := q; exact ⟨q0, q1, qP, va_K.moved (u := U) (U := U.calling g mk a) (Vm.Alike.refl U.vm) qK, qD⟩, va_recv hK hPc (ci := 1) (q0 := 0) rfl rfl, fun U hU hW => ⟨rfl, by rw [hU], by rw [hU]; exact hPc, va_K.moved hW.alike hK, hDc.weaken (fun _ _ _ _ => trivial)⟩⟩ rfl rfl hl.1 rfl (lv_room (Nat.le_of_ble_eq_true rfl)) dX0_readThing_58 ⟨show 0 + 0 + 0 ≤ 0 from by decide, show 0 + 0 + 0 ≤ 0 from by decide⟩) hS (fun q _ h => hFc q h) hFc (fun u t H1 locs ht hvm hw58 hB hz1 hk1 hS => ?_)
      obtain ⟨fT258, rfl⟩ : ∃ z, z = u := ⟨_, rfl⟩
      obtain ⟨hP1, hK1, hD1⟩ := hB
      rw [ht] at hP1
      try dsimp only at hw58 hP1 hD1
      obtain ⟨hP, hD⟩ := va_join (wr := [(hR, .inr (0, [.ref qB, .int (nI L), .ref hT, .int (nI (ix + 1))])), (qB, .inl (cI, 400, .inl (fun j => nI (a j))))]) (w1 := [(hT, .inr (1, [.ref qT, .ref qL, .ref qR, .int (nI cnt)])), (qT, .inl (cJ, 1792, .inr (.inl fT258))), (qL, .inl (cJ, 7, .inr (.inl fL))), (qR, .inl (cJ, 7, .inr (.inl fR)))]) hP hD [0, 1, 2, 3] [4, 5] rfl rfl (by decide) (by decide) hk1 hFc hP1 hD1
      generalize H1 = H at hP hS ⊢
      have hP : va_P (dC, dI) vwCl [(hR, .inr (0, [.ref qB, .int (nI L), .ref hT, .int (nI (ix + 1))])), (qB, .inl (cI, 400, .inl (fun j => nI (a j)))), (hT, .inr (1, [.ref qT, .ref qL, .ref qR, .int (nI cnt)])), (qT, .inl (cJ, 1792, .inr (.inl fT258))), (qL, .inl (cJ, 7, .inr (.inl fL))), (qR, .inl (cJ, 7, .inr (.inl fR)))] H := hP
      have hD : va_D A [(hR, .inr (0, [.ref qB, .int (nI L), .ref hT, .int (nI (ix + 1))])), (qB, .inl (cI, 400, .inl (fun j => nI (a j)))), (hT, .inr (1, [.ref qT, .ref qL, .ref qR, .int (nI cnt)])), (qT, .inl (cJ, 1792, .inr (.inl fT258))), (qL, .inl (cJ, 7, .inr (.inl fL))), (qR, .inl (cJ, 7, .inr (.inl fR)))] := hD
      refine lv_goto (tgt := 102) hx hb dX0_readThing_61 (by decide) ?_
      refine lv_aload_n hx hb dX0_readThing_102 rfl (lv_at hl 1 rfl) ?_
      refine va_get (D := (dC, dI)) (ci := 0) (v := .ref hT) (C := RX0) (T := TX0) (N := 4) hx hb hts (by decide +kernel) hown hK hP 0 rfl rfl 2 (by decide) (hts (.fieldLink RX0 19 "WildCards$Reader" "things" "LWildCards$Things;") (by decide +kernel)) (fun _ h9 => h9) rfl dX0_readThing_103 ?_
      have hPc := hP.sub (ws' := [(hT, .inr (1, [.ref qT, .ref qL, .ref qR, .int (nI cnt)])), (qT, .inl (cJ, 1792, .inr (.inl fT258))), (qL, .inl (cJ, 7, .inr (.inl fL))), (qR, .inl (cJ, 7, .inr (.inl fR)))]) [2, 3, 4, 5] rfl
      have hDc := hD.sub (ws' := [(hT, .inr (1, [.ref qT, .ref qL, .ref qR, .int (nI cnt)])), (qT, .inl (cJ, 1792, .inr (.inl fT258))), (qL, .inl (cJ, 7, .inr (.inl fL))), (qR, .inl (cJ, 7, .inr (.inl fR)))]) [2, 3, 4, 5] (by decide) rfl
      have hFc := va_free (wc := [(hT, .inr (1, [.ref qT, .ref qL, .ref qR, .int (nI cnt)])), (qT, .inl (cJ, 1792, .inr (.inl fT258))), (qL, .inl (cJ, 7, .inr (.inl fL))), (qR, .inl (cJ, 7, .inr (.inl fR)))]) hD hS hA [2, 3, 4, 5] rfl
      refine va_callv (va_runV (As := []) (rest := []) ⟨hx, hb, hml, hown, hts⟩ (c_X1_close l dC dI cI cJ cZ hT qT qL qR H.size cnt fT258 fL fR (by omega)) (cwV 0 hts gX0_readThing_X1_close rfl rfl rfl (by decide +kernel) ⟨Nat.le_of_ble_eq_true rfl, Nat.le_of_ble_eq_true rfl⟩) ⟨fun a U g mk q => by obtain ⟨q0, q1, qP, qK, qD⟩ := q; exact ⟨q0, q1, qP, va_K.moved (u := U) (U := U.calling g mk a) (Vm.Alike.refl U.vm) qK, qD⟩, va_recv hK hPc (ci := 1) (q0 := 0) rfl rfl, fun U hU hW => ⟨rfl, by rw [hU], by rw [hU]; exact hPc, va_K.moved hW.alike hK, hDc.weaken (fun _ _ _ _ => trivial)⟩⟩ rfl rfl hl.1 rfl (lv_room (Nat.le_of_ble_eq_true rfl)) dX0_readThing_106 ⟨show 0 + 0 + 0 + 0 ≤ 0 from by decide, show 0 + 0 + 0 + 0 ≤ 0 from by decide⟩) hS (fun q _ h => hFc q h) hFc (fun u t H1 locs ht hvm hw106 hB hz1 hk1 hS => ?_)
      obtain ⟨hP1, hK1, hD1⟩ := hB
      rw [ht] at hP1
      try dsimp only at hw106 hP1 hD1
      obtain ⟨hP, hD⟩ := va_join (wr := [(hR, .inr (0, [.ref qB, .int (nI L), .ref hT, .int (nI (ix + 1))])), (qB, .inl (cI, 400, .inl (fun j => nI (a j))))]) (w1 := [(hT, .inr (1, [.ref qT, .ref qL, .ref qR, .int (nI (cnt + 1))])), (qT, .inl (cJ, 1792, .inr (.inl fT258))), (qL, .inl (cJ, 7, .inr (.inl fL))), (qR, .inl (cJ, 7, .inr (.inl fR)))]) hP hD [2, 3, 4, 5] [0, 1] rfl rfl (by decide) (by decide) hk1 hFc hP1 hD1
      generalize H1 = H at hP hS ⊢
      have hP : va_P (dC, dI) vwCl [(hR, .inr (0, [.ref qB, .int (nI L), .ref hT, .int (nI (ix + 1))])), (qB, .inl (cI, 400, .inl (fun j => nI (a j)))), (hT, .inr (1, [.ref qT, .ref qL, .ref qR, .int (nI (cnt + 1))])), (qT, .inl (cJ, 1792, .inr (.inl fT258))), (qL, .inl (cJ, 7, .inr (.inl fL))), (qR, .inl (cJ, 7, .inr (.inl fR)))] H := hP
      have hD : va_D A [(hR, .inr (0, [.ref qB, .int (nI L), .ref hT, .int (nI (ix + 1))])), (qB, .inl (cI, 400, .inl (fun j => nI (a j)))), (hT, .inr (1, [.ref qT, .ref qL, .ref qR, .int (nI (cnt + 1))])), (qT, .inl (cJ, 1792, .inr (.inl fT258))), (qL, .inl (cJ, 7, .inr (.inl fL))), (qR, .inl (cJ, 7, .inr (.inl fR)))] := hD
      have hP9 := hP.sub (ws' := [(hR, .inr (0, [.ref qB, .int (nI L), .ref hT, .int (nI (ix + 1))])), (qB, .inl (cI, 400, .inl (fun j => nI (a j)))), (hT, .inr (1, [.ref qT, .ref qL, .ref qR, .int (nI (cnt + 1))])), (qT, .inl (cJ, 1792, .inr (.inl fT258))), (qL, .inl (cJ, 7, .inr (.inl fL))), (qR, .inl (cJ, 7, .inr (.inl fR)))]) [0, 1, 2, 3, 4, 5] rfl
      have hD9 := hD.sub (ws' := [(hR, .inr (0, [.ref qB, .int (nI L), .ref hT, .int (nI (ix + 1))])), (qB, .inl (cI, 400, .inl (fun j => nI (a j)))), (hT, .inr (1, [.ref qT, .ref qL, .ref qR, .int (nI (cnt + 1))])), (qT, .inl (cJ, 1792, .inr (.inl fT258))), (qL, .inl (cJ, 7, .inr (.inl fL))), (qR, .inl (cJ, 7, .inr (.inl fR)))]) [0, 1, 2, 3, 4, 5] (by decide) rfl
      exact W.vret hx hb hr (fun t ht hW => ⟨⟨(ix + 1, cnt + 1, fT258, fL), rfl, (show (ix + 1) = thn a L ix ∧ TR (ts ++ [thv a L ix]) fT258 fL (cnt + 1) from ⟨(th_any c12 c36).2, by rw [(th_any c12 c36).1]; exact TR_one hTR (ti_any hw58)⟩), by rw [ht]; exact hP9, va_K.moved hW.alike hK, hD9⟩, hS.F ht⟩) hS.2.2 dX0_readThing_109
  · skip
    refine lv_aload_n hx hb dX0_readThing_15 rfl (lv_at hl 1 rfl) ?_
    refine lv_dup hx hb dX0_readThing_16 rfl ?_
    refine va_get (D := (dC, dI)) (ci := 0) (v := .int (nI ix)) (C := RX0) (T := TX0) (N := 4) hx hb hts (by decide +kernel) hown hK hP 4 rfl rfl 3 (by decide) (hts (.fieldLink RX0 23 "WildCards$Reader" "at" "I") (by decide +kernel)) (fun _ h9 => h9) rfl dX0_readThing_17 ?_
    refine lv_iconst (v := nI 1) hx hb dX0_readThing_20 (by decide) ?_
    refine lv_iadd hx hb dX0_readThing_21 ?_
    refine wl_asi (y := nI (ix + 1)) (nI_add _ _) ?_
    refine va_put (D := (dC, dI)) (ci := 0) (v := .int (nI (ix + 1))) (ty := .int) (C := RX0) (T := TX0) (N := 4) hx hb hts (by decide +kernel) tyX0 tyX0_ok nmX0 hown hK hP hD hS 4 rfl rfl 3 (by decide) (hts (.fieldLink RX0 23 "WildCards$Reader" "at" "I") (by decide +kernel)) (fun _ h9 => h9) rfl (by decide +kernel) rfl rfl (Nat.le_of_ble_eq_true rfl) dX0_readThing_22 (fun H locs hP hD hS => ?_)
    have hP : va_P (dC, dI) vwCl [(hT, .inr (1, [.ref qT, .ref qL, .ref qR, .int (nI cnt)])), (qT, .inl (cJ, 1792, .inr (.inl fT))), (qL, .inl (cJ, 7, .inr (.inl fL))), (qR, .inl (cJ, 7, .inr (.inl fR))), (hR, .inr (0, [.ref qB, .int (nI L), .ref hT, .int (nI (ix + 1))])), (qB, .inl (cI, 400, .inl (fun j => nI (a j))))] H := hP
    have hD : va_D A [(hT, .inr (1, [.ref qT, .ref qL, .ref qR, .int (nI cnt)])), (qT, .inl (cJ, 1792, .inr (.inl fT))), (qL, .inl (cJ, 7, .inr (.inl fL))), (qR, .inl (cJ, 7, .inr (.inl fR))), (hR, .inr (0, [.ref qB, .int (nI L), .ref hT, .int (nI (ix + 1))])), (qB, .inl (cI, 400, .inl (fun j => nI (a j))))] := hD
    refine lv_aload_n hx hb dX0_readThing_25 rfl (lv_at hl 1 rfl) ?_
    refine va_get (D := (dC, dI)) (ci := 0) (v := .ref hT) (C := RX0) (T := TX0) (N := 4) hx hb hts (by decide +kernel) hown hK hP 4 rfl rfl 2 (by decide) (hts (.fieldLink RX0 19 "WildCards$Reader" "things" "LWildCards$Things;") (by decide +kernel)) (fun _ h9 => h9) rfl dX0_readThing_26 ?_
    have hPc := hP.sub (ws' := [(hT, .inr (1, [.ref qT, .ref qL, .ref qR, .int (nI cnt)])), (qT, .inl (cJ, 1792, .inr (.inl fT))), (qL, .inl (cJ, 7, .inr (.inl fL))), (qR, .inl (cJ, 7, .inr (.inl fR)))]) [0, 1, 2, 3] rfl
    have hDc := hD.sub (ws' := [(hT, .inr (1, [.ref qT, .ref qL, .ref qR, .int (nI cnt)])), (qT, .inl (cJ, 1792, .inr (.inl fT))), (qL, .inl (cJ, 7, .inr (.inl fL))), (qR, .inl (cJ, 7, .inr (.inl fR)))]) [0, 1, 2, 3] (by decide) rfl
    have hFc := va_free (wc := [(hT, .inr (1, [.ref qT, .ref qL, .ref qR, .int (nI cnt)])), (qT, .inl (cJ, 1792, .inr (.inl fT))), (qL, .inl (cJ, 7, .inr (.inl fL))), (qR, .inl (cJ, 7, .inr (.inl fR)))]) hD hS hA [0, 1, 2, 3] rfl
    refine va_callv (va_runV (As := []) (rest := []) ⟨hx, hb, hml, hown, hts⟩ (c_X1_addLoop l dC dI cI cJ cZ hT qT qL qR H.size cnt fT fL fR (by omega)) (cwV 0 hts gX0_readThing_X1_addLoop rfl rfl rfl (by decide +kernel) ⟨Nat.le_of_ble_eq_true rfl, Nat.le_of_ble_eq_true rfl⟩) ⟨fun a U g mk q => by obtain ⟨q0, q1, qP, qK, qD⟩ := q; exact ⟨q0, q1, qP, va_K.moved (u := U) (U := U.calling g mk a) (Vm.Alike.refl U.vm) qK, qD⟩, va_recv hK hPc (ci := 1) (q0 := 0) rfl rfl, fun U hU hW => ⟨rfl, by rw [hU], by rw [hU]; exact hPc, va_K.moved hW.alike hK, hDc.weaken (fun _ _ _ _ => trivial)⟩⟩ rfl rfl hl.1 rfl (lv_room (Nat.le_of_ble_eq_true rfl)) dX0_readThing_29 ⟨show 0 + 0 + 0 ≤ 0 from by decide, show 0 + 0 + 0 ≤ 0 from by decide⟩) hS (fun q _ h => hFc q h) hFc (fun u t H1 locs ht hvm hw29 hB hz1 hk1 hS => ?_)
    obtain ⟨fL229, rfl⟩ : ∃ z, z = u := ⟨_, rfl⟩
    obtain ⟨hP1, hK1, hD1⟩ := hB
    rw [ht] at hP1
    try dsimp only at hw29 hP1 hD1
    obtain ⟨hP, hD⟩ := va_join (wr := [(hR, .inr (0, [.ref qB, .int (nI L), .ref hT, .int (nI (ix + 1))])), (qB, .inl (cI, 400, .inl (fun j => nI (a j))))]) (w1 := [(hT, .inr (1, [.ref qT, .ref qL, .ref qR, .int (nI cnt)])), (qT, .inl (cJ, 1792, .inr (.inl fT))), (qL, .inl (cJ, 7, .inr (.inl fL229))), (qR, .inl (cJ, 7, .inr (.inl fR)))]) hP hD [0, 1, 2, 3] [4, 5] rfl rfl (by decide) (by decide) hk1 hFc hP1 hD1
    generalize H1 = H at hP hS ⊢
    have hP : va_P (dC, dI) vwCl [(hR, .inr (0, [.ref qB, .int (nI L), .ref hT, .int (nI (ix + 1))])), (qB, .inl (cI, 400, .inl (fun j => nI (a j)))), (hT, .inr (1, [.ref qT, .ref qL, .ref qR, .int (nI cnt)])), (qT, .inl (cJ, 1792, .inr (.inl fT))), (qL, .inl (cJ, 7, .inr (.inl fL229))), (qR, .inl (cJ, 7, .inr (.inl fR)))] H := hP
    have hD : va_D A [(hR, .inr (0, [.ref qB, .int (nI L), .ref hT, .int (nI (ix + 1))])), (qB, .inl (cI, 400, .inl (fun j => nI (a j)))), (hT, .inr (1, [.ref qT, .ref qL, .ref qR, .int (nI cnt)])), (qT, .inl (cJ, 1792, .inr (.inl fT))), (qL, .inl (cJ, 7, .inr (.inl fL229))), (qR, .inl (cJ, 7, .inr (.inl fR)))] := hD
    have hP9 := hP.sub (ws' := [(hR, .inr (0, [.ref qB, .int (nI L), .ref hT, .int (nI (ix + 1))])), (qB, .inl (cI, 400, .inl (fun j => nI (a j)))), (hT, .inr (1, [.ref qT, .ref qL, .ref qR, .int (nI cnt)])), (qT, .inl (cJ, 1792, .inr (.inl fT))), (qL, .inl (cJ, 7, .inr (.inl fL229))), (qR, .inl (cJ, 7, .inr (.inl fR)))]) [0, 1, 2, 3, 4, 5] rfl
    have hD9 := hD.sub (ws' := [(hR, .inr (0, [.ref qB, .int (nI L), .ref hT, .int (nI (ix + 1))])), (qB, .inl (cI, 400, .inl (fun j => nI (a j)))), (hT, .inr (1, [.ref qT, .ref qL, .ref qR, .int (nI cnt)])), (qT, .inl (cJ, 1792, .inr (.inl fT))), (qL, .inl (cJ, 7, .inr (.inl fL229))), (qR, .inl (cJ, 7, .inr (.inl fR)))]) [0, 1, 2, 3, 4, 5] (by decide) rfl
    exact W.vret hx hb hr (fun t ht hW => ⟨⟨(ix + 1, cnt, fT, fL229), rfl, (show (ix + 1) = thn a L ix ∧ TR (ts ++ [thv a L ix]) fT fL229 cnt from ⟨(th_star c12).2, by rw [(th_star c12).1]; exact TR_star hTR hw29⟩), by rw [ht]; exact hP9, va_K.moved hW.alike hK, hD9⟩, hS.F ht⟩) hS.2.2 dX0_readThing_32
end
section
set_option maxHeartbeats 4000000 in
set_option maxRecDepth 100000 in
theorem c_X0_readAll (l : Launch) (dC : Nat → ClassId) (dI : Nat → Nat → Nat) (cI cJ cZ : ClassId) (hR qB hT qT qL qR : Nat) (sz : Nat) (L : Nat) (a : Nat → Nat) (fT : Nat → Int64) (fL : Nat → Int64) (fR : Nat → Int64) (hL : L ≤ 400) (ha : ∀ j, j < L → a j < 256) (hTR : TR [] fT fL 0) : Met l yX0_readAll wsX0_readAll ({ frames := 5, cells := 0, slots := 0, locals := 114 }) (va_Pc [.ref hR] (fun U => U.heap.size = sz ∧ va_P (dC, dI) vwCl [(hR, .inr (0, [.ref qB, .int (nI L), .ref hT, .int (nI 0)])), (qB, .inl (cI, 400, .inl (fun j => nI (a j)))), (hT, .inr (1, [.ref qT, .ref qL, .ref qR, .int (nI 0)])), (qT, .inl (cJ, 1792, .inr (.inl fT))), (qL, .inl (cJ, 7, .inr (.inl fL))), (qR, .inl (cJ, 7, .inr (.inl fR)))] U.heap ∧ va_K (dC, dI) vwCl [(cI, .int), (cJ, .long), (cZ, .boolean)] U ∧ va_D (fun _ => True) [(hR, .inr (0, [.ref qB, .int (nI L), .ref hT, .int (nI 0)])), (qB, .inl (cI, 400, .inl (fun j => nI (a j)))), (hT, .inr (1, [.ref qT, .ref qL, .ref qR, .int (nI 0)])), (qT, .inl (cJ, 1792, .inr (.inl fT))), (qL, .inl (cJ, 7, .inr (.inl fL))), (qR, .inl (cJ, 7, .inr (.inl fR)))])) (va_Qv (fun (u : Nat × Nat × (Nat → Int64) × (Nat → Int64)) => TR (ths a L L 0) u.2.2.1 u.2.2.2 u.2.1 ∧ u.2.1 ≤ 400) (fun (u : Nat × Nat × (Nat → Int64) × (Nat → Int64)) (t : State) => va_P (dC, dI) vwCl [(hR, .inr (0, [.ref qB, .int (nI L), .ref hT, .int (nI u.1)])), (qB, .inl (cI, 400, .inl (fun j => nI (a j)))), (hT, .inr (1, [.ref qT, .ref qL, .ref qR, .int (nI u.2.1)])), (qT, .inl (cJ, 1792, .inr (.inl u.2.2.1))), (qL, .inl (cJ, 7, .inr (.inl u.2.2.2))), (qR, .inl (cJ, 7, .inr (.inl fR)))] t.heap ∧ va_K (dC, dI) vwCl [(cI, .int), (cJ, .long), (cZ, .boolean)] t ∧ va_D (va_A [(hR, .inr (0, [.ref qB, .int (nI L), .ref hT, .int (nI 0)])), (qB, .inl (cI, 400, .inl (fun j => nI (a j)))), (hT, .inr (1, [.ref qT, .ref qL, .ref qR, .int (nI 0)])), (qT, .inl (cJ, 1792, .inr (.inl fT))), (qL, .inl (cJ, 7, .inr (.inl fL))), (qR, .inl (cJ, 7, .inr (.inl fR)))] sz) [(hR, .inr (0, [.ref qB, .int (nI L), .ref hT, .int (nI u.1)])), (qB, .inl (cI, 400, .inl (fun j => nI (a j)))), (hT, .inr (1, [.ref qT, .ref qL, .ref qR, .int (nI u.2.1)])), (qT, .inl (cJ, 1792, .inr (.inl u.2.2.1))), (qL, .inl (cJ, 7, .inr (.inl u.2.2.2))), (qR, .inl (cJ, 7, .inr (.inl fR)))]) (va_A [(hR, .inr (0, [.ref qB, .int (nI L), .ref hT, .int (nI 0)])), (qB, .inl (cI, 400, .inl (fun j => nI (a j)))), (hT, .inr (1, [.ref qT, .ref qL, .ref qR, .int (nI 0)])), (qT, .inl (cJ, 1792, .inr (.inl fT))), (qL, .inl (cJ, 7, .inr (.inl fL))), (qR, .inl (cJ, 7, .inr (.inl fR)))] sz)) 0 0 (va_A [(hR, .inr (0, [.ref qB, .int (nI L), .ref hT, .int (nI 0)])), (qB, .inl (cI, 400, .inl (fun j => nI (a j)))), (hT, .inr (1, [.ref qT, .ref qL, .ref qR, .int (nI 0)])), (qT, .inl (cJ, 1792, .inr (.inl fT))), (qL, .inl (cJ, 7, .inr (.inl fL))), (qR, .inl (cJ, 7, .inr (.inl fR)))] sz) := by
  refine Met.ofW (cc := cX0_readAll) (maxL := 2) (ret := none) (by decide) rfl ?_
  intro p e s m args below meth c s₁ B hml hv
  obtain ⟨rfl, hsz, hP, hK, hD0⟩ := hv
  have hx := B.exec
  have hb := B.bytes
  have hr := B.returns
  have hts := atoms_spec (ws := wsX0_readAll) B.pre
  have hown : s.vm.findClass RX0 = some m.cls := findClass_of_methodNamed B.named
  have hlocks := B.notSynchronized
  subst hsz
  have hD := hD0.self (sz := s.heap.size)
  generalize hAe : va_A [(hR, .inr (0, [.ref qB, .int (nI L), .ref hT, .int (nI 0)])), (qB, .inl (cI, 400, .inl (fun j => nI (a j)))), (hT, .inr (1, [.ref qT, .ref qL, .ref qR, .int (nI 0)])), (qT, .inl (cJ, 1792, .inr (.inl fT))), (qL, .inl (cJ, 7, .inr (.inl fL))), (qR, .inl (cJ, 7, .inr (.inl fR)))] s.heap.size = A at hD ⊢
  have hA : ∀ q : Nat, s.heap.size ≤ q → A q := fun q h => by rw [← hAe]; exact Or.inr h
  have hS : va_S A s.heap s.heap [] := va_S.rf
  have hP : va_P (dC, dI) vwCl [(hR, .inr (0, [.ref qB, .int (nI L), .ref hT, .int (nI 0)])), (qB, .inl (cI, 400, .inl (fun j => nI (a j)))), (hT, .inr (1, [.ref qT, .ref qL, .ref qR, .int (nI 0)])), (qT, .inl (cJ, 1792, .inr (.inl fT))), (qL, .inl (cJ, 7, .inr (.inl fL))), (qR, .inl (cJ, 7, .inr (.inl fR)))] s.heap := hP
  have hl := lv_entry ([.ref hR]) (n := 2) (Nat.le_of_ble_eq_true rfl)
  rw [lg_entry_eq]
  generalize (lg_sl ([.ref hR]) ++ List.replicate (2 - (lg_sl ([.ref hR])).length) Slot.unset).toArray = ls at hl ⊢
  have hl : lv_has ls 2 [(0, .ref hR)] := hl
  skip
  refine lv_iconst (v := nI 0) hx hb dX0_readAll_0 (by decide) ?_
  refine lv_istore_n (lv' := [(1, .int (nI 0)), (0, .ref hR)]) hx hb dX0_readAll_1 rfl hl (by decide) rfl (fun ls hl => ?_)
  refine wl_loop (σ := Nat × Nat × Nat × (Nat → Int64) × (Nat → Int64) × (List (Option (Nat → Bool)))) (fun z9 => L - z9.1) (fun z9 H locs ls => (z9.1 ≤ L) ∧ (z9.2.1 ≤ L + 1) ∧ (ths a L L 0 = z9.2.2.2.2.2 ++ ths a L (L - z9.1) z9.2.1) ∧ (TR z9.2.2.2.2.2 z9.2.2.2.1 z9.2.2.2.2.1 z9.2.2.1) ∧ (tC z9.2.2.2.2.2 ≤ z9.1) ∧ va_P (dC, dI) vwCl [(hR, .inr (0, [.ref qB, .int (nI L), .ref hT, .int (nI z9.2.1)])), (qB, .inl (cI, 400, .inl (fun j => nI (a j)))), (hT, .inr (1, [.ref qT, .ref qL, .ref qR, .int (nI z9.2.2.1)])), (qT, .inl (cJ, 1792, .inr (.inl z9.2.2.2.1))), (qL, .inl (cJ, 7, .inr (.inl z9.2.2.2.2.1))), (qR, .inl (cJ, 7, .inr (.inl fR)))] H ∧ va_D A [(hR, .inr (0, [.ref qB, .int (nI L), .ref hT, .int (nI z9.2.1)])), (qB, .inl (cI, 400, .inl (fun j => nI (a j)))), (hT, .inr (1, [.ref qT, .ref qL, .ref qR, .int (nI z9.2.2.1)])), (qT, .inl (cJ, 1792, .inr (.inl z9.2.2.2.1))), (qL, .inl (cJ, 7, .inr (.inl z9.2.2.2.2.1))), (qR, .inl (cJ, 7, .inr (.inl fR)))] ∧ va_S A s.heap H locs ∧ lv_has ls 2 [(0, .ref hR), (1, .int (nI z9.1))]) ?_ (0, 0, 0, fT, fL, []) ⟨(show (0) ≤ L from Nat.zero_le _), (show (0) ≤ L + 1 from Nat.zero_le _), (show ths a L L 0 = ([]) ++ ths a L (L - (0)) (0) from rfl), (show TR ([]) fT fL (0) from hTR), (show tC ([]) ≤ (0) from Nat.le_refl _), hP.sub [0, 1, 2, 3, 4, 5] rfl, hD.sub [0, 1, 2, 3, 4, 5] (by decide) rfl, hS, lv_sub hl [1, 0] rfl⟩
  intro z9 H locs ls hI ih2
  obtain ⟨rr, jx, cn, gT, gL, ts⟩ := z9
  obtain ⟨hr1, hj, hths, hTR, hcn, hP, hD, hS, hl⟩ := hI
  try dsimp only at hr1 hj hths hTR hcn hP hD hl
  have hP : va_P (dC, dI) vwCl [(hR, .inr (0, [.ref qB, .int (nI L), .ref hT, .int (nI jx)])), (qB, .inl (cI, 400, .inl (fun j => nI (a j)))), (hT, .inr (1, [.ref qT, .ref qL, .ref qR, .int (nI cn)])), (qT, .inl (cJ, 1792, .inr (.inl gT))), (qL, .inl (cJ, 7, .inr (.inl gL))), (qR, .inl (cJ, 7, .inr (.inl fR)))] H := hP
  have hD : va_D A [(hR, .inr (0, [.ref qB, .int (nI L), .ref hT, .int (nI jx)])), (qB, .inl (cI, 400, .inl (fun j => nI (a j)))), (hT, .inr (1, [.ref qT, .ref qL, .ref qR, .int (nI cn)])), (qT, .inl (cJ, 1792, .inr (.inl gT))), (qL, .inl (cJ, 7, .inr (.inl gL))), (qR, .inl (cJ, 7, .inr (.inl fR)))] := hD
  have hl : lv_has ls 2 [(0, .ref hR), (1, .int (nI rr))] := hl
  refine lv_iload_n hx hb dX0_readAll_2 rfl (lv_at hl 1 rfl) ?_
  refine lv_aload_n hx hb dX0_readAll_3 rfl (lv_at hl 0 rfl) ?_
  refine va_get (D := (dC, dI)) (ci := 0) (v := .int (nI L)) (C := RX0) (T := TX0) (N := 4) hx hb hts (by decide +kernel) hown hK hP 0 rfl rfl 1 (by decide) (hts (.fieldLink RX0 15 "WildCards$Reader" "length" "I") (by decide +kernel)) (fun _ h9 => h9) rfl dX0_readAll_4 ?_
  refine wl_icmp_ge (tgt := 31) hx hb dX0_readAll_7 (by decide) (by omega) (by omega) (fun c7 => ?_) (fun c7 => ?_)
  · skip
    have hP9 := hP.sub (ws' := [(hR, .inr (0, [.ref qB, .int (nI L), .ref hT, .int (nI jx)])), (qB, .inl (cI, 400, .inl (fun j => nI (a j)))), (hT, .inr (1, [.ref qT, .ref qL, .ref qR, .int (nI cn)])), (qT, .inl (cJ, 1792, .inr (.inl gT))), (qL, .inl (cJ, 7, .inr (.inl gL))), (qR, .inl (cJ, 7, .inr (.inl fR)))]) [0, 1, 2, 3, 4, 5] rfl
    have hD9 := hD.sub (ws' := [(hR, .inr (0, [.ref qB, .int (nI L), .ref hT, .int (nI jx)])), (qB, .inl (cI, 400, .inl (fun j => nI (a j)))), (hT, .inr (1, [.ref qT, .ref qL, .ref qR, .int (nI cn)])), (qT, .inl (cJ, 1792, .inr (.inl gT))), (qL, .inl (cJ, 7, .inr (.inl gL))), (qR, .inl (cJ, 7, .inr (.inl fR)))]) [0, 1, 2, 3, 4, 5] (by decide) rfl
    exact W.vret hx hb hr (fun t ht hW => ⟨⟨(jx, cn, gT, gL), rfl, (show TR (ths a L L 0) gT gL cn ∧ cn ≤ 400 from ⟨by rw [ths_e hths (Or.inl c7)]; exact hTR, by have := hTR.1; omega⟩), by rw [ht]; exact hP9, va_K.moved hW.alike hK, hD9⟩, hS.F ht⟩) hS.2.2 dX0_readAll_31
  · skip
    refine lv_aload_n hx hb dX0_readAll_10 rfl (lv_at hl 0 rfl) ?_
    refine va_get (D := (dC, dI)) (ci := 0) (v := .int (nI jx)) (C := RX0) (T := TX0) (N := 4) hx hb hts (by decide +kernel) hown hK hP 0 rfl rfl 3 (by decide) (hts (.fieldLink RX0 23 "WildCards$Reader" "at" "I") (by decide +kernel)) (fun _ h9 => h9) rfl dX0_readAll_11 ?_
    refine lv_aload_n hx hb dX0_readAll_14 rfl (lv_at hl 0 rfl) ?_
    refine va_get (D := (dC, dI)) (ci := 0) (v := .int (nI L)) (C := RX0) (T := TX0) (N := 4) hx hb hts (by decide +kernel) hown hK hP 0 rfl rfl 1 (by decide) (hts (.fieldLink RX0 15 "WildCards$Reader" "length" "I") (by decide +kernel)) (fun _ h9 => h9) rfl dX0_readAll_15 ?_
    refine wl_icmp_ge (tgt := 31) hx hb dX0_readAll_18 (by decide) (by omega) (by omega) (fun c18 => ?_) (fun c18 => ?_)
    · skip
      have hP9 := hP.sub (ws' := [(hR, .inr (0, [.ref qB, .int (nI L), .ref hT, .int (nI jx)])), (qB, .inl (cI, 400, .inl (fun j => nI (a j)))), (hT, .inr (1, [.ref qT, .ref qL, .ref qR, .int (nI cn)])), (qT, .inl (cJ, 1792, .inr (.inl gT))), (qL, .inl (cJ, 7, .inr (.inl gL))), (qR, .inl (cJ, 7, .inr (.inl fR)))]) [0, 1, 2, 3, 4, 5] rfl
      have hD9 := hD.sub (ws' := [(hR, .inr (0, [.ref qB, .int (nI L), .ref hT, .int (nI jx)])), (qB, .inl (cI, 400, .inl (fun j => nI (a j)))), (hT, .inr (1, [.ref qT, .ref qL, .ref qR, .int (nI cn)])), (qT, .inl (cJ, 1792, .inr (.inl gT))), (qL, .inl (cJ, 7, .inr (.inl gL))), (qR, .inl (cJ, 7, .inr (.inl fR)))]) [0, 1, 2, 3, 4, 5] (by decide) rfl
      exact W.vret hx hb hr (fun t ht hW => ⟨⟨(jx, cn, gT, gL), rfl, (show TR (ths a L L 0) gT gL cn ∧ cn ≤ 400 from ⟨by rw [ths_e hths (Or.inr c18)]; exact hTR, by have := hTR.1; omega⟩), by rw [ht]; exact hP9, va_K.moved hW.alike hK, hD9⟩, hS.F ht⟩) hS.2.2 dX0_readAll_31
    · skip
      refine lv_aload_n hx hb dX0_readAll_21 rfl (lv_at hl 0 rfl) ?_
      have hPc := hP.sub (ws' := [(hR, .inr (0, [.ref qB, .int (nI L), .ref hT, .int (nI jx)])), (qB, .inl (cI, 400, .inl (fun j => nI (a j)))), (hT, .inr (1, [.ref qT, .ref qL, .ref qR, .int (nI cn)])), (qT, .inl (cJ, 1792, .inr (.inl gT))), (qL, .inl (cJ, 7, .inr (.inl gL))), (qR, .inl (cJ, 7, .inr (.inl fR)))]) [0, 1, 2, 3, 4, 5] rfl
      have hDc := hD.sub (ws' := [(hR, .inr (0, [.ref qB, .int (nI L), .ref hT, .int (nI jx)])), (qB, .inl (cI, 400, .inl (fun j => nI (a j)))), (hT, .inr (1, [.ref qT, .ref qL, .ref qR, .int (nI cn)])), (qT, .inl (cJ, 1792, .inr (.inl gT))), (qL, .inl (cJ, 7, .inr (.inl gL))), (qR, .inl (cJ, 7, .inr (.inl fR)))]) [0, 1, 2, 3, 4, 5] (by decide) rfl
      have hFc := va_free (wc := [(hR, .inr (0, [.ref qB, .int (nI L), .ref hT, .int (nI jx)])), (qB, .inl (cI, 400, .inl (fun j => nI (a j)))), (hT, .inr (1, [.ref qT, .ref qL, .ref qR, .int (nI cn)])), (qT, .inl (cJ, 1792, .inr (.inl gT))), (qL, .inl (cJ, 7, .inr (.inl gL))), (qR, .inl (cJ, 7, .inr (.inl fR)))]) hD hS hA [0, 1, 2, 3, 4, 5] rfl
      refine va_callv (va_runV (As := []) (rest := []) ⟨hx, hb, hml, hown, hts⟩ (c_X0_readThing l dC dI cI cJ cZ hR qB hT qT qL qR H.size L jx a cn gT gL fR ts hL ha c18 (by have := hTR.1; omega) hTR) (cwV 0 hts gX0_readAll_X0_readThing rfl rfl rfl (by decide +kernel) ⟨Nat.le_of_ble_eq_true rfl, Nat.le_of_ble_eq_true rfl⟩) ⟨fun a U g mk q => by obtain ⟨q0, q1, qP, qK, qD⟩ := q; exact ⟨q0, q1, qP, va_K.moved (u := U) (U := U.calling g mk a) (Vm.Alike.refl U.vm) qK, qD⟩, va_recv hK hPc (ci := 0) (q0 := 0) rfl rfl, fun U hU hW => ⟨rfl, by rw [hU], by rw [hU]; exact hPc, va_K.moved hW.alike hK, hDc.weaken (fun _ _ _ _ => trivial)⟩⟩ rfl rfl hl.1 rfl (lv_room (Nat.le_of_ble_eq_true rfl)) dX0_readAll_22 ⟨show 0 + 0 ≤ 0 from by decide, show 0 + 0 ≤ 0 from by decide⟩) hS (fun q _ h => hFc q h) hFc (fun u t H1 locs ht hvm hw22 hB hz1 hk1 hS => ?_)
      obtain ⟨ix222, cnt222, fT222, fL222⟩ := u
      obtain ⟨hP1, hK1, hD1⟩ := hB
      rw [ht] at hP1
      try dsimp only at hw22 hP1 hD1
      obtain ⟨hP, hD⟩ := va_join (wr := []) (w1 := [(hR, .inr (0, [.ref qB, .int (nI L), .ref hT, .int (nI ix222)])), (qB, .inl (cI, 400, .inl (fun j => nI (a j)))), (hT, .inr (1, [.ref qT, .ref qL, .ref qR, .int (nI cnt222)])), (qT, .inl (cJ, 1792, .inr (.inl fT222))), (qL, .inl (cJ, 7, .inr (.inl fL222))), (qR, .inl (cJ, 7, .inr (.inl fR)))]) hP hD [0, 1, 2, 3, 4, 5] [] rfl rfl (by decide) (by decide) hk1 hFc hP1 hD1
      generalize H1 = H at hP hS ⊢
      have hP : va_P (dC, dI) vwCl [(hR, .inr (0, [.ref qB, .int (nI L), .ref hT, .int (nI ix222)])), (qB, .inl (cI, 400, .inl (fun j => nI (a j)))), (hT, .inr (1, [.ref qT, .ref qL, .ref qR, .int (nI cnt222)])), (qT, .inl (cJ, 1792, .inr (.inl fT222))), (qL, .inl (cJ, 7, .inr (.inl fL222))), (qR, .inl (cJ, 7, .inr (.inl fR)))] H := hP
      have hD : va_D A [(hR, .inr (0, [.ref qB, .int (nI L), .ref hT, .int (nI ix222)])), (qB, .inl (cI, 400, .inl (fun j => nI (a j)))), (hT, .inr (1, [.ref qT, .ref qL, .ref qR, .int (nI cnt222)])), (qT, .inl (cJ, 1792, .inr (.inl fT222))), (qL, .inl (cJ, 7, .inr (.inl fL222))), (qR, .inl (cJ, 7, .inr (.inl fR)))] := hD
      obtain ⟨rfl, hw22⟩ := hw22
      refine lv_iinc (v := nI (rr + 1)) (lv' := [(1, .int (nI (rr + 1))), (0, .ref hR)]) hx hb dX0_readAll_25 hl (k := 1) rfl (wl_inc _ _ (by decide)) (by decide) rfl (fun ls hl => ?_)
      refine lv_goto (tgt := 2) hx hb dX0_readAll_28 (by decide) ?_
      exact ih2 (rr + 1, thn a L jx, cnt222, fT222, fL222, ts ++ [thv a L jx]) H locs ls ⟨(show (rr + 1) ≤ L from by omega), (show (thn a L jx) ≤ L + 1 from by have := thn_le a c18; omega), (show ths a L L 0 = (ts ++ [thv a L jx]) ++ ths a L (L - (rr + 1)) (thn a L jx) from ths_s c7 c18 hths), (show TR (ts ++ [thv a L jx]) fT222 fL222 cnt222 from hw22), (show tC (ts ++ [thv a L jx]) ≤ (rr + 1) from tC_s hcn), hP.sub [0, 1, 2, 3, 4, 5] rfl, hD.sub [0, 1, 2, 3, 4, 5] (by decide) rfl, hS, lv_sub hl [1, 0] rfl⟩ (by (try dsimp only); omega)
end
section
def by4 (v : Int32) (k : Nat) : Nat := v.toBitVec.toNat / 2 ^ k % 256
theorem by4_lt (v : Int32) (k : Nat) : by4 v k < 256 := Nat.mod_lt _ (by decide)
theorem by4_ok (v : Int32) (k : Nat) (hs : (((nI k).toUInt32 &&& Int32.toUInt32 31).toBitVec % 32).toNat = k) : (v.toUInt32 >>> ((nI k).toUInt32 &&& Int32.toUInt32 31)).toInt32 &&& nI 255 = nI (by4 v k) := by
  rw [pk_and _ 8 (by decide), pk_ushr v _ k hs]
  rfl
def ap4 (tp : Nat → Nat) (n : Nat) (v : Int32) : Nat → Nat := va_up (va_up (va_up (va_up tp n (by4 v 24)) (n + 1) (by4 v 16)) (n + 2) (by4 v 8)) (n + 3) (by4 v 0)
def fd5 (tp : Nat → Nat) (n : Nat) (v1 v2 v3 v4 v5 : Int32) : Nat → Nat := ap4 (ap4 (ap4 (ap4 (ap4 tp n v1) (n + 4) v2) (n + 8) v3) (n + 12) v4) (n + 16) v5
theorem RC_s {ts : List (Option (Nat → Bool))} {fT fL g g2 : Nat → Int64} {cnt n x : Nat} {w : Nat → Nat} (hTR : TR ts fT fL cnt) (hg : ∀ k, k < 448 → lb g k = rch (tT ts) (tL ts) w n k) (hxw : x = w n) (hx8 : x < 256) (h2 : ∀ k, k < 448 → lb g2 k = stp g fT fL x k) : ∀ k, k < 448 → lb g2 k = rch (tT ts) (tL ts) w (n + 1) k := by
  intro k hk
  rw [h2 k hk]
  show ((decide (0 < k) && lb g (k - 1) && lb fT (448 * x + (k - 1))) || (lb g k && lb fL k)) = ((decide (0 < k) && rch (tT ts) (tL ts) w n (k - 1) && tT ts (w n) (k - 1)) || (rch (tT ts) (tL ts) w n k && tL ts k))
  rw [hg k hk, hg (k - 1) (by omega), hTR.2.1 x (k - 1) hx8 (by omega), hTR.2.2 k hk, hxw]
theorem RC_e {ts : List (Option (Nat → Bool))} {fT fL g : Nat → Int64} {cnt n : Nat} {w : Nat → Nat} (hTR : TR ts fT fL cnt) (hc : cnt ≤ 400) (hg : ∀ k, k < 448 → lb g k = rch (tT ts) (tL ts) w n k) : lb g cnt = fz ts w n := by
  rw [hg cnt (by omega), hTR.1]
  rfl
def okp (f n : Int32) (w : Nat) : Bool := decide (0 ≤ f.toInt) && decide (0 ≤ n.toInt) && decide (f.toInt + n.toInt ≤ (w : Int))
theorem lt0 {f : Int32} : f < 0 ↔ f.toInt < 0 := by
  rw [Int32.lt_iff_toInt_lt]; rfl
theorem okp_f {f n : Int32} {w : Nat} {b : Bool} (h : okp f n w = false) : nI 0 = if (okp f n w && b) = true then (1 : Int32) else 0 := by
  rw [h, Bool.false_and, if_neg (by decide)]; rfl
theorem okp_a {f n : Int32} {w : Nat} {b : Bool} (h : f < 0) : nI 0 = if (okp f n w && b) = true then (1 : Int32) else 0 := by
  apply okp_f
  have := lt0.mp h
  unfold okp
  rw [show decide (0 ≤ f.toInt) = false from decide_eq_false (by omega)]
  simp
theorem okp_b {f n : Int32} {w : Nat} {b : Bool} (h : n < 0) : nI 0 = if (okp f n w && b) = true then (1 : Int32) else 0 := by
  apply okp_f
  have := lt0.mp h
  unfold okp
  rw [show decide (0 ≤ n.toInt) = false from decide_eq_false (by omega)]
  simp
theorem okp_sub {f : Int32} {w : Nat} (hw : w ≤ 400) (h1 : ¬ f < 0) : (nI w - f).toInt = (w : Int) - f.toInt := by
  obtain ⟨j, hj, rfl⟩ := nI_of h1
  have e1 : (nI j).toInt = (j : Int) := nI_toInt hj
  rw [Int32.toInt_sub, nI_toInt (show w < 2 ^ 31 by omega), e1]
  apply Int.bmod_eq_of_le <;> omega
theorem okp_c {f n : Int32} {w : Nat} {b : Bool} (hw : w ≤ 400) (h1 : ¬ f < 0) (h2 : ¬ n < 0) (h3 : ¬ n ≤ nI w - f) : nI 0 = if (okp f n w && b) = true then (1 : Int32) else 0 := by
  apply okp_f
  have h4 : ¬ n.toInt ≤ (nI w - f).toInt := fun z => h3 (Int32.le_iff_toInt_le.mpr z)
  rw [okp_sub hw h1] at h4
  unfold okp
  rw [show decide (f.toInt + n.toInt ≤ (w : Int)) = false from decide_eq_false (by omega)]
  simp
theorem okp_d {f n : Int32} {w : Nat} (hw : w ≤ 400) (h1 : ¬ f < 0) (h2 : ¬ n < 0) (h3 : n ≤ nI w - f) : ∃ i k : Nat, f = nI i ∧ n = nI k ∧ i + k ≤ w := by
  have h4 := Int32.le_iff_toInt_le.mp h3
  rw [okp_sub hw h1] at h4
  obtain ⟨i, hi, rfl⟩ := nI_of h1
  obtain ⟨k, hk, rfl⟩ := nI_of h2
  rw [nI_toInt hi, nI_toInt hk] at h4
  exact ⟨i, k, rfl, rfl, by omega⟩
theorem okp_1 {f n r : Int32} {w i k : Nat} {lt : Nat → Nat} {ts : List (Option (Nat → Bool))} (ef : f = nI i) (ek : n = nI k) (hik : i + k ≤ w) (hw : w ≤ 400) (h : r = if fz ts (fun j => lt (i + j)) (i + k - i) = true then 1 else 0) : r = if (okp f n w && fz ts (fun j => lt (f.toNatClampNeg + j)) n.toNatClampNeg) = true then 1 else 0 := by
  subst ef
  subst ek
  have o : okp (nI i) (nI k) w = true := by
    unfold okp
    rw [nI_toInt (show i < 2 ^ 31 by omega), nI_toInt (show k < 2 ^ 31 by omega)]
    simp only [Bool.and_eq_true, decide_eq_true_eq]
    omega
  rw [o, Bool.true_and, nI_clamp (show i < 2 ^ 31 by omega), nI_clamp (show k < 2 ^ 31 by omega), h, show i + k - i = k by omega]
def bg (ts : List (Option (Nat → Bool))) (w : Nat → Nat) : Nat → Nat
  | 0 => if fz ts w 0 = true then 1 else 0
  | n + 1 => bg ts w n + if fz ts w (n + 1) = true then 1 else 0
theorem bg_01 {ts : List (Option (Nat → Bool))} {fT fL g : Nat → Int64} {cnt : Nat} {w : Nat → Nat} (hTR : TR ts fT fL cnt) (hc : cnt ≤ 400) (hg : ∀ k, k < 448 → lb g k = decide (k = 0)) (hz : lb g cnt = true) : 1 = bg ts w 0 := by
  have e := RC_e (w := w) (n := 0) hTR hc (fun k hk => by rw [hg k hk]; rfl)
  rw [hz] at e
  simp only [bg, ← e]
  rfl
theorem bg_00 {ts : List (Option (Nat → Bool))} {fT fL g : Nat → Int64} {cnt : Nat} {w : Nat → Nat} (hTR : TR ts fT fL cnt) (hc : cnt ≤ 400) (hg : ∀ k, k < 448 → lb g k = decide (k = 0)) (hz : ¬ lb g cnt = true) : 0 = bg ts w 0 := by
  have e := RC_e (w := w) (n := 0) hTR hc (fun k hk => by rw [hg k hk]; rfl)
  rw [e] at hz
  simp only [bg, if_neg hz]
theorem bg_s1 {ts : List (Option (Nat → Bool))} {fT fL g : Nat → Int64} {cnt n o : Nat} {w : Nat → Nat} (hTR : TR ts fT fL cnt) (hc : cnt ≤ 400) (hg : ∀ k, k < 448 → lb g k = rch (tT ts) (tL ts) w (n + 1) k) (hz : lb g cnt = true) (ho : o = bg ts w n) : o + 1 = bg ts w (n + 1) := by
  have e := RC_e hTR hc hg
  rw [hz] at e
  simp only [bg, ← e, ho]
  rfl
theorem bg_s0 {ts : List (Option (Nat → Bool))} {fT fL g : Nat → Int64} {cnt n o : Nat} {w : Nat → Nat} (hTR : TR ts fT fL cnt) (hc : cnt ≤ 400) (hg : ∀ k, k < 448 → lb g k = rch (tT ts) (tL ts) w (n + 1) k) (hz : ¬ lb g cnt = true) (ho : o = bg ts w n) : o = bg ts w (n + 1) := by
  have e := RC_e hTR hc hg
  rw [e] at hz
  simp only [bg, if_neg hz, ho, Nat.add_zero]
end
section
set_option maxHeartbeats 4000000 in
set_option maxRecDepth 100000 in
theorem c_X2_append (l : Launch) (dC : Nat → ClassId) (dI : Nat → Nat → Nat) (cI cJ cZ : ClassId) (h0 qP qW hT : Nat) (sz : Nat) (tl : Nat) (wn : Nat) (tp : Nat → Nat) (v : Int32) (htl : tl + 4 ≤ 400) : Met l yX2_append wsX2_append ({ frames := 0, cells := 0, slots := 0, locals := 0 }) (va_Pc [.ref h0, .int v] (fun U => U.heap.size = sz ∧ va_P (dC, dI) vwCl [(h0, .inr (2, [.ref qP, .int (nI tl), .ref qW, .int (nI wn), .ref hT])), (qP, .inl (cI, 400, .inl (fun j => nI (tp j))))] U.heap ∧ va_K (dC, dI) vwCl [(cI, .int), (cJ, .long), (cZ, .boolean)] U ∧ va_D (fun _ => True) [(h0, .inr (2, [.ref qP, .int (nI tl), .ref qW, .int (nI wn), .ref hT])), (qP, .inl (cI, 400, .inl (fun j => nI (tp j))))])) (va_Qv (fun (u : Unit) => True) (fun (u : Unit) (t : State) => va_P (dC, dI) vwCl [(h0, .inr (2, [.ref qP, .int (nI (tl + 4)), .ref qW, .int (nI wn), .ref hT])), (qP, .inl (cI, 400, .inl (fun j => nI ((ap4 tp tl v) j))))] t.heap ∧ va_K (dC, dI) vwCl [(cI, .int), (cJ, .long), (cZ, .boolean)] t ∧ va_D (va_A [(h0, .inr (2, [.ref qP, .int (nI tl), .ref qW, .int (nI wn), .ref hT])), (qP, .inl (cI, 400, .inl (fun j => nI (tp j))))] sz) [(h0, .inr (2, [.ref qP, .int (nI (tl + 4)), .ref qW, .int (nI wn), .ref hT])), (qP, .inl (cI, 400, .inl (fun j => nI ((ap4 tp tl v) j))))]) (va_A [(h0, .inr (2, [.ref qP, .int (nI tl), .ref qW, .int (nI wn), .ref hT])), (qP, .inl (cI, 400, .inl (fun j => nI (tp j))))] sz)) 0 0 (va_A [(h0, .inr (2, [.ref qP, .int (nI tl), .ref qW, .int (nI wn), .ref hT])), (qP, .inl (cI, 400, .inl (fun j => nI (tp j))))] sz) := by
  refine Met.ofW (cc := cX2_append) (maxL := 3) (ret := none) (by decide) rfl ?_
  intro p e s m args below meth c s₁ B hml hv
  obtain ⟨rfl, hsz, hP, hK, hD0⟩ := hv
  have hx := B.exec
  have hb := B.bytes
  have hr := B.returns
  have hts := atoms_spec (ws := wsX2_append) B.pre
  have hown : s.vm.findClass RX2 = some m.cls := findClass_of_methodNamed B.named
  have hlocks := B.notSynchronized
  subst hsz
  have hD := hD0.self (sz := s.heap.size)
  generalize hAe : va_A [(h0, .inr (2, [.ref qP, .int (nI tl), .ref qW, .int (nI wn), .ref hT])), (qP, .inl (cI, 400, .inl (fun j => nI (tp j))))] s.heap.size = A at hD ⊢
  have hA : ∀ q : Nat, s.heap.size ≤ q → A q := fun q h => by rw [← hAe]; exact Or.inr h
  have hS : va_S A s.heap s.heap [] := va_S.rf
  have hP : va_P (dC, dI) vwCl [(h0, .inr (2, [.ref qP, .int (nI tl), .ref qW, .int (nI wn), .ref hT])), (qP, .inl (cI, 400, .inl (fun j => nI (tp j))))] s.heap := hP
  have hl := lv_entry ([.ref h0, .int v]) (n := 3) (Nat.le_of_ble_eq_true rfl)
  rw [lg_entry_eq]
  generalize (lg_sl ([.ref h0, .int v]) ++ List.replicate (3 - (lg_sl ([.ref h0, .int v])).length) Slot.unset).toArray = ls at hl ⊢
  have hl : lv_has ls 3 [(0, .ref h0), (1, .int v)] := hl
  skip
  refine lv_bipush (v := nI 24) hx hb dX2_append_0 (by decide) ?_
  refine lv_istore_n (lv' := [(2, .int (nI 24)), (0, .ref h0), (1, .int v)]) hx hb dX2_append_2 rfl hl (by decide) rfl (fun ls hl => ?_)
  refine lv_iload_n hx hb dX2_append_3 rfl (lv_at hl 0 rfl) ?_
  refine lv_if_lt (tgt := 39) hx hb dX2_append_4 (by decide) (fun c4 => ?_) (fun c4 => ?_)
  · exact absurd c4 (nI_pos (by omega))
  · skip
    refine lv_aload_n hx hb dX2_append_7 rfl (lv_at hl 1 rfl) ?_
    refine va_get (D := (dC, dI)) (ci := 2) (v := .ref qP) (C := RX2) (T := TX2) (N := 5) hx hb hts (by decide +kernel) hown hK hP 0 rfl rfl 0 (by decide) (hts (.fieldLink RX2 9 "WildCards" "tape" "[I") (by decide +kernel)) (fun _ h9 => h9) rfl dX2_append_8 ?_
    refine lv_aload_n hx hb dX2_append_11 rfl (lv_at hl 1 rfl) ?_
    refine va_get (D := (dC, dI)) (ci := 2) (v := .int (nI tl)) (C := RX2) (T := TX2) (N := 5) hx hb hts (by decide +kernel) hown hK hP 0 rfl rfl 1 (by decide) (hts (.fieldLink RX2 23 "WildCards" "tapeLength" "I") (by decide +kernel)) (fun _ h9 => h9) rfl dX2_append_12 ?_
    refine lv_iload_n hx hb dX2_append_15 rfl (lv_at hl 2 rfl) ?_
    refine lv_iload_n hx hb dX2_append_16 rfl (lv_at hl 0 rfl) ?_
    refine lv_iushr (v := (v.toUInt32 >>> ((nI 24).toUInt32 &&& Int32.toUInt32 31)).toInt32) hx hb dX2_append_17 rfl ?_
    refine lv_sipush (v := nI 255) hx hb dX2_append_18 (by decide) ?_
    refine lv_iand hx hb dX2_append_21 ?_
    refine wl_asi (y := nI (by4 v 24)) (by4_ok v 24 (by decide)) ?_
    refine va_iast hx hb hK hP hD hS 1 0 rfl rfl (vp_in_nI (by omega) (by omega)) dX2_append_22 (fun H locs hP hD hS => ?_)
    rw [nI_clamp (by omega)] at hP hD
    rw [wl_updN] at hP hD
    have hP : va_P (dC, dI) vwCl [(h0, .inr (2, [.ref qP, .int (nI tl), .ref qW, .int (nI wn), .ref hT])), (qP, .inl (cI, 400, .inl (fun j => nI ((va_up tp tl (by4 v 24)) j))))] H := hP
    have hD : va_D A [(h0, .inr (2, [.ref qP, .int (nI tl), .ref qW, .int (nI wn), .ref hT])), (qP, .inl (cI, 400, .inl (fun j => nI ((va_up tp tl (by4 v 24)) j))))] := hD
    refine lv_aload_n hx hb dX2_append_23 rfl (lv_at hl 1 rfl) ?_
    refine lv_dup hx hb dX2_append_24 rfl ?_
    refine va_get (D := (dC, dI)) (ci := 2) (v := .int (nI tl)) (C := RX2) (T := TX2) (N := 5) hx hb hts (by decide +kernel) hown hK hP 0 rfl rfl 1 (by decide) (hts (.fieldLink RX2 23 "WildCards" "tapeLength" "I") (by decide +kernel)) (fun _ h9 => h9) rfl dX2_append_25 ?_
    refine lv_iconst (v := nI 1) hx hb dX2_append_28 (by decide) ?_
    refine lv_iadd hx hb dX2_append_29 ?_
    refine wl_asi (y := nI (tl + 1)) (nI_add _ _) ?_
    refine va_put (D := (dC, dI)) (ci := 2) (v := .int (nI (tl + 1))) (ty := .int) (C := RX2) (T := TX2) (N := 5) hx hb hts (by decide +kernel) tyX2 tyX2_ok nmX2 hown hK hP hD hS 0 rfl rfl 1 (by decide) (hts (.fieldLink RX2 23 "WildCards" "tapeLength" "I") (by decide +kernel)) (fun _ h9 => h9) rfl (by decide +kernel) rfl rfl (Nat.le_of_ble_eq_true rfl) dX2_append_30 (fun H locs hP hD hS => ?_)
    have hP : va_P (dC, dI) vwCl [(h0, .inr (2, [.ref qP, .int (nI (tl + 1)), .ref qW, .int (nI wn), .ref hT])), (qP, .inl (cI, 400, .inl (fun j => nI ((va_up tp tl (by4 v 24)) j))))] H := hP
    have hD : va_D A [(h0, .inr (2, [.ref qP, .int (nI (tl + 1)), .ref qW, .int (nI wn), .ref hT])), (qP, .inl (cI, 400, .inl (fun j => nI ((va_up tp tl (by4 v 24)) j))))] := hD
    refine lv_iinc (v := nI 16) (lv' := [(2, .int (nI 16)), (0, .ref h0), (1, .int v)]) hx hb dX2_append_33 hl (k := 0) rfl (by decide) (by decide) rfl (fun ls hl => ?_)
    refine lv_goto (tgt := 3) hx hb dX2_append_36 (by decide) ?_
    refine lv_iload_n hx hb dX2_append_3 rfl (lv_at hl 0 rfl) ?_
    refine lv_if_lt (tgt := 39) hx hb dX2_append_4 (by decide) (fun c4 => ?_) (fun c4 => ?_)
    · exact absurd c4 (nI_pos (by omega))
    · skip
      refine lv_aload_n hx hb dX2_append_7 rfl (lv_at hl 1 rfl) ?_
      refine va_get (D := (dC, dI)) (ci := 2) (v := .ref qP) (C := RX2) (T := TX2) (N := 5) hx hb hts (by decide +kernel) hown hK hP 0 rfl rfl 0 (by decide) (hts (.fieldLink RX2 9 "WildCards" "tape" "[I") (by decide +kernel)) (fun _ h9 => h9) rfl dX2_append_8 ?_
      refine lv_aload_n hx hb dX2_append_11 rfl (lv_at hl 1 rfl) ?_
      refine va_get (D := (dC, dI)) (ci := 2) (v := .int (nI (tl + 1))) (C := RX2) (T := TX2) (N := 5) hx hb hts (by decide +kernel) hown hK hP 0 rfl rfl 1 (by decide) (hts (.fieldLink RX2 23 "WildCards" "tapeLength" "I") (by decide +kernel)) (fun _ h9 => h9) rfl dX2_append_12 ?_
      refine lv_iload_n hx hb dX2_append_15 rfl (lv_at hl 2 rfl) ?_
      refine lv_iload_n hx hb dX2_append_16 rfl (lv_at hl 0 rfl) ?_
      refine lv_iushr (v := (v.toUInt32 >>> ((nI 16).toUInt32 &&& Int32.toUInt32 31)).toInt32) hx hb dX2_append_17 rfl ?_
      refine lv_sipush (v := nI 255) hx hb dX2_append_18 (by decide) ?_
      refine lv_iand hx hb dX2_append_21 ?_
      refine wl_asi (y := nI (by4 v 16)) (by4_ok v 16 (by decide)) ?_
      refine va_iast hx hb hK hP hD hS 1 0 rfl rfl (vp_in_nI (by omega) (by omega)) dX2_append_22 (fun H locs hP hD hS => ?_)
      rw [nI_clamp (by omega)] at hP hD
      rw [wl_updN] at hP hD
      have hP : va_P (dC, dI) vwCl [(h0, .inr (2, [.ref qP, .int (nI (tl + 1)), .ref qW, .int (nI wn), .ref hT])), (qP, .inl (cI, 400, .inl (fun j => nI ((va_up (va_up tp tl (by4 v 24)) (tl + 1) (by4 v 16)) j))))] H := hP
      have hD : va_D A [(h0, .inr (2, [.ref qP, .int (nI (tl + 1)), .ref qW, .int (nI wn), .ref hT])), (qP, .inl (cI, 400, .inl (fun j => nI ((va_up (va_up tp tl (by4 v 24)) (tl + 1) (by4 v 16)) j))))] := hD
      refine lv_aload_n hx hb dX2_append_23 rfl (lv_at hl 1 rfl) ?_
      refine lv_dup hx hb dX2_append_24 rfl ?_
      refine va_get (D := (dC, dI)) (ci := 2) (v := .int (nI (tl + 1))) (C := RX2) (T := TX2) (N := 5) hx hb hts (by decide +kernel) hown hK hP 0 rfl rfl 1 (by decide) (hts (.fieldLink RX2 23 "WildCards" "tapeLength" "I") (by decide +kernel)) (fun _ h9 => h9) rfl dX2_append_25 ?_
      refine lv_iconst (v := nI 1) hx hb dX2_append_28 (by decide) ?_
      refine lv_iadd hx hb dX2_append_29 ?_
      refine wl_asi (y := nI ((tl + 1) + 1)) (nI_add _ _) ?_
      refine va_put (D := (dC, dI)) (ci := 2) (v := .int (nI ((tl + 1) + 1))) (ty := .int) (C := RX2) (T := TX2) (N := 5) hx hb hts (by decide +kernel) tyX2 tyX2_ok nmX2 hown hK hP hD hS 0 rfl rfl 1 (by decide) (hts (.fieldLink RX2 23 "WildCards" "tapeLength" "I") (by decide +kernel)) (fun _ h9 => h9) rfl (by decide +kernel) rfl rfl (Nat.le_of_ble_eq_true rfl) dX2_append_30 (fun H locs hP hD hS => ?_)
      have hP : va_P (dC, dI) vwCl [(h0, .inr (2, [.ref qP, .int (nI ((tl + 1) + 1)), .ref qW, .int (nI wn), .ref hT])), (qP, .inl (cI, 400, .inl (fun j => nI ((va_up (va_up tp tl (by4 v 24)) (tl + 1) (by4 v 16)) j))))] H := hP
      have hD : va_D A [(h0, .inr (2, [.ref qP, .int (nI ((tl + 1) + 1)), .ref qW, .int (nI wn), .ref hT])), (qP, .inl (cI, 400, .inl (fun j => nI ((va_up (va_up tp tl (by4 v 24)) (tl + 1) (by4 v 16)) j))))] := hD
      refine lv_iinc (v := nI 8) (lv' := [(2, .int (nI 8)), (0, .ref h0), (1, .int v)]) hx hb dX2_append_33 hl (k := 0) rfl (by decide) (by decide) rfl (fun ls hl => ?_)
      refine lv_goto (tgt := 3) hx hb dX2_append_36 (by decide) ?_
      refine lv_iload_n hx hb dX2_append_3 rfl (lv_at hl 0 rfl) ?_
      refine lv_if_lt (tgt := 39) hx hb dX2_append_4 (by decide) (fun c4 => ?_) (fun c4 => ?_)
      · exact absurd c4 (nI_pos (by omega))
      · skip
        refine lv_aload_n hx hb dX2_append_7 rfl (lv_at hl 1 rfl) ?_
        refine va_get (D := (dC, dI)) (ci := 2) (v := .ref qP) (C := RX2) (T := TX2) (N := 5) hx hb hts (by decide +kernel) hown hK hP 0 rfl rfl 0 (by decide) (hts (.fieldLink RX2 9 "WildCards" "tape" "[I") (by decide +kernel)) (fun _ h9 => h9) rfl dX2_append_8 ?_
        refine lv_aload_n hx hb dX2_append_11 rfl (lv_at hl 1 rfl) ?_
        refine va_get (D := (dC, dI)) (ci := 2) (v := .int (nI ((tl + 1) + 1))) (C := RX2) (T := TX2) (N := 5) hx hb hts (by decide +kernel) hown hK hP 0 rfl rfl 1 (by decide) (hts (.fieldLink RX2 23 "WildCards" "tapeLength" "I") (by decide +kernel)) (fun _ h9 => h9) rfl dX2_append_12 ?_
        refine lv_iload_n hx hb dX2_append_15 rfl (lv_at hl 2 rfl) ?_
        refine lv_iload_n hx hb dX2_append_16 rfl (lv_at hl 0 rfl) ?_
        refine lv_iushr (v := (v.toUInt32 >>> ((nI 8).toUInt32 &&& Int32.toUInt32 31)).toInt32) hx hb dX2_append_17 rfl ?_
        refine lv_sipush (v := nI 255) hx hb dX2_append_18 (by decide) ?_
        refine lv_iand hx hb dX2_append_21 ?_
        refine wl_asi (y := nI (by4 v 8)) (by4_ok v 8 (by decide)) ?_
        refine va_iast hx hb hK hP hD hS 1 0 rfl rfl (vp_in_nI (by omega) (by omega)) dX2_append_22 (fun H locs hP hD hS => ?_)
        rw [nI_clamp (by omega)] at hP hD
        rw [wl_updN] at hP hD
        have hP : va_P (dC, dI) vwCl [(h0, .inr (2, [.ref qP, .int (nI ((tl + 1) + 1)), .ref qW, .int (nI wn), .ref hT])), (qP, .inl (cI, 400, .inl (fun j => nI ((va_up (va_up (va_up tp tl (by4 v 24)) (tl + 1) (by4 v 16)) ((tl + 1) + 1) (by4 v 8)) j))))] H := hP
        have hD : va_D A [(h0, .inr (2, [.ref qP, .int (nI ((tl + 1) + 1)), .ref qW, .int (nI wn), .ref hT])), (qP, .inl (cI, 400, .inl (fun j => nI ((va_up (va_up (va_up tp tl (by4 v 24)) (tl + 1) (by4 v 16)) ((tl + 1) + 1) (by4 v 8)) j))))] := hD
        refine lv_aload_n hx hb dX2_append_23 rfl (lv_at hl 1 rfl) ?_
        refine lv_dup hx hb dX2_append_24 rfl ?_
        refine va_get (D := (dC, dI)) (ci := 2) (v := .int (nI ((tl + 1) + 1))) (C := RX2) (T := TX2) (N := 5) hx hb hts (by decide +kernel) hown hK hP 0 rfl rfl 1 (by decide) (hts (.fieldLink RX2 23 "WildCards" "tapeLength" "I") (by decide +kernel)) (fun _ h9 => h9) rfl dX2_append_25 ?_
        refine lv_iconst (v := nI 1) hx hb dX2_append_28 (by decide) ?_
        refine lv_iadd hx hb dX2_append_29 ?_
        refine wl_asi (y := nI (((tl + 1) + 1) + 1)) (nI_add _ _) ?_
        refine va_put (D := (dC, dI)) (ci := 2) (v := .int (nI (((tl + 1) + 1) + 1))) (ty := .int) (C := RX2) (T := TX2) (N := 5) hx hb hts (by decide +kernel) tyX2 tyX2_ok nmX2 hown hK hP hD hS 0 rfl rfl 1 (by decide) (hts (.fieldLink RX2 23 "WildCards" "tapeLength" "I") (by decide +kernel)) (fun _ h9 => h9) rfl (by decide +kernel) rfl rfl (Nat.le_of_ble_eq_true rfl) dX2_append_30 (fun H locs hP hD hS => ?_)
        have hP : va_P (dC, dI) vwCl [(h0, .inr (2, [.ref qP, .int (nI (((tl + 1) + 1) + 1)), .ref qW, .int (nI wn), .ref hT])), (qP, .inl (cI, 400, .inl (fun j => nI ((va_up (va_up (va_up tp tl (by4 v 24)) (tl + 1) (by4 v 16)) ((tl + 1) + 1) (by4 v 8)) j))))] H := hP
        have hD : va_D A [(h0, .inr (2, [.ref qP, .int (nI (((tl + 1) + 1) + 1)), .ref qW, .int (nI wn), .ref hT])), (qP, .inl (cI, 400, .inl (fun j => nI ((va_up (va_up (va_up tp tl (by4 v 24)) (tl + 1) (by4 v 16)) ((tl + 1) + 1) (by4 v 8)) j))))] := hD
        refine lv_iinc (v := nI 0) (lv' := [(2, .int (nI 0)), (0, .ref h0), (1, .int v)]) hx hb dX2_append_33 hl (k := 0) rfl (by decide) (by decide) rfl (fun ls hl => ?_)
        refine lv_goto (tgt := 3) hx hb dX2_append_36 (by decide) ?_
        refine lv_iload_n hx hb dX2_append_3 rfl (lv_at hl 0 rfl) ?_
        refine lv_if_lt (tgt := 39) hx hb dX2_append_4 (by decide) (fun c4 => ?_) (fun c4 => ?_)
        · exact absurd c4 (nI_pos (by omega))
        · skip
          refine lv_aload_n hx hb dX2_append_7 rfl (lv_at hl 1 rfl) ?_
          refine va_get (D := (dC, dI)) (ci := 2) (v := .ref qP) (C := RX2) (T := TX2) (N := 5) hx hb hts (by decide +kernel) hown hK hP 0 rfl rfl 0 (by decide) (hts (.fieldLink RX2 9 "WildCards" "tape" "[I") (by decide +kernel)) (fun _ h9 => h9) rfl dX2_append_8 ?_
          refine lv_aload_n hx hb dX2_append_11 rfl (lv_at hl 1 rfl) ?_
          refine va_get (D := (dC, dI)) (ci := 2) (v := .int (nI (((tl + 1) + 1) + 1))) (C := RX2) (T := TX2) (N := 5) hx hb hts (by decide +kernel) hown hK hP 0 rfl rfl 1 (by decide) (hts (.fieldLink RX2 23 "WildCards" "tapeLength" "I") (by decide +kernel)) (fun _ h9 => h9) rfl dX2_append_12 ?_
          refine lv_iload_n hx hb dX2_append_15 rfl (lv_at hl 2 rfl) ?_
          refine lv_iload_n hx hb dX2_append_16 rfl (lv_at hl 0 rfl) ?_
          refine lv_iushr (v := (v.toUInt32 >>> ((nI 0).toUInt32 &&& Int32.toUInt32 31)).toInt32) hx hb dX2_append_17 rfl ?_
          refine lv_sipush (v := nI 255) hx hb dX2_append_18 (by decide) ?_
          refine lv_iand hx hb dX2_append_21 ?_
          refine wl_asi (y := nI (by4 v 0)) (by4_ok v 0 (by decide)) ?_
          refine va_iast hx hb hK hP hD hS 1 0 rfl rfl (vp_in_nI (by omega) (by omega)) dX2_append_22 (fun H locs hP hD hS => ?_)
          rw [nI_clamp (by omega)] at hP hD
          rw [wl_updN] at hP hD
          have hP : va_P (dC, dI) vwCl [(h0, .inr (2, [.ref qP, .int (nI (((tl + 1) + 1) + 1)), .ref qW, .int (nI wn), .ref hT])), (qP, .inl (cI, 400, .inl (fun j => nI ((va_up (va_up (va_up (va_up tp tl (by4 v 24)) (tl + 1) (by4 v 16)) ((tl + 1) + 1) (by4 v 8)) (((tl + 1) + 1) + 1) (by4 v 0)) j))))] H := hP
          have hD : va_D A [(h0, .inr (2, [.ref qP, .int (nI (((tl + 1) + 1) + 1)), .ref qW, .int (nI wn), .ref hT])), (qP, .inl (cI, 400, .inl (fun j => nI ((va_up (va_up (va_up (va_up tp tl (by4 v 24)) (tl + 1) (by4 v 16)) ((tl + 1) + 1) (by4 v 8)) (((tl + 1) + 1) + 1) (by4 v 0)) j))))] := hD
          refine lv_aload_n hx hb dX2_append_23 rfl (lv_at hl 1 rfl) ?_
          refine lv_dup hx hb dX2_append_24 rfl ?_
          refine va_get (D := (dC, dI)) (ci := 2) (v := .int (nI (((tl + 1) + 1) + 1))) (C := RX2) (T := TX2) (N := 5) hx hb hts (by decide +kernel) hown hK hP 0 rfl rfl 1 (by decide) (hts (.fieldLink RX2 23 "WildCards" "tapeLength" "I") (by decide +kernel)) (fun _ h9 => h9) rfl dX2_append_25 ?_
          refine lv_iconst (v := nI 1) hx hb dX2_append_28 (by decide) ?_
          refine lv_iadd hx hb dX2_append_29 ?_
          refine wl_asi (y := nI ((((tl + 1) + 1) + 1) + 1)) (nI_add _ _) ?_
          refine va_put (D := (dC, dI)) (ci := 2) (v := .int (nI ((((tl + 1) + 1) + 1) + 1))) (ty := .int) (C := RX2) (T := TX2) (N := 5) hx hb hts (by decide +kernel) tyX2 tyX2_ok nmX2 hown hK hP hD hS 0 rfl rfl 1 (by decide) (hts (.fieldLink RX2 23 "WildCards" "tapeLength" "I") (by decide +kernel)) (fun _ h9 => h9) rfl (by decide +kernel) rfl rfl (Nat.le_of_ble_eq_true rfl) dX2_append_30 (fun H locs hP hD hS => ?_)
          have hP : va_P (dC, dI) vwCl [(h0, .inr (2, [.ref qP, .int (nI ((((tl + 1) + 1) + 1) + 1)), .ref qW, .int (nI wn), .ref hT])), (qP, .inl (cI, 400, .inl (fun j => nI ((va_up (va_up (va_up (va_up tp tl (by4 v 24)) (tl + 1) (by4 v 16)) ((tl + 1) + 1) (by4 v 8)) (((tl + 1) + 1) + 1) (by4 v 0)) j))))] H := hP
          have hD : va_D A [(h0, .inr (2, [.ref qP, .int (nI ((((tl + 1) + 1) + 1) + 1)), .ref qW, .int (nI wn), .ref hT])), (qP, .inl (cI, 400, .inl (fun j => nI ((va_up (va_up (va_up (va_up tp tl (by4 v 24)) (tl + 1) (by4 v 16)) ((tl + 1) + 1) (by4 v 8)) (((tl + 1) + 1) + 1) (by4 v 0)) j))))] := hD
          refine lv_iinc (v := (-8)) (lv' := [(2, .int (-8)), (0, .ref h0), (1, .int v)]) hx hb dX2_append_33 hl (k := 0) rfl (by decide) (by decide) rfl (fun ls hl => ?_)
          refine lv_goto (tgt := 3) hx hb dX2_append_36 (by decide) ?_
          refine lv_iload_n hx hb dX2_append_3 rfl (lv_at hl 0 rfl) ?_
          refine lv_if_lt (tgt := 39) hx hb dX2_append_4 (by decide) (fun c4 => ?_) (fun c4 => ?_)
          · skip
            have hP9 := hP.sub (ws' := [(h0, .inr (2, [.ref qP, .int (nI (tl + 4)), .ref qW, .int (nI wn), .ref hT])), (qP, .inl (cI, 400, .inl (fun j => nI ((ap4 tp tl v) j))))]) [0, 1] rfl
            have hD9 := hD.sub (ws' := [(h0, .inr (2, [.ref qP, .int (nI (tl + 4)), .ref qW, .int (nI wn), .ref hT])), (qP, .inl (cI, 400, .inl (fun j => nI ((ap4 tp tl v) j))))]) [0, 1] (by decide) rfl
            exact W.vret hx hb hr (fun t ht hW => ⟨⟨(), rfl, trivial, by rw [ht]; exact hP9, va_K.moved hW.alike hK, hD9⟩, hS.F ht⟩) hS.2.2 dX2_append_39
          · skip
            exact absurd (by decide) c4
end
section
set_option maxHeartbeats 4000000 in
set_option maxRecDepth 100000 in
theorem c_X2_feed (l : Launch) (dC : Nat → ClassId) (dI : Nat → Nat → Nat) (cI cJ cZ : ClassId) (h0 qP qW hT : Nat) (sz : Nat) (tl : Nat) (wn : Nat) (tp : Nat → Nat) (v1 : Int32) (v2 : Int32) (v3 : Int32) (v4 : Int32) (v5 : Int32) (htl : tl ≤ 400) : Met l yX2_feed wsX2_feed ({ frames := 1, cells := 0, slots := 0, locals := 22 }) (va_Pc [.ref h0, .int v1, .int v2, .int v3, .int v4, .int v5] (fun U => U.heap.size = sz ∧ va_P (dC, dI) vwCl [(h0, .inr (2, [.ref qP, .int (nI tl), .ref qW, .int (nI wn), .ref hT])), (qP, .inl (cI, 400, .inl (fun j => nI (tp j))))] U.heap ∧ va_K (dC, dI) vwCl [(cI, .int), (cJ, .long), (cZ, .boolean)] U ∧ va_D (fun _ => True) [(h0, .inr (2, [.ref qP, .int (nI tl), .ref qW, .int (nI wn), .ref hT])), (qP, .inl (cI, 400, .inl (fun j => nI (tp j))))])) (va_Qi (fun (r : Int32) (u : Nat × (Nat → Nat)) => r = (if tl ≤ 380 then 1 else 0) ∧ u.1 = (if tl ≤ 380 then tl + 20 else tl) ∧ u.2 = (if tl ≤ 380 then fd5 tp tl v1 v2 v3 v4 v5 else tp)) (fun (u : Nat × (Nat → Nat)) (t : State) => va_P (dC, dI) vwCl [(h0, .inr (2, [.ref qP, .int (nI u.1), .ref qW, .int (nI wn), .ref hT])), (qP, .inl (cI, 400, .inl (fun j => nI (u.2 j))))] t.heap ∧ va_K (dC, dI) vwCl [(cI, .int), (cJ, .long), (cZ, .boolean)] t ∧ va_D (va_A [(h0, .inr (2, [.ref qP, .int (nI tl), .ref qW, .int (nI wn), .ref hT])), (qP, .inl (cI, 400, .inl (fun j => nI (tp j))))] sz) [(h0, .inr (2, [.ref qP, .int (nI u.1), .ref qW, .int (nI wn), .ref hT])), (qP, .inl (cI, 400, .inl (fun j => nI (u.2 j))))]) (va_A [(h0, .inr (2, [.ref qP, .int (nI tl), .ref qW, .int (nI wn), .ref hT])), (qP, .inl (cI, 400, .inl (fun j => nI (tp j))))] sz)) 0 0 (va_A [(h0, .inr (2, [.ref qP, .int (nI tl), .ref qW, .int (nI wn), .ref hT])), (qP, .inl (cI, 400, .inl (fun j => nI (tp j))))] sz) := by
  refine Met.ofW (cc := cX2_feed) (maxL := 6) (ret := (some .boolean)) (by decide) rfl ?_
  intro p e s m args below meth c s₁ B hml hv
  obtain ⟨rfl, hsz, hP, hK, hD0⟩ := hv
  have hx := B.exec
  have hb := B.bytes
  have hr := B.returns
  have hts := atoms_spec (ws := wsX2_feed) B.pre
  have hown : s.vm.findClass RX2 = some m.cls := findClass_of_methodNamed B.named
  have hlocks := B.notSynchronized
  subst hsz
  have hD := hD0.self (sz := s.heap.size)
  generalize hAe : va_A [(h0, .inr (2, [.ref qP, .int (nI tl), .ref qW, .int (nI wn), .ref hT])), (qP, .inl (cI, 400, .inl (fun j => nI (tp j))))] s.heap.size = A at hD ⊢
  have hA : ∀ q : Nat, s.heap.size ≤ q → A q := fun q h => by rw [← hAe]; exact Or.inr h
  have hS : va_S A s.heap s.heap [] := va_S.rf
  have hP : va_P (dC, dI) vwCl [(h0, .inr (2, [.ref qP, .int (nI tl), .ref qW, .int (nI wn), .ref hT])), (qP, .inl (cI, 400, .inl (fun j => nI (tp j))))] s.heap := hP
  have hl := lv_entry ([.ref h0, .int v1, .int v2, .int v3, .int v4, .int v5]) (n := 6) (Nat.le_of_ble_eq_true rfl)
  rw [lg_entry_eq]
  generalize (lg_sl ([.ref h0, .int v1, .int v2, .int v3, .int v4, .int v5]) ++ List.replicate (6 - (lg_sl ([.ref h0, .int v1, .int v2, .int v3, .int v4, .int v5])).length) Slot.unset).toArray = ls at hl ⊢
  have hl : lv_has ls 6 [(0, .ref h0), (1, .int v1), (2, .int v2), (3, .int v3), (4, .int v4), (5, .int v5)] := hl
  skip
  refine lv_aload_n hx hb dX2_feed_0 rfl (lv_at hl 0 rfl) ?_
  refine va_get (D := (dC, dI)) (ci := 2) (v := .int (nI tl)) (C := RX2) (T := TX2) (N := 5) hx hb hts (by decide +kernel) hown hK hP 0 rfl rfl 1 (by decide) (hts (.fieldLink RX2 23 "WildCards" "tapeLength" "I") (by decide +kernel)) (fun _ h9 => h9) rfl dX2_feed_1 ?_
  refine lv_sipush (v := nI 380) hx hb dX2_feed_4 (by decide) ?_
  refine wl_icmp_le (tgt := 12) hx hb dX2_feed_7 (by decide) (by omega) (by omega) (fun c7 => ?_) (fun c7 => ?_)
  · skip
    refine lv_aload_n hx hb dX2_feed_12 rfl (lv_at hl 0 rfl) ?_
    refine lv_iload_n hx hb dX2_feed_13 rfl (lv_at hl 1 rfl) ?_
    have hPc := hP.sub (ws' := [(h0, .inr (2, [.ref qP, .int (nI tl), .ref qW, .int (nI wn), .ref hT])), (qP, .inl (cI, 400, .inl (fun j => nI (tp j))))]) [0, 1] rfl
    have hDc := hD.sub (ws' := [(h0, .inr (2, [.ref qP, .int (nI tl), .ref qW, .int (nI wn), .ref hT])), (qP, .inl (cI, 400, .inl (fun j => nI (tp j))))]) [0, 1] (by decide) rfl
    have hFc := va_free (wc := [(h0, .inr (2, [.ref qP, .int (nI tl), .ref qW, .int (nI wn), .ref hT])), (qP, .inl (cI, 400, .inl (fun j => nI (tp j))))]) hD hS hA [0, 1] rfl
    refine va_callv (va_runV (As := [.int v1]) (rest := []) ⟨hx, hb, hml, hown, hts⟩ (c_X2_append l dC dI cI cJ cZ h0 qP qW hT s.heap.size tl wn tp v1 (by omega)) (cwV 1 hts gX2_feed_X2_append rfl rfl rfl (by decide +kernel) ⟨Nat.le_of_ble_eq_true rfl, Nat.le_of_ble_eq_true rfl⟩) ⟨fun a U g mk q => by obtain ⟨q0, q1, qP, qK, qD⟩ := q; exact ⟨q0, q1, qP, va_K.moved (u := U) (U := U.calling g mk a) (Vm.Alike.refl U.vm) qK, qD⟩, va_recv hK hPc (ci := 2) (q0 := 0) rfl rfl, fun U hU hW => ⟨rfl, by rw [hU], by rw [hU]; exact hPc, va_K.moved hW.alike hK, hDc.weaken (fun _ _ _ _ => trivial)⟩⟩ rfl rfl hl.1 rfl (lv_room (Nat.le_of_ble_eq_true rfl)) dX2_feed_14 ⟨show 0 + 0 ≤ 0 from by decide, show 0 + 0 ≤ 0 from by decide⟩) hS (fun q _ h => hFc q h) hFc (fun u t H1 locs ht hvm hw14 hB hz1 hk1 hS => ?_)
    obtain ⟨hP1, hK1, hD1⟩ := hB
    rw [ht] at hP1
    try dsimp only at hw14 hP1 hD1
    obtain ⟨hP, hD⟩ := va_join (wr := []) (w1 := [(h0, .inr (2, [.ref qP, .int (nI (tl + 4)), .ref qW, .int (nI wn), .ref hT])), (qP, .inl (cI, 400, .inl (fun j => nI ((ap4 tp tl v1) j))))]) hP hD [0, 1] [] rfl rfl (by decide) (by decide) hk1 hFc hP1 hD1
    generalize H1 = H at hP hS ⊢
    have hP : va_P (dC, dI) vwCl [(h0, .inr (2, [.ref qP, .int (nI (tl + 4)), .ref qW, .int (nI wn), .ref hT])), (qP, .inl (cI, 400, .inl (fun j => nI ((ap4 tp tl v1) j))))] H := hP
    have hD : va_D A [(h0, .inr (2, [.ref qP, .int (nI (tl + 4)), .ref qW, .int (nI wn), .ref hT])), (qP, .inl (cI, 400, .inl (fun j => nI ((ap4 tp tl v1) j))))] := hD
    refine lv_aload_n hx hb dX2_feed_17 rfl (lv_at hl 0 rfl) ?_
    refine lv_iload_n hx hb dX2_feed_18 rfl (lv_at hl 2 rfl) ?_
    have hPc := hP.sub (ws' := [(h0, .inr (2, [.ref qP, .int (nI (tl + 4)), .ref qW, .int (nI wn), .ref hT])), (qP, .inl (cI, 400, .inl (fun j => nI ((ap4 tp tl v1) j))))]) [0, 1] rfl
    have hDc := hD.sub (ws' := [(h0, .inr (2, [.ref qP, .int (nI (tl + 4)), .ref qW, .int (nI wn), .ref hT])), (qP, .inl (cI, 400, .inl (fun j => nI ((ap4 tp tl v1) j))))]) [0, 1] (by decide) rfl
    have hFc := va_free (wc := [(h0, .inr (2, [.ref qP, .int (nI (tl + 4)), .ref qW, .int (nI wn), .ref hT])), (qP, .inl (cI, 400, .inl (fun j => nI ((ap4 tp tl v1) j))))]) hD hS hA [0, 1] rfl
    refine va_callv (va_runV (As := [.int v2]) (rest := []) ⟨hx, hb, hml, hown, hts⟩ (c_X2_append l dC dI cI cJ cZ h0 qP qW hT H.size (tl + 4) wn (ap4 tp tl v1) v2 (by omega)) (cwV 1 hts gX2_feed_X2_append rfl rfl rfl (by decide +kernel) ⟨Nat.le_of_ble_eq_true rfl, Nat.le_of_ble_eq_true rfl⟩) ⟨fun a U g mk q => by obtain ⟨q0, q1, qP, qK, qD⟩ := q; exact ⟨q0, q1, qP, va_K.moved (u := U) (U := U.calling g mk a) (Vm.Alike.refl U.vm) qK, qD⟩, va_recv hK hPc (ci := 2) (q0 := 0) rfl rfl, fun U hU hW => ⟨rfl, by rw [hU], by rw [hU]; exact hPc, va_K.moved hW.alike hK, hDc.weaken (fun _ _ _ _ => trivial)⟩⟩ rfl rfl hl.1 rfl (lv_room (Nat.le_of_ble_eq_true rfl)) dX2_feed_19 ⟨show 0 + 0 + 0 ≤ 0 from by decide, show 0 + 0 + 0 ≤ 0 from by decide⟩) hS (fun q _ h => hFc q h) hFc (fun u t H1 locs ht hvm hw19 hB hz1 hk1 hS => ?_)
    obtain ⟨hP1, hK1, hD1⟩ := hB
    rw [ht] at hP1
    try dsimp only at hw19 hP1 hD1
    obtain ⟨hP, hD⟩ := va_join (wr := []) (w1 := [(h0, .inr (2, [.ref qP, .int (nI ((tl + 4) + 4)), .ref qW, .int (nI wn), .ref hT])), (qP, .inl (cI, 400, .inl (fun j => nI ((ap4 (ap4 tp tl v1) (tl + 4) v2) j))))]) hP hD [0, 1] [] rfl rfl (by decide) (by decide) hk1 hFc hP1 hD1
    generalize H1 = H at hP hS ⊢
    have hP : va_P (dC, dI) vwCl [(h0, .inr (2, [.ref qP, .int (nI ((tl + 4) + 4)), .ref qW, .int (nI wn), .ref hT])), (qP, .inl (cI, 400, .inl (fun j => nI ((ap4 (ap4 tp tl v1) (tl + 4) v2) j))))] H := hP
    have hD : va_D A [(h0, .inr (2, [.ref qP, .int (nI ((tl + 4) + 4)), .ref qW, .int (nI wn), .ref hT])), (qP, .inl (cI, 400, .inl (fun j => nI ((ap4 (ap4 tp tl v1) (tl + 4) v2) j))))] := hD
    refine lv_aload_n hx hb dX2_feed_22 rfl (lv_at hl 0 rfl) ?_
    refine lv_iload_n hx hb dX2_feed_23 rfl (lv_at hl 3 rfl) ?_
    have hPc := hP.sub (ws' := [(h0, .inr (2, [.ref qP, .int (nI ((tl + 4) + 4)), .ref qW, .int (nI wn), .ref hT])), (qP, .inl (cI, 400, .inl (fun j => nI ((ap4 (ap4 tp tl v1) (tl + 4) v2) j))))]) [0, 1] rfl
    have hDc := hD.sub (ws' := [(h0, .inr (2, [.ref qP, .int (nI ((tl + 4) + 4)), .ref qW, .int (nI wn), .ref hT])), (qP, .inl (cI, 400, .inl (fun j => nI ((ap4 (ap4 tp tl v1) (tl + 4) v2) j))))]) [0, 1] (by decide) rfl
    have hFc := va_free (wc := [(h0, .inr (2, [.ref qP, .int (nI ((tl + 4) + 4)), .ref qW, .int (nI wn), .ref hT])), (qP, .inl (cI, 400, .inl (fun j => nI ((ap4 (ap4 tp tl v1) (tl + 4) v2) j))))]) hD hS hA [0, 1] rfl
    refine va_callv (va_runV (As := [.int v3]) (rest := []) ⟨hx, hb, hml, hown, hts⟩ (c_X2_append l dC dI cI cJ cZ h0 qP qW hT H.size ((tl + 4) + 4) wn (ap4 (ap4 tp tl v1) (tl + 4) v2) v3 (by omega)) (cwV 1 hts gX2_feed_X2_append rfl rfl rfl (by decide +kernel) ⟨Nat.le_of_ble_eq_true rfl, Nat.le_of_ble_eq_true rfl⟩) ⟨fun a U g mk q => by obtain ⟨q0, q1, qP, qK, qD⟩ := q; exact ⟨q0, q1, qP, va_K.moved (u := U) (U := U.calling g mk a) (Vm.Alike.refl U.vm) qK, qD⟩, va_recv hK hPc (ci := 2) (q0 := 0) rfl rfl, fun U hU hW => ⟨rfl, by rw [hU], by rw [hU]; exact hPc, va_K.moved hW.alike hK, hDc.weaken (fun _ _ _ _ => trivial)⟩⟩ rfl rfl hl.1 rfl (lv_room (Nat.le_of_ble_eq_true rfl)) dX2_feed_24 ⟨show 0 + 0 + 0 + 0 ≤ 0 from by decide, show 0 + 0 + 0 + 0 ≤ 0 from by decide⟩) hS (fun q _ h => hFc q h) hFc (fun u t H1 locs ht hvm hw24 hB hz1 hk1 hS => ?_)
    obtain ⟨hP1, hK1, hD1⟩ := hB
    rw [ht] at hP1
    try dsimp only at hw24 hP1 hD1
    obtain ⟨hP, hD⟩ := va_join (wr := []) (w1 := [(h0, .inr (2, [.ref qP, .int (nI (((tl + 4) + 4) + 4)), .ref qW, .int (nI wn), .ref hT])), (qP, .inl (cI, 400, .inl (fun j => nI ((ap4 (ap4 (ap4 tp tl v1) (tl + 4) v2) ((tl + 4) + 4) v3) j))))]) hP hD [0, 1] [] rfl rfl (by decide) (by decide) hk1 hFc hP1 hD1
    generalize H1 = H at hP hS ⊢
    have hP : va_P (dC, dI) vwCl [(h0, .inr (2, [.ref qP, .int (nI (((tl + 4) + 4) + 4)), .ref qW, .int (nI wn), .ref hT])), (qP, .inl (cI, 400, .inl (fun j => nI ((ap4 (ap4 (ap4 tp tl v1) (tl + 4) v2) ((tl + 4) + 4) v3) j))))] H := hP
    have hD : va_D A [(h0, .inr (2, [.ref qP, .int (nI (((tl + 4) + 4) + 4)), .ref qW, .int (nI wn), .ref hT])), (qP, .inl (cI, 400, .inl (fun j => nI ((ap4 (ap4 (ap4 tp tl v1) (tl + 4) v2) ((tl + 4) + 4) v3) j))))] := hD
    refine lv_aload_n hx hb dX2_feed_27 rfl (lv_at hl 0 rfl) ?_
    refine lv_iload hx hb dX2_feed_28 (lv_at hl 4 rfl) ?_
    have hPc := hP.sub (ws' := [(h0, .inr (2, [.ref qP, .int (nI (((tl + 4) + 4) + 4)), .ref qW, .int (nI wn), .ref hT])), (qP, .inl (cI, 400, .inl (fun j => nI ((ap4 (ap4 (ap4 tp tl v1) (tl + 4) v2) ((tl + 4) + 4) v3) j))))]) [0, 1] rfl
    have hDc := hD.sub (ws' := [(h0, .inr (2, [.ref qP, .int (nI (((tl + 4) + 4) + 4)), .ref qW, .int (nI wn), .ref hT])), (qP, .inl (cI, 400, .inl (fun j => nI ((ap4 (ap4 (ap4 tp tl v1) (tl + 4) v2) ((tl + 4) + 4) v3) j))))]) [0, 1] (by decide) rfl
    have hFc := va_free (wc := [(h0, .inr (2, [.ref qP, .int (nI (((tl + 4) + 4) + 4)), .ref qW, .int (nI wn), .ref hT])), (qP, .inl (cI, 400, .inl (fun j => nI ((ap4 (ap4 (ap4 tp tl v1) (tl + 4) v2) ((tl + 4) + 4) v3) j))))]) hD hS hA [0, 1] rfl
    refine va_callv (va_runV (As := [.int v4]) (rest := []) ⟨hx, hb, hml, hown, hts⟩ (c_X2_append l dC dI cI cJ cZ h0 qP qW hT H.size (((tl + 4) + 4) + 4) wn (ap4 (ap4 (ap4 tp tl v1) (tl + 4) v2) ((tl + 4) + 4) v3) v4 (by omega)) (cwV 1 hts gX2_feed_X2_append rfl rfl rfl (by decide +kernel) ⟨Nat.le_of_ble_eq_true rfl, Nat.le_of_ble_eq_true rfl⟩) ⟨fun a U g mk q => by obtain ⟨q0, q1, qP, qK, qD⟩ := q; exact ⟨q0, q1, qP, va_K.moved (u := U) (U := U.calling g mk a) (Vm.Alike.refl U.vm) qK, qD⟩, va_recv hK hPc (ci := 2) (q0 := 0) rfl rfl, fun U hU hW => ⟨rfl, by rw [hU], by rw [hU]; exact hPc, va_K.moved hW.alike hK, hDc.weaken (fun _ _ _ _ => trivial)⟩⟩ rfl rfl hl.1 rfl (lv_room (Nat.le_of_ble_eq_true rfl)) dX2_feed_30 ⟨show 0 + 0 + 0 + 0 + 0 ≤ 0 from by decide, show 0 + 0 + 0 + 0 + 0 ≤ 0 from by decide⟩) hS (fun q _ h => hFc q h) hFc (fun u t H1 locs ht hvm hw30 hB hz1 hk1 hS => ?_)
    obtain ⟨hP1, hK1, hD1⟩ := hB
    rw [ht] at hP1
    try dsimp only at hw30 hP1 hD1
    obtain ⟨hP, hD⟩ := va_join (wr := []) (w1 := [(h0, .inr (2, [.ref qP, .int (nI ((((tl + 4) + 4) + 4) + 4)), .ref qW, .int (nI wn), .ref hT])), (qP, .inl (cI, 400, .inl (fun j => nI ((ap4 (ap4 (ap4 (ap4 tp tl v1) (tl + 4) v2) ((tl + 4) + 4) v3) (((tl + 4) + 4) + 4) v4) j))))]) hP hD [0, 1] [] rfl rfl (by decide) (by decide) hk1 hFc hP1 hD1
    generalize H1 = H at hP hS ⊢
    have hP : va_P (dC, dI) vwCl [(h0, .inr (2, [.ref qP, .int (nI ((((tl + 4) + 4) + 4) + 4)), .ref qW, .int (nI wn), .ref hT])), (qP, .inl (cI, 400, .inl (fun j => nI ((ap4 (ap4 (ap4 (ap4 tp tl v1) (tl + 4) v2) ((tl + 4) + 4) v3) (((tl + 4) + 4) + 4) v4) j))))] H := hP
    have hD : va_D A [(h0, .inr (2, [.ref qP, .int (nI ((((tl + 4) + 4) + 4) + 4)), .ref qW, .int (nI wn), .ref hT])), (qP, .inl (cI, 400, .inl (fun j => nI ((ap4 (ap4 (ap4 (ap4 tp tl v1) (tl + 4) v2) ((tl + 4) + 4) v3) (((tl + 4) + 4) + 4) v4) j))))] := hD
    refine lv_aload_n hx hb dX2_feed_33 rfl (lv_at hl 0 rfl) ?_
    refine lv_iload hx hb dX2_feed_34 (lv_at hl 5 rfl) ?_
    have hPc := hP.sub (ws' := [(h0, .inr (2, [.ref qP, .int (nI ((((tl + 4) + 4) + 4) + 4)), .ref qW, .int (nI wn), .ref hT])), (qP, .inl (cI, 400, .inl (fun j => nI ((ap4 (ap4 (ap4 (ap4 tp tl v1) (tl + 4) v2) ((tl + 4) + 4) v3) (((tl + 4) + 4) + 4) v4) j))))]) [0, 1] rfl
    have hDc := hD.sub (ws' := [(h0, .inr (2, [.ref qP, .int (nI ((((tl + 4) + 4) + 4) + 4)), .ref qW, .int (nI wn), .ref hT])), (qP, .inl (cI, 400, .inl (fun j => nI ((ap4 (ap4 (ap4 (ap4 tp tl v1) (tl + 4) v2) ((tl + 4) + 4) v3) (((tl + 4) + 4) + 4) v4) j))))]) [0, 1] (by decide) rfl
    have hFc := va_free (wc := [(h0, .inr (2, [.ref qP, .int (nI ((((tl + 4) + 4) + 4) + 4)), .ref qW, .int (nI wn), .ref hT])), (qP, .inl (cI, 400, .inl (fun j => nI ((ap4 (ap4 (ap4 (ap4 tp tl v1) (tl + 4) v2) ((tl + 4) + 4) v3) (((tl + 4) + 4) + 4) v4) j))))]) hD hS hA [0, 1] rfl
    refine va_callv (va_runV (As := [.int v5]) (rest := []) ⟨hx, hb, hml, hown, hts⟩ (c_X2_append l dC dI cI cJ cZ h0 qP qW hT H.size ((((tl + 4) + 4) + 4) + 4) wn (ap4 (ap4 (ap4 (ap4 tp tl v1) (tl + 4) v2) ((tl + 4) + 4) v3) (((tl + 4) + 4) + 4) v4) v5 (by omega)) (cwV 1 hts gX2_feed_X2_append rfl rfl rfl (by decide +kernel) ⟨Nat.le_of_ble_eq_true rfl, Nat.le_of_ble_eq_true rfl⟩) ⟨fun a U g mk q => by obtain ⟨q0, q1, qP, qK, qD⟩ := q; exact ⟨q0, q1, qP, va_K.moved (u := U) (U := U.calling g mk a) (Vm.Alike.refl U.vm) qK, qD⟩, va_recv hK hPc (ci := 2) (q0 := 0) rfl rfl, fun U hU hW => ⟨rfl, by rw [hU], by rw [hU]; exact hPc, va_K.moved hW.alike hK, hDc.weaken (fun _ _ _ _ => trivial)⟩⟩ rfl rfl hl.1 rfl (lv_room (Nat.le_of_ble_eq_true rfl)) dX2_feed_36 ⟨show 0 + 0 + 0 + 0 + 0 + 0 ≤ 0 from by decide, show 0 + 0 + 0 + 0 + 0 + 0 ≤ 0 from by decide⟩) hS (fun q _ h => hFc q h) hFc (fun u t H1 locs ht hvm hw36 hB hz1 hk1 hS => ?_)
    obtain ⟨hP1, hK1, hD1⟩ := hB
    rw [ht] at hP1
    try dsimp only at hw36 hP1 hD1
    obtain ⟨hP, hD⟩ := va_join (wr := []) (w1 := [(h0, .inr (2, [.ref qP, .int (nI (((((tl + 4) + 4) + 4) + 4) + 4)), .ref qW, .int (nI wn), .ref hT])), (qP, .inl (cI, 400, .inl (fun j => nI ((ap4 (ap4 (ap4 (ap4 (ap4 tp tl v1) (tl + 4) v2) ((tl + 4) + 4) v3) (((tl + 4) + 4) + 4) v4) ((((tl + 4) + 4) + 4) + 4) v5) j))))]) hP hD [0, 1] [] rfl rfl (by decide) (by decide) hk1 hFc hP1 hD1
    generalize H1 = H at hP hS ⊢
    have hP : va_P (dC, dI) vwCl [(h0, .inr (2, [.ref qP, .int (nI (((((tl + 4) + 4) + 4) + 4) + 4)), .ref qW, .int (nI wn), .ref hT])), (qP, .inl (cI, 400, .inl (fun j => nI ((ap4 (ap4 (ap4 (ap4 (ap4 tp tl v1) (tl + 4) v2) ((tl + 4) + 4) v3) (((tl + 4) + 4) + 4) v4) ((((tl + 4) + 4) + 4) + 4) v5) j))))] H := hP
    have hD : va_D A [(h0, .inr (2, [.ref qP, .int (nI (((((tl + 4) + 4) + 4) + 4) + 4)), .ref qW, .int (nI wn), .ref hT])), (qP, .inl (cI, 400, .inl (fun j => nI ((ap4 (ap4 (ap4 (ap4 (ap4 tp tl v1) (tl + 4) v2) ((tl + 4) + 4) v3) (((tl + 4) + 4) + 4) v4) ((((tl + 4) + 4) + 4) + 4) v5) j))))] := hD
    refine lv_iconst (v := nI 1) hx hb dX2_feed_39 (by decide) ?_
    have hP9 := hP.sub (ws' := [(h0, .inr (2, [.ref qP, .int (nI (((((tl + 4) + 4) + 4) + 4) + 4)), .ref qW, .int (nI wn), .ref hT])), (qP, .inl (cI, 400, .inl (fun j => nI ((ap4 (ap4 (ap4 (ap4 (ap4 tp tl v1) (tl + 4) v2) ((tl + 4) + 4) v3) (((tl + 4) + 4) + 4) v4) ((((tl + 4) + 4) + 4) + 4) v5) j))))]) [0, 1] rfl
    have hD9 := hD.sub (ws' := [(h0, .inr (2, [.ref qP, .int (nI (((((tl + 4) + 4) + 4) + 4) + 4)), .ref qW, .int (nI wn), .ref hT])), (qP, .inl (cI, 400, .inl (fun j => nI ((ap4 (ap4 (ap4 (ap4 (ap4 tp tl v1) (tl + 4) v2) ((tl + 4) + 4) v3) (((tl + 4) + 4) + 4) v4) ((((tl + 4) + 4) + 4) + 4) v5) j))))]) [0, 1] (by decide) rfl
    exact W.zret (v := nI 1) hx hb hr (by decide) (fun t ht hW => ⟨⟨nI 1, (((((tl + 4) + 4) + 4) + 4) + 4, ap4 (ap4 (ap4 (ap4 (ap4 tp tl v1) (tl + 4) v2) ((tl + 4) + 4) v3) (((tl + 4) + 4) + 4) v4) ((((tl + 4) + 4) + 4) + 4) v5), rfl, (show (nI 1) = (if tl ≤ 380 then 1 else 0) ∧ (((((tl + 4) + 4) + 4) + 4) + 4) = (if tl ≤ 380 then tl + 20 else tl) ∧ (ap4 (ap4 (ap4 (ap4 (ap4 tp tl v1) (tl + 4) v2) ((tl + 4) + 4) v3) (((tl + 4) + 4) + 4) v4) ((((tl + 4) + 4) + 4) + 4) v5) = (if tl ≤ 380 then fd5 tp tl v1 v2 v3 v4 v5 else tp) from ⟨by rw [if_pos c7]; rfl, by rw [if_pos c7], by rw [if_pos c7]; rfl⟩), by rw [ht]; exact hP9, va_K.moved hW.alike hK, hD9⟩, hS.F ht⟩) hS.2.2 dX2_feed_40
  · skip
    refine lv_iconst (v := nI 0) hx hb dX2_feed_10 (by decide) ?_
    have hP9 := hP.sub (ws' := [(h0, .inr (2, [.ref qP, .int (nI tl), .ref qW, .int (nI wn), .ref hT])), (qP, .inl (cI, 400, .inl (fun j => nI (tp j))))]) [0, 1] rfl
    have hD9 := hD.sub (ws' := [(h0, .inr (2, [.ref qP, .int (nI tl), .ref qW, .int (nI wn), .ref hT])), (qP, .inl (cI, 400, .inl (fun j => nI (tp j))))]) [0, 1] (by decide) rfl
    exact W.zret (v := nI 0) hx hb hr (by decide) (fun t ht hW => ⟨⟨nI 0, (tl, tp), rfl, (show (nI 0) = (if tl ≤ 380 then 1 else 0) ∧ tl = (if tl ≤ 380 then tl + 20 else tl) ∧ tp = (if tl ≤ 380 then fd5 tp tl v1 v2 v3 v4 v5 else tp) from ⟨by rw [if_neg (by omega)]; rfl, by rw [if_neg (by omega)], by rw [if_neg (by omega)]⟩), by rw [ht]; exact hP9, va_K.moved hW.alike hK, hD9⟩, hS.F ht⟩) hS.2.2 dX2_feed_11
end
section
set_option maxHeartbeats 4000000 in
set_option maxRecDepth 100000 in
theorem c_X2_end (l : Launch) (dC : Nat → ClassId) (dI : Nat → Nat → Nat) (cI cJ cZ : ClassId) (h0 qP qW hT : Nat) (sz : Nat) (tl : Nat) (wn : Nat) (n : Int32) (htl : tl ≤ 400) : Met l yX2_end wsX2_end ({ frames := 0, cells := 0, slots := 0, locals := 0 }) (va_Pc [.ref h0, .int n] (fun U => U.heap.size = sz ∧ va_P (dC, dI) vwCl [(h0, .inr (2, [.ref qP, .int (nI tl), .ref qW, .int (nI wn), .ref hT]))] U.heap ∧ va_K (dC, dI) vwCl [(cI, .int), (cJ, .long), (cZ, .boolean)] U ∧ va_D (fun _ => True) [(h0, .inr (2, [.ref qP, .int (nI tl), .ref qW, .int (nI wn), .ref hT]))])) (va_Qi (fun (r : Int32) (u : Nat) => (∃ k0, k0 ≤ tl ∧ n = nI k0 ∧ u = k0 ∧ r = 1) ∨ ((n < 0 ∨ ¬ n ≤ nI tl) ∧ u = tl ∧ r = 0)) (fun (u : Nat) (t : State) => va_P (dC, dI) vwCl [(h0, .inr (2, [.ref qP, .int (nI u), .ref qW, .int (nI wn), .ref hT]))] t.heap ∧ va_K (dC, dI) vwCl [(cI, .int), (cJ, .long), (cZ, .boolean)] t ∧ va_D (va_A [(h0, .inr (2, [.ref qP, .int (nI tl), .ref qW, .int (nI wn), .ref hT]))] sz) [(h0, .inr (2, [.ref qP, .int (nI u), .ref qW, .int (nI wn), .ref hT]))]) (va_A [(h0, .inr (2, [.ref qP, .int (nI tl), .ref qW, .int (nI wn), .ref hT]))] sz)) 0 0 (va_A [(h0, .inr (2, [.ref qP, .int (nI tl), .ref qW, .int (nI wn), .ref hT]))] sz) := by
  refine Met.ofW (cc := cX2_end) (maxL := 2) (ret := (some .boolean)) (by decide) rfl ?_
  intro p e s m args below meth c s₁ B hml hv
  obtain ⟨rfl, hsz, hP, hK, hD0⟩ := hv
  have hx := B.exec
  have hb := B.bytes
  have hr := B.returns
  have hts := atoms_spec (ws := wsX2_end) B.pre
  have hown : s.vm.findClass RX2 = some m.cls := findClass_of_methodNamed B.named
  have hlocks := B.notSynchronized
  subst hsz
  have hD := hD0.self (sz := s.heap.size)
  generalize hAe : va_A [(h0, .inr (2, [.ref qP, .int (nI tl), .ref qW, .int (nI wn), .ref hT]))] s.heap.size = A at hD ⊢
  have hA : ∀ q : Nat, s.heap.size ≤ q → A q := fun q h => by rw [← hAe]; exact Or.inr h
  have hS : va_S A s.heap s.heap [] := va_S.rf
  have hP : va_P (dC, dI) vwCl [(h0, .inr (2, [.ref qP, .int (nI tl), .ref qW, .int (nI wn), .ref hT]))] s.heap := hP
  have hl := lv_entry ([.ref h0, .int n]) (n := 2) (Nat.le_of_ble_eq_true rfl)
  rw [lg_entry_eq]
  generalize (lg_sl ([.ref h0, .int n]) ++ List.replicate (2 - (lg_sl ([.ref h0, .int n])).length) Slot.unset).toArray = ls at hl ⊢
  have hl : lv_has ls 2 [(0, .ref h0), (1, .int n)] := hl
  skip
  refine lv_iload_n hx hb dX2_end_0 rfl (lv_at hl 1 rfl) ?_
  refine lv_if_lt (tgt := 12) hx hb dX2_end_1 (by decide) (fun c1 => ?_) (fun c1 => ?_)
  · skip
    refine lv_iconst (v := nI 0) hx hb dX2_end_12 (by decide) ?_
    have hP9 := hP.sub (ws' := [(h0, .inr (2, [.ref qP, .int (nI tl), .ref qW, .int (nI wn), .ref hT]))]) [0] rfl
    have hD9 := hD.sub (ws' := [(h0, .inr (2, [.ref qP, .int (nI tl), .ref qW, .int (nI wn), .ref hT]))]) [0] (by decide) rfl
    exact W.zret (v := nI 0) hx hb hr (by decide) (fun t ht hW => ⟨⟨nI 0, tl, rfl, (show (∃ k0, k0 ≤ tl ∧ n = nI k0 ∧ tl = k0 ∧ (nI 0) = 1) ∨ ((n < 0 ∨ ¬ n ≤ nI tl) ∧ tl = tl ∧ (nI 0) = 0) from Or.inr ⟨Or.inl c1, rfl, rfl⟩), by rw [ht]; exact hP9, va_K.moved hW.alike hK, hD9⟩, hS.F ht⟩) hS.2.2 dX2_end_13
  · skip
    refine lv_iload_n hx hb dX2_end_4 rfl (lv_at hl 1 rfl) ?_
    refine lv_aload_n hx hb dX2_end_5 rfl (lv_at hl 0 rfl) ?_
    refine va_get (D := (dC, dI)) (ci := 2) (v := .int (nI tl)) (C := RX2) (T := TX2) (N := 5) hx hb hts (by decide +kernel) hown hK hP 0 rfl rfl 1 (by decide) (hts (.fieldLink RX2 23 "WildCards" "tapeLength" "I") (by decide +kernel)) (fun _ h9 => h9) rfl dX2_end_6 ?_
    refine lv_icmp_le (tgt := 14) hx hb dX2_end_9 (by decide) (fun c9 => ?_) (fun c9 => ?_)
    · skip
      obtain ⟨k, hk, en⟩ := nI_of2 (nI_toInt (show tl < 2 ^ 31 by omega)) c1 c9
      refine lv_aload_n hx hb dX2_end_14 rfl (lv_at hl 0 rfl) ?_
      refine lv_iload_n hx hb dX2_end_15 rfl (lv_at hl 1 rfl) ?_
      refine wl_asi (y := nI k) (en) ?_
      refine va_put (D := (dC, dI)) (ci := 2) (v := .int (nI k)) (ty := .int) (C := RX2) (T := TX2) (N := 5) hx hb hts (by decide +kernel) tyX2 tyX2_ok nmX2 hown hK hP hD hS 0 rfl rfl 1 (by decide) (hts (.fieldLink RX2 23 "WildCards" "tapeLength" "I") (by decide +kernel)) (fun _ h9 => h9) rfl (by decide +kernel) rfl rfl (Nat.le_of_ble_eq_true rfl) dX2_end_16 (fun H locs hP hD hS => ?_)
      have hP : va_P (dC, dI) vwCl [(h0, .inr (2, [.ref qP, .int (nI k), .ref qW, .int (nI wn), .ref hT]))] H := hP
      have hD : va_D A [(h0, .inr (2, [.ref qP, .int (nI k), .ref qW, .int (nI wn), .ref hT]))] := hD
      refine lv_iconst (v := nI 1) hx hb dX2_end_19 (by decide) ?_
      have hP9 := hP.sub (ws' := [(h0, .inr (2, [.ref qP, .int (nI k), .ref qW, .int (nI wn), .ref hT]))]) [0] rfl
      have hD9 := hD.sub (ws' := [(h0, .inr (2, [.ref qP, .int (nI k), .ref qW, .int (nI wn), .ref hT]))]) [0] (by decide) rfl
      exact W.zret (v := nI 1) hx hb hr (by decide) (fun t ht hW => ⟨⟨nI 1, k, rfl, (show (∃ k0, k0 ≤ tl ∧ n = nI k0 ∧ k = k0 ∧ (nI 1) = 1) ∨ ((n < 0 ∨ ¬ n ≤ nI tl) ∧ k = tl ∧ (nI 1) = 0) from Or.inl ⟨k, hk, en, rfl, rfl⟩), by rw [ht]; exact hP9, va_K.moved hW.alike hK, hD9⟩, hS.F ht⟩) hS.2.2 dX2_end_20
    · skip
      refine lv_iconst (v := nI 0) hx hb dX2_end_12 (by decide) ?_
      have hP9 := hP.sub (ws' := [(h0, .inr (2, [.ref qP, .int (nI tl), .ref qW, .int (nI wn), .ref hT]))]) [0] rfl
      have hD9 := hD.sub (ws' := [(h0, .inr (2, [.ref qP, .int (nI tl), .ref qW, .int (nI wn), .ref hT]))]) [0] (by decide) rfl
      exact W.zret (v := nI 0) hx hb hr (by decide) (fun t ht hW => ⟨⟨nI 0, tl, rfl, (show (∃ k0, k0 ≤ tl ∧ n = nI k0 ∧ tl = k0 ∧ (nI 0) = 1) ∨ ((n < 0 ∨ ¬ n ≤ nI tl) ∧ tl = tl ∧ (nI 0) = 0) from Or.inr ⟨Or.inr c9, rfl, rfl⟩), by rw [ht]; exact hP9, va_K.moved hW.alike hK, hD9⟩, hS.F ht⟩) hS.2.2 dX2_end_13
end
section
set_option maxHeartbeats 4000000 in
set_option maxRecDepth 100000 in
theorem c_X2_pattern (l : Launch) (dC : Nat → ClassId) (dI : Nat → Nat → Nat) (cI cJ cZ : ClassId) (h0 qP qW hT qT qL qR : Nat) (sz : Nat) (tl : Nat) (wn : Nat) (tp : Nat → Nat) (cnt : Nat) (fT : Nat → Int64) (fL : Nat → Int64) (fR : Nat → Int64) (htl : tl ≤ 400) (htp : ∀ j, j < tl → tp j < 256) : Met l yX2_pattern wsX2_pattern ({ frames := 6, cells := 1, slots := 4, locals := 135 }) (va_Pc [.ref h0] (fun U => U.heap.size = sz ∧ va_P (dC, dI) vwCl [(h0, .inr (2, [.ref qP, .int (nI tl), .ref qW, .int (nI wn), .ref hT])), (qP, .inl (cI, 400, .inl (fun j => nI (tp j)))), (hT, .inr (1, [.ref qT, .ref qL, .ref qR, .int (nI cnt)])), (qT, .inl (cJ, 1792, .inr (.inl fT))), (qL, .inl (cJ, 7, .inr (.inl fL))), (qR, .inl (cJ, 7, .inr (.inl fR)))] U.heap ∧ va_K (dC, dI) vwCl [(cI, .int), (cJ, .long), (cZ, .boolean)] U ∧ va_D (fun _ => True) [(h0, .inr (2, [.ref qP, .int (nI tl), .ref qW, .int (nI wn), .ref hT])), (qP, .inl (cI, 400, .inl (fun j => nI (tp j)))), (hT, .inr (1, [.ref qT, .ref qL, .ref qR, .int (nI cnt)])), (qT, .inl (cJ, 1792, .inr (.inl fT))), (qL, .inl (cJ, 7, .inr (.inl fL))), (qR, .inl (cJ, 7, .inr (.inl fR)))])) (va_Qi (fun (r : Int32) (u : Nat × (Nat → Int64) × (Nat → Int64)) => r = nI tl ∧ TR (ths tp tl tl 0) u.2.1 u.2.2 u.1 ∧ u.1 ≤ 400) (fun (u : Nat × (Nat → Int64) × (Nat → Int64)) (t : State) => va_P (dC, dI) vwCl [(h0, .inr (2, [.ref qP, .int (nI 0), .ref qW, .int (nI wn), .ref hT])), (qP, .inl (cI, 400, .inl (fun j => nI (tp j)))), (hT, .inr (1, [.ref qT, .ref qL, .ref qR, .int (nI u.1)])), (qT, .inl (cJ, 1792, .inr (.inl u.2.1))), (qL, .inl (cJ, 7, .inr (.inl u.2.2))), (qR, .inl (cJ, 7, .inr (.inl fR)))] t.heap ∧ va_K (dC, dI) vwCl [(cI, .int), (cJ, .long), (cZ, .boolean)] t ∧ va_D (va_A [(h0, .inr (2, [.ref qP, .int (nI tl), .ref qW, .int (nI wn), .ref hT])), (qP, .inl (cI, 400, .inl (fun j => nI (tp j)))), (hT, .inr (1, [.ref qT, .ref qL, .ref qR, .int (nI cnt)])), (qT, .inl (cJ, 1792, .inr (.inl fT))), (qL, .inl (cJ, 7, .inr (.inl fL))), (qR, .inl (cJ, 7, .inr (.inl fR)))] sz) [(h0, .inr (2, [.ref qP, .int (nI 0), .ref qW, .int (nI wn), .ref hT])), (qP, .inl (cI, 400, .inl (fun j => nI (tp j)))), (hT, .inr (1, [.ref qT, .ref qL, .ref qR, .int (nI u.1)])), (qT, .inl (cJ, 1792, .inr (.inl u.2.1))), (qL, .inl (cJ, 7, .inr (.inl u.2.2))), (qR, .inl (cJ, 7, .inr (.inl fR)))]) (va_A [(h0, .inr (2, [.ref qP, .int (nI tl), .ref qW, .int (nI wn), .ref hT])), (qP, .inl (cI, 400, .inl (fun j => nI (tp j)))), (hT, .inr (1, [.ref qT, .ref qL, .ref qR, .int (nI cnt)])), (qT, .inl (cJ, 1792, .inr (.inl fT))), (qL, .inl (cJ, 7, .inr (.inl fL))), (qR, .inl (cJ, 7, .inr (.inl fR)))] sz)) 1 4 (va_A [(h0, .inr (2, [.ref qP, .int (nI tl), .ref qW, .int (nI wn), .ref hT])), (qP, .inl (cI, 400, .inl (fun j => nI (tp j)))), (hT, .inr (1, [.ref qT, .ref qL, .ref qR, .int (nI cnt)])), (qT, .inl (cJ, 1792, .inr (.inl fT))), (qL, .inl (cJ, 7, .inr (.inl fL))), (qR, .inl (cJ, 7, .inr (.inl fR)))] sz) := by
  refine Met.ofW (cc := cX2_pattern) (maxL := 2) (ret := (some .int)) (by decide) rfl ?_
  intro p e s m args below meth c s₁ B hml hv
  obtain ⟨rfl, hsz, hP, hK, hD0⟩ := hv
  have hx := B.exec
  have hb := B.bytes
  have hr := B.returns
  have hts := atoms_spec (ws := wsX2_pattern) B.pre
  have hown : s.vm.findClass RX2 = some m.cls := findClass_of_methodNamed B.named
  have hlocks := B.notSynchronized
  subst hsz
  have hD := hD0.self (sz := s.heap.size)
  generalize hAe : va_A [(h0, .inr (2, [.ref qP, .int (nI tl), .ref qW, .int (nI wn), .ref hT])), (qP, .inl (cI, 400, .inl (fun j => nI (tp j)))), (hT, .inr (1, [.ref qT, .ref qL, .ref qR, .int (nI cnt)])), (qT, .inl (cJ, 1792, .inr (.inl fT))), (qL, .inl (cJ, 7, .inr (.inl fL))), (qR, .inl (cJ, 7, .inr (.inl fR)))] s.heap.size = A at hD ⊢
  have hA : ∀ q : Nat, s.heap.size ≤ q → A q := fun q h => by rw [← hAe]; exact Or.inr h
  have hS : va_S A s.heap s.heap [] := va_S.rf
  have hP : va_P (dC, dI) vwCl [(h0, .inr (2, [.ref qP, .int (nI tl), .ref qW, .int (nI wn), .ref hT])), (qP, .inl (cI, 400, .inl (fun j => nI (tp j)))), (hT, .inr (1, [.ref qT, .ref qL, .ref qR, .int (nI cnt)])), (qT, .inl (cJ, 1792, .inr (.inl fT))), (qL, .inl (cJ, 7, .inr (.inl fL))), (qR, .inl (cJ, 7, .inr (.inl fR)))] s.heap := hP
  have hl := lv_entry ([.ref h0]) (n := 2) (Nat.le_of_ble_eq_true rfl)
  rw [lg_entry_eq]
  generalize (lg_sl ([.ref h0]) ++ List.replicate (2 - (lg_sl ([.ref h0])).length) Slot.unset).toArray = ls at hl ⊢
  have hl : lv_has ls 2 [(0, .ref h0)] := hl
  skip
  refine lv_aload_n hx hb dX2_pattern_0 rfl (lv_at hl 0 rfl) ?_
  refine va_get (D := (dC, dI)) (ci := 2) (v := .int (nI tl)) (C := RX2) (T := TX2) (N := 5) hx hb hts (by decide +kernel) hown hK hP 0 rfl rfl 1 (by decide) (hts (.fieldLink RX2 23 "WildCards" "tapeLength" "I") (by decide +kernel)) (fun _ h9 => h9) rfl dX2_pattern_1 ?_
  refine lv_istore_n (lv' := [(1, .int (nI tl)), (0, .ref h0)]) hx hb dX2_pattern_4 rfl hl (by decide) rfl (fun ls hl => ?_)
  refine lv_aload_n hx hb dX2_pattern_5 rfl (lv_at hl 1 rfl) ?_
  refine va_get (D := (dC, dI)) (ci := 2) (v := .ref hT) (C := RX2) (T := TX2) (N := 5) hx hb hts (by decide +kernel) hown hK hP 0 rfl rfl 4 (by decide) (hts (.fieldLink RX2 19 "WildCards" "things" "LWildCards$Things;") (by decide +kernel)) (fun _ h9 => h9) rfl dX2_pattern_6 ?_
  have hPc := hP.sub (ws' := [(hT, .inr (1, [.ref qT, .ref qL, .ref qR, .int (nI cnt)])), (qT, .inl (cJ, 1792, .inr (.inl fT))), (qL, .inl (cJ, 7, .inr (.inl fL))), (qR, .inl (cJ, 7, .inr (.inl fR)))]) [2, 3, 4, 5] rfl
  have hDc := hD.sub (ws' := [(hT, .inr (1, [.ref qT, .ref qL, .ref qR, .int (nI cnt)])), (qT, .inl (cJ, 1792, .inr (.inl fT))), (qL, .inl (cJ, 7, .inr (.inl fL))), (qR, .inl (cJ, 7, .inr (.inl fR)))]) [2, 3, 4, 5] (by decide) rfl
  have hFc := va_free (wc := [(hT, .inr (1, [.ref qT, .ref qL, .ref qR, .int (nI cnt)])), (qT, .inl (cJ, 1792, .inr (.inl fT))), (qL, .inl (cJ, 7, .inr (.inl fL))), (qR, .inl (cJ, 7, .inr (.inl fR)))]) hD hS hA [2, 3, 4, 5] rfl
  refine va_callv (va_runV (As := []) (rest := []) ⟨hx, hb, hml, hown, hts⟩ (c_X1_clear l dC dI cI cJ cZ hT qT qL qR s.heap.size cnt fT fL fR ) (cwV 0 hts gX2_pattern_X1_clear rfl rfl rfl (by decide +kernel) ⟨Nat.le_of_ble_eq_true rfl, Nat.le_of_ble_eq_true rfl⟩) ⟨fun a U g mk q => by obtain ⟨q0, q1, qP, qK, qD⟩ := q; exact ⟨q0, q1, qP, va_K.moved (u := U) (U := U.calling g mk a) (Vm.Alike.refl U.vm) qK, qD⟩, va_recv hK hPc (ci := 1) (q0 := 0) rfl rfl, fun U hU hW => ⟨rfl, by rw [hU], by rw [hU]; exact hPc, va_K.moved hW.alike hK, hDc.weaken (fun _ _ _ _ => trivial)⟩⟩ rfl rfl hl.1 rfl (lv_room (Nat.le_of_ble_eq_true rfl)) dX2_pattern_9 ⟨show 0 + 0 ≤ 1 from by decide, show 0 + 0 ≤ 4 from by decide⟩) hS (fun q _ h => hFc q h) hFc (fun u t H1 locs ht hvm hw9 hB hz1 hk1 hS => ?_)
  obtain ⟨fT29, fL29⟩ := u
  obtain ⟨hP1, hK1, hD1⟩ := hB
  rw [ht] at hP1
  try dsimp only at hw9 hP1 hD1
  obtain ⟨hP, hD⟩ := va_join (wr := [(h0, .inr (2, [.ref qP, .int (nI tl), .ref qW, .int (nI wn), .ref hT])), (qP, .inl (cI, 400, .inl (fun j => nI (tp j))))]) (w1 := [(hT, .inr (1, [.ref qT, .ref qL, .ref qR, .int (nI 0)])), (qT, .inl (cJ, 1792, .inr (.inl fT29))), (qL, .inl (cJ, 7, .inr (.inl fL29))), (qR, .inl (cJ, 7, .inr (.inl fR)))]) hP hD [2, 3, 4, 5] [0, 1] rfl rfl (by decide) (by decide) hk1 hFc hP1 hD1
  generalize H1 = H at hP hS ⊢
  have hP : va_P (dC, dI) vwCl [(h0, .inr (2, [.ref qP, .int (nI tl), .ref qW, .int (nI wn), .ref hT])), (qP, .inl (cI, 400, .inl (fun j => nI (tp j)))), (hT, .inr (1, [.ref qT, .ref qL, .ref qR, .int (nI 0)])), (qT, .inl (cJ, 1792, .inr (.inl fT29))), (qL, .inl (cJ, 7, .inr (.inl fL29))), (qR, .inl (cJ, 7, .inr (.inl fR)))] H := hP
  have hD : va_D A [(h0, .inr (2, [.ref qP, .int (nI tl), .ref qW, .int (nI wn), .ref hT])), (qP, .inl (cI, 400, .inl (fun j => nI (tp j)))), (hT, .inr (1, [.ref qT, .ref qL, .ref qR, .int (nI 0)])), (qT, .inl (cJ, 1792, .inr (.inl fT29))), (qL, .inl (cJ, 7, .inr (.inl fL29))), (qR, .inl (cJ, 7, .inr (.inl fR)))] := hD
  refine va_new (ci := 0) (fs := [.null, .int (nI 0), .null, .int (nI 0)]) (C := RX0) (T := TX0) (N := 4) hx hb hts (by decide +kernel) tyX0 tyX0_ok hown (hts (.classLink RX2 34 RX0) (by decide +kernel)) (hts (.instantiable RX0 4) (by decide +kernel)) (hts (.initialized RX0) (by decide +kernel)) hK hP hD hS hA rfl (fun j hj => by rcases (show j = 0 ∨ j = 1 ∨ j = 2 ∨ j = 3 by omega) with rfl | rfl | rfl | rfl <;> rfl) (show 0 + 0 + 1 ≤ 1 from by decide) (show 0 + 0 + 4 ≤ 4 from by decide) dX2_pattern_12 (fun q12 H hP hD hS => ?_)
  have hP : va_P (dC, dI) vwCl [(h0, .inr (2, [.ref qP, .int (nI tl), .ref qW, .int (nI wn), .ref hT])), (qP, .inl (cI, 400, .inl (fun j => nI (tp j)))), (hT, .inr (1, [.ref qT, .ref qL, .ref qR, .int (nI 0)])), (qT, .inl (cJ, 1792, .inr (.inl fT29))), (qL, .inl (cJ, 7, .inr (.inl fL29))), (qR, .inl (cJ, 7, .inr (.inl fR))), (q12, .inr (0, [.null, .int (nI 0), .null, .int (nI 0)]))] H := hP
  have hD : va_D A [(h0, .inr (2, [.ref qP, .int (nI tl), .ref qW, .int (nI wn), .ref hT])), (qP, .inl (cI, 400, .inl (fun j => nI (tp j)))), (hT, .inr (1, [.ref qT, .ref qL, .ref qR, .int (nI 0)])), (qT, .inl (cJ, 1792, .inr (.inl fT29))), (qL, .inl (cJ, 7, .inr (.inl fL29))), (qR, .inl (cJ, 7, .inr (.inl fR))), (q12, .inr (0, [.null, .int (nI 0), .null, .int (nI 0)]))] := hD
  refine lv_dup hx hb dX2_pattern_15 rfl ?_
  refine lv_aload_n hx hb dX2_pattern_16 rfl (lv_at hl 1 rfl) ?_
  refine va_get (D := (dC, dI)) (ci := 2) (v := .ref qP) (C := RX2) (T := TX2) (N := 5) hx hb hts (by decide +kernel) hown hK hP 0 rfl rfl 0 (by decide) (hts (.fieldLink RX2 9 "WildCards" "tape" "[I") (by decide +kernel)) (fun _ h9 => h9) rfl dX2_pattern_17 ?_
  refine lv_iload_n hx hb dX2_pattern_20 rfl (lv_at hl 0 rfl) ?_
  refine lv_aload_n hx hb dX2_pattern_21 rfl (lv_at hl 1 rfl) ?_
  refine va_get (D := (dC, dI)) (ci := 2) (v := .ref hT) (C := RX2) (T := TX2) (N := 5) hx hb hts (by decide +kernel) hown hK hP 0 rfl rfl 4 (by decide) (hts (.fieldLink RX2 19 "WildCards" "things" "LWildCards$Things;") (by decide +kernel)) (fun _ h9 => h9) rfl dX2_pattern_22 ?_
  have hPc := hP.sub (ws' := [(q12, .inr (0, [.null, .int (nI 0), .null, .int (nI 0)]))]) [6] rfl
  have hDc := hD.sub (ws' := [(q12, .inr (0, [.null, .int (nI 0), .null, .int (nI 0)]))]) [6] (by decide) rfl
  have hFc := va_free (wc := [(q12, .inr (0, [.null, .int (nI 0), .null, .int (nI 0)]))]) hD hS hA [6] rfl
  refine va_callv (va_runI (As := [.ref qP, .int (nI tl), .ref hT]) (rest := [.ref q12]) ⟨hx, hb, hml, hown, hts⟩ (c_X0_init l dC dI cI cJ cZ q12 qP hT H.size tl ) (cwI 3 hts gX2_pattern_X0_init rfl rfl rfl (hts (.initialized RX0) (by decide +kernel)) (hts (.methodLink RX2 36 yX0_init) (by decide +kernel)) (hts (.instanceMethod yX0_init) (by decide +kernel)) rfl (by decide +kernel) ⟨Nat.le_of_ble_eq_true rfl, Nat.le_of_ble_eq_true rfl⟩) ⟨fun a U g mk q => by obtain ⟨q0, q1, qP, qK, qD⟩ := q; exact ⟨q0, q1, qP, va_K.moved (u := U) (U := U.calling g mk a) (Vm.Alike.refl U.vm) qK, qD⟩, fun U hU hW => ⟨rfl, by rw [hU], by rw [hU]; exact hPc, va_K.moved hW.alike hK, hDc.weaken (fun _ _ _ _ => trivial)⟩⟩ rfl rfl hl.1 rfl (lv_room (Nat.le_of_ble_eq_true rfl)) dX2_pattern_25 ⟨show 0 + 0 + 1 + 0 ≤ 1 from by decide, show 0 + 0 + 4 + 0 ≤ 4 from by decide⟩) hS (fun q _ h => hFc q h) hFc (fun u t H1 locs ht hvm hw25 hB hz1 hk1 hS => ?_)
  obtain ⟨hP1, hK1, hD1⟩ := hB
  rw [ht] at hP1
  try dsimp only at hw25 hP1 hD1
  obtain ⟨hP, hD⟩ := va_join (wr := [(h0, .inr (2, [.ref qP, .int (nI tl), .ref qW, .int (nI wn), .ref hT])), (qP, .inl (cI, 400, .inl (fun j => nI (tp j)))), (hT, .inr (1, [.ref qT, .ref qL, .ref qR, .int (nI 0)])), (qT, .inl (cJ, 1792, .inr (.inl fT29))), (qL, .inl (cJ, 7, .inr (.inl fL29))), (qR, .inl (cJ, 7, .inr (.inl fR)))]) (w1 := [(q12, .inr (0, [.ref qP, .int (nI tl), .ref hT, .int (nI 0)]))]) hP hD [6] [0, 1, 2, 3, 4, 5] rfl rfl (by decide) (by decide) hk1 hFc hP1 hD1
  generalize H1 = H at hP hS ⊢
  have hP : va_P (dC, dI) vwCl [(h0, .inr (2, [.ref qP, .int (nI tl), .ref qW, .int (nI wn), .ref hT])), (qP, .inl (cI, 400, .inl (fun j => nI (tp j)))), (hT, .inr (1, [.ref qT, .ref qL, .ref qR, .int (nI 0)])), (qT, .inl (cJ, 1792, .inr (.inl fT29))), (qL, .inl (cJ, 7, .inr (.inl fL29))), (qR, .inl (cJ, 7, .inr (.inl fR))), (q12, .inr (0, [.ref qP, .int (nI tl), .ref hT, .int (nI 0)]))] H := hP
  have hD : va_D A [(h0, .inr (2, [.ref qP, .int (nI tl), .ref qW, .int (nI wn), .ref hT])), (qP, .inl (cI, 400, .inl (fun j => nI (tp j)))), (hT, .inr (1, [.ref qT, .ref qL, .ref qR, .int (nI 0)])), (qT, .inl (cJ, 1792, .inr (.inl fT29))), (qL, .inl (cJ, 7, .inr (.inl fL29))), (qR, .inl (cJ, 7, .inr (.inl fR))), (q12, .inr (0, [.ref qP, .int (nI tl), .ref hT, .int (nI 0)]))] := hD
  have hPc := hP.sub (ws' := [(q12, .inr (0, [.ref qP, .int (nI tl), .ref hT, .int (nI 0)])), (qP, .inl (cI, 400, .inl (fun j => nI (tp j)))), (hT, .inr (1, [.ref qT, .ref qL, .ref qR, .int (nI 0)])), (qT, .inl (cJ, 1792, .inr (.inl fT29))), (qL, .inl (cJ, 7, .inr (.inl fL29))), (qR, .inl (cJ, 7, .inr (.inl fR)))]) [6, 1, 2, 3, 4, 5] rfl
  have hDc := hD.sub (ws' := [(q12, .inr (0, [.ref qP, .int (nI tl), .ref hT, .int (nI 0)])), (qP, .inl (cI, 400, .inl (fun j => nI (tp j)))), (hT, .inr (1, [.ref qT, .ref qL, .ref qR, .int (nI 0)])), (qT, .inl (cJ, 1792, .inr (.inl fT29))), (qL, .inl (cJ, 7, .inr (.inl fL29))), (qR, .inl (cJ, 7, .inr (.inl fR)))]) [6, 1, 2, 3, 4, 5] (by decide) rfl
  have hFc := va_free (wc := [(q12, .inr (0, [.ref qP, .int (nI tl), .ref hT, .int (nI 0)])), (qP, .inl (cI, 400, .inl (fun j => nI (tp j)))), (hT, .inr (1, [.ref qT, .ref qL, .ref qR, .int (nI 0)])), (qT, .inl (cJ, 1792, .inr (.inl fT29))), (qL, .inl (cJ, 7, .inr (.inl fL29))), (qR, .inl (cJ, 7, .inr (.inl fR)))]) hD hS hA [6, 1, 2, 3, 4, 5] rfl
  refine va_callv (va_runV (As := []) (rest := []) ⟨hx, hb, hml, hown, hts⟩ (c_X0_readAll l dC dI cI cJ cZ q12 qP hT qT qL qR H.size tl tp fT29 fL29 fR htl htp (TR_nil hw9.1 hw9.2)) (cwV 0 hts gX2_pattern_X0_readAll rfl rfl rfl (by decide +kernel) ⟨Nat.le_of_ble_eq_true rfl, Nat.le_of_ble_eq_true rfl⟩) ⟨fun a U g mk q => by obtain ⟨q0, q1, qP, qK, qD⟩ := q; exact ⟨q0, q1, qP, va_K.moved (u := U) (U := U.calling g mk a) (Vm.Alike.refl U.vm) qK, qD⟩, va_recv hK hPc (ci := 0) (q0 := 0) rfl rfl, fun U hU hW => ⟨rfl, by rw [hU], by rw [hU]; exact hPc, va_K.moved hW.alike hK, hDc.weaken (fun _ _ _ _ => trivial)⟩⟩ rfl rfl hl.1 rfl (lv_room (Nat.le_of_ble_eq_true rfl)) dX2_pattern_28 ⟨show 0 + 0 + 1 + 0 + 0 ≤ 1 from by decide, show 0 + 0 + 4 + 0 + 0 ≤ 4 from by decide⟩) hS (fun q _ h => hFc q h) hFc (fun u t H1 locs ht hvm hw28 hB hz1 hk1 hS => ?_)
  obtain ⟨ix228, cnt228, fT228, fL228⟩ := u
  obtain ⟨hP1, hK1, hD1⟩ := hB
  rw [ht] at hP1
  try dsimp only at hw28 hP1 hD1
  obtain ⟨hP, hD⟩ := va_join (wr := [(h0, .inr (2, [.ref qP, .int (nI tl), .ref qW, .int (nI wn), .ref hT]))]) (w1 := [(q12, .inr (0, [.ref qP, .int (nI tl), .ref hT, .int (nI ix228)])), (qP, .inl (cI, 400, .inl (fun j => nI (tp j)))), (hT, .inr (1, [.ref qT, .ref qL, .ref qR, .int (nI cnt228)])), (qT, .inl (cJ, 1792, .inr (.inl fT228))), (qL, .inl (cJ, 7, .inr (.inl fL228))), (qR, .inl (cJ, 7, .inr (.inl fR)))]) hP hD [6, 1, 2, 3, 4, 5] [0] rfl rfl (by decide) (by decide) hk1 hFc hP1 hD1
  generalize H1 = H at hP hS ⊢
  have hP : va_P (dC, dI) vwCl [(h0, .inr (2, [.ref qP, .int (nI tl), .ref qW, .int (nI wn), .ref hT])), (q12, .inr (0, [.ref qP, .int (nI tl), .ref hT, .int (nI ix228)])), (qP, .inl (cI, 400, .inl (fun j => nI (tp j)))), (hT, .inr (1, [.ref qT, .ref qL, .ref qR, .int (nI cnt228)])), (qT, .inl (cJ, 1792, .inr (.inl fT228))), (qL, .inl (cJ, 7, .inr (.inl fL228))), (qR, .inl (cJ, 7, .inr (.inl fR)))] H := hP
  have hD : va_D A [(h0, .inr (2, [.ref qP, .int (nI tl), .ref qW, .int (nI wn), .ref hT])), (q12, .inr (0, [.ref qP, .int (nI tl), .ref hT, .int (nI ix228)])), (qP, .inl (cI, 400, .inl (fun j => nI (tp j)))), (hT, .inr (1, [.ref qT, .ref qL, .ref qR, .int (nI cnt228)])), (qT, .inl (cJ, 1792, .inr (.inl fT228))), (qL, .inl (cJ, 7, .inr (.inl fL228))), (qR, .inl (cJ, 7, .inr (.inl fR)))] := hD
  refine lv_aload_n hx hb dX2_pattern_31 rfl (lv_at hl 1 rfl) ?_
  refine lv_iconst (v := nI 0) hx hb dX2_pattern_32 (by decide) ?_
  refine va_put (D := (dC, dI)) (ci := 2) (v := .int (nI 0)) (ty := .int) (C := RX2) (T := TX2) (N := 5) hx hb hts (by decide +kernel) tyX2 tyX2_ok nmX2 hown hK hP hD hS 0 rfl rfl 1 (by decide) (hts (.fieldLink RX2 23 "WildCards" "tapeLength" "I") (by decide +kernel)) (fun _ h9 => h9) rfl (by decide +kernel) rfl rfl (Nat.le_of_ble_eq_true rfl) dX2_pattern_33 (fun H locs hP hD hS => ?_)
  have hP : va_P (dC, dI) vwCl [(h0, .inr (2, [.ref qP, .int (nI 0), .ref qW, .int (nI wn), .ref hT])), (q12, .inr (0, [.ref qP, .int (nI tl), .ref hT, .int (nI ix228)])), (qP, .inl (cI, 400, .inl (fun j => nI (tp j)))), (hT, .inr (1, [.ref qT, .ref qL, .ref qR, .int (nI cnt228)])), (qT, .inl (cJ, 1792, .inr (.inl fT228))), (qL, .inl (cJ, 7, .inr (.inl fL228))), (qR, .inl (cJ, 7, .inr (.inl fR)))] H := hP
  have hD : va_D A [(h0, .inr (2, [.ref qP, .int (nI 0), .ref qW, .int (nI wn), .ref hT])), (q12, .inr (0, [.ref qP, .int (nI tl), .ref hT, .int (nI ix228)])), (qP, .inl (cI, 400, .inl (fun j => nI (tp j)))), (hT, .inr (1, [.ref qT, .ref qL, .ref qR, .int (nI cnt228)])), (qT, .inl (cJ, 1792, .inr (.inl fT228))), (qL, .inl (cJ, 7, .inr (.inl fL228))), (qR, .inl (cJ, 7, .inr (.inl fR)))] := hD
  refine lv_iload_n hx hb dX2_pattern_36 rfl (lv_at hl 0 rfl) ?_
  have hP9 := hP.sub (ws' := [(h0, .inr (2, [.ref qP, .int (nI 0), .ref qW, .int (nI wn), .ref hT])), (qP, .inl (cI, 400, .inl (fun j => nI (tp j)))), (hT, .inr (1, [.ref qT, .ref qL, .ref qR, .int (nI cnt228)])), (qT, .inl (cJ, 1792, .inr (.inl fT228))), (qL, .inl (cJ, 7, .inr (.inl fL228))), (qR, .inl (cJ, 7, .inr (.inl fR)))]) [0, 2, 3, 4, 5, 6] rfl
  have hD9 := hD.sub (ws' := [(h0, .inr (2, [.ref qP, .int (nI 0), .ref qW, .int (nI wn), .ref hT])), (qP, .inl (cI, 400, .inl (fun j => nI (tp j)))), (hT, .inr (1, [.ref qT, .ref qL, .ref qR, .int (nI cnt228)])), (qT, .inl (cJ, 1792, .inr (.inl fT228))), (qL, .inl (cJ, 7, .inr (.inl fL228))), (qR, .inl (cJ, 7, .inr (.inl fR)))]) [0, 2, 3, 4, 5, 6] (by decide) rfl
  refine W.widen (k := 1) (n := 4) (by omega) (by omega) ?_
  exact W.iret (v := nI tl) hx hb hr  (fun t ht hW => ⟨⟨nI tl, (cnt228, fT228, fL228), rfl, (show (nI tl) = nI tl ∧ TR (ths tp tl tl 0) fT228 fL228 cnt228 ∧ cnt228 ≤ 400 from ⟨rfl, hw28.1, hw28.2⟩), by rw [ht]; exact hP9, va_K.moved hW.alike hK, hD9⟩, hS.F ht⟩) hS.2.2 dX2_pattern_37
end
section
set_option maxHeartbeats 4000000 in
set_option maxRecDepth 100000 in
theorem c_X2_word (l : Launch) (dC : Nat → ClassId) (dI : Nat → Nat → Nat) (cI cJ cZ : ClassId) (h0 qP qW hT : Nat) (sz : Nat) (tl : Nat) (wn : Nat) (tp : Nat → Nat) (lt : Nat → Nat) (htl : tl ≤ 400) : Met l yX2_word wsX2_word ({ frames := 1, cells := 0, slots := 0, locals := 40 }) (va_Pc [.ref h0] (fun U => U.heap.size = sz ∧ va_P (dC, dI) vwCl [(h0, .inr (2, [.ref qP, .int (nI tl), .ref qW, .int (nI wn), .ref hT])), (qP, .inl (cI, 400, .inl (fun j => nI (tp j)))), (qW, .inl (cI, 400, .inl (fun j => nI (lt j))))] U.heap ∧ va_K (dC, dI) vwCl [(cI, .int), (cJ, .long), (cZ, .boolean)] U ∧ va_D (fun _ => True) [(h0, .inr (2, [.ref qP, .int (nI tl), .ref qW, .int (nI wn), .ref hT])), (qP, .inl (cI, 400, .inl (fun j => nI (tp j)))), (qW, .inl (cI, 400, .inl (fun j => nI (lt j))))])) (va_Qi (fun (r : Int32) (u : Unit) => r = nI tl) (fun (u : Unit) (t : State) => va_P (dC, dI) vwCl [(h0, .inr (2, [.ref qP, .int (nI 0), .ref qW, .int (nI tl), .ref hT])), (qP, .inl (cI, 400, .inl (fun j => nI (tp j)))), (qW, .inl (cI, 400, .inl (fun j => nI ((va_cpy tp lt 0 0 tl) j))))] t.heap ∧ va_K (dC, dI) vwCl [(cI, .int), (cJ, .long), (cZ, .boolean)] t ∧ va_D (va_A [(h0, .inr (2, [.ref qP, .int (nI tl), .ref qW, .int (nI wn), .ref hT])), (qP, .inl (cI, 400, .inl (fun j => nI (tp j)))), (qW, .inl (cI, 400, .inl (fun j => nI (lt j))))] sz) [(h0, .inr (2, [.ref qP, .int (nI 0), .ref qW, .int (nI tl), .ref hT])), (qP, .inl (cI, 400, .inl (fun j => nI (tp j)))), (qW, .inl (cI, 400, .inl (fun j => nI ((va_cpy tp lt 0 0 tl) j))))]) (va_A [(h0, .inr (2, [.ref qP, .int (nI tl), .ref qW, .int (nI wn), .ref hT])), (qP, .inl (cI, 400, .inl (fun j => nI (tp j)))), (qW, .inl (cI, 400, .inl (fun j => nI (lt j))))] sz)) 0 0 (va_A [(h0, .inr (2, [.ref qP, .int (nI tl), .ref qW, .int (nI wn), .ref hT])), (qP, .inl (cI, 400, .inl (fun j => nI (tp j)))), (qW, .inl (cI, 400, .inl (fun j => nI (lt j))))] sz) := by
  refine Met.ofW (cc := cX2_word) (maxL := 2) (ret := (some .int)) (by decide) rfl ?_
  intro p e s m args below meth c s₁ B hml hv
  obtain ⟨rfl, hsz, hP, hK, hD0⟩ := hv
  have hx := B.exec
  have hb := B.bytes
  have hr := B.returns
  have hts := atoms_spec (ws := wsX2_word) B.pre
  have hown : s.vm.findClass RX2 = some m.cls := findClass_of_methodNamed B.named
  have hlocks := B.notSynchronized
  subst hsz
  have hD := hD0.self (sz := s.heap.size)
  generalize hAe : va_A [(h0, .inr (2, [.ref qP, .int (nI tl), .ref qW, .int (nI wn), .ref hT])), (qP, .inl (cI, 400, .inl (fun j => nI (tp j)))), (qW, .inl (cI, 400, .inl (fun j => nI (lt j))))] s.heap.size = A at hD ⊢
  have hA : ∀ q : Nat, s.heap.size ≤ q → A q := fun q h => by rw [← hAe]; exact Or.inr h
  have hS : va_S A s.heap s.heap [] := va_S.rf
  have hP : va_P (dC, dI) vwCl [(h0, .inr (2, [.ref qP, .int (nI tl), .ref qW, .int (nI wn), .ref hT])), (qP, .inl (cI, 400, .inl (fun j => nI (tp j)))), (qW, .inl (cI, 400, .inl (fun j => nI (lt j))))] s.heap := hP
  have hl := lv_entry ([.ref h0]) (n := 2) (Nat.le_of_ble_eq_true rfl)
  rw [lg_entry_eq]
  generalize (lg_sl ([.ref h0]) ++ List.replicate (2 - (lg_sl ([.ref h0])).length) Slot.unset).toArray = ls at hl ⊢
  have hl : lv_has ls 2 [(0, .ref h0)] := hl
  skip
  refine lv_aload_n hx hb dX2_word_0 rfl (lv_at hl 0 rfl) ?_
  refine va_get (D := (dC, dI)) (ci := 2) (v := .int (nI tl)) (C := RX2) (T := TX2) (N := 5) hx hb hts (by decide +kernel) hown hK hP 0 rfl rfl 1 (by decide) (hts (.fieldLink RX2 23 "WildCards" "tapeLength" "I") (by decide +kernel)) (fun _ h9 => h9) rfl dX2_word_1 ?_
  refine lv_istore_n (lv' := [(1, .int (nI tl)), (0, .ref h0)]) hx hb dX2_word_4 rfl hl (by decide) rfl (fun ls hl => ?_)
  refine lv_aload_n hx hb dX2_word_5 rfl (lv_at hl 1 rfl) ?_
  refine va_get (D := (dC, dI)) (ci := 2) (v := .ref qP) (C := RX2) (T := TX2) (N := 5) hx hb hts (by decide +kernel) hown hK hP 0 rfl rfl 0 (by decide) (hts (.fieldLink RX2 9 "WildCards" "tape" "[I") (by decide +kernel)) (fun _ h9 => h9) rfl dX2_word_6 ?_
  refine lv_iconst (v := nI 0) hx hb dX2_word_9 (by decide) ?_
  refine lv_aload_n hx hb dX2_word_10 rfl (lv_at hl 1 rfl) ?_
  refine va_get (D := (dC, dI)) (ci := 2) (v := .ref qW) (C := RX2) (T := TX2) (N := 5) hx hb hts (by decide +kernel) hown hK hP 0 rfl rfl 2 (by decide) (hts (.fieldLink RX2 13 "WildCards" "letters" "[I") (by decide +kernel)) (fun _ h9 => h9) rfl dX2_word_11 ?_
  refine lv_iconst (v := nI 0) hx hb dX2_word_14 (by decide) ?_
  refine lv_iload_n hx hb dX2_word_15 rfl (lv_at hl 0 rfl) ?_
  refine va_copyi (ty := .int) hx hb (by rw [hml]; exact hl.1.symm) hown (hts (.methodLink RX2 42 arraycopyName) (by decide +kernel)) (hts (.native arraycopyName) (by decide +kernel)) (hts (.static arraycopyName) (by decide +kernel)) (hts (.initialized "java/lang/System") (by decide +kernel)) hK hP hD hS 1 2 0 0 rfl rfl rfl rfl rfl (nI_pos (by omega)) (nI_pos (by omega)) (nI_pos (by omega)) (by rw [nI_clamp (by omega), nI_clamp (by omega)]; omega) (by rw [nI_clamp (by omega), nI_clamp (by omega)]; omega) (fun i hi => rfl) (Nat.le_of_ble_eq_true rfl) (Nat.le_of_ble_eq_true rfl) dX2_word_16 (fun H locs hP hD hS => ?_)
  simp only [nI_clamp (show 0 < 2 ^ 31 by omega), nI_clamp (show 0 < 2 ^ 31 by omega), nI_clamp (show tl < 2 ^ 31 by omega)] at hP hD
  rw [wl_cpyN] at hP hD
  have hP : va_P (dC, dI) vwCl [(h0, .inr (2, [.ref qP, .int (nI tl), .ref qW, .int (nI wn), .ref hT])), (qP, .inl (cI, 400, .inl (fun j => nI (tp j)))), (qW, .inl (cI, 400, .inl (fun j => nI ((va_cpy tp lt 0 0 tl) j))))] H := hP
  have hD : va_D A [(h0, .inr (2, [.ref qP, .int (nI tl), .ref qW, .int (nI wn), .ref hT])), (qP, .inl (cI, 400, .inl (fun j => nI (tp j)))), (qW, .inl (cI, 400, .inl (fun j => nI ((va_cpy tp lt 0 0 tl) j))))] := hD
  refine lv_aload_n hx hb dX2_word_19 rfl (lv_at hl 1 rfl) ?_
  refine lv_iload_n hx hb dX2_word_20 rfl (lv_at hl 0 rfl) ?_
  refine va_put (D := (dC, dI)) (ci := 2) (v := .int (nI tl)) (ty := .int) (C := RX2) (T := TX2) (N := 5) hx hb hts (by decide +kernel) tyX2 tyX2_ok nmX2 hown hK hP hD hS 0 rfl rfl 3 (by decide) (hts (.fieldLink RX2 48 "WildCards" "letterCount" "I") (by decide +kernel)) (fun _ h9 => h9) rfl (by decide +kernel) rfl rfl (Nat.le_of_ble_eq_true rfl) dX2_word_21 (fun H locs hP hD hS => ?_)
  have hP : va_P (dC, dI) vwCl [(h0, .inr (2, [.ref qP, .int (nI tl), .ref qW, .int (nI tl), .ref hT])), (qP, .inl (cI, 400, .inl (fun j => nI (tp j)))), (qW, .inl (cI, 400, .inl (fun j => nI ((va_cpy tp lt 0 0 tl) j))))] H := hP
  have hD : va_D A [(h0, .inr (2, [.ref qP, .int (nI tl), .ref qW, .int (nI tl), .ref hT])), (qP, .inl (cI, 400, .inl (fun j => nI (tp j)))), (qW, .inl (cI, 400, .inl (fun j => nI ((va_cpy tp lt 0 0 tl) j))))] := hD
  refine lv_aload_n hx hb dX2_word_24 rfl (lv_at hl 1 rfl) ?_
  refine lv_iconst (v := nI 0) hx hb dX2_word_25 (by decide) ?_
  refine va_put (D := (dC, dI)) (ci := 2) (v := .int (nI 0)) (ty := .int) (C := RX2) (T := TX2) (N := 5) hx hb hts (by decide +kernel) tyX2 tyX2_ok nmX2 hown hK hP hD hS 0 rfl rfl 1 (by decide) (hts (.fieldLink RX2 23 "WildCards" "tapeLength" "I") (by decide +kernel)) (fun _ h9 => h9) rfl (by decide +kernel) rfl rfl (Nat.le_of_ble_eq_true rfl) dX2_word_26 (fun H locs hP hD hS => ?_)
  have hP : va_P (dC, dI) vwCl [(h0, .inr (2, [.ref qP, .int (nI 0), .ref qW, .int (nI tl), .ref hT])), (qP, .inl (cI, 400, .inl (fun j => nI (tp j)))), (qW, .inl (cI, 400, .inl (fun j => nI ((va_cpy tp lt 0 0 tl) j))))] H := hP
  have hD : va_D A [(h0, .inr (2, [.ref qP, .int (nI 0), .ref qW, .int (nI tl), .ref hT])), (qP, .inl (cI, 400, .inl (fun j => nI (tp j)))), (qW, .inl (cI, 400, .inl (fun j => nI ((va_cpy tp lt 0 0 tl) j))))] := hD
  refine lv_iload_n hx hb dX2_word_29 rfl (lv_at hl 0 rfl) ?_
  have hP9 := hP.sub (ws' := [(h0, .inr (2, [.ref qP, .int (nI 0), .ref qW, .int (nI tl), .ref hT])), (qP, .inl (cI, 400, .inl (fun j => nI (tp j)))), (qW, .inl (cI, 400, .inl (fun j => nI ((va_cpy tp lt 0 0 tl) j))))]) [0, 1, 2] rfl
  have hD9 := hD.sub (ws' := [(h0, .inr (2, [.ref qP, .int (nI 0), .ref qW, .int (nI tl), .ref hT])), (qP, .inl (cI, 400, .inl (fun j => nI (tp j)))), (qW, .inl (cI, 400, .inl (fun j => nI ((va_cpy tp lt 0 0 tl) j))))]) [0, 1, 2] (by decide) rfl
  exact W.iret (v := nI tl) hx hb hr  (fun t ht hW => ⟨⟨nI tl, (), rfl, (show (nI tl) = nI tl from rfl), by rw [ht]; exact hP9, va_K.moved hW.alike hK, hD9⟩, hS.F ht⟩) hS.2.2 dX2_word_30
end
section
set_option maxHeartbeats 4000000 in
set_option maxRecDepth 100000 in
theorem c_X2_lettersFit (l : Launch) (dC : Nat → ClassId) (dI : Nat → Nat → Nat) (cI cJ cZ : ClassId) (h0 qP qW hT qT qL qR : Nat) (sz : Nat) (tl : Nat) (wn : Nat) (lt : Nat → Nat) (cnt : Nat) (fT : Nat → Int64) (fL : Nat → Int64) (fR : Nat → Int64) (ts : List (Option (Nat → Bool))) (fr : Nat) (bh : Nat) (hTR : TR ts fT fL cnt) (hc : cnt ≤ 400) (hwn : wn ≤ 400) (hlt : ∀ j, j < wn → lt j < 256) (hfr : fr ≤ bh) (hbh : bh ≤ wn) : Met l yX2_lettersFit wsX2_lettersFit ({ frames := 2, cells := 0, slots := 0, locals := 44 }) (va_Pc [.ref h0, .int (nI fr), .int (nI bh)] (fun U => U.heap.size = sz ∧ va_P (dC, dI) vwCl [(h0, .inr (2, [.ref qP, .int (nI tl), .ref qW, .int (nI wn), .ref hT])), (qW, .inl (cI, 400, .inl (fun j => nI (lt j)))), (hT, .inr (1, [.ref qT, .ref qL, .ref qR, .int (nI cnt)])), (qT, .inl (cJ, 1792, .inr (.inl fT))), (qL, .inl (cJ, 7, .inr (.inl fL))), (qR, .inl (cJ, 7, .inr (.inl fR)))] U.heap ∧ va_K (dC, dI) vwCl [(cI, .int), (cJ, .long), (cZ, .boolean)] U ∧ va_D (fun _ => True) [(h0, .inr (2, [.ref qP, .int (nI tl), .ref qW, .int (nI wn), .ref hT])), (qW, .inl (cI, 400, .inl (fun j => nI (lt j)))), (hT, .inr (1, [.ref qT, .ref qL, .ref qR, .int (nI cnt)])), (qT, .inl (cJ, 1792, .inr (.inl fT))), (qL, .inl (cJ, 7, .inr (.inl fL))), (qR, .inl (cJ, 7, .inr (.inl fR)))])) (va_Qi (fun (r : Int32) (u : (Nat → Int64)) => r = if fz ts (fun j => lt (fr + j)) (bh - fr) = true then 1 else 0) (fun (u : (Nat → Int64)) (t : State) => va_P (dC, dI) vwCl [(h0, .inr (2, [.ref qP, .int (nI tl), .ref qW, .int (nI wn), .ref hT])), (qW, .inl (cI, 400, .inl (fun j => nI (lt j)))), (hT, .inr (1, [.ref qT, .ref qL, .ref qR, .int (nI cnt)])), (qT, .inl (cJ, 1792, .inr (.inl fT))), (qL, .inl (cJ, 7, .inr (.inl fL))), (qR, .inl (cJ, 7, .inr (.inl u)))] t.heap ∧ va_K (dC, dI) vwCl [(cI, .int), (cJ, .long), (cZ, .boolean)] t ∧ va_D (va_A [(h0, .inr (2, [.ref qP, .int (nI tl), .ref qW, .int (nI wn), .ref hT])), (qW, .inl (cI, 400, .inl (fun j => nI (lt j)))), (hT, .inr (1, [.ref qT, .ref qL, .ref qR, .int (nI cnt)])), (qT, .inl (cJ, 1792, .inr (.inl fT))), (qL, .inl (cJ, 7, .inr (.inl fL))), (qR, .inl (cJ, 7, .inr (.inl fR)))] sz) [(h0, .inr (2, [.ref qP, .int (nI tl), .ref qW, .int (nI wn), .ref hT])), (qW, .inl (cI, 400, .inl (fun j => nI (lt j)))), (hT, .inr (1, [.ref qT, .ref qL, .ref qR, .int (nI cnt)])), (qT, .inl (cJ, 1792, .inr (.inl fT))), (qL, .inl (cJ, 7, .inr (.inl fL))), (qR, .inl (cJ, 7, .inr (.inl u)))]) (va_A [(h0, .inr (2, [.ref qP, .int (nI tl), .ref qW, .int (nI wn), .ref hT])), (qW, .inl (cI, 400, .inl (fun j => nI (lt j)))), (hT, .inr (1, [.ref qT, .ref qL, .ref qR, .int (nI cnt)])), (qT, .inl (cJ, 1792, .inr (.inl fT))), (qL, .inl (cJ, 7, .inr (.inl fL))), (qR, .inl (cJ, 7, .inr (.inl fR)))] sz)) 0 0 (va_A [(h0, .inr (2, [.ref qP, .int (nI tl), .ref qW, .int (nI wn), .ref hT])), (qW, .inl (cI, 400, .inl (fun j => nI (lt j)))), (hT, .inr (1, [.ref qT, .ref qL, .ref qR, .int (nI cnt)])), (qT, .inl (cJ, 1792, .inr (.inl fT))), (qL, .inl (cJ, 7, .inr (.inl fL))), (qR, .inl (cJ, 7, .inr (.inl fR)))] sz) := by
  refine Met.ofW (cc := cX2_lettersFit) (maxL := 4) (ret := (some .boolean)) (by decide) rfl ?_
  intro p e s m args below meth c s₁ B hml hv
  obtain ⟨rfl, hsz, hP, hK, hD0⟩ := hv
  have hx := B.exec
  have hb := B.bytes
  have hr := B.returns
  have hts := atoms_spec (ws := wsX2_lettersFit) B.pre
  have hown : s.vm.findClass RX2 = some m.cls := findClass_of_methodNamed B.named
  have hlocks := B.notSynchronized
  subst hsz
  have hD := hD0.self (sz := s.heap.size)
  generalize hAe : va_A [(h0, .inr (2, [.ref qP, .int (nI tl), .ref qW, .int (nI wn), .ref hT])), (qW, .inl (cI, 400, .inl (fun j => nI (lt j)))), (hT, .inr (1, [.ref qT, .ref qL, .ref qR, .int (nI cnt)])), (qT, .inl (cJ, 1792, .inr (.inl fT))), (qL, .inl (cJ, 7, .inr (.inl fL))), (qR, .inl (cJ, 7, .inr (.inl fR)))] s.heap.size = A at hD ⊢
  have hA : ∀ q : Nat, s.heap.size ≤ q → A q := fun q h => by rw [← hAe]; exact Or.inr h
  have hS : va_S A s.heap s.heap [] := va_S.rf
  have hP : va_P (dC, dI) vwCl [(h0, .inr (2, [.ref qP, .int (nI tl), .ref qW, .int (nI wn), .ref hT])), (qW, .inl (cI, 400, .inl (fun j => nI (lt j)))), (hT, .inr (1, [.ref qT, .ref qL, .ref qR, .int (nI cnt)])), (qT, .inl (cJ, 1792, .inr (.inl fT))), (qL, .inl (cJ, 7, .inr (.inl fL))), (qR, .inl (cJ, 7, .inr (.inl fR)))] s.heap := hP
  have hl := lv_entry ([.ref h0, .int (nI fr), .int (nI bh)]) (n := 4) (Nat.le_of_ble_eq_true rfl)
  rw [lg_entry_eq]
  generalize (lg_sl ([.ref h0, .int (nI fr), .int (nI bh)]) ++ List.replicate (4 - (lg_sl ([.ref h0, .int (nI fr), .int (nI bh)])).length) Slot.unset).toArray = ls at hl ⊢
  have hl : lv_has ls 4 [(0, .ref h0), (1, .int (nI fr)), (2, .int (nI bh))] := hl
  skip
  refine lv_aload_n hx hb dX2_lettersFit_0 rfl (lv_at hl 0 rfl) ?_
  refine va_get (D := (dC, dI)) (ci := 2) (v := .ref hT) (C := RX2) (T := TX2) (N := 5) hx hb hts (by decide +kernel) hown hK hP 0 rfl rfl 4 (by decide) (hts (.fieldLink RX2 19 "WildCards" "things" "LWildCards$Things;") (by decide +kernel)) (fun _ h9 => h9) rfl dX2_lettersFit_1 ?_
  have hPc := hP.sub (ws' := [(hT, .inr (1, [.ref qT, .ref qL, .ref qR, .int (nI cnt)])), (qT, .inl (cJ, 1792, .inr (.inl fT))), (qL, .inl (cJ, 7, .inr (.inl fL))), (qR, .inl (cJ, 7, .inr (.inl fR)))]) [2, 3, 4, 5] rfl
  have hDc := hD.sub (ws' := [(hT, .inr (1, [.ref qT, .ref qL, .ref qR, .int (nI cnt)])), (qT, .inl (cJ, 1792, .inr (.inl fT))), (qL, .inl (cJ, 7, .inr (.inl fL))), (qR, .inl (cJ, 7, .inr (.inl fR)))]) [2, 3, 4, 5] (by decide) rfl
  have hFc := va_free (wc := [(hT, .inr (1, [.ref qT, .ref qL, .ref qR, .int (nI cnt)])), (qT, .inl (cJ, 1792, .inr (.inl fT))), (qL, .inl (cJ, 7, .inr (.inl fL))), (qR, .inl (cJ, 7, .inr (.inl fR)))]) hD hS hA [2, 3, 4, 5] rfl
  refine va_callv (va_runV (As := []) (rest := []) ⟨hx, hb, hml, hown, hts⟩ (c_X1_start l dC dI cI cJ cZ hT qT qL qR s.heap.size cnt fT fL fR ) (cwV 0 hts gX2_lettersFit_X1_start rfl rfl rfl (by decide +kernel) ⟨Nat.le_of_ble_eq_true rfl, Nat.le_of_ble_eq_true rfl⟩) ⟨fun a U g mk q => by obtain ⟨q0, q1, qP, qK, qD⟩ := q; exact ⟨q0, q1, qP, va_K.moved (u := U) (U := U.calling g mk a) (Vm.Alike.refl U.vm) qK, qD⟩, va_recv hK hPc (ci := 1) (q0 := 0) rfl rfl, fun U hU hW => ⟨rfl, by rw [hU], by rw [hU]; exact hPc, va_K.moved hW.alike hK, hDc.weaken (fun _ _ _ _ => trivial)⟩⟩ rfl rfl hl.1 rfl (lv_room (Nat.le_of_ble_eq_true rfl)) dX2_lettersFit_4 ⟨show 0 + 0 ≤ 0 from by decide, show 0 + 0 ≤ 0 from by decide⟩) hS (fun q _ h => hFc q h) hFc (fun u t H1 locs ht hvm hw4 hB hz1 hk1 hS => ?_)
  obtain ⟨fR24, rfl⟩ : ∃ z, z = u := ⟨_, rfl⟩
  obtain ⟨hP1, hK1, hD1⟩ := hB
  rw [ht] at hP1
  try dsimp only at hw4 hP1 hD1
  obtain ⟨hP, hD⟩ := va_join (wr := [(h0, .inr (2, [.ref qP, .int (nI tl), .ref qW, .int (nI wn), .ref hT])), (qW, .inl (cI, 400, .inl (fun j => nI (lt j))))]) (w1 := [(hT, .inr (1, [.ref qT, .ref qL, .ref qR, .int (nI cnt)])), (qT, .inl (cJ, 1792, .inr (.inl fT))), (qL, .inl (cJ, 7, .inr (.inl fL))), (qR, .inl (cJ, 7, .inr (.inl fR24)))]) hP hD [2, 3, 4, 5] [0, 1] rfl rfl (by decide) (by decide) hk1 hFc hP1 hD1
  generalize H1 = H at hP hS ⊢
  have hP : va_P (dC, dI) vwCl [(h0, .inr (2, [.ref qP, .int (nI tl), .ref qW, .int (nI wn), .ref hT])), (qW, .inl (cI, 400, .inl (fun j => nI (lt j)))), (hT, .inr (1, [.ref qT, .ref qL, .ref qR, .int (nI cnt)])), (qT, .inl (cJ, 1792, .inr (.inl fT))), (qL, .inl (cJ, 7, .inr (.inl fL))), (qR, .inl (cJ, 7, .inr (.inl fR24)))] H := hP
  have hD : va_D A [(h0, .inr (2, [.ref qP, .int (nI tl), .ref qW, .int (nI wn), .ref hT])), (qW, .inl (cI, 400, .inl (fun j => nI (lt j)))), (hT, .inr (1, [.ref qT, .ref qL, .ref qR, .int (nI cnt)])), (qT, .inl (cJ, 1792, .inr (.inl fT))), (qL, .inl (cJ, 7, .inr (.inl fL))), (qR, .inl (cJ, 7, .inr (.inl fR24)))] := hD
  refine lv_iload_n hx hb dX2_lettersFit_7 rfl (lv_at hl 1 rfl) ?_
  refine lv_istore_n (lv' := [(3, .int (nI fr)), (0, .ref h0), (1, .int (nI fr)), (2, .int (nI bh))]) hx hb dX2_lettersFit_8 rfl hl (by decide) rfl (fun ls hl => ?_)
  refine wl_loop (σ := Nat × (Nat → Int64)) (fun z9 => bh - z9.1) (fun z9 H locs ls => (fr ≤ z9.1) ∧ (z9.1 ≤ bh) ∧ (∀ k, k < 448 → lb z9.2 k = rch (tT ts) (tL ts) (fun j => lt (fr + j)) (z9.1 - fr) k) ∧ va_P (dC, dI) vwCl [(h0, .inr (2, [.ref qP, .int (nI tl), .ref qW, .int (nI wn), .ref hT])), (qW, .inl (cI, 400, .inl (fun j => nI (lt j)))), (hT, .inr (1, [.ref qT, .ref qL, .ref qR, .int (nI cnt)])), (qT, .inl (cJ, 1792, .inr (.inl fT))), (qL, .inl (cJ, 7, .inr (.inl fL))), (qR, .inl (cJ, 7, .inr (.inl z9.2)))] H ∧ va_D A [(h0, .inr (2, [.ref qP, .int (nI tl), .ref qW, .int (nI wn), .ref hT])), (qW, .inl (cI, 400, .inl (fun j => nI (lt j)))), (hT, .inr (1, [.ref qT, .ref qL, .ref qR, .int (nI cnt)])), (qT, .inl (cJ, 1792, .inr (.inl fT))), (qL, .inl (cJ, 7, .inr (.inl fL))), (qR, .inl (cJ, 7, .inr (.inl z9.2)))] ∧ va_S A s.heap H locs ∧ lv_has ls 4 [(0, .ref h0), (1, .int (nI fr)), (2, .int (nI bh)), (3, .int (nI z9.1))]) ?_ (fr, fR24) ⟨(show fr ≤ fr from Nat.le_refl _), (show fr ≤ bh from hfr), (show ∀ k, k < 448 → lb fR24 k = rch (tT ts) (tL ts) (fun j => lt (fr + j)) (fr - fr) k from fun k hk => by rw [hw4 k hk, Nat.sub_self]; rfl), hP.sub [0, 1, 2, 3, 4, 5] rfl, hD.sub [0, 1, 2, 3, 4, 5] (by decide) rfl, hS, lv_sub hl [1, 2, 3, 0] rfl⟩
  intro z9 H locs ls hI ih9
  obtain ⟨i, g⟩ := z9
  obtain ⟨hi1, hi2, hg, hP, hD, hS, hl⟩ := hI
  try dsimp only at hi1 hi2 hg hP hD hl
  have hP : va_P (dC, dI) vwCl [(h0, .inr (2, [.ref qP, .int (nI tl), .ref qW, .int (nI wn), .ref hT])), (qW, .inl (cI, 400, .inl (fun j => nI (lt j)))), (hT, .inr (1, [.ref qT, .ref qL, .ref qR, .int (nI cnt)])), (qT, .inl (cJ, 1792, .inr (.inl fT))), (qL, .inl (cJ, 7, .inr (.inl fL))), (qR, .inl (cJ, 7, .inr (.inl g)))] H := hP
  have hD : va_D A [(h0, .inr (2, [.ref qP, .int (nI tl), .ref qW, .int (nI wn), .ref hT])), (qW, .inl (cI, 400, .inl (fun j => nI (lt j)))), (hT, .inr (1, [.ref qT, .ref qL, .ref qR, .int (nI cnt)])), (qT, .inl (cJ, 1792, .inr (.inl fT))), (qL, .inl (cJ, 7, .inr (.inl fL))), (qR, .inl (cJ, 7, .inr (.inl g)))] := hD
  have hl : lv_has ls 4 [(0, .ref h0), (1, .int (nI fr)), (2, .int (nI bh)), (3, .int (nI i))] := hl
  refine lv_iload_n hx hb dX2_lettersFit_9 rfl (lv_at hl 3 rfl) ?_
  refine lv_iload_n hx hb dX2_lettersFit_10 rfl (lv_at hl 2 rfl) ?_
  refine wl_icmp_ge (tgt := 33) hx hb dX2_lettersFit_11 (by decide) (by omega) (by omega) (fun c11 => ?_) (fun c11 => ?_)
  · skip
    refine lv_aload_n hx hb dX2_lettersFit_33 rfl (lv_at hl 0 rfl) ?_
    refine va_get (D := (dC, dI)) (ci := 2) (v := .ref hT) (C := RX2) (T := TX2) (N := 5) hx hb hts (by decide +kernel) hown hK hP 0 rfl rfl 4 (by decide) (hts (.fieldLink RX2 19 "WildCards" "things" "LWildCards$Things;") (by decide +kernel)) (fun _ h9 => h9) rfl dX2_lettersFit_34 ?_
    have hPc := hP.sub (ws' := [(hT, .inr (1, [.ref qT, .ref qL, .ref qR, .int (nI cnt)])), (qT, .inl (cJ, 1792, .inr (.inl fT))), (qL, .inl (cJ, 7, .inr (.inl fL))), (qR, .inl (cJ, 7, .inr (.inl g)))]) [2, 3, 4, 5] rfl
    have hDc := hD.sub (ws' := [(hT, .inr (1, [.ref qT, .ref qL, .ref qR, .int (nI cnt)])), (qT, .inl (cJ, 1792, .inr (.inl fT))), (qL, .inl (cJ, 7, .inr (.inl fL))), (qR, .inl (cJ, 7, .inr (.inl g)))]) [2, 3, 4, 5] (by decide) rfl
    have hFc := va_free (wc := [(hT, .inr (1, [.ref qT, .ref qL, .ref qR, .int (nI cnt)])), (qT, .inl (cJ, 1792, .inr (.inl fT))), (qL, .inl (cJ, 7, .inr (.inl fL))), (qR, .inl (cJ, 7, .inr (.inl g)))]) hD hS hA [2, 3, 4, 5] rfl
    refine va_calli (va_runV (As := []) (rest := []) ⟨hx, hb, hml, hown, hts⟩ (c_X1_endIsReached l dC dI cI cJ cZ hT qT qL qR H.size cnt fT fL g (by omega)) (cwV 0 hts gX2_lettersFit_X1_endIsReached rfl rfl rfl (by decide +kernel) ⟨Nat.le_of_ble_eq_true rfl, Nat.le_of_ble_eq_true rfl⟩) ⟨fun a U g mk q => by obtain ⟨q0, q1, qP, qK, qD⟩ := q; exact ⟨q0, q1, qP, va_K.moved (u := U) (U := U.calling g mk a) (Vm.Alike.refl U.vm) qK, qD⟩, va_recv hK hPc (ci := 1) (q0 := 0) rfl rfl, fun U hU hW => ⟨rfl, by rw [hU], by rw [hU]; exact hPc, va_K.moved hW.alike hK, hDc.weaken (fun _ _ _ _ => trivial)⟩⟩ rfl rfl hl.1 rfl (lv_room (Nat.le_of_ble_eq_true rfl)) dX2_lettersFit_37 ⟨show 0 + 0 + 0 ≤ 0 from by decide, show 0 + 0 + 0 ≤ 0 from by decide⟩) hS (fun q _ h => hFc q h) hFc (fun r37 u t H1 locs ht hvm hw37 hB hz1 hk1 hS => ?_)
    obtain ⟨hP1, hK1, hD1⟩ := hB
    rw [ht] at hP1
    try dsimp only at hw37 hP1 hD1
    obtain ⟨hP, hD⟩ := va_join (wr := [(h0, .inr (2, [.ref qP, .int (nI tl), .ref qW, .int (nI wn), .ref hT])), (qW, .inl (cI, 400, .inl (fun j => nI (lt j))))]) (w1 := [(hT, .inr (1, [.ref qT, .ref qL, .ref qR, .int (nI cnt)])), (qT, .inl (cJ, 1792, .inr (.inl fT))), (qL, .inl (cJ, 7, .inr (.inl fL))), (qR, .inl (cJ, 7, .inr (.inl g)))]) hP hD [2, 3, 4, 5] [0, 1] rfl rfl (by decide) (by decide) hk1 hFc hP1 hD1
    generalize H1 = H at hP hS ⊢
    have hP : va_P (dC, dI) vwCl [(h0, .inr (2, [.ref qP, .int (nI tl), .ref qW, .int (nI wn), .ref hT])), (qW, .inl (cI, 400, .inl (fun j => nI (lt j)))), (hT, .inr (1, [.ref qT, .ref qL, .ref qR, .int (nI cnt)])), (qT, .inl (cJ, 1792, .inr (.inl fT))), (qL, .inl (cJ, 7, .inr (.inl fL))), (qR, .inl (cJ, 7, .inr (.inl g)))] H := hP
    have hD : va_D A [(h0, .inr (2, [.ref qP, .int (nI tl), .ref qW, .int (nI wn), .ref hT])), (qW, .inl (cI, 400, .inl (fun j => nI (lt j)))), (hT, .inr (1, [.ref qT, .ref qL, .ref qR, .int (nI cnt)])), (qT, .inl (cJ, 1792, .inr (.inl fT))), (qL, .inl (cJ, 7, .inr (.inl fL))), (qR, .inl (cJ, 7, .inr (.inl g)))] := hD
    have hP9 := hP.sub (ws' := [(h0, .inr (2, [.ref qP, .int (nI tl), .ref qW, .int (nI wn), .ref hT])), (qW, .inl (cI, 400, .inl (fun j => nI (lt j)))), (hT, .inr (1, [.ref qT, .ref qL, .ref qR, .int (nI cnt)])), (qT, .inl (cJ, 1792, .inr (.inl fT))), (qL, .inl (cJ, 7, .inr (.inl fL))), (qR, .inl (cJ, 7, .inr (.inl g)))]) [0, 1, 2, 3, 4, 5] rfl
    have hD9 := hD.sub (ws' := [(h0, .inr (2, [.ref qP, .int (nI tl), .ref qW, .int (nI wn), .ref hT])), (qW, .inl (cI, 400, .inl (fun j => nI (lt j)))), (hT, .inr (1, [.ref qT, .ref qL, .ref qR, .int (nI cnt)])), (qT, .inl (cJ, 1792, .inr (.inl fT))), (qL, .inl (cJ, 7, .inr (.inl fL))), (qR, .inl (cJ, 7, .inr (.inl g)))]) [0, 1, 2, 3, 4, 5] (by decide) rfl
    exact W.zret (v := r37) hx hb hr (wl_bool hw37) (fun t ht hW => ⟨⟨r37, g, rfl, (show r37 = if fz ts (fun j => lt (fr + j)) (bh - fr) = true then 1 else 0 from by rw [hw37, RC_e hTR hc hg, show i - fr = bh - fr by omega]), by rw [ht]; exact hP9, va_K.moved hW.alike hK, hD9⟩, hS.F ht⟩) hS.2.2 dX2_lettersFit_40
  · skip
    have h8 := hlt i (by omega)
    refine lv_aload_n hx hb dX2_lettersFit_14 rfl (lv_at hl 0 rfl) ?_
    refine va_get (D := (dC, dI)) (ci := 2) (v := .ref hT) (C := RX2) (T := TX2) (N := 5) hx hb hts (by decide +kernel) hown hK hP 0 rfl rfl 4 (by decide) (hts (.fieldLink RX2 19 "WildCards" "things" "LWildCards$Things;") (by decide +kernel)) (fun _ h9 => h9) rfl dX2_lettersFit_15 ?_
    refine lv_aload_n hx hb dX2_lettersFit_18 rfl (lv_at hl 0 rfl) ?_
    refine va_get (D := (dC, dI)) (ci := 2) (v := .ref qW) (C := RX2) (T := TX2) (N := 5) hx hb hts (by decide +kernel) hown hK hP 0 rfl rfl 2 (by decide) (hts (.fieldLink RX2 13 "WildCards" "letters" "[I") (by decide +kernel)) (fun _ h9 => h9) rfl dX2_lettersFit_19 ?_
    refine lv_iload_n hx hb dX2_lettersFit_22 rfl (lv_at hl 3 rfl) ?_
    refine va_iald hx hb hK hP 1 0 rfl rfl (vp_in_nI (by omega) (by omega)) dX2_lettersFit_23 ?_
    refine wl_asi (y := nI (lt i)) (by rw [nI_clamp (by omega)]) ?_
    have hPc := hP.sub (ws' := [(hT, .inr (1, [.ref qT, .ref qL, .ref qR, .int (nI cnt)])), (qT, .inl (cJ, 1792, .inr (.inl fT))), (qL, .inl (cJ, 7, .inr (.inl fL))), (qR, .inl (cJ, 7, .inr (.inl g)))]) [2, 3, 4, 5] rfl
    have hDc := hD.sub (ws' := [(hT, .inr (1, [.ref qT, .ref qL, .ref qR, .int (nI cnt)])), (qT, .inl (cJ, 1792, .inr (.inl fT))), (qL, .inl (cJ, 7, .inr (.inl fL))), (qR, .inl (cJ, 7, .inr (.inl g)))]) [2, 3, 4, 5] (by decide) rfl
    have hFc := va_free (wc := [(hT, .inr (1, [.ref qT, .ref qL, .ref qR, .int (nI cnt)])), (qT, .inl (cJ, 1792, .inr (.inl fT))), (qL, .inl (cJ, 7, .inr (.inl fL))), (qR, .inl (cJ, 7, .inr (.inl g)))]) hD hS hA [2, 3, 4, 5] rfl
    refine va_callv (va_runV (As := [.int (nI (lt i))]) (rest := []) ⟨hx, hb, hml, hown, hts⟩ (c_X1_step l dC dI cI cJ cZ hT qT qL qR H.size cnt fT fL g (lt i) h8) (cwV 1 hts gX2_lettersFit_X1_step rfl rfl rfl (by decide +kernel) ⟨Nat.le_of_ble_eq_true rfl, Nat.le_of_ble_eq_true rfl⟩) ⟨fun a U g mk q => by obtain ⟨q0, q1, qP, qK, qD⟩ := q; exact ⟨q0, q1, qP, va_K.moved (u := U) (U := U.calling g mk a) (Vm.Alike.refl U.vm) qK, qD⟩, va_recv hK hPc (ci := 1) (q0 := 0) rfl rfl, fun U hU hW => ⟨rfl, by rw [hU], by rw [hU]; exact hPc, va_K.moved hW.alike hK, hDc.weaken (fun _ _ _ _ => trivial)⟩⟩ rfl rfl hl.1 rfl (lv_room (Nat.le_of_ble_eq_true rfl)) dX2_lettersFit_24 ⟨show 0 + 0 + 0 ≤ 0 from by decide, show 0 + 0 + 0 ≤ 0 from by decide⟩) hS (fun q _ h => hFc q h) hFc (fun u t H1 locs ht hvm hw24 hB hz1 hk1 hS => ?_)
    obtain ⟨fR224, rfl⟩ : ∃ z, z = u := ⟨_, rfl⟩
    obtain ⟨hP1, hK1, hD1⟩ := hB
    rw [ht] at hP1
    try dsimp only at hw24 hP1 hD1
    obtain ⟨hP, hD⟩ := va_join (wr := [(h0, .inr (2, [.ref qP, .int (nI tl), .ref qW, .int (nI wn), .ref hT])), (qW, .inl (cI, 400, .inl (fun j => nI (lt j))))]) (w1 := [(hT, .inr (1, [.ref qT, .ref qL, .ref qR, .int (nI cnt)])), (qT, .inl (cJ, 1792, .inr (.inl fT))), (qL, .inl (cJ, 7, .inr (.inl fL))), (qR, .inl (cJ, 7, .inr (.inl fR224)))]) hP hD [2, 3, 4, 5] [0, 1] rfl rfl (by decide) (by decide) hk1 hFc hP1 hD1
    generalize H1 = H at hP hS ⊢
    have hP : va_P (dC, dI) vwCl [(h0, .inr (2, [.ref qP, .int (nI tl), .ref qW, .int (nI wn), .ref hT])), (qW, .inl (cI, 400, .inl (fun j => nI (lt j)))), (hT, .inr (1, [.ref qT, .ref qL, .ref qR, .int (nI cnt)])), (qT, .inl (cJ, 1792, .inr (.inl fT))), (qL, .inl (cJ, 7, .inr (.inl fL))), (qR, .inl (cJ, 7, .inr (.inl fR224)))] H := hP
    have hD : va_D A [(h0, .inr (2, [.ref qP, .int (nI tl), .ref qW, .int (nI wn), .ref hT])), (qW, .inl (cI, 400, .inl (fun j => nI (lt j)))), (hT, .inr (1, [.ref qT, .ref qL, .ref qR, .int (nI cnt)])), (qT, .inl (cJ, 1792, .inr (.inl fT))), (qL, .inl (cJ, 7, .inr (.inl fL))), (qR, .inl (cJ, 7, .inr (.inl fR224)))] := hD
    refine lv_iinc (v := nI (i + 1)) (lv' := [(3, .int (nI (i + 1))), (0, .ref h0), (1, .int (nI fr)), (2, .int (nI bh))]) hx hb dX2_lettersFit_27 hl (k := 3) rfl (wl_inc _ _ (by decide)) (by decide) rfl (fun ls hl => ?_)
    refine lv_goto (tgt := 9) hx hb dX2_lettersFit_30 (by decide) ?_
    exact ih9 (i + 1, fR224) H locs ls ⟨(show fr ≤ (i + 1) from by omega), (show (i + 1) ≤ bh from by omega), (show ∀ k, k < 448 → lb fR224 k = rch (tT ts) (tL ts) (fun j => lt (fr + j)) ((i + 1) - fr) k from fun k hk => by rw [show i + 1 - fr = (i - fr) + 1 by omega]; exact RC_s hTR hg (by show lt i = lt (fr + (i - fr)); rw [show fr + (i - fr) = i by omega]) h8 hw24 k hk), hP.sub [0, 1, 2, 3, 4, 5] rfl, hD.sub [0, 1, 2, 3, 4, 5] (by decide) rfl, hS, lv_sub hl [1, 2, 3, 0] rfl⟩ (by (try dsimp only); omega)
end
section
set_option maxHeartbeats 4000000 in
set_option maxRecDepth 100000 in
theorem c_X2_fits (l : Launch) (dC : Nat → ClassId) (dI : Nat → Nat → Nat) (cI cJ cZ : ClassId) (h0 qP qW hT qT qL qR : Nat) (sz : Nat) (tl : Nat) (wn : Nat) (lt : Nat → Nat) (cnt : Nat) (fT : Nat → Int64) (fL : Nat → Int64) (fR : Nat → Int64) (ts : List (Option (Nat → Bool))) (hTR : TR ts fT fL cnt) (hc : cnt ≤ 400) (hwn : wn ≤ 400) (hlt : ∀ j, j < wn → lt j < 256) : Met l yX2_fits wsX2_fits ({ frames := 3, cells := 0, slots := 0, locals := 67 }) (va_Pc [.ref h0] (fun U => U.heap.size = sz ∧ va_P (dC, dI) vwCl [(h0, .inr (2, [.ref qP, .int (nI tl), .ref qW, .int (nI wn), .ref hT])), (qW, .inl (cI, 400, .inl (fun j => nI (lt j)))), (hT, .inr (1, [.ref qT, .ref qL, .ref qR, .int (nI cnt)])), (qT, .inl (cJ, 1792, .inr (.inl fT))), (qL, .inl (cJ, 7, .inr (.inl fL))), (qR, .inl (cJ, 7, .inr (.inl fR)))] U.heap ∧ va_K (dC, dI) vwCl [(cI, .int), (cJ, .long), (cZ, .boolean)] U ∧ va_D (fun _ => True) [(h0, .inr (2, [.ref qP, .int (nI tl), .ref qW, .int (nI wn), .ref hT])), (qW, .inl (cI, 400, .inl (fun j => nI (lt j)))), (hT, .inr (1, [.ref qT, .ref qL, .ref qR, .int (nI cnt)])), (qT, .inl (cJ, 1792, .inr (.inl fT))), (qL, .inl (cJ, 7, .inr (.inl fL))), (qR, .inl (cJ, 7, .inr (.inl fR)))])) (va_Qi (fun (r : Int32) (u : (Nat → Int64)) => r = if fz ts (fun j => lt (0 + j)) (wn - 0) = true then 1 else 0) (fun (u : (Nat → Int64)) (t : State) => va_P (dC, dI) vwCl [(h0, .inr (2, [.ref qP, .int (nI tl), .ref qW, .int (nI wn), .ref hT])), (qW, .inl (cI, 400, .inl (fun j => nI (lt j)))), (hT, .inr (1, [.ref qT, .ref qL, .ref qR, .int (nI cnt)])), (qT, .inl (cJ, 1792, .inr (.inl fT))), (qL, .inl (cJ, 7, .inr (.inl fL))), (qR, .inl (cJ, 7, .inr (.inl u)))] t.heap ∧ va_K (dC, dI) vwCl [(cI, .int), (cJ, .long), (cZ, .boolean)] t ∧ va_D (va_A [(h0, .inr (2, [.ref qP, .int (nI tl), .ref qW, .int (nI wn), .ref hT])), (qW, .inl (cI, 400, .inl (fun j => nI (lt j)))), (hT, .inr (1, [.ref qT, .ref qL, .ref qR, .int (nI cnt)])), (qT, .inl (cJ, 1792, .inr (.inl fT))), (qL, .inl (cJ, 7, .inr (.inl fL))), (qR, .inl (cJ, 7, .inr (.inl fR)))] sz) [(h0, .inr (2, [.ref qP, .int (nI tl), .ref qW, .int (nI wn), .ref hT])), (qW, .inl (cI, 400, .inl (fun j => nI (lt j)))), (hT, .inr (1, [.ref qT, .ref qL, .ref qR, .int (nI cnt)])), (qT, .inl (cJ, 1792, .inr (.inl fT))), (qL, .inl (cJ, 7, .inr (.inl fL))), (qR, .inl (cJ, 7, .inr (.inl u)))]) (va_A [(h0, .inr (2, [.ref qP, .int (nI tl), .ref qW, .int (nI wn), .ref hT])), (qW, .inl (cI, 400, .inl (fun j => nI (lt j)))), (hT, .inr (1, [.ref qT, .ref qL, .ref qR, .int (nI cnt)])), (qT, .inl (cJ, 1792, .inr (.inl fT))), (qL, .inl (cJ, 7, .inr (.inl fL))), (qR, .inl (cJ, 7, .inr (.inl fR)))] sz)) 0 0 (va_A [(h0, .inr (2, [.ref qP, .int (nI tl), .ref qW, .int (nI wn), .ref hT])), (qW, .inl (cI, 400, .inl (fun j => nI (lt j)))), (hT, .inr (1, [.ref qT, .ref qL, .ref qR, .int (nI cnt)])), (qT, .inl (cJ, 1792, .inr (.inl fT))), (qL, .inl (cJ, 7, .inr (.inl fL))), (qR, .inl (cJ, 7, .inr (.inl fR)))] sz) := by
  refine Met.ofW (cc := cX2_fits) (maxL := 1) (ret := (some .boolean)) (by decide) rfl ?_
  intro p e s m args below meth c s₁ B hml hv
  obtain ⟨rfl, hsz, hP, hK, hD0⟩ := hv
  have hx := B.exec
  have hb := B.bytes
  have hr := B.returns
  have hts := atoms_spec (ws := wsX2_fits) B.pre
  have hown : s.vm.findClass RX2 = some m.cls := findClass_of_methodNamed B.named
  have hlocks := B.notSynchronized
  subst hsz
  have hD := hD0.self (sz := s.heap.size)
  generalize hAe : va_A [(h0, .inr (2, [.ref qP, .int (nI tl), .ref qW, .int (nI wn), .ref hT])), (qW, .inl (cI, 400, .inl (fun j => nI (lt j)))), (hT, .inr (1, [.ref qT, .ref qL, .ref qR, .int (nI cnt)])), (qT, .inl (cJ, 1792, .inr (.inl fT))), (qL, .inl (cJ, 7, .inr (.inl fL))), (qR, .inl (cJ, 7, .inr (.inl fR)))] s.heap.size = A at hD ⊢
  have hA : ∀ q : Nat, s.heap.size ≤ q → A q := fun q h => by rw [← hAe]; exact Or.inr h
  have hS : va_S A s.heap s.heap [] := va_S.rf
  have hP : va_P (dC, dI) vwCl [(h0, .inr (2, [.ref qP, .int (nI tl), .ref qW, .int (nI wn), .ref hT])), (qW, .inl (cI, 400, .inl (fun j => nI (lt j)))), (hT, .inr (1, [.ref qT, .ref qL, .ref qR, .int (nI cnt)])), (qT, .inl (cJ, 1792, .inr (.inl fT))), (qL, .inl (cJ, 7, .inr (.inl fL))), (qR, .inl (cJ, 7, .inr (.inl fR)))] s.heap := hP
  have hl := lv_entry ([.ref h0]) (n := 1) (Nat.le_of_ble_eq_true rfl)
  rw [lg_entry_eq]
  generalize (lg_sl ([.ref h0]) ++ List.replicate (1 - (lg_sl ([.ref h0])).length) Slot.unset).toArray = ls at hl ⊢
  have hl : lv_has ls 1 [(0, .ref h0)] := hl
  skip
  refine lv_aload_n hx hb dX2_fits_0 rfl (lv_at hl 0 rfl) ?_
  refine lv_iconst (v := nI 0) hx hb dX2_fits_1 (by decide) ?_
  refine lv_aload_n hx hb dX2_fits_2 rfl (lv_at hl 0 rfl) ?_
  refine va_get (D := (dC, dI)) (ci := 2) (v := .int (nI wn)) (C := RX2) (T := TX2) (N := 5) hx hb hts (by decide +kernel) hown hK hP 0 rfl rfl 3 (by decide) (hts (.fieldLink RX2 48 "WildCards" "letterCount" "I") (by decide +kernel)) (fun _ h9 => h9) rfl dX2_fits_3 ?_
  have hPc := hP.sub (ws' := [(h0, .inr (2, [.ref qP, .int (nI tl), .ref qW, .int (nI wn), .ref hT])), (qW, .inl (cI, 400, .inl (fun j => nI (lt j)))), (hT, .inr (1, [.ref qT, .ref qL, .ref qR, .int (nI cnt)])), (qT, .inl (cJ, 1792, .inr (.inl fT))), (qL, .inl (cJ, 7, .inr (.inl fL))), (qR, .inl (cJ, 7, .inr (.inl fR)))]) [0, 1, 2, 3, 4, 5] rfl
  have hDc := hD.sub (ws' := [(h0, .inr (2, [.ref qP, .int (nI tl), .ref qW, .int (nI wn), .ref hT])), (qW, .inl (cI, 400, .inl (fun j => nI (lt j)))), (hT, .inr (1, [.ref qT, .ref qL, .ref qR, .int (nI cnt)])), (qT, .inl (cJ, 1792, .inr (.inl fT))), (qL, .inl (cJ, 7, .inr (.inl fL))), (qR, .inl (cJ, 7, .inr (.inl fR)))]) [0, 1, 2, 3, 4, 5] (by decide) rfl
  have hFc := va_free (wc := [(h0, .inr (2, [.ref qP, .int (nI tl), .ref qW, .int (nI wn), .ref hT])), (qW, .inl (cI, 400, .inl (fun j => nI (lt j)))), (hT, .inr (1, [.ref qT, .ref qL, .ref qR, .int (nI cnt)])), (qT, .inl (cJ, 1792, .inr (.inl fT))), (qL, .inl (cJ, 7, .inr (.inl fL))), (qR, .inl (cJ, 7, .inr (.inl fR)))]) hD hS hA [0, 1, 2, 3, 4, 5] rfl
  refine va_calli (va_runV (As := [.int (nI 0), .int (nI wn)]) (rest := []) ⟨hx, hb, hml, hown, hts⟩ (c_X2_lettersFit l dC dI cI cJ cZ h0 qP qW hT qT qL qR s.heap.size tl wn lt cnt fT fL fR ts 0 wn hTR hc hwn hlt (Nat.zero_le _) (Nat.le_refl _)) (cwV 2 hts gX2_fits_X2_lettersFit rfl rfl rfl (by decide +kernel) ⟨Nat.le_of_ble_eq_true rfl, Nat.le_of_ble_eq_true rfl⟩) ⟨fun a U g mk q => by obtain ⟨q0, q1, qP, qK, qD⟩ := q; exact ⟨q0, q1, qP, va_K.moved (u := U) (U := U.calling g mk a) (Vm.Alike.refl U.vm) qK, qD⟩, va_recv hK hPc (ci := 2) (q0 := 0) rfl rfl, fun U hU hW => ⟨rfl, by rw [hU], by rw [hU]; exact hPc, va_K.moved hW.alike hK, hDc.weaken (fun _ _ _ _ => trivial)⟩⟩ rfl rfl hl.1 rfl (lv_room (Nat.le_of_ble_eq_true rfl)) dX2_fits_6 ⟨show 0 + 0 ≤ 0 from by decide, show 0 + 0 ≤ 0 from by decide⟩) hS (fun q _ h => hFc q h) hFc (fun r6 u t H1 locs ht hvm hw6 hB hz1 hk1 hS => ?_)
  obtain ⟨fR26, rfl⟩ : ∃ z, z = u := ⟨_, rfl⟩
  obtain ⟨hP1, hK1, hD1⟩ := hB
  rw [ht] at hP1
  try dsimp only at hw6 hP1 hD1
  obtain ⟨hP, hD⟩ := va_join (wr := []) (w1 := [(h0, .inr (2, [.ref qP, .int (nI tl), .ref qW, .int (nI wn), .ref hT])), (qW, .inl (cI, 400, .inl (fun j => nI (lt j)))), (hT, .inr (1, [.ref qT, .ref qL, .ref qR, .int (nI cnt)])), (qT, .inl (cJ, 1792, .inr (.inl fT))), (qL, .inl (cJ, 7, .inr (.inl fL))), (qR, .inl (cJ, 7, .inr (.inl fR26)))]) hP hD [0, 1, 2, 3, 4, 5] [] rfl rfl (by decide) (by decide) hk1 hFc hP1 hD1
  generalize H1 = H at hP hS ⊢
  have hP : va_P (dC, dI) vwCl [(h0, .inr (2, [.ref qP, .int (nI tl), .ref qW, .int (nI wn), .ref hT])), (qW, .inl (cI, 400, .inl (fun j => nI (lt j)))), (hT, .inr (1, [.ref qT, .ref qL, .ref qR, .int (nI cnt)])), (qT, .inl (cJ, 1792, .inr (.inl fT))), (qL, .inl (cJ, 7, .inr (.inl fL))), (qR, .inl (cJ, 7, .inr (.inl fR26)))] H := hP
  have hD : va_D A [(h0, .inr (2, [.ref qP, .int (nI tl), .ref qW, .int (nI wn), .ref hT])), (qW, .inl (cI, 400, .inl (fun j => nI (lt j)))), (hT, .inr (1, [.ref qT, .ref qL, .ref qR, .int (nI cnt)])), (qT, .inl (cJ, 1792, .inr (.inl fT))), (qL, .inl (cJ, 7, .inr (.inl fL))), (qR, .inl (cJ, 7, .inr (.inl fR26)))] := hD
  have hP9 := hP.sub (ws' := [(h0, .inr (2, [.ref qP, .int (nI tl), .ref qW, .int (nI wn), .ref hT])), (qW, .inl (cI, 400, .inl (fun j => nI (lt j)))), (hT, .inr (1, [.ref qT, .ref qL, .ref qR, .int (nI cnt)])), (qT, .inl (cJ, 1792, .inr (.inl fT))), (qL, .inl (cJ, 7, .inr (.inl fL))), (qR, .inl (cJ, 7, .inr (.inl fR26)))]) [0, 1, 2, 3, 4, 5] rfl
  have hD9 := hD.sub (ws' := [(h0, .inr (2, [.ref qP, .int (nI tl), .ref qW, .int (nI wn), .ref hT])), (qW, .inl (cI, 400, .inl (fun j => nI (lt j)))), (hT, .inr (1, [.ref qT, .ref qL, .ref qR, .int (nI cnt)])), (qT, .inl (cJ, 1792, .inr (.inl fT))), (qL, .inl (cJ, 7, .inr (.inl fL))), (qR, .inl (cJ, 7, .inr (.inl fR26)))]) [0, 1, 2, 3, 4, 5] (by decide) rfl
  exact W.zret (v := r6) hx hb hr (wl_bool hw6) (fun t ht hW => ⟨⟨r6, fR26, rfl, (show r6 = if fz ts (fun j => lt (0 + j)) (wn - 0) = true then 1 else 0 from hw6), by rw [ht]; exact hP9, va_K.moved hW.alike hK, hD9⟩, hS.F ht⟩) hS.2.2 dX2_fits_9
end
section
set_option maxHeartbeats 4000000 in
set_option maxRecDepth 100000 in
theorem c_X2_fitsPart (l : Launch) (dC : Nat → ClassId) (dI : Nat → Nat → Nat) (cI cJ cZ : ClassId) (h0 qP qW hT qT qL qR : Nat) (sz : Nat) (tl : Nat) (wn : Nat) (lt : Nat → Nat) (cnt : Nat) (fT : Nat → Int64) (fL : Nat → Int64) (fR : Nat → Int64) (ts : List (Option (Nat → Bool))) (f : Int32) (n : Int32) (hTR : TR ts fT fL cnt) (hc : cnt ≤ 400) (hwn : wn ≤ 400) (hlt : ∀ j, j < wn → lt j < 256) : Met l yX2_fitsPart wsX2_fitsPart ({ frames := 3, cells := 0, slots := 0, locals := 67 }) (va_Pc [.ref h0, .int f, .int n] (fun U => U.heap.size = sz ∧ va_P (dC, dI) vwCl [(h0, .inr (2, [.ref qP, .int (nI tl), .ref qW, .int (nI wn), .ref hT])), (qW, .inl (cI, 400, .inl (fun j => nI (lt j)))), (hT, .inr (1, [.ref qT, .ref qL, .ref qR, .int (nI cnt)])), (qT, .inl (cJ, 1792, .inr (.inl fT))), (qL, .inl (cJ, 7, .inr (.inl fL))), (qR, .inl (cJ, 7, .inr (.inl fR)))] U.heap ∧ va_K (dC, dI) vwCl [(cI, .int), (cJ, .long), (cZ, .boolean)] U ∧ va_D (fun _ => True) [(h0, .inr (2, [.ref qP, .int (nI tl), .ref qW, .int (nI wn), .ref hT])), (qW, .inl (cI, 400, .inl (fun j => nI (lt j)))), (hT, .inr (1, [.ref qT, .ref qL, .ref qR, .int (nI cnt)])), (qT, .inl (cJ, 1792, .inr (.inl fT))), (qL, .inl (cJ, 7, .inr (.inl fL))), (qR, .inl (cJ, 7, .inr (.inl fR)))])) (va_Qi (fun (r : Int32) (u : (Nat → Int64)) => r = if (okp f n wn && fz ts (fun j => lt (f.toNatClampNeg + j)) n.toNatClampNeg) = true then 1 else 0) (fun (u : (Nat → Int64)) (t : State) => va_P (dC, dI) vwCl [(h0, .inr (2, [.ref qP, .int (nI tl), .ref qW, .int (nI wn), .ref hT])), (qW, .inl (cI, 400, .inl (fun j => nI (lt j)))), (hT, .inr (1, [.ref qT, .ref qL, .ref qR, .int (nI cnt)])), (qT, .inl (cJ, 1792, .inr (.inl fT))), (qL, .inl (cJ, 7, .inr (.inl fL))), (qR, .inl (cJ, 7, .inr (.inl u)))] t.heap ∧ va_K (dC, dI) vwCl [(cI, .int), (cJ, .long), (cZ, .boolean)] t ∧ va_D (va_A [(h0, .inr (2, [.ref qP, .int (nI tl), .ref qW, .int (nI wn), .ref hT])), (qW, .inl (cI, 400, .inl (fun j => nI (lt j)))), (hT, .inr (1, [.ref qT, .ref qL, .ref qR, .int (nI cnt)])), (qT, .inl (cJ, 1792, .inr (.inl fT))), (qL, .inl (cJ, 7, .inr (.inl fL))), (qR, .inl (cJ, 7, .inr (.inl fR)))] sz) [(h0, .inr (2, [.ref qP, .int (nI tl), .ref qW, .int (nI wn), .ref hT])), (qW, .inl (cI, 400, .inl (fun j => nI (lt j)))), (hT, .inr (1, [.ref qT, .ref qL, .ref qR, .int (nI cnt)])), (qT, .inl (cJ, 1792, .inr (.inl fT))), (qL, .inl (cJ, 7, .inr (.inl fL))), (qR, .inl (cJ, 7, .inr (.inl u)))]) (va_A [(h0, .inr (2, [.ref qP, .int (nI tl), .ref qW, .int (nI wn), .ref hT])), (qW, .inl (cI, 400, .inl (fun j => nI (lt j)))), (hT, .inr (1, [.ref qT, .ref qL, .ref qR, .int (nI cnt)])), (qT, .inl (cJ, 1792, .inr (.inl fT))), (qL, .inl (cJ, 7, .inr (.inl fL))), (qR, .inl (cJ, 7, .inr (.inl fR)))] sz)) 0 0 (va_A [(h0, .inr (2, [.ref qP, .int (nI tl), .ref qW, .int (nI wn), .ref hT])), (qW, .inl (cI, 400, .inl (fun j => nI (lt j)))), (hT, .inr (1, [.ref qT, .ref qL, .ref qR, .int (nI cnt)])), (qT, .inl (cJ, 1792, .inr (.inl fT))), (qL, .inl (cJ, 7, .inr (.inl fL))), (qR, .inl (cJ, 7, .inr (.inl fR)))] sz) := by
  refine Met.ofW (cc := cX2_fitsPart) (maxL := 3) (ret := (some .boolean)) (by decide) rfl ?_
  intro p e s m args below meth c s₁ B hml hv
  obtain ⟨rfl, hsz, hP, hK, hD0⟩ := hv
  have hx := B.exec
  have hb := B.bytes
  have hr := B.returns
  have hts := atoms_spec (ws := wsX2_fitsPart) B.pre
  have hown : s.vm.findClass RX2 = some m.cls := findClass_of_methodNamed B.named
  have hlocks := B.notSynchronized
  subst hsz
  have hD := hD0.self (sz := s.heap.size)
  generalize hAe : va_A [(h0, .inr (2, [.ref qP, .int (nI tl), .ref qW, .int (nI wn), .ref hT])), (qW, .inl (cI, 400, .inl (fun j => nI (lt j)))), (hT, .inr (1, [.ref qT, .ref qL, .ref qR, .int (nI cnt)])), (qT, .inl (cJ, 1792, .inr (.inl fT))), (qL, .inl (cJ, 7, .inr (.inl fL))), (qR, .inl (cJ, 7, .inr (.inl fR)))] s.heap.size = A at hD ⊢
  have hA : ∀ q : Nat, s.heap.size ≤ q → A q := fun q h => by rw [← hAe]; exact Or.inr h
  have hS : va_S A s.heap s.heap [] := va_S.rf
  have hP : va_P (dC, dI) vwCl [(h0, .inr (2, [.ref qP, .int (nI tl), .ref qW, .int (nI wn), .ref hT])), (qW, .inl (cI, 400, .inl (fun j => nI (lt j)))), (hT, .inr (1, [.ref qT, .ref qL, .ref qR, .int (nI cnt)])), (qT, .inl (cJ, 1792, .inr (.inl fT))), (qL, .inl (cJ, 7, .inr (.inl fL))), (qR, .inl (cJ, 7, .inr (.inl fR)))] s.heap := hP
  have hl := lv_entry ([.ref h0, .int f, .int n]) (n := 3) (Nat.le_of_ble_eq_true rfl)
  rw [lg_entry_eq]
  generalize (lg_sl ([.ref h0, .int f, .int n]) ++ List.replicate (3 - (lg_sl ([.ref h0, .int f, .int n])).length) Slot.unset).toArray = ls at hl ⊢
  have hl : lv_has ls 3 [(0, .ref h0), (1, .int f), (2, .int n)] := hl
  skip
  refine lv_iload_n hx hb dX2_fitsPart_0 rfl (lv_at hl 1 rfl) ?_
  refine lv_if_lt (tgt := 18) hx hb dX2_fitsPart_1 (by decide) (fun c1 => ?_) (fun c1 => ?_)
  · skip
    refine lv_iconst (v := nI 0) hx hb dX2_fitsPart_18 (by decide) ?_
    have hP9 := hP.sub (ws' := [(h0, .inr (2, [.ref qP, .int (nI tl), .ref qW, .int (nI wn), .ref hT])), (qW, .inl (cI, 400, .inl (fun j => nI (lt j)))), (hT, .inr (1, [.ref qT, .ref qL, .ref qR, .int (nI cnt)])), (qT, .inl (cJ, 1792, .inr (.inl fT))), (qL, .inl (cJ, 7, .inr (.inl fL))), (qR, .inl (cJ, 7, .inr (.inl fR)))]) [0, 1, 2, 3, 4, 5] rfl
    have hD9 := hD.sub (ws' := [(h0, .inr (2, [.ref qP, .int (nI tl), .ref qW, .int (nI wn), .ref hT])), (qW, .inl (cI, 400, .inl (fun j => nI (lt j)))), (hT, .inr (1, [.ref qT, .ref qL, .ref qR, .int (nI cnt)])), (qT, .inl (cJ, 1792, .inr (.inl fT))), (qL, .inl (cJ, 7, .inr (.inl fL))), (qR, .inl (cJ, 7, .inr (.inl fR)))]) [0, 1, 2, 3, 4, 5] (by decide) rfl
    exact W.zret (v := nI 0) hx hb hr (by decide) (fun t ht hW => ⟨⟨nI 0, fR, rfl, (show (nI 0) = if (okp f n wn && fz ts (fun j => lt (f.toNatClampNeg + j)) n.toNatClampNeg) = true then 1 else 0 from okp_a c1), by rw [ht]; exact hP9, va_K.moved hW.alike hK, hD9⟩, hS.F ht⟩) hS.2.2 dX2_fitsPart_19
  · skip
    refine lv_iload_n hx hb dX2_fitsPart_4 rfl (lv_at hl 2 rfl) ?_
    refine lv_if_lt (tgt := 18) hx hb dX2_fitsPart_5 (by decide) (fun c5 => ?_) (fun c5 => ?_)
    · skip
      refine lv_iconst (v := nI 0) hx hb dX2_fitsPart_18 (by decide) ?_
      have hP9 := hP.sub (ws' := [(h0, .inr (2, [.ref qP, .int (nI tl), .ref qW, .int (nI wn), .ref hT])), (qW, .inl (cI, 400, .inl (fun j => nI (lt j)))), (hT, .inr (1, [.ref qT, .ref qL, .ref qR, .int (nI cnt)])), (qT, .inl (cJ, 1792, .inr (.inl fT))), (qL, .inl (cJ, 7, .inr (.inl fL))), (qR, .inl (cJ, 7, .inr (.inl fR)))]) [0, 1, 2, 3, 4, 5] rfl
      have hD9 := hD.sub (ws' := [(h0, .inr (2, [.ref qP, .int (nI tl), .ref qW, .int (nI wn), .ref hT])), (qW, .inl (cI, 400, .inl (fun j => nI (lt j)))), (hT, .inr (1, [.ref qT, .ref qL, .ref qR, .int (nI cnt)])), (qT, .inl (cJ, 1792, .inr (.inl fT))), (qL, .inl (cJ, 7, .inr (.inl fL))), (qR, .inl (cJ, 7, .inr (.inl fR)))]) [0, 1, 2, 3, 4, 5] (by decide) rfl
      exact W.zret (v := nI 0) hx hb hr (by decide) (fun t ht hW => ⟨⟨nI 0, fR, rfl, (show (nI 0) = if (okp f n wn && fz ts (fun j => lt (f.toNatClampNeg + j)) n.toNatClampNeg) = true then 1 else 0 from okp_b c5), by rw [ht]; exact hP9, va_K.moved hW.alike hK, hD9⟩, hS.F ht⟩) hS.2.2 dX2_fitsPart_19
    · skip
      refine lv_iload_n hx hb dX2_fitsPart_8 rfl (lv_at hl 2 rfl) ?_
      refine lv_aload_n hx hb dX2_fitsPart_9 rfl (lv_at hl 0 rfl) ?_
      refine va_get (D := (dC, dI)) (ci := 2) (v := .int (nI wn)) (C := RX2) (T := TX2) (N := 5) hx hb hts (by decide +kernel) hown hK hP 0 rfl rfl 3 (by decide) (hts (.fieldLink RX2 48 "WildCards" "letterCount" "I") (by decide +kernel)) (fun _ h9 => h9) rfl dX2_fitsPart_10 ?_
      refine lv_iload_n hx hb dX2_fitsPart_13 rfl (lv_at hl 1 rfl) ?_
      refine lv_isub hx hb dX2_fitsPart_14 ?_
      refine lv_icmp_le (tgt := 20) hx hb dX2_fitsPart_15 (by decide) (fun c15 => ?_) (fun c15 => ?_)
      · skip
        obtain ⟨i, k, ef, ek, hik⟩ := okp_d (by omega) c1 c5 c15
        refine lv_aload_n hx hb dX2_fitsPart_20 rfl (lv_at hl 0 rfl) ?_
        refine lv_iload_n hx hb dX2_fitsPart_21 rfl (lv_at hl 1 rfl) ?_
        refine wl_asi (y := nI i) (ef) ?_
        refine lv_iload_n hx hb dX2_fitsPart_22 rfl (lv_at hl 1 rfl) ?_
        refine wl_asi (y := nI i) (ef) ?_
        refine lv_iload_n hx hb dX2_fitsPart_23 rfl (lv_at hl 2 rfl) ?_
        refine wl_asi (y := nI k) (ek) ?_
        refine lv_iadd hx hb dX2_fitsPart_24 ?_
        refine wl_asi (y := nI (i + k)) (nI_add _ _) ?_
        have hPc := hP.sub (ws' := [(h0, .inr (2, [.ref qP, .int (nI tl), .ref qW, .int (nI wn), .ref hT])), (qW, .inl (cI, 400, .inl (fun j => nI (lt j)))), (hT, .inr (1, [.ref qT, .ref qL, .ref qR, .int (nI cnt)])), (qT, .inl (cJ, 1792, .inr (.inl fT))), (qL, .inl (cJ, 7, .inr (.inl fL))), (qR, .inl (cJ, 7, .inr (.inl fR)))]) [0, 1, 2, 3, 4, 5] rfl
        have hDc := hD.sub (ws' := [(h0, .inr (2, [.ref qP, .int (nI tl), .ref qW, .int (nI wn), .ref hT])), (qW, .inl (cI, 400, .inl (fun j => nI (lt j)))), (hT, .inr (1, [.ref qT, .ref qL, .ref qR, .int (nI cnt)])), (qT, .inl (cJ, 1792, .inr (.inl fT))), (qL, .inl (cJ, 7, .inr (.inl fL))), (qR, .inl (cJ, 7, .inr (.inl fR)))]) [0, 1, 2, 3, 4, 5] (by decide) rfl
        have hFc := va_free (wc := [(h0, .inr (2, [.ref qP, .int (nI tl), .ref qW, .int (nI wn), .ref hT])), (qW, .inl (cI, 400, .inl (fun j => nI (lt j)))), (hT, .inr (1, [.ref qT, .ref qL, .ref qR, .int (nI cnt)])), (qT, .inl (cJ, 1792, .inr (.inl fT))), (qL, .inl (cJ, 7, .inr (.inl fL))), (qR, .inl (cJ, 7, .inr (.inl fR)))]) hD hS hA [0, 1, 2, 3, 4, 5] rfl
        refine va_calli (va_runV (As := [.int (nI i), .int (nI (i + k))]) (rest := []) ⟨hx, hb, hml, hown, hts⟩ (c_X2_lettersFit l dC dI cI cJ cZ h0 qP qW hT qT qL qR s.heap.size tl wn lt cnt fT fL fR ts i (i + k) hTR hc hwn hlt (by omega) (by omega)) (cwV 2 hts gX2_fitsPart_X2_lettersFit rfl rfl rfl (by decide +kernel) ⟨Nat.le_of_ble_eq_true rfl, Nat.le_of_ble_eq_true rfl⟩) ⟨fun a U g mk q => by obtain ⟨q0, q1, qP, qK, qD⟩ := q; exact ⟨q0, q1, qP, va_K.moved (u := U) (U := U.calling g mk a) (Vm.Alike.refl U.vm) qK, qD⟩, va_recv hK hPc (ci := 2) (q0 := 0) rfl rfl, fun U hU hW => ⟨rfl, by rw [hU], by rw [hU]; exact hPc, va_K.moved hW.alike hK, hDc.weaken (fun _ _ _ _ => trivial)⟩⟩ rfl rfl hl.1 rfl (lv_room (Nat.le_of_ble_eq_true rfl)) dX2_fitsPart_25 ⟨show 0 + 0 ≤ 0 from by decide, show 0 + 0 ≤ 0 from by decide⟩) hS (fun q _ h => hFc q h) hFc (fun r25 u t H1 locs ht hvm hw25 hB hz1 hk1 hS => ?_)
        obtain ⟨fR225, rfl⟩ : ∃ z, z = u := ⟨_, rfl⟩
        obtain ⟨hP1, hK1, hD1⟩ := hB
        rw [ht] at hP1
        try dsimp only at hw25 hP1 hD1
        obtain ⟨hP, hD⟩ := va_join (wr := []) (w1 := [(h0, .inr (2, [.ref qP, .int (nI tl), .ref qW, .int (nI wn), .ref hT])), (qW, .inl (cI, 400, .inl (fun j => nI (lt j)))), (hT, .inr (1, [.ref qT, .ref qL, .ref qR, .int (nI cnt)])), (qT, .inl (cJ, 1792, .inr (.inl fT))), (qL, .inl (cJ, 7, .inr (.inl fL))), (qR, .inl (cJ, 7, .inr (.inl fR225)))]) hP hD [0, 1, 2, 3, 4, 5] [] rfl rfl (by decide) (by decide) hk1 hFc hP1 hD1
        generalize H1 = H at hP hS ⊢
        have hP : va_P (dC, dI) vwCl [(h0, .inr (2, [.ref qP, .int (nI tl), .ref qW, .int (nI wn), .ref hT])), (qW, .inl (cI, 400, .inl (fun j => nI (lt j)))), (hT, .inr (1, [.ref qT, .ref qL, .ref qR, .int (nI cnt)])), (qT, .inl (cJ, 1792, .inr (.inl fT))), (qL, .inl (cJ, 7, .inr (.inl fL))), (qR, .inl (cJ, 7, .inr (.inl fR225)))] H := hP
        have hD : va_D A [(h0, .inr (2, [.ref qP, .int (nI tl), .ref qW, .int (nI wn), .ref hT])), (qW, .inl (cI, 400, .inl (fun j => nI (lt j)))), (hT, .inr (1, [.ref qT, .ref qL, .ref qR, .int (nI cnt)])), (qT, .inl (cJ, 1792, .inr (.inl fT))), (qL, .inl (cJ, 7, .inr (.inl fL))), (qR, .inl (cJ, 7, .inr (.inl fR225)))] := hD
        have hP9 := hP.sub (ws' := [(h0, .inr (2, [.ref qP, .int (nI tl), .ref qW, .int (nI wn), .ref hT])), (qW, .inl (cI, 400, .inl (fun j => nI (lt j)))), (hT, .inr (1, [.ref qT, .ref qL, .ref qR, .int (nI cnt)])), (qT, .inl (cJ, 1792, .inr (.inl fT))), (qL, .inl (cJ, 7, .inr (.inl fL))), (qR, .inl (cJ, 7, .inr (.inl fR225)))]) [0, 1, 2, 3, 4, 5] rfl
        have hD9 := hD.sub (ws' := [(h0, .inr (2, [.ref qP, .int (nI tl), .ref qW, .int (nI wn), .ref hT])), (qW, .inl (cI, 400, .inl (fun j => nI (lt j)))), (hT, .inr (1, [.ref qT, .ref qL, .ref qR, .int (nI cnt)])), (qT, .inl (cJ, 1792, .inr (.inl fT))), (qL, .inl (cJ, 7, .inr (.inl fL))), (qR, .inl (cJ, 7, .inr (.inl fR225)))]) [0, 1, 2, 3, 4, 5] (by decide) rfl
        exact W.zret (v := r25) hx hb hr (wl_bool hw25) (fun t ht hW => ⟨⟨r25, fR225, rfl, (show r25 = if (okp f n wn && fz ts (fun j => lt (f.toNatClampNeg + j)) n.toNatClampNeg) = true then 1 else 0 from okp_1 ef ek hik hwn hw25), by rw [ht]; exact hP9, va_K.moved hW.alike hK, hD9⟩, hS.F ht⟩) hS.2.2 dX2_fitsPart_28
      · skip
        refine lv_iconst (v := nI 0) hx hb dX2_fitsPart_18 (by decide) ?_
        have hP9 := hP.sub (ws' := [(h0, .inr (2, [.ref qP, .int (nI tl), .ref qW, .int (nI wn), .ref hT])), (qW, .inl (cI, 400, .inl (fun j => nI (lt j)))), (hT, .inr (1, [.ref qT, .ref qL, .ref qR, .int (nI cnt)])), (qT, .inl (cJ, 1792, .inr (.inl fT))), (qL, .inl (cJ, 7, .inr (.inl fL))), (qR, .inl (cJ, 7, .inr (.inl fR)))]) [0, 1, 2, 3, 4, 5] rfl
        have hD9 := hD.sub (ws' := [(h0, .inr (2, [.ref qP, .int (nI tl), .ref qW, .int (nI wn), .ref hT])), (qW, .inl (cI, 400, .inl (fun j => nI (lt j)))), (hT, .inr (1, [.ref qT, .ref qL, .ref qR, .int (nI cnt)])), (qT, .inl (cJ, 1792, .inr (.inl fT))), (qL, .inl (cJ, 7, .inr (.inl fL))), (qR, .inl (cJ, 7, .inr (.inl fR)))]) [0, 1, 2, 3, 4, 5] (by decide) rfl
        exact W.zret (v := nI 0) hx hb hr (by decide) (fun t ht hW => ⟨⟨nI 0, fR, rfl, (show (nI 0) = if (okp f n wn && fz ts (fun j => lt (f.toNatClampNeg + j)) n.toNatClampNeg) = true then 1 else 0 from okp_c (by omega) c1 c5 c15), by rw [ht]; exact hP9, va_K.moved hW.alike hK, hD9⟩, hS.F ht⟩) hS.2.2 dX2_fitsPart_19
end
section
set_option maxHeartbeats 4000000 in
set_option maxRecDepth 100000 in
theorem c_X2_beginnings (l : Launch) (dC : Nat → ClassId) (dI : Nat → Nat → Nat) (cI cJ cZ : ClassId) (h0 qP qW hT qT qL qR : Nat) (sz : Nat) (tl : Nat) (wn : Nat) (lt : Nat → Nat) (cnt : Nat) (fT : Nat → Int64) (fL : Nat → Int64) (fR : Nat → Int64) (ts : List (Option (Nat → Bool))) (hTR : TR ts fT fL cnt) (hc : cnt ≤ 400) (hwn : wn ≤ 400) (hlt : ∀ j, j < wn → lt j < 256) : Met l yX2_beginnings wsX2_beginnings ({ frames := 2, cells := 0, slots := 0, locals := 44 }) (va_Pc [.ref h0] (fun U => U.heap.size = sz ∧ va_P (dC, dI) vwCl [(h0, .inr (2, [.ref qP, .int (nI tl), .ref qW, .int (nI wn), .ref hT])), (qW, .inl (cI, 400, .inl (fun j => nI (lt j)))), (hT, .inr (1, [.ref qT, .ref qL, .ref qR, .int (nI cnt)])), (qT, .inl (cJ, 1792, .inr (.inl fT))), (qL, .inl (cJ, 7, .inr (.inl fL))), (qR, .inl (cJ, 7, .inr (.inl fR)))] U.heap ∧ va_K (dC, dI) vwCl [(cI, .int), (cJ, .long), (cZ, .boolean)] U ∧ va_D (fun _ => True) [(h0, .inr (2, [.ref qP, .int (nI tl), .ref qW, .int (nI wn), .ref hT])), (qW, .inl (cI, 400, .inl (fun j => nI (lt j)))), (hT, .inr (1, [.ref qT, .ref qL, .ref qR, .int (nI cnt)])), (qT, .inl (cJ, 1792, .inr (.inl fT))), (qL, .inl (cJ, 7, .inr (.inl fL))), (qR, .inl (cJ, 7, .inr (.inl fR)))])) (va_Qi (fun (r : Int32) (u : (Nat → Int64)) => r = nI (bg ts lt wn)) (fun (u : (Nat → Int64)) (t : State) => va_P (dC, dI) vwCl [(h0, .inr (2, [.ref qP, .int (nI tl), .ref qW, .int (nI wn), .ref hT])), (qW, .inl (cI, 400, .inl (fun j => nI (lt j)))), (hT, .inr (1, [.ref qT, .ref qL, .ref qR, .int (nI cnt)])), (qT, .inl (cJ, 1792, .inr (.inl fT))), (qL, .inl (cJ, 7, .inr (.inl fL))), (qR, .inl (cJ, 7, .inr (.inl u)))] t.heap ∧ va_K (dC, dI) vwCl [(cI, .int), (cJ, .long), (cZ, .boolean)] t ∧ va_D (va_A [(h0, .inr (2, [.ref qP, .int (nI tl), .ref qW, .int (nI wn), .ref hT])), (qW, .inl (cI, 400, .inl (fun j => nI (lt j)))), (hT, .inr (1, [.ref qT, .ref qL, .ref qR, .int (nI cnt)])), (qT, .inl (cJ, 1792, .inr (.inl fT))), (qL, .inl (cJ, 7, .inr (.inl fL))), (qR, .inl (cJ, 7, .inr (.inl fR)))] sz) [(h0, .inr (2, [.ref qP, .int (nI tl), .ref qW, .int (nI wn), .ref hT])), (qW, .inl (cI, 400, .inl (fun j => nI (lt j)))), (hT, .inr (1, [.ref qT, .ref qL, .ref qR, .int (nI cnt)])), (qT, .inl (cJ, 1792, .inr (.inl fT))), (qL, .inl (cJ, 7, .inr (.inl fL))), (qR, .inl (cJ, 7, .inr (.inl u)))]) (va_A [(h0, .inr (2, [.ref qP, .int (nI tl), .ref qW, .int (nI wn), .ref hT])), (qW, .inl (cI, 400, .inl (fun j => nI (lt j)))), (hT, .inr (1, [.ref qT, .ref qL, .ref qR, .int (nI cnt)])), (qT, .inl (cJ, 1792, .inr (.inl fT))), (qL, .inl (cJ, 7, .inr (.inl fL))), (qR, .inl (cJ, 7, .inr (.inl fR)))] sz)) 0 0 (va_A [(h0, .inr (2, [.ref qP, .int (nI tl), .ref qW, .int (nI wn), .ref hT])), (qW, .inl (cI, 400, .inl (fun j => nI (lt j)))), (hT, .inr (1, [.ref qT, .ref qL, .ref qR, .int (nI cnt)])), (qT, .inl (cJ, 1792, .inr (.inl fT))), (qL, .inl (cJ, 7, .inr (.inl fL))), (qR, .inl (cJ, 7, .inr (.inl fR)))] sz) := by
  refine Met.ofW (cc := cX2_beginnings) (maxL := 3) (ret := (some .int)) (by decide) rfl ?_
  intro p e s m args below meth c s₁ B hml hv
  obtain ⟨rfl, hsz, hP, hK, hD0⟩ := hv
  have hx := B.exec
  have hb := B.bytes
  have hr := B.returns
  have hts := atoms_spec (ws := wsX2_beginnings) B.pre
  have hown : s.vm.findClass RX2 = some m.cls := findClass_of_methodNamed B.named
  have hlocks := B.notSynchronized
  subst hsz
  have hD := hD0.self (sz := s.heap.size)
  generalize hAe : va_A [(h0, .inr (2, [.ref qP, .int (nI tl), .ref qW, .int (nI wn), .ref hT])), (qW, .inl (cI, 400, .inl (fun j => nI (lt j)))), (hT, .inr (1, [.ref qT, .ref qL, .ref qR, .int (nI cnt)])), (qT, .inl (cJ, 1792, .inr (.inl fT))), (qL, .inl (cJ, 7, .inr (.inl fL))), (qR, .inl (cJ, 7, .inr (.inl fR)))] s.heap.size = A at hD ⊢
  have hA : ∀ q : Nat, s.heap.size ≤ q → A q := fun q h => by rw [← hAe]; exact Or.inr h
  have hS : va_S A s.heap s.heap [] := va_S.rf
  have hP : va_P (dC, dI) vwCl [(h0, .inr (2, [.ref qP, .int (nI tl), .ref qW, .int (nI wn), .ref hT])), (qW, .inl (cI, 400, .inl (fun j => nI (lt j)))), (hT, .inr (1, [.ref qT, .ref qL, .ref qR, .int (nI cnt)])), (qT, .inl (cJ, 1792, .inr (.inl fT))), (qL, .inl (cJ, 7, .inr (.inl fL))), (qR, .inl (cJ, 7, .inr (.inl fR)))] s.heap := hP
  have hl := lv_entry ([.ref h0]) (n := 3) (Nat.le_of_ble_eq_true rfl)
  rw [lg_entry_eq]
  generalize (lg_sl ([.ref h0]) ++ List.replicate (3 - (lg_sl ([.ref h0])).length) Slot.unset).toArray = ls at hl ⊢
  have hl : lv_has ls 3 [(0, .ref h0)] := hl
  skip
  refine lv_aload_n hx hb dX2_beginnings_0 rfl (lv_at hl 0 rfl) ?_
  refine va_get (D := (dC, dI)) (ci := 2) (v := .ref hT) (C := RX2) (T := TX2) (N := 5) hx hb hts (by decide +kernel) hown hK hP 0 rfl rfl 4 (by decide) (hts (.fieldLink RX2 19 "WildCards" "things" "LWildCards$Things;") (by decide +kernel)) (fun _ h9 => h9) rfl dX2_beginnings_1 ?_
  have hPc := hP.sub (ws' := [(hT, .inr (1, [.ref qT, .ref qL, .ref qR, .int (nI cnt)])), (qT, .inl (cJ, 1792, .inr (.inl fT))), (qL, .inl (cJ, 7, .inr (.inl fL))), (qR, .inl (cJ, 7, .inr (.inl fR)))]) [2, 3, 4, 5] rfl
  have hDc := hD.sub (ws' := [(hT, .inr (1, [.ref qT, .ref qL, .ref qR, .int (nI cnt)])), (qT, .inl (cJ, 1792, .inr (.inl fT))), (qL, .inl (cJ, 7, .inr (.inl fL))), (qR, .inl (cJ, 7, .inr (.inl fR)))]) [2, 3, 4, 5] (by decide) rfl
  have hFc := va_free (wc := [(hT, .inr (1, [.ref qT, .ref qL, .ref qR, .int (nI cnt)])), (qT, .inl (cJ, 1792, .inr (.inl fT))), (qL, .inl (cJ, 7, .inr (.inl fL))), (qR, .inl (cJ, 7, .inr (.inl fR)))]) hD hS hA [2, 3, 4, 5] rfl
  refine va_callv (va_runV (As := []) (rest := []) ⟨hx, hb, hml, hown, hts⟩ (c_X1_start l dC dI cI cJ cZ hT qT qL qR s.heap.size cnt fT fL fR ) (cwV 0 hts gX2_beginnings_X1_start rfl rfl rfl (by decide +kernel) ⟨Nat.le_of_ble_eq_true rfl, Nat.le_of_ble_eq_true rfl⟩) ⟨fun a U g mk q => by obtain ⟨q0, q1, qP, qK, qD⟩ := q; exact ⟨q0, q1, qP, va_K.moved (u := U) (U := U.calling g mk a) (Vm.Alike.refl U.vm) qK, qD⟩, va_recv hK hPc (ci := 1) (q0 := 0) rfl rfl, fun U hU hW => ⟨rfl, by rw [hU], by rw [hU]; exact hPc, va_K.moved hW.alike hK, hDc.weaken (fun _ _ _ _ => trivial)⟩⟩ rfl rfl hl.1 rfl (lv_room (Nat.le_of_ble_eq_true rfl)) dX2_beginnings_4 ⟨show 0 + 0 ≤ 0 from by decide, show 0 + 0 ≤ 0 from by decide⟩) hS (fun q _ h => hFc q h) hFc (fun u t H1 locs ht hvm hw4 hB hz1 hk1 hS => ?_)
  obtain ⟨fR24, rfl⟩ : ∃ z, z = u := ⟨_, rfl⟩
  obtain ⟨hP1, hK1, hD1⟩ := hB
  rw [ht] at hP1
  try dsimp only at hw4 hP1 hD1
  obtain ⟨hP, hD⟩ := va_join (wr := [(h0, .inr (2, [.ref qP, .int (nI tl), .ref qW, .int (nI wn), .ref hT])), (qW, .inl (cI, 400, .inl (fun j => nI (lt j))))]) (w1 := [(hT, .inr (1, [.ref qT, .ref qL, .ref qR, .int (nI cnt)])), (qT, .inl (cJ, 1792, .inr (.inl fT))), (qL, .inl (cJ, 7, .inr (.inl fL))), (qR, .inl (cJ, 7, .inr (.inl fR24)))]) hP hD [2, 3, 4, 5] [0, 1] rfl rfl (by decide) (by decide) hk1 hFc hP1 hD1
  generalize H1 = H at hP hS ⊢
  have hP : va_P (dC, dI) vwCl [(h0, .inr (2, [.ref qP, .int (nI tl), .ref qW, .int (nI wn), .ref hT])), (qW, .inl (cI, 400, .inl (fun j => nI (lt j)))), (hT, .inr (1, [.ref qT, .ref qL, .ref qR, .int (nI cnt)])), (qT, .inl (cJ, 1792, .inr (.inl fT))), (qL, .inl (cJ, 7, .inr (.inl fL))), (qR, .inl (cJ, 7, .inr (.inl fR24)))] H := hP
  have hD : va_D A [(h0, .inr (2, [.ref qP, .int (nI tl), .ref qW, .int (nI wn), .ref hT])), (qW, .inl (cI, 400, .inl (fun j => nI (lt j)))), (hT, .inr (1, [.ref qT, .ref qL, .ref qR, .int (nI cnt)])), (qT, .inl (cJ, 1792, .inr (.inl fT))), (qL, .inl (cJ, 7, .inr (.inl fL))), (qR, .inl (cJ, 7, .inr (.inl fR24)))] := hD
  refine lv_aload_n hx hb dX2_beginnings_7 rfl (lv_at hl 0 rfl) ?_
  refine va_get (D := (dC, dI)) (ci := 2) (v := .ref hT) (C := RX2) (T := TX2) (N := 5) hx hb hts (by decide +kernel) hown hK hP 0 rfl rfl 4 (by decide) (hts (.fieldLink RX2 19 "WildCards" "things" "LWildCards$Things;") (by decide +kernel)) (fun _ h9 => h9) rfl dX2_beginnings_8 ?_
  have hPc := hP.sub (ws' := [(hT, .inr (1, [.ref qT, .ref qL, .ref qR, .int (nI cnt)])), (qT, .inl (cJ, 1792, .inr (.inl fT))), (qL, .inl (cJ, 7, .inr (.inl fL))), (qR, .inl (cJ, 7, .inr (.inl fR24)))]) [2, 3, 4, 5] rfl
  have hDc := hD.sub (ws' := [(hT, .inr (1, [.ref qT, .ref qL, .ref qR, .int (nI cnt)])), (qT, .inl (cJ, 1792, .inr (.inl fT))), (qL, .inl (cJ, 7, .inr (.inl fL))), (qR, .inl (cJ, 7, .inr (.inl fR24)))]) [2, 3, 4, 5] (by decide) rfl
  have hFc := va_free (wc := [(hT, .inr (1, [.ref qT, .ref qL, .ref qR, .int (nI cnt)])), (qT, .inl (cJ, 1792, .inr (.inl fT))), (qL, .inl (cJ, 7, .inr (.inl fL))), (qR, .inl (cJ, 7, .inr (.inl fR24)))]) hD hS hA [2, 3, 4, 5] rfl
  refine va_calli (va_runV (As := []) (rest := []) ⟨hx, hb, hml, hown, hts⟩ (c_X1_endIsReached l dC dI cI cJ cZ hT qT qL qR H.size cnt fT fL fR24 (by omega)) (cwV 0 hts gX2_beginnings_X1_endIsReached rfl rfl rfl (by decide +kernel) ⟨Nat.le_of_ble_eq_true rfl, Nat.le_of_ble_eq_true rfl⟩) ⟨fun a U g mk q => by obtain ⟨q0, q1, qP, qK, qD⟩ := q; exact ⟨q0, q1, qP, va_K.moved (u := U) (U := U.calling g mk a) (Vm.Alike.refl U.vm) qK, qD⟩, va_recv hK hPc (ci := 1) (q0 := 0) rfl rfl, fun U hU hW => ⟨rfl, by rw [hU], by rw [hU]; exact hPc, va_K.moved hW.alike hK, hDc.weaken (fun _ _ _ _ => trivial)⟩⟩ rfl rfl hl.1 rfl (lv_room (Nat.le_of_ble_eq_true rfl)) dX2_beginnings_11 ⟨show 0 + 0 + 0 ≤ 0 from by decide, show 0 + 0 + 0 ≤ 0 from by decide⟩) hS (fun q _ h => hFc q h) hFc (fun r11 u t H1 locs ht hvm hw11 hB hz1 hk1 hS => ?_)
  obtain ⟨hP1, hK1, hD1⟩ := hB
  rw [ht] at hP1
  try dsimp only at hw11 hP1 hD1
  obtain ⟨hP, hD⟩ := va_join (wr := [(h0, .inr (2, [.ref qP, .int (nI tl), .ref qW, .int (nI wn), .ref hT])), (qW, .inl (cI, 400, .inl (fun j => nI (lt j))))]) (w1 := [(hT, .inr (1, [.ref qT, .ref qL, .ref qR, .int (nI cnt)])), (qT, .inl (cJ, 1792, .inr (.inl fT))), (qL, .inl (cJ, 7, .inr (.inl fL))), (qR, .inl (cJ, 7, .inr (.inl fR24)))]) hP hD [2, 3, 4, 5] [0, 1] rfl rfl (by decide) (by decide) hk1 hFc hP1 hD1
  generalize H1 = H at hP hS ⊢
  have hP : va_P (dC, dI) vwCl [(h0, .inr (2, [.ref qP, .int (nI tl), .ref qW, .int (nI wn), .ref hT])), (qW, .inl (cI, 400, .inl (fun j => nI (lt j)))), (hT, .inr (1, [.ref qT, .ref qL, .ref qR, .int (nI cnt)])), (qT, .inl (cJ, 1792, .inr (.inl fT))), (qL, .inl (cJ, 7, .inr (.inl fL))), (qR, .inl (cJ, 7, .inr (.inl fR24)))] H := hP
  have hD : va_D A [(h0, .inr (2, [.ref qP, .int (nI tl), .ref qW, .int (nI wn), .ref hT])), (qW, .inl (cI, 400, .inl (fun j => nI (lt j)))), (hT, .inr (1, [.ref qT, .ref qL, .ref qR, .int (nI cnt)])), (qT, .inl (cJ, 1792, .inr (.inl fT))), (qL, .inl (cJ, 7, .inr (.inl fL))), (qR, .inl (cJ, 7, .inr (.inl fR24)))] := hD
  by_cases hz : lb fR24 cnt = true
  · skip
    refine wl_asi (y := nI 1) (by rw [hw11, if_pos hz]; rfl) ?_
    refine lv_if_eq (tgt := 21) hx hb dX2_beginnings_14 (by decide) (fun c14 => ?_) (fun c14 => ?_)
    · first | exact absurd c14 (by decide) | exact absurd (by decide) c14
    · skip
      refine lv_iconst (v := nI 1) hx hb dX2_beginnings_17 (by decide) ?_
      refine lv_goto (tgt := 22) hx hb dX2_beginnings_18 (by decide) ?_
      refine lv_istore_n (lv' := [(1, .int (nI 1)), (0, .ref h0)]) hx hb dX2_beginnings_22 rfl hl (by decide) rfl (fun ls hl => ?_)
      refine lv_iconst (v := nI 0) hx hb dX2_beginnings_23 (by decide) ?_
      refine lv_istore_n (lv' := [(2, .int (nI 0)), (1, .int (nI 1)), (0, .ref h0)]) hx hb dX2_beginnings_24 rfl hl (by decide) rfl (fun ls hl => ?_)
      refine wl_loop (σ := Nat × (Nat → Int64) × Nat) (fun z9 => wn - z9.1) (fun z9 H locs ls => (z9.1 ≤ wn) ∧ (∀ k, k < 448 → lb z9.2.1 k = rch (tT ts) (tL ts) lt z9.1 k) ∧ (z9.2.2 = bg ts lt z9.1) ∧ (z9.2.2 ≤ z9.1 + 1) ∧ va_P (dC, dI) vwCl [(h0, .inr (2, [.ref qP, .int (nI tl), .ref qW, .int (nI wn), .ref hT])), (qW, .inl (cI, 400, .inl (fun j => nI (lt j)))), (hT, .inr (1, [.ref qT, .ref qL, .ref qR, .int (nI cnt)])), (qT, .inl (cJ, 1792, .inr (.inl fT))), (qL, .inl (cJ, 7, .inr (.inl fL))), (qR, .inl (cJ, 7, .inr (.inl z9.2.1)))] H ∧ va_D A [(h0, .inr (2, [.ref qP, .int (nI tl), .ref qW, .int (nI wn), .ref hT])), (qW, .inl (cI, 400, .inl (fun j => nI (lt j)))), (hT, .inr (1, [.ref qT, .ref qL, .ref qR, .int (nI cnt)])), (qT, .inl (cJ, 1792, .inr (.inl fT))), (qL, .inl (cJ, 7, .inr (.inl fL))), (qR, .inl (cJ, 7, .inr (.inl z9.2.1)))] ∧ va_S A s.heap H locs ∧ lv_has ls 3 [(0, .ref h0), (1, .int (nI z9.2.2)), (2, .int (nI z9.1))]) ?_ (0, fR24, 1) ⟨(show (0) ≤ wn from Nat.zero_le _), (show ∀ k, k < 448 → lb fR24 k = rch (tT ts) (tL ts) lt (0) k from fun k hk => by rw [hw4 k hk]; rfl), (show (1) = bg ts lt (0) from bg_01 hTR hc hw4 hz), (show (1) ≤ (0) + 1 from by omega), hP.sub [0, 1, 2, 3, 4, 5] rfl, hD.sub [0, 1, 2, 3, 4, 5] (by decide) rfl, hS, lv_sub hl [2, 1, 0] rfl⟩
      intro z9 H locs ls hI ih25
      obtain ⟨i, g, o⟩ := z9
      obtain ⟨hi, hg, ho, ho2, hP, hD, hS, hl⟩ := hI
      try dsimp only at hi hg ho ho2 hP hD hl
      have hP : va_P (dC, dI) vwCl [(h0, .inr (2, [.ref qP, .int (nI tl), .ref qW, .int (nI wn), .ref hT])), (qW, .inl (cI, 400, .inl (fun j => nI (lt j)))), (hT, .inr (1, [.ref qT, .ref qL, .ref qR, .int (nI cnt)])), (qT, .inl (cJ, 1792, .inr (.inl fT))), (qL, .inl (cJ, 7, .inr (.inl fL))), (qR, .inl (cJ, 7, .inr (.inl g)))] H := hP
      have hD : va_D A [(h0, .inr (2, [.ref qP, .int (nI tl), .ref qW, .int (nI wn), .ref hT])), (qW, .inl (cI, 400, .inl (fun j => nI (lt j)))), (hT, .inr (1, [.ref qT, .ref qL, .ref qR, .int (nI cnt)])), (qT, .inl (cJ, 1792, .inr (.inl fT))), (qL, .inl (cJ, 7, .inr (.inl fL))), (qR, .inl (cJ, 7, .inr (.inl g)))] := hD
      have hl : lv_has ls 3 [(0, .ref h0), (1, .int (nI o)), (2, .int (nI i))] := hl
      refine lv_iload_n hx hb dX2_beginnings_25 rfl (lv_at hl 2 rfl) ?_
      refine lv_aload_n hx hb dX2_beginnings_26 rfl (lv_at hl 0 rfl) ?_
      refine va_get (D := (dC, dI)) (ci := 2) (v := .int (nI wn)) (C := RX2) (T := TX2) (N := 5) hx hb hts (by decide +kernel) hown hK hP 0 rfl rfl 3 (by decide) (hts (.fieldLink RX2 48 "WildCards" "letterCount" "I") (by decide +kernel)) (fun _ h9 => h9) rfl dX2_beginnings_27 ?_
      refine wl_icmp_ge (tgt := 65) hx hb dX2_beginnings_30 (by decide) (by omega) (by omega) (fun c30 => ?_) (fun c30 => ?_)
      · skip
        refine lv_iload_n hx hb dX2_beginnings_65 rfl (lv_at hl 1 rfl) ?_
        have hP9 := hP.sub (ws' := [(h0, .inr (2, [.ref qP, .int (nI tl), .ref qW, .int (nI wn), .ref hT])), (qW, .inl (cI, 400, .inl (fun j => nI (lt j)))), (hT, .inr (1, [.ref qT, .ref qL, .ref qR, .int (nI cnt)])), (qT, .inl (cJ, 1792, .inr (.inl fT))), (qL, .inl (cJ, 7, .inr (.inl fL))), (qR, .inl (cJ, 7, .inr (.inl g)))]) [0, 1, 2, 3, 4, 5] rfl
        have hD9 := hD.sub (ws' := [(h0, .inr (2, [.ref qP, .int (nI tl), .ref qW, .int (nI wn), .ref hT])), (qW, .inl (cI, 400, .inl (fun j => nI (lt j)))), (hT, .inr (1, [.ref qT, .ref qL, .ref qR, .int (nI cnt)])), (qT, .inl (cJ, 1792, .inr (.inl fT))), (qL, .inl (cJ, 7, .inr (.inl fL))), (qR, .inl (cJ, 7, .inr (.inl g)))]) [0, 1, 2, 3, 4, 5] (by decide) rfl
        exact W.iret (v := nI o) hx hb hr  (fun t ht hW => ⟨⟨nI o, g, rfl, (show (nI o) = nI (bg ts lt wn) from by rw [ho, show i = wn by omega]), by rw [ht]; exact hP9, va_K.moved hW.alike hK, hD9⟩, hS.F ht⟩) hS.2.2 dX2_beginnings_66
      · skip
        have h8 := hlt i (by omega)
        refine lv_aload_n hx hb dX2_beginnings_33 rfl (lv_at hl 0 rfl) ?_
        refine va_get (D := (dC, dI)) (ci := 2) (v := .ref hT) (C := RX2) (T := TX2) (N := 5) hx hb hts (by decide +kernel) hown hK hP 0 rfl rfl 4 (by decide) (hts (.fieldLink RX2 19 "WildCards" "things" "LWildCards$Things;") (by decide +kernel)) (fun _ h9 => h9) rfl dX2_beginnings_34 ?_
        refine lv_aload_n hx hb dX2_beginnings_37 rfl (lv_at hl 0 rfl) ?_
        refine va_get (D := (dC, dI)) (ci := 2) (v := .ref qW) (C := RX2) (T := TX2) (N := 5) hx hb hts (by decide +kernel) hown hK hP 0 rfl rfl 2 (by decide) (hts (.fieldLink RX2 13 "WildCards" "letters" "[I") (by decide +kernel)) (fun _ h9 => h9) rfl dX2_beginnings_38 ?_
        refine lv_iload_n hx hb dX2_beginnings_41 rfl (lv_at hl 2 rfl) ?_
        refine va_iald hx hb hK hP 1 0 rfl rfl (vp_in_nI (by omega) (by omega)) dX2_beginnings_42 ?_
        refine wl_asi (y := nI (lt i)) (by rw [nI_clamp (by omega)]) ?_
        have hPc := hP.sub (ws' := [(hT, .inr (1, [.ref qT, .ref qL, .ref qR, .int (nI cnt)])), (qT, .inl (cJ, 1792, .inr (.inl fT))), (qL, .inl (cJ, 7, .inr (.inl fL))), (qR, .inl (cJ, 7, .inr (.inl g)))]) [2, 3, 4, 5] rfl
        have hDc := hD.sub (ws' := [(hT, .inr (1, [.ref qT, .ref qL, .ref qR, .int (nI cnt)])), (qT, .inl (cJ, 1792, .inr (.inl fT))), (qL, .inl (cJ, 7, .inr (.inl fL))), (qR, .inl (cJ, 7, .inr (.inl g)))]) [2, 3, 4, 5] (by decide) rfl
        have hFc := va_free (wc := [(hT, .inr (1, [.ref qT, .ref qL, .ref qR, .int (nI cnt)])), (qT, .inl (cJ, 1792, .inr (.inl fT))), (qL, .inl (cJ, 7, .inr (.inl fL))), (qR, .inl (cJ, 7, .inr (.inl g)))]) hD hS hA [2, 3, 4, 5] rfl
        refine va_callv (va_runV (As := [.int (nI (lt i))]) (rest := []) ⟨hx, hb, hml, hown, hts⟩ (c_X1_step l dC dI cI cJ cZ hT qT qL qR H.size cnt fT fL g (lt i) h8) (cwV 1 hts gX2_beginnings_X1_step rfl rfl rfl (by decide +kernel) ⟨Nat.le_of_ble_eq_true rfl, Nat.le_of_ble_eq_true rfl⟩) ⟨fun a U g mk q => by obtain ⟨q0, q1, qP, qK, qD⟩ := q; exact ⟨q0, q1, qP, va_K.moved (u := U) (U := U.calling g mk a) (Vm.Alike.refl U.vm) qK, qD⟩, va_recv hK hPc (ci := 1) (q0 := 0) rfl rfl, fun U hU hW => ⟨rfl, by rw [hU], by rw [hU]; exact hPc, va_K.moved hW.alike hK, hDc.weaken (fun _ _ _ _ => trivial)⟩⟩ rfl rfl hl.1 rfl (lv_room (Nat.le_of_ble_eq_true rfl)) dX2_beginnings_43 ⟨show 0 + 0 + 0 + 0 ≤ 0 from by decide, show 0 + 0 + 0 + 0 ≤ 0 from by decide⟩) hS (fun q _ h => hFc q h) hFc (fun u t H1 locs ht hvm hw43 hB hz1 hk1 hS => ?_)
        obtain ⟨fR243, rfl⟩ : ∃ z, z = u := ⟨_, rfl⟩
        obtain ⟨hP1, hK1, hD1⟩ := hB
        rw [ht] at hP1
        try dsimp only at hw43 hP1 hD1
        obtain ⟨hP, hD⟩ := va_join (wr := [(h0, .inr (2, [.ref qP, .int (nI tl), .ref qW, .int (nI wn), .ref hT])), (qW, .inl (cI, 400, .inl (fun j => nI (lt j))))]) (w1 := [(hT, .inr (1, [.ref qT, .ref qL, .ref qR, .int (nI cnt)])), (qT, .inl (cJ, 1792, .inr (.inl fT))), (qL, .inl (cJ, 7, .inr (.inl fL))), (qR, .inl (cJ, 7, .inr (.inl fR243)))]) hP hD [2, 3, 4, 5] [0, 1] rfl rfl (by decide) (by decide) hk1 hFc hP1 hD1
        generalize H1 = H at hP hS ⊢
        have hP : va_P (dC, dI) vwCl [(h0, .inr (2, [.ref qP, .int (nI tl), .ref qW, .int (nI wn), .ref hT])), (qW, .inl (cI, 400, .inl (fun j => nI (lt j)))), (hT, .inr (1, [.ref qT, .ref qL, .ref qR, .int (nI cnt)])), (qT, .inl (cJ, 1792, .inr (.inl fT))), (qL, .inl (cJ, 7, .inr (.inl fL))), (qR, .inl (cJ, 7, .inr (.inl fR243)))] H := hP
        have hD : va_D A [(h0, .inr (2, [.ref qP, .int (nI tl), .ref qW, .int (nI wn), .ref hT])), (qW, .inl (cI, 400, .inl (fun j => nI (lt j)))), (hT, .inr (1, [.ref qT, .ref qL, .ref qR, .int (nI cnt)])), (qT, .inl (cJ, 1792, .inr (.inl fT))), (qL, .inl (cJ, 7, .inr (.inl fL))), (qR, .inl (cJ, 7, .inr (.inl fR243)))] := hD
        refine lv_aload_n hx hb dX2_beginnings_46 rfl (lv_at hl 0 rfl) ?_
        refine va_get (D := (dC, dI)) (ci := 2) (v := .ref hT) (C := RX2) (T := TX2) (N := 5) hx hb hts (by decide +kernel) hown hK hP 0 rfl rfl 4 (by decide) (hts (.fieldLink RX2 19 "WildCards" "things" "LWildCards$Things;") (by decide +kernel)) (fun _ h9 => h9) rfl dX2_beginnings_47 ?_
        have hPc := hP.sub (ws' := [(hT, .inr (1, [.ref qT, .ref qL, .ref qR, .int (nI cnt)])), (qT, .inl (cJ, 1792, .inr (.inl fT))), (qL, .inl (cJ, 7, .inr (.inl fL))), (qR, .inl (cJ, 7, .inr (.inl fR243)))]) [2, 3, 4, 5] rfl
        have hDc := hD.sub (ws' := [(hT, .inr (1, [.ref qT, .ref qL, .ref qR, .int (nI cnt)])), (qT, .inl (cJ, 1792, .inr (.inl fT))), (qL, .inl (cJ, 7, .inr (.inl fL))), (qR, .inl (cJ, 7, .inr (.inl fR243)))]) [2, 3, 4, 5] (by decide) rfl
        have hFc := va_free (wc := [(hT, .inr (1, [.ref qT, .ref qL, .ref qR, .int (nI cnt)])), (qT, .inl (cJ, 1792, .inr (.inl fT))), (qL, .inl (cJ, 7, .inr (.inl fL))), (qR, .inl (cJ, 7, .inr (.inl fR243)))]) hD hS hA [2, 3, 4, 5] rfl
        refine va_calli (va_runV (As := []) (rest := []) ⟨hx, hb, hml, hown, hts⟩ (c_X1_endIsReached l dC dI cI cJ cZ hT qT qL qR H.size cnt fT fL fR243 (by omega)) (cwV 0 hts gX2_beginnings_X1_endIsReached rfl rfl rfl (by decide +kernel) ⟨Nat.le_of_ble_eq_true rfl, Nat.le_of_ble_eq_true rfl⟩) ⟨fun a U g mk q => by obtain ⟨q0, q1, qP, qK, qD⟩ := q; exact ⟨q0, q1, qP, va_K.moved (u := U) (U := U.calling g mk a) (Vm.Alike.refl U.vm) qK, qD⟩, va_recv hK hPc (ci := 1) (q0 := 0) rfl rfl, fun U hU hW => ⟨rfl, by rw [hU], by rw [hU]; exact hPc, va_K.moved hW.alike hK, hDc.weaken (fun _ _ _ _ => trivial)⟩⟩ rfl rfl hl.1 rfl (lv_room (Nat.le_of_ble_eq_true rfl)) dX2_beginnings_50 ⟨show 0 + 0 + 0 + 0 + 0 ≤ 0 from by decide, show 0 + 0 + 0 + 0 + 0 ≤ 0 from by decide⟩) hS (fun q _ h => hFc q h) hFc (fun r50 u t H1 locs ht hvm hw50 hB hz1 hk1 hS => ?_)
        obtain ⟨hP1, hK1, hD1⟩ := hB
        rw [ht] at hP1
        try dsimp only at hw50 hP1 hD1
        obtain ⟨hP, hD⟩ := va_join (wr := [(h0, .inr (2, [.ref qP, .int (nI tl), .ref qW, .int (nI wn), .ref hT])), (qW, .inl (cI, 400, .inl (fun j => nI (lt j))))]) (w1 := [(hT, .inr (1, [.ref qT, .ref qL, .ref qR, .int (nI cnt)])), (qT, .inl (cJ, 1792, .inr (.inl fT))), (qL, .inl (cJ, 7, .inr (.inl fL))), (qR, .inl (cJ, 7, .inr (.inl fR243)))]) hP hD [2, 3, 4, 5] [0, 1] rfl rfl (by decide) (by decide) hk1 hFc hP1 hD1
        generalize H1 = H at hP hS ⊢
        have hP : va_P (dC, dI) vwCl [(h0, .inr (2, [.ref qP, .int (nI tl), .ref qW, .int (nI wn), .ref hT])), (qW, .inl (cI, 400, .inl (fun j => nI (lt j)))), (hT, .inr (1, [.ref qT, .ref qL, .ref qR, .int (nI cnt)])), (qT, .inl (cJ, 1792, .inr (.inl fT))), (qL, .inl (cJ, 7, .inr (.inl fL))), (qR, .inl (cJ, 7, .inr (.inl fR243)))] H := hP
        have hD : va_D A [(h0, .inr (2, [.ref qP, .int (nI tl), .ref qW, .int (nI wn), .ref hT])), (qW, .inl (cI, 400, .inl (fun j => nI (lt j)))), (hT, .inr (1, [.ref qT, .ref qL, .ref qR, .int (nI cnt)])), (qT, .inl (cJ, 1792, .inr (.inl fT))), (qL, .inl (cJ, 7, .inr (.inl fL))), (qR, .inl (cJ, 7, .inr (.inl fR243)))] := hD
        by_cases hz2 : lb fR243 cnt = true
        · skip
          refine wl_asi (y := nI 1) (by rw [hw50, if_pos hz2]; rfl) ?_
          refine lv_if_eq (tgt := 59) hx hb dX2_beginnings_53 (by decide) (fun c53 => ?_) (fun c53 => ?_)
          · first | exact absurd c53 (by decide) | exact absurd (by decide) c53
          · skip
            refine lv_iinc (v := nI (o + 1)) (lv' := [(1, .int (nI (o + 1))), (0, .ref h0), (2, .int (nI i))]) hx hb dX2_beginnings_56 hl (k := 1) rfl (wl_inc _ _ (by decide)) (by decide) rfl (fun ls hl => ?_)
            refine lv_iinc (v := nI (i + 1)) (lv' := [(2, .int (nI (i + 1))), (1, .int (nI (o + 1))), (0, .ref h0)]) hx hb dX2_beginnings_59 hl (k := 2) rfl (wl_inc _ _ (by decide)) (by decide) rfl (fun ls hl => ?_)
            refine lv_goto (tgt := 25) hx hb dX2_beginnings_62 (by decide) ?_
            exact ih25 (i + 1, fR243, o + 1) H locs ls ⟨(show (i + 1) ≤ wn from by omega), (show ∀ k, k < 448 → lb fR243 k = rch (tT ts) (tL ts) lt (i + 1) k from RC_s hTR hg rfl h8 hw43), (show (o + 1) = bg ts lt (i + 1) from bg_s1 hTR hc (RC_s hTR hg rfl h8 hw43) hz2 ho), (show (o + 1) ≤ (i + 1) + 1 from by omega), hP.sub [0, 1, 2, 3, 4, 5] rfl, hD.sub [0, 1, 2, 3, 4, 5] (by decide) rfl, hS, lv_sub hl [2, 1, 0] rfl⟩ (by (try dsimp only); omega)
        · skip
          refine wl_asi (y := nI 0) (by rw [hw50, if_neg hz2]; rfl) ?_
          refine lv_if_eq (tgt := 59) hx hb dX2_beginnings_53 (by decide) (fun c53 => ?_) (fun c53 => ?_)
          rotate_left
          · first | exact absurd c53 (by decide) | exact absurd (by decide) c53
          · skip
            refine lv_iinc (v := nI (i + 1)) (lv' := [(2, .int (nI (i + 1))), (0, .ref h0), (1, .int (nI o))]) hx hb dX2_beginnings_59 hl (k := 2) rfl (wl_inc _ _ (by decide)) (by decide) rfl (fun ls hl => ?_)
            refine lv_goto (tgt := 25) hx hb dX2_beginnings_62 (by decide) ?_
            exact ih25 (i + 1, fR243, o) H locs ls ⟨(show (i + 1) ≤ wn from by omega), (show ∀ k, k < 448 → lb fR243 k = rch (tT ts) (tL ts) lt (i + 1) k from RC_s hTR hg rfl h8 hw43), (show o = bg ts lt (i + 1) from bg_s0 hTR hc (RC_s hTR hg rfl h8 hw43) hz2 ho), (show o ≤ (i + 1) + 1 from by omega), hP.sub [0, 1, 2, 3, 4, 5] rfl, hD.sub [0, 1, 2, 3, 4, 5] (by decide) rfl, hS, lv_sub hl [1, 2, 0] rfl⟩ (by (try dsimp only); omega)
  · skip
    refine wl_asi (y := nI 0) (by rw [hw11, if_neg hz]; rfl) ?_
    refine lv_if_eq (tgt := 21) hx hb dX2_beginnings_14 (by decide) (fun c14 => ?_) (fun c14 => ?_)
    rotate_left
    · first | exact absurd c14 (by decide) | exact absurd (by decide) c14
    · skip
      refine lv_iconst (v := nI 0) hx hb dX2_beginnings_21 (by decide) ?_
      refine lv_istore_n (lv' := [(1, .int (nI 0)), (0, .ref h0)]) hx hb dX2_beginnings_22 rfl hl (by decide) rfl (fun ls hl => ?_)
      refine lv_iconst (v := nI 0) hx hb dX2_beginnings_23 (by decide) ?_
      refine lv_istore_n (lv' := [(2, .int (nI 0)), (1, .int (nI 0)), (0, .ref h0)]) hx hb dX2_beginnings_24 rfl hl (by decide) rfl (fun ls hl => ?_)
      refine wl_loop (σ := Nat × (Nat → Int64) × Nat) (fun z9 => wn - z9.1) (fun z9 H locs ls => (z9.1 ≤ wn) ∧ (∀ k, k < 448 → lb z9.2.1 k = rch (tT ts) (tL ts) lt z9.1 k) ∧ (z9.2.2 = bg ts lt z9.1) ∧ (z9.2.2 ≤ z9.1 + 1) ∧ va_P (dC, dI) vwCl [(h0, .inr (2, [.ref qP, .int (nI tl), .ref qW, .int (nI wn), .ref hT])), (qW, .inl (cI, 400, .inl (fun j => nI (lt j)))), (hT, .inr (1, [.ref qT, .ref qL, .ref qR, .int (nI cnt)])), (qT, .inl (cJ, 1792, .inr (.inl fT))), (qL, .inl (cJ, 7, .inr (.inl fL))), (qR, .inl (cJ, 7, .inr (.inl z9.2.1)))] H ∧ va_D A [(h0, .inr (2, [.ref qP, .int (nI tl), .ref qW, .int (nI wn), .ref hT])), (qW, .inl (cI, 400, .inl (fun j => nI (lt j)))), (hT, .inr (1, [.ref qT, .ref qL, .ref qR, .int (nI cnt)])), (qT, .inl (cJ, 1792, .inr (.inl fT))), (qL, .inl (cJ, 7, .inr (.inl fL))), (qR, .inl (cJ, 7, .inr (.inl z9.2.1)))] ∧ va_S A s.heap H locs ∧ lv_has ls 3 [(0, .ref h0), (1, .int (nI z9.2.2)), (2, .int (nI z9.1))]) ?_ (0, fR24, 0) ⟨(show (0) ≤ wn from Nat.zero_le _), (show ∀ k, k < 448 → lb fR24 k = rch (tT ts) (tL ts) lt (0) k from fun k hk => by rw [hw4 k hk]; rfl), (show (0) = bg ts lt (0) from bg_00 hTR hc hw4 hz), (show (0) ≤ (0) + 1 from by omega), hP.sub [0, 1, 2, 3, 4, 5] rfl, hD.sub [0, 1, 2, 3, 4, 5] (by decide) rfl, hS, lv_sub hl [2, 1, 0] rfl⟩
      intro z9 H locs ls hI ih25
      obtain ⟨i, g, o⟩ := z9
      obtain ⟨hi, hg, ho, ho2, hP, hD, hS, hl⟩ := hI
      try dsimp only at hi hg ho ho2 hP hD hl
      have hP : va_P (dC, dI) vwCl [(h0, .inr (2, [.ref qP, .int (nI tl), .ref qW, .int (nI wn), .ref hT])), (qW, .inl (cI, 400, .inl (fun j => nI (lt j)))), (hT, .inr (1, [.ref qT, .ref qL, .ref qR, .int (nI cnt)])), (qT, .inl (cJ, 1792, .inr (.inl fT))), (qL, .inl (cJ, 7, .inr (.inl fL))), (qR, .inl (cJ, 7, .inr (.inl g)))] H := hP
      have hD : va_D A [(h0, .inr (2, [.ref qP, .int (nI tl), .ref qW, .int (nI wn), .ref hT])), (qW, .inl (cI, 400, .inl (fun j => nI (lt j)))), (hT, .inr (1, [.ref qT, .ref qL, .ref qR, .int (nI cnt)])), (qT, .inl (cJ, 1792, .inr (.inl fT))), (qL, .inl (cJ, 7, .inr (.inl fL))), (qR, .inl (cJ, 7, .inr (.inl g)))] := hD
      have hl : lv_has ls 3 [(0, .ref h0), (1, .int (nI o)), (2, .int (nI i))] := hl
      refine lv_iload_n hx hb dX2_beginnings_25 rfl (lv_at hl 2 rfl) ?_
      refine lv_aload_n hx hb dX2_beginnings_26 rfl (lv_at hl 0 rfl) ?_
      refine va_get (D := (dC, dI)) (ci := 2) (v := .int (nI wn)) (C := RX2) (T := TX2) (N := 5) hx hb hts (by decide +kernel) hown hK hP 0 rfl rfl 3 (by decide) (hts (.fieldLink RX2 48 "WildCards" "letterCount" "I") (by decide +kernel)) (fun _ h9 => h9) rfl dX2_beginnings_27 ?_
      refine wl_icmp_ge (tgt := 65) hx hb dX2_beginnings_30 (by decide) (by omega) (by omega) (fun c30 => ?_) (fun c30 => ?_)
      · skip
        refine lv_iload_n hx hb dX2_beginnings_65 rfl (lv_at hl 1 rfl) ?_
        have hP9 := hP.sub (ws' := [(h0, .inr (2, [.ref qP, .int (nI tl), .ref qW, .int (nI wn), .ref hT])), (qW, .inl (cI, 400, .inl (fun j => nI (lt j)))), (hT, .inr (1, [.ref qT, .ref qL, .ref qR, .int (nI cnt)])), (qT, .inl (cJ, 1792, .inr (.inl fT))), (qL, .inl (cJ, 7, .inr (.inl fL))), (qR, .inl (cJ, 7, .inr (.inl g)))]) [0, 1, 2, 3, 4, 5] rfl
        have hD9 := hD.sub (ws' := [(h0, .inr (2, [.ref qP, .int (nI tl), .ref qW, .int (nI wn), .ref hT])), (qW, .inl (cI, 400, .inl (fun j => nI (lt j)))), (hT, .inr (1, [.ref qT, .ref qL, .ref qR, .int (nI cnt)])), (qT, .inl (cJ, 1792, .inr (.inl fT))), (qL, .inl (cJ, 7, .inr (.inl fL))), (qR, .inl (cJ, 7, .inr (.inl g)))]) [0, 1, 2, 3, 4, 5] (by decide) rfl
        exact W.iret (v := nI o) hx hb hr  (fun t ht hW => ⟨⟨nI o, g, rfl, (show (nI o) = nI (bg ts lt wn) from by rw [ho, show i = wn by omega]), by rw [ht]; exact hP9, va_K.moved hW.alike hK, hD9⟩, hS.F ht⟩) hS.2.2 dX2_beginnings_66
      · skip
        have h8 := hlt i (by omega)
        refine lv_aload_n hx hb dX2_beginnings_33 rfl (lv_at hl 0 rfl) ?_
        refine va_get (D := (dC, dI)) (ci := 2) (v := .ref hT) (C := RX2) (T := TX2) (N := 5) hx hb hts (by decide +kernel) hown hK hP 0 rfl rfl 4 (by decide) (hts (.fieldLink RX2 19 "WildCards" "things" "LWildCards$Things;") (by decide +kernel)) (fun _ h9 => h9) rfl dX2_beginnings_34 ?_
        refine lv_aload_n hx hb dX2_beginnings_37 rfl (lv_at hl 0 rfl) ?_
        refine va_get (D := (dC, dI)) (ci := 2) (v := .ref qW) (C := RX2) (T := TX2) (N := 5) hx hb hts (by decide +kernel) hown hK hP 0 rfl rfl 2 (by decide) (hts (.fieldLink RX2 13 "WildCards" "letters" "[I") (by decide +kernel)) (fun _ h9 => h9) rfl dX2_beginnings_38 ?_
        refine lv_iload_n hx hb dX2_beginnings_41 rfl (lv_at hl 2 rfl) ?_
        refine va_iald hx hb hK hP 1 0 rfl rfl (vp_in_nI (by omega) (by omega)) dX2_beginnings_42 ?_
        refine wl_asi (y := nI (lt i)) (by rw [nI_clamp (by omega)]) ?_
        have hPc := hP.sub (ws' := [(hT, .inr (1, [.ref qT, .ref qL, .ref qR, .int (nI cnt)])), (qT, .inl (cJ, 1792, .inr (.inl fT))), (qL, .inl (cJ, 7, .inr (.inl fL))), (qR, .inl (cJ, 7, .inr (.inl g)))]) [2, 3, 4, 5] rfl
        have hDc := hD.sub (ws' := [(hT, .inr (1, [.ref qT, .ref qL, .ref qR, .int (nI cnt)])), (qT, .inl (cJ, 1792, .inr (.inl fT))), (qL, .inl (cJ, 7, .inr (.inl fL))), (qR, .inl (cJ, 7, .inr (.inl g)))]) [2, 3, 4, 5] (by decide) rfl
        have hFc := va_free (wc := [(hT, .inr (1, [.ref qT, .ref qL, .ref qR, .int (nI cnt)])), (qT, .inl (cJ, 1792, .inr (.inl fT))), (qL, .inl (cJ, 7, .inr (.inl fL))), (qR, .inl (cJ, 7, .inr (.inl g)))]) hD hS hA [2, 3, 4, 5] rfl
        refine va_callv (va_runV (As := [.int (nI (lt i))]) (rest := []) ⟨hx, hb, hml, hown, hts⟩ (c_X1_step l dC dI cI cJ cZ hT qT qL qR H.size cnt fT fL g (lt i) h8) (cwV 1 hts gX2_beginnings_X1_step rfl rfl rfl (by decide +kernel) ⟨Nat.le_of_ble_eq_true rfl, Nat.le_of_ble_eq_true rfl⟩) ⟨fun a U g mk q => by obtain ⟨q0, q1, qP, qK, qD⟩ := q; exact ⟨q0, q1, qP, va_K.moved (u := U) (U := U.calling g mk a) (Vm.Alike.refl U.vm) qK, qD⟩, va_recv hK hPc (ci := 1) (q0 := 0) rfl rfl, fun U hU hW => ⟨rfl, by rw [hU], by rw [hU]; exact hPc, va_K.moved hW.alike hK, hDc.weaken (fun _ _ _ _ => trivial)⟩⟩ rfl rfl hl.1 rfl (lv_room (Nat.le_of_ble_eq_true rfl)) dX2_beginnings_43 ⟨show 0 + 0 + 0 + 0 ≤ 0 from by decide, show 0 + 0 + 0 + 0 ≤ 0 from by decide⟩) hS (fun q _ h => hFc q h) hFc (fun u t H1 locs ht hvm hw43 hB hz1 hk1 hS => ?_)
        obtain ⟨fR243, rfl⟩ : ∃ z, z = u := ⟨_, rfl⟩
        obtain ⟨hP1, hK1, hD1⟩ := hB
        rw [ht] at hP1
        try dsimp only at hw43 hP1 hD1
        obtain ⟨hP, hD⟩ := va_join (wr := [(h0, .inr (2, [.ref qP, .int (nI tl), .ref qW, .int (nI wn), .ref hT])), (qW, .inl (cI, 400, .inl (fun j => nI (lt j))))]) (w1 := [(hT, .inr (1, [.ref qT, .ref qL, .ref qR, .int (nI cnt)])), (qT, .inl (cJ, 1792, .inr (.inl fT))), (qL, .inl (cJ, 7, .inr (.inl fL))), (qR, .inl (cJ, 7, .inr (.inl fR243)))]) hP hD [2, 3, 4, 5] [0, 1] rfl rfl (by decide) (by decide) hk1 hFc hP1 hD1
        generalize H1 = H at hP hS ⊢
        have hP : va_P (dC, dI) vwCl [(h0, .inr (2, [.ref qP, .int (nI tl), .ref qW, .int (nI wn), .ref hT])), (qW, .inl (cI, 400, .inl (fun j => nI (lt j)))), (hT, .inr (1, [.ref qT, .ref qL, .ref qR, .int (nI cnt)])), (qT, .inl (cJ, 1792, .inr (.inl fT))), (qL, .inl (cJ, 7, .inr (.inl fL))), (qR, .inl (cJ, 7, .inr (.inl fR243)))] H := hP
        have hD : va_D A [(h0, .inr (2, [.ref qP, .int (nI tl), .ref qW, .int (nI wn), .ref hT])), (qW, .inl (cI, 400, .inl (fun j => nI (lt j)))), (hT, .inr (1, [.ref qT, .ref qL, .ref qR, .int (nI cnt)])), (qT, .inl (cJ, 1792, .inr (.inl fT))), (qL, .inl (cJ, 7, .inr (.inl fL))), (qR, .inl (cJ, 7, .inr (.inl fR243)))] := hD
        refine lv_aload_n hx hb dX2_beginnings_46 rfl (lv_at hl 0 rfl) ?_
        refine va_get (D := (dC, dI)) (ci := 2) (v := .ref hT) (C := RX2) (T := TX2) (N := 5) hx hb hts (by decide +kernel) hown hK hP 0 rfl rfl 4 (by decide) (hts (.fieldLink RX2 19 "WildCards" "things" "LWildCards$Things;") (by decide +kernel)) (fun _ h9 => h9) rfl dX2_beginnings_47 ?_
        have hPc := hP.sub (ws' := [(hT, .inr (1, [.ref qT, .ref qL, .ref qR, .int (nI cnt)])), (qT, .inl (cJ, 1792, .inr (.inl fT))), (qL, .inl (cJ, 7, .inr (.inl fL))), (qR, .inl (cJ, 7, .inr (.inl fR243)))]) [2, 3, 4, 5] rfl
        have hDc := hD.sub (ws' := [(hT, .inr (1, [.ref qT, .ref qL, .ref qR, .int (nI cnt)])), (qT, .inl (cJ, 1792, .inr (.inl fT))), (qL, .inl (cJ, 7, .inr (.inl fL))), (qR, .inl (cJ, 7, .inr (.inl fR243)))]) [2, 3, 4, 5] (by decide) rfl
        have hFc := va_free (wc := [(hT, .inr (1, [.ref qT, .ref qL, .ref qR, .int (nI cnt)])), (qT, .inl (cJ, 1792, .inr (.inl fT))), (qL, .inl (cJ, 7, .inr (.inl fL))), (qR, .inl (cJ, 7, .inr (.inl fR243)))]) hD hS hA [2, 3, 4, 5] rfl
        refine va_calli (va_runV (As := []) (rest := []) ⟨hx, hb, hml, hown, hts⟩ (c_X1_endIsReached l dC dI cI cJ cZ hT qT qL qR H.size cnt fT fL fR243 (by omega)) (cwV 0 hts gX2_beginnings_X1_endIsReached rfl rfl rfl (by decide +kernel) ⟨Nat.le_of_ble_eq_true rfl, Nat.le_of_ble_eq_true rfl⟩) ⟨fun a U g mk q => by obtain ⟨q0, q1, qP, qK, qD⟩ := q; exact ⟨q0, q1, qP, va_K.moved (u := U) (U := U.calling g mk a) (Vm.Alike.refl U.vm) qK, qD⟩, va_recv hK hPc (ci := 1) (q0 := 0) rfl rfl, fun U hU hW => ⟨rfl, by rw [hU], by rw [hU]; exact hPc, va_K.moved hW.alike hK, hDc.weaken (fun _ _ _ _ => trivial)⟩⟩ rfl rfl hl.1 rfl (lv_room (Nat.le_of_ble_eq_true rfl)) dX2_beginnings_50 ⟨show 0 + 0 + 0 + 0 + 0 ≤ 0 from by decide, show 0 + 0 + 0 + 0 + 0 ≤ 0 from by decide⟩) hS (fun q _ h => hFc q h) hFc (fun r50 u t H1 locs ht hvm hw50 hB hz1 hk1 hS => ?_)
        obtain ⟨hP1, hK1, hD1⟩ := hB
        rw [ht] at hP1
        try dsimp only at hw50 hP1 hD1
        obtain ⟨hP, hD⟩ := va_join (wr := [(h0, .inr (2, [.ref qP, .int (nI tl), .ref qW, .int (nI wn), .ref hT])), (qW, .inl (cI, 400, .inl (fun j => nI (lt j))))]) (w1 := [(hT, .inr (1, [.ref qT, .ref qL, .ref qR, .int (nI cnt)])), (qT, .inl (cJ, 1792, .inr (.inl fT))), (qL, .inl (cJ, 7, .inr (.inl fL))), (qR, .inl (cJ, 7, .inr (.inl fR243)))]) hP hD [2, 3, 4, 5] [0, 1] rfl rfl (by decide) (by decide) hk1 hFc hP1 hD1
        generalize H1 = H at hP hS ⊢
        have hP : va_P (dC, dI) vwCl [(h0, .inr (2, [.ref qP, .int (nI tl), .ref qW, .int (nI wn), .ref hT])), (qW, .inl (cI, 400, .inl (fun j => nI (lt j)))), (hT, .inr (1, [.ref qT, .ref qL, .ref qR, .int (nI cnt)])), (qT, .inl (cJ, 1792, .inr (.inl fT))), (qL, .inl (cJ, 7, .inr (.inl fL))), (qR, .inl (cJ, 7, .inr (.inl fR243)))] H := hP
        have hD : va_D A [(h0, .inr (2, [.ref qP, .int (nI tl), .ref qW, .int (nI wn), .ref hT])), (qW, .inl (cI, 400, .inl (fun j => nI (lt j)))), (hT, .inr (1, [.ref qT, .ref qL, .ref qR, .int (nI cnt)])), (qT, .inl (cJ, 1792, .inr (.inl fT))), (qL, .inl (cJ, 7, .inr (.inl fL))), (qR, .inl (cJ, 7, .inr (.inl fR243)))] := hD
        by_cases hz2 : lb fR243 cnt = true
        · skip
          refine wl_asi (y := nI 1) (by rw [hw50, if_pos hz2]; rfl) ?_
          refine lv_if_eq (tgt := 59) hx hb dX2_beginnings_53 (by decide) (fun c53 => ?_) (fun c53 => ?_)
          · first | exact absurd c53 (by decide) | exact absurd (by decide) c53
          · skip
            refine lv_iinc (v := nI (o + 1)) (lv' := [(1, .int (nI (o + 1))), (0, .ref h0), (2, .int (nI i))]) hx hb dX2_beginnings_56 hl (k := 1) rfl (wl_inc _ _ (by decide)) (by decide) rfl (fun ls hl => ?_)
            refine lv_iinc (v := nI (i + 1)) (lv' := [(2, .int (nI (i + 1))), (1, .int (nI (o + 1))), (0, .ref h0)]) hx hb dX2_beginnings_59 hl (k := 2) rfl (wl_inc _ _ (by decide)) (by decide) rfl (fun ls hl => ?_)
            refine lv_goto (tgt := 25) hx hb dX2_beginnings_62 (by decide) ?_
            exact ih25 (i + 1, fR243, o + 1) H locs ls ⟨(show (i + 1) ≤ wn from by omega), (show ∀ k, k < 448 → lb fR243 k = rch (tT ts) (tL ts) lt (i + 1) k from RC_s hTR hg rfl h8 hw43), (show (o + 1) = bg ts lt (i + 1) from bg_s1 hTR hc (RC_s hTR hg rfl h8 hw43) hz2 ho), (show (o + 1) ≤ (i + 1) + 1 from by omega), hP.sub [0, 1, 2, 3, 4, 5] rfl, hD.sub [0, 1, 2, 3, 4, 5] (by decide) rfl, hS, lv_sub hl [2, 1, 0] rfl⟩ (by (try dsimp only); omega)
        · skip
          refine wl_asi (y := nI 0) (by rw [hw50, if_neg hz2]; rfl) ?_
          refine lv_if_eq (tgt := 59) hx hb dX2_beginnings_53 (by decide) (fun c53 => ?_) (fun c53 => ?_)
          rotate_left
          · first | exact absurd c53 (by decide) | exact absurd (by decide) c53
          · skip
            refine lv_iinc (v := nI (i + 1)) (lv' := [(2, .int (nI (i + 1))), (0, .ref h0), (1, .int (nI o))]) hx hb dX2_beginnings_59 hl (k := 2) rfl (wl_inc _ _ (by decide)) (by decide) rfl (fun ls hl => ?_)
            refine lv_goto (tgt := 25) hx hb dX2_beginnings_62 (by decide) ?_
            exact ih25 (i + 1, fR243, o) H locs ls ⟨(show (i + 1) ≤ wn from by omega), (show ∀ k, k < 448 → lb fR243 k = rch (tT ts) (tL ts) lt (i + 1) k from RC_s hTR hg rfl h8 hw43), (show o = bg ts lt (i + 1) from bg_s0 hTR hc (RC_s hTR hg rfl h8 hw43) hz2 ho), (show o ≤ (i + 1) + 1 from by omega), hP.sub [0, 1, 2, 3, 4, 5] rfl, hD.sub [0, 1, 2, 3, 4, 5] (by decide) rfl, hS, lv_sub hl [1, 2, 0] rfl⟩ (by (try dsimp only); omega)
end
section
set_option maxHeartbeats 4000000 in
set_option maxRecDepth 100000 in
theorem c_X2_init (l : Launch) (dC : Nat → ClassId) (dI : Nat → Nat → Nat) (cI cJ cZ : ClassId) (h0 : Nat) (sz : Nat) : Met l yX2_init wsX2_init ({ frames := 2, cells := 6, slots := 2610, locals := 32 }) (va_Pc [.ref h0] (fun U => U.heap.size = sz ∧ va_P (dC, dI) vwCl [(h0, .inr (2, [.null, .int (nI 0), .null, .int (nI 0), .null]))] U.heap ∧ va_K (dC, dI) vwCl [(cI, .int), (cJ, .long), (cZ, .boolean)] U ∧ va_D (fun _ => True) [(h0, .inr (2, [.null, .int (nI 0), .null, .int (nI 0), .null]))])) (va_Qv (fun (u : Nat × Nat × Nat × Nat × Nat × Nat) => True) (fun (u : Nat × Nat × Nat × Nat × Nat × Nat) (t : State) => va_P (dC, dI) vwCl [(h0, .inr (2, [.ref u.1, .int (nI 0), .ref u.2.1, .int (nI 0), .ref u.2.2.1])), (u.1, .inl (cI, 400, .inl (fun j => nI ((fun _ => 0) j)))), (u.2.1, .inl (cI, 400, .inl (fun j => nI ((fun _ => 0) j)))), (u.2.2.1, .inr (1, [.ref u.2.2.2.1, .ref u.2.2.2.2.1, .ref u.2.2.2.2.2, .int (nI 0)])), (u.2.2.2.1, .inl (cJ, 1792, .inr (.inl (fun _ => 0)))), (u.2.2.2.2.1, .inl (cJ, 7, .inr (.inl (fun _ => 0)))), (u.2.2.2.2.2, .inl (cJ, 7, .inr (.inl (fun _ => 0))))] t.heap ∧ va_K (dC, dI) vwCl [(cI, .int), (cJ, .long), (cZ, .boolean)] t ∧ va_D (va_A [(h0, .inr (2, [.null, .int (nI 0), .null, .int (nI 0), .null]))] sz) [(h0, .inr (2, [.ref u.1, .int (nI 0), .ref u.2.1, .int (nI 0), .ref u.2.2.1])), (u.1, .inl (cI, 400, .inl (fun j => nI ((fun _ => 0) j)))), (u.2.1, .inl (cI, 400, .inl (fun j => nI ((fun _ => 0) j)))), (u.2.2.1, .inr (1, [.ref u.2.2.2.1, .ref u.2.2.2.2.1, .ref u.2.2.2.2.2, .int (nI 0)])), (u.2.2.2.1, .inl (cJ, 1792, .inr (.inl (fun _ => 0)))), (u.2.2.2.2.1, .inl (cJ, 7, .inr (.inl (fun _ => 0)))), (u.2.2.2.2.2, .inl (cJ, 7, .inr (.inl (fun _ => 0))))]) (va_A [(h0, .inr (2, [.null, .int (nI 0), .null, .int (nI 0), .null]))] sz)) 6 2610 (va_A [(h0, .inr (2, [.null, .int (nI 0), .null, .int (nI 0), .null]))] sz) := by
  refine Met.ofW (cc := cX2_init) (maxL := 1) (ret := none) (by decide) rfl ?_
  intro p e s m args below meth c s₁ B hml hv
  obtain ⟨rfl, hsz, hP, hK, hD0⟩ := hv
  have hx := B.exec
  have hb := B.bytes
  have hr := B.returns
  have hts := atoms_spec (ws := wsX2_init) B.pre
  have hown : s.vm.findClass RX2 = some m.cls := findClass_of_methodNamed B.named
  have hlocks := B.notSynchronized
  have hin : meth.name = "<init>" := (name_of_methodNamed B.named B.method).1
  subst hsz
  have hD := hD0.self (sz := s.heap.size)
  generalize hAe : va_A [(h0, .inr (2, [.null, .int (nI 0), .null, .int (nI 0), .null]))] s.heap.size = A at hD ⊢
  have hA : ∀ q : Nat, s.heap.size ≤ q → A q := fun q h => by rw [← hAe]; exact Or.inr h
  have hS : va_S A s.heap s.heap [] := va_S.rf
  have hP : va_P (dC, dI) vwCl [(h0, .inr (2, [.null, .int (nI 0), .null, .int (nI 0), .null]))] s.heap := hP
  have hl := lv_entry ([.ref h0]) (n := 1) (Nat.le_of_ble_eq_true rfl)
  rw [lg_entry_eq]
  generalize (lg_sl ([.ref h0]) ++ List.replicate (1 - (lg_sl ([.ref h0])).length) Slot.unset).toArray = ls at hl ⊢
  have hl : lv_has ls 1 [(0, .ref h0)] := hl
  skip
  refine lv_aload_n hx hb dX2_init_0 rfl (lv_at hl 0 rfl) ?_
  refine W.objInit hx hb hown (hts (.methodLink RX2 1 objectInit) (by decide +kernel)) (hts (.instanceMethod objectInit) (by decide +kernel)) (hts (.code objectInit ⟨#[0xb1]⟩ 1 none) (by decide +kernel)) rfl (by rw [hml]; exact hl.1) rfl dX2_init_1 (Nat.le_of_ble_eq_true rfl) (Nat.le_of_ble_eq_true rfl) ?_
  refine W.eq (g2 := F0 m 4 ls []) rfl ?_
  refine lv_aload_n hx hb dX2_init_4 rfl (lv_at hl 0 rfl) ?_
  refine lv_sipush (v := nI 400) hx hb dX2_init_5 (by decide) ?_
  refine va_newa (atype := .int) (ty := .int) (N' := 400) (a0 := (400, .inl (fun j => nI ((fun _ => 0) j)))) hx hb (hts (.arrayClass .int) (by decide +kernel)) rfl hK hP hD hS hA (fun _ => rfl) (nI_pos (by omega)) (nI_clamp (by omega)) (by decide) (show 0 + 1 ≤ 6 from by decide) (show 0 + 400 ≤ 2610 from by decide) dX2_init_8 (fun q8 cA H hK1 hP hD hS => ?_)
  obtain rfl : cI = cA := (wl_same_int hK1 3 0 rfl rfl).symm
  have hP : va_P (dC, dI) vwCl [(h0, .inr (2, [.null, .int (nI 0), .null, .int (nI 0), .null])), (q8, .inl (cI, 400, .inl (fun j => nI ((fun _ => 0) j))))] H := hP
  have hD : va_D A [(h0, .inr (2, [.null, .int (nI 0), .null, .int (nI 0), .null])), (q8, .inl (cI, 400, .inl (fun j => nI ((fun _ => 0) j))))] := hD
  refine va_putF (D := (dC, dI)) (ci := 2) (v := .ref q8) (ty := .array .int) (C := RX2) (T := TX2) (N := 5) hx hb hts (by decide +kernel) tyX2 tyX2_ok nmX2 hown hK hP hD hS 0 rfl rfl 0 (by decide) (hts (.fieldLink RX2 9 "WildCards" "tape" "[I") (by decide +kernel)) (fun _ h9 => h9) rfl hin rfl (by decide +kernel) rfl rfl (Nat.le_of_ble_eq_true rfl) dX2_init_10 (fun H locs hP hD hS => ?_)
  have hP : va_P (dC, dI) vwCl [(h0, .inr (2, [.ref q8, .int (nI 0), .null, .int (nI 0), .null])), (q8, .inl (cI, 400, .inl (fun j => nI ((fun _ => 0) j))))] H := hP
  have hD : va_D A [(h0, .inr (2, [.ref q8, .int (nI 0), .null, .int (nI 0), .null])), (q8, .inl (cI, 400, .inl (fun j => nI ((fun _ => 0) j))))] := hD
  refine lv_aload_n hx hb dX2_init_13 rfl (lv_at hl 0 rfl) ?_
  refine lv_sipush (v := nI 400) hx hb dX2_init_14 (by decide) ?_
  refine va_newa (atype := .int) (ty := .int) (N' := 400) (a0 := (400, .inl (fun j => nI ((fun _ => 0) j)))) hx hb (hts (.arrayClass .int) (by decide +kernel)) rfl hK hP hD hS hA (fun _ => rfl) (nI_pos (by omega)) (nI_clamp (by omega)) (by decide) (show 0 + 1 + 1 ≤ 6 from by decide) (show 0 + 400 + 400 ≤ 2610 from by decide) dX2_init_17 (fun q17 cA H hK1 hP hD hS => ?_)
  obtain rfl : cI = cA := (wl_same_int hK1 3 0 rfl rfl).symm
  have hP : va_P (dC, dI) vwCl [(h0, .inr (2, [.ref q8, .int (nI 0), .null, .int (nI 0), .null])), (q8, .inl (cI, 400, .inl (fun j => nI ((fun _ => 0) j)))), (q17, .inl (cI, 400, .inl (fun j => nI ((fun _ => 0) j))))] H := hP
  have hD : va_D A [(h0, .inr (2, [.ref q8, .int (nI 0), .null, .int (nI 0), .null])), (q8, .inl (cI, 400, .inl (fun j => nI ((fun _ => 0) j)))), (q17, .inl (cI, 400, .inl (fun j => nI ((fun _ => 0) j))))] := hD
  refine va_putF (D := (dC, dI)) (ci := 2) (v := .ref q17) (ty := .array .int) (C := RX2) (T := TX2) (N := 5) hx hb hts (by decide +kernel) tyX2 tyX2_ok nmX2 hown hK hP hD hS 0 rfl rfl 2 (by decide) (hts (.fieldLink RX2 13 "WildCards" "letters" "[I") (by decide +kernel)) (fun _ h9 => h9) rfl hin rfl (by decide +kernel) rfl rfl (Nat.le_of_ble_eq_true rfl) dX2_init_19 (fun H locs hP hD hS => ?_)
  have hP : va_P (dC, dI) vwCl [(h0, .inr (2, [.ref q8, .int (nI 0), .ref q17, .int (nI 0), .null])), (q8, .inl (cI, 400, .inl (fun j => nI ((fun _ => 0) j)))), (q17, .inl (cI, 400, .inl (fun j => nI ((fun _ => 0) j))))] H := hP
  have hD : va_D A [(h0, .inr (2, [.ref q8, .int (nI 0), .ref q17, .int (nI 0), .null])), (q8, .inl (cI, 400, .inl (fun j => nI ((fun _ => 0) j)))), (q17, .inl (cI, 400, .inl (fun j => nI ((fun _ => 0) j))))] := hD
  refine lv_aload_n hx hb dX2_init_22 rfl (lv_at hl 0 rfl) ?_
  refine va_new (ci := 1) (fs := [.null, .null, .null, .int (nI 0)]) (C := RX1) (T := TX1) (N := 4) hx hb hts (by decide +kernel) tyX1 tyX1_ok hown (hts (.classLink RX2 16 RX1) (by decide +kernel)) (hts (.instantiable RX1 4) (by decide +kernel)) (hts (.initialized RX1) (by decide +kernel)) hK hP hD hS hA rfl (fun j hj => by rcases (show j = 0 ∨ j = 1 ∨ j = 2 ∨ j = 3 by omega) with rfl | rfl | rfl | rfl <;> rfl) (show 0 + 1 + 1 + 1 ≤ 6 from by decide) (show 0 + 400 + 400 + 4 ≤ 2610 from by decide) dX2_init_23 (fun q23 H hP hD hS => ?_)
  have hP : va_P (dC, dI) vwCl [(h0, .inr (2, [.ref q8, .int (nI 0), .ref q17, .int (nI 0), .null])), (q8, .inl (cI, 400, .inl (fun j => nI ((fun _ => 0) j)))), (q17, .inl (cI, 400, .inl (fun j => nI ((fun _ => 0) j)))), (q23, .inr (1, [.null, .null, .null, .int (nI 0)]))] H := hP
  have hD : va_D A [(h0, .inr (2, [.ref q8, .int (nI 0), .ref q17, .int (nI 0), .null])), (q8, .inl (cI, 400, .inl (fun j => nI ((fun _ => 0) j)))), (q17, .inl (cI, 400, .inl (fun j => nI ((fun _ => 0) j)))), (q23, .inr (1, [.null, .null, .null, .int (nI 0)]))] := hD
  refine lv_dup hx hb dX2_init_26 rfl ?_
  have hPc := hP.sub (ws' := [(q23, .inr (1, [.null, .null, .null, .int (nI 0)]))]) [3] rfl
  have hDc := hD.sub (ws' := [(q23, .inr (1, [.null, .null, .null, .int (nI 0)]))]) [3] (by decide) rfl
  have hFc := va_free (wc := [(q23, .inr (1, [.null, .null, .null, .int (nI 0)]))]) hD hS hA [3] rfl
  refine va_callv (va_runI (As := []) (rest := [.ref q23, .ref h0]) ⟨hx, hb, hml, hown, hts⟩ (c_X1_init l dC dI cI cJ cZ q23 H.size  ) (cwI 0 hts gX2_init_X1_init rfl rfl rfl (hts (.initialized RX1) (by decide +kernel)) (hts (.methodLink RX2 18 yX1_init) (by decide +kernel)) (hts (.instanceMethod yX1_init) (by decide +kernel)) rfl (by decide +kernel) ⟨Nat.le_of_ble_eq_true rfl, Nat.le_of_ble_eq_true rfl⟩) ⟨fun a U g mk q => by obtain ⟨q0, q1, qP, qK, qD⟩ := q; exact ⟨q0, q1, qP, va_K.moved (u := U) (U := U.calling g mk a) (Vm.Alike.refl U.vm) qK, qD⟩, fun U hU hW => ⟨rfl, by rw [hU], by rw [hU]; exact hPc, va_K.moved hW.alike hK, hDc.weaken (fun _ _ _ _ => trivial)⟩⟩ rfl rfl hl.1 rfl (lv_room (Nat.le_of_ble_eq_true rfl)) dX2_init_27 ⟨show 0 + 1 + 1 + 1 + 3 ≤ 6 from by decide, show 0 + 400 + 400 + 4 + 1806 ≤ 2610 from by decide⟩) hS (fun q _ h => hFc q h) hFc (fun u t H1 locs ht hvm hw27 hB hz1 hk1 hS => ?_)
  obtain ⟨qT27, qL27, qR27⟩ := u
  obtain ⟨hP1, hK1, hD1⟩ := hB
  rw [ht] at hP1
  try dsimp only at hw27 hP1 hD1
  obtain ⟨hP, hD⟩ := va_join (wr := [(h0, .inr (2, [.ref q8, .int (nI 0), .ref q17, .int (nI 0), .null])), (q8, .inl (cI, 400, .inl (fun j => nI ((fun _ => 0) j)))), (q17, .inl (cI, 400, .inl (fun j => nI ((fun _ => 0) j))))]) (w1 := [(q23, .inr (1, [.ref qT27, .ref qL27, .ref qR27, .int (nI 0)])), (qT27, .inl (cJ, 1792, .inr (.inl (fun _ => 0)))), (qL27, .inl (cJ, 7, .inr (.inl (fun _ => 0)))), (qR27, .inl (cJ, 7, .inr (.inl (fun _ => 0))))]) hP hD [3] [0, 1, 2] rfl rfl (by decide) (by decide) hk1 hFc hP1 hD1
  generalize H1 = H at hP hS ⊢
  have hP : va_P (dC, dI) vwCl [(h0, .inr (2, [.ref q8, .int (nI 0), .ref q17, .int (nI 0), .null])), (q8, .inl (cI, 400, .inl (fun j => nI ((fun _ => 0) j)))), (q17, .inl (cI, 400, .inl (fun j => nI ((fun _ => 0) j)))), (q23, .inr (1, [.ref qT27, .ref qL27, .ref qR27, .int (nI 0)])), (qT27, .inl (cJ, 1792, .inr (.inl (fun _ => 0)))), (qL27, .inl (cJ, 7, .inr (.inl (fun _ => 0)))), (qR27, .inl (cJ, 7, .inr (.inl (fun _ => 0))))] H := hP
  have hD : va_D A [(h0, .inr (2, [.ref q8, .int (nI 0), .ref q17, .int (nI 0), .null])), (q8, .inl (cI, 400, .inl (fun j => nI ((fun _ => 0) j)))), (q17, .inl (cI, 400, .inl (fun j => nI ((fun _ => 0) j)))), (q23, .inr (1, [.ref qT27, .ref qL27, .ref qR27, .int (nI 0)])), (qT27, .inl (cJ, 1792, .inr (.inl (fun _ => 0)))), (qL27, .inl (cJ, 7, .inr (.inl (fun _ => 0)))), (qR27, .inl (cJ, 7, .inr (.inl (fun _ => 0))))] := hD
  refine va_putF (D := (dC, dI)) (ci := 2) (v := .ref q23) (ty := .object "WildCards$Things") (C := RX2) (T := TX2) (N := 5) hx hb hts (by decide +kernel) tyX2 tyX2_ok nmX2 hown hK hP hD hS 0 rfl rfl 4 (by decide) (hts (.fieldLink RX2 19 "WildCards" "things" "LWildCards$Things;") (by decide +kernel)) (fun _ h9 => h9) rfl hin rfl (by decide +kernel) rfl rfl (Nat.le_of_ble_eq_true rfl) dX2_init_30 (fun H locs hP hD hS => ?_)
  have hP : va_P (dC, dI) vwCl [(h0, .inr (2, [.ref q8, .int (nI 0), .ref q17, .int (nI 0), .ref q23])), (q8, .inl (cI, 400, .inl (fun j => nI ((fun _ => 0) j)))), (q17, .inl (cI, 400, .inl (fun j => nI ((fun _ => 0) j)))), (q23, .inr (1, [.ref qT27, .ref qL27, .ref qR27, .int (nI 0)])), (qT27, .inl (cJ, 1792, .inr (.inl (fun _ => 0)))), (qL27, .inl (cJ, 7, .inr (.inl (fun _ => 0)))), (qR27, .inl (cJ, 7, .inr (.inl (fun _ => 0))))] H := hP
  have hD : va_D A [(h0, .inr (2, [.ref q8, .int (nI 0), .ref q17, .int (nI 0), .ref q23])), (q8, .inl (cI, 400, .inl (fun j => nI ((fun _ => 0) j)))), (q17, .inl (cI, 400, .inl (fun j => nI ((fun _ => 0) j)))), (q23, .inr (1, [.ref qT27, .ref qL27, .ref qR27, .int (nI 0)])), (qT27, .inl (cJ, 1792, .inr (.inl (fun _ => 0)))), (qL27, .inl (cJ, 7, .inr (.inl (fun _ => 0)))), (qR27, .inl (cJ, 7, .inr (.inl (fun _ => 0))))] := hD
  have hP9 := hP.sub (ws' := [(h0, .inr (2, [.ref q8, .int (nI 0), .ref q17, .int (nI 0), .ref q23])), (q8, .inl (cI, 400, .inl (fun j => nI ((fun _ => 0) j)))), (q17, .inl (cI, 400, .inl (fun j => nI ((fun _ => 0) j)))), (q23, .inr (1, [.ref qT27, .ref qL27, .ref qR27, .int (nI 0)])), (qT27, .inl (cJ, 1792, .inr (.inl (fun _ => 0)))), (qL27, .inl (cJ, 7, .inr (.inl (fun _ => 0)))), (qR27, .inl (cJ, 7, .inr (.inl (fun _ => 0))))]) [0, 1, 2, 3, 4, 5, 6] rfl
  have hD9 := hD.sub (ws' := [(h0, .inr (2, [.ref q8, .int (nI 0), .ref q17, .int (nI 0), .ref q23])), (q8, .inl (cI, 400, .inl (fun j => nI ((fun _ => 0) j)))), (q17, .inl (cI, 400, .inl (fun j => nI ((fun _ => 0) j)))), (q23, .inr (1, [.ref qT27, .ref qL27, .ref qR27, .int (nI 0)])), (qT27, .inl (cJ, 1792, .inr (.inl (fun _ => 0)))), (qL27, .inl (cJ, 7, .inr (.inl (fun _ => 0)))), (qR27, .inl (cJ, 7, .inr (.inl (fun _ => 0))))]) [0, 1, 2, 3, 4, 5, 6] (by decide) rfl
  refine W.widen (k := 6) (n := 2610) (by omega) (by omega) ?_
  exact W.vret hx hb hr (fun t ht hW => ⟨⟨(q8, q17, q23, qT27, qL27, qR27), rfl, trivial, by rw [ht]; exact hP9, va_K.moved hW.alike hK, hD9⟩, hS.F ht⟩) hS.2.2 dX2_init_33
end
