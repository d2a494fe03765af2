/-! ===== BEGIN words of one list among another's, by their places ===== -/
theorem goodIn_r {big : List Cond} (ws : List Cond) (ps : List Nat) (hp : ws = ps.filterMap (fun i => big[i]?)) (h : ws.all goodWord = true) : GoodIn big ws := by
  intro w hw
  have h1 := List.all_eq_true.mp h w hw
  rw [hp] at hw
  obtain ⟨i, -, hi⟩ := List.mem_filterMap.mp hw
  have hm : w ∈ big := by first | exact List.mem_of_getElem? hi | exact List.getElem?_mem hi
  exact ⟨hm, good_of_word h1⟩
theorem goodIn_app {big a b : List Cond} (ha : GoodIn big a) (hb : GoodIn big b) : GoodIn big (a ++ b) := fun w h => (List.mem_append.mp h).elim (ha w) (hb w)
theorem goodIn_ca {big a b : List Cond} {c : Cond} (ha : GoodIn big (c :: a)) (hb : GoodIn big b) : GoodIn big (c :: (a ++ b)) := fun w h => (List.mem_cons.mp h).elim (fun e => ha w (List.mem_cons.mpr (Or.inl e))) (fun h => (List.mem_append.mp h).elim (fun h => ha w (List.mem_cons.mpr (Or.inr h))) (hb w))
theorem goodIn_sub {big ws : List Cond} (hm : ∀ w ∈ ws, w ∈ big) (h : ws.all goodWord = true) : GoodIn big ws := fun w hw => ⟨hm w hw, good_of_word (List.all_eq_true.mp h w hw)⟩
/-! ===== END ===== -/

/-! ===== BEGIN printed: names, fields, word lists, decode rows ===== -/
def RX0 : String := "BellTouches$Fewest"
def TX0 : u_T := fun k => match k with
  | 0 => ("BellTouches$Fewest", "number", "I", false)
  | 1 => ("BellTouches$Fewest", "notPlain", "I", false)
  | 2 => ("BellTouches$Fewest", "touch", "LBellTouches$Touch;", true)
  | 3 => ("BellTouches$Fewest", "table", "LBellTouches$RowTable;", true)
  | 4 => ("BellTouches$Fewest", "thereIs", "[Z", true)
  | 5 => ("BellTouches$Fewest", "leadCount", "I", false)
  | _ => ("BellTouches$Fewest", "bound", "I", false)
def tyX0 : Nat → FieldType := fun k => match k with
  | 0 => .int
  | 1 => .int
  | 2 => .object "BellTouches$Touch"
  | 3 => .object "BellTouches$RowTable"
  | 4 => .array .boolean
  | 5 => .int
  | _ => .int
abbrev wsX00 : List Cond := u_ws RX0 TX0 7
theorem nmX0 : ∀ a, a < 7 → ∀ b, b < 7 → a ≠ b → (TX0 a).2.1 ≠ (TX0 b).2.1 := by decide +kernel
theorem tyX0_ok : ∀ k, k < 7 → parseFieldDescriptor (TX0 k).2.2.1 = some (tyX0 k) := by decide +kernel
abbrev cX0_init : ByteArray := prog_2_method_1_code
def yX0_init : MethodName := ⟨RX0, "<init>", "()V"⟩
abbrev cX0_find : ByteArray := prog_2_method_2_code
def yX0_find : MethodName := ⟨RX0, "find", "(LBellTouches$Setup;I)V"⟩
abbrev cX0_search : ByteArray := prog_2_method_3_code
def yX0_search : MethodName := ⟨RX0, "search", "(LBellTouches$Fewest;III)V"⟩
abbrev cX0_ringTillAgain : ByteArray := prog_2_method_4_code
def yX0_ringTillAgain : MethodName := ⟨RX0, "ringTillAgain", "(I)I"⟩
abbrev cX0_isEnd : ByteArray := prog_2_method_5_code
def yX0_isEnd : MethodName := ⟨RX0, "isEnd", "(I)Z"⟩
abbrev cX0_backTo : ByteArray := prog_2_method_6_code
def yX0_backTo : MethodName := ⟨RX0, "backTo", "(I)V"⟩
def RX1 : String := "BellTouches$HandRows"
def TX1 : u_T := fun k => match k with
  | 0 => ("BellTouches$HandRows", "first", "[I", true)
  | 1 => ("BellTouches$HandRows", "second", "[I", true)
  | 2 => ("BellTouches$HandRows", "third", "[I", true)
  | _ => ("BellTouches$HandRows", "size", "I", false)
def tyX1 : Nat → FieldType := fun k => match k with
  | 0 => .array .int
  | 1 => .array .int
  | 2 => .array .int
  | _ => .int
abbrev wsX10 : List Cond := u_ws RX1 TX1 4
theorem nmX1 : ∀ a, a < 4 → ∀ b, b < 4 → a ≠ b → (TX1 a).2.1 ≠ (TX1 b).2.1 := by decide +kernel
theorem tyX1_ok : ∀ k, k < 4 → parseFieldDescriptor (TX1 k).2.2.1 = some (tyX1 k) := by decide +kernel
abbrev cX1_init : ByteArray := prog_3_method_1_code
def yX1_init : MethodName := ⟨RX1, "<init>", "(I)V"⟩
abbrev cX1_append : ByteArray := prog_3_method_2_code
def yX1_append : MethodName := ⟨RX1, "append", "(III)Z"⟩
abbrev cX1_copyFrom : ByteArray := prog_3_method_3_code
def yX1_copyFrom : MethodName := ⟨RX1, "copyFrom", "(LBellTouches$HandRows;)V"⟩
def RX2 : String := "BellTouches$Row"
def TX2 : u_T := fun k => match k with
  | _ => ("", "", "", false)
def tyX2 : Nat → FieldType := fun k => match k with
  | _ => .int
abbrev wsX20 : List Cond := u_ws RX2 TX2 0
theorem nmX2 : ∀ a, a < 0 → ∀ b, b < 0 → a ≠ b → (TX2 a).2.1 ≠ (TX2 b).2.1 := by decide +kernel
theorem tyX2_ok : ∀ k, k < 0 → parseFieldDescriptor (TX2 k).2.2.1 = some (tyX2 k) := by decide +kernel
abbrev cX2_rounds : ByteArray := prog_4_method_2_code
def yX2_rounds : MethodName := ⟨RX2, "rounds", "(I)I"⟩
abbrev cX2_bellIn : ByteArray := prog_4_method_3_code
def yX2_bellIn : MethodName := ⟨RX2, "bellIn", "(II)I"⟩
abbrev cX2_placeOf : ByteArray := prog_4_method_4_code
def yX2_placeOf : MethodName := ⟨RX2, "placeOf", "(II)I"⟩
abbrev cX2_isRightAhead : ByteArray := prog_4_method_5_code
def yX2_isRightAhead : MethodName := ⟨RX2, "isRightAhead", "(III)Z"⟩
abbrev cX2_isGood : ByteArray := prog_4_method_6_code
def yX2_isGood : MethodName := ⟨RX2, "isGood", "(II)Z"⟩
abbrev cX2_pairs : ByteArray := prog_4_method_7_code
def yX2_pairs : MethodName := ⟨RX2, "pairs", "(II)I"⟩
abbrev cX2_isKept : ByteArray := prog_4_method_8_code
def yX2_isKept : MethodName := ⟨RX2, "isKept", "(II)Z"⟩
abbrev cX2_swapped : ByteArray := prog_4_method_9_code
def yX2_swapped : MethodName := ⟨RX2, "swapped", "(II)I"⟩
def RX3 : String := "BellTouches$RowTable"
def TX3 : u_T := fun k => match k with
  | _ => ("BellTouches$RowTable", "numbers", "[I", true)
def tyX3 : Nat → FieldType := fun k => match k with
  | _ => .array .int
abbrev wsX30 : List Cond := u_ws RX3 TX3 1
theorem nmX3 : ∀ a, a < 1 → ∀ b, b < 1 → a ≠ b → (TX3 a).2.1 ≠ (TX3 b).2.1 := by decide +kernel
theorem tyX3_ok : ∀ k, k < 1 → parseFieldDescriptor (TX3 k).2.2.1 = some (tyX3 k) := by decide +kernel
abbrev cX3_init : ByteArray := prog_5_method_1_code
def yX3_init : MethodName := ⟨RX3, "<init>", "()V"⟩
abbrev cX3_enter : ByteArray := prog_5_method_2_code
def yX3_enter : MethodName := ⟨RX3, "enter", "([II)I"⟩
abbrev cX3_leave : ByteArray := prog_5_method_3_code
def yX3_leave : MethodName := ⟨RX3, "leave", "([II)V"⟩
abbrev cX3_start : ByteArray := prog_5_method_4_code
def yX3_start : MethodName := ⟨RX3, "start", "(I)I"⟩
def RX4 : String := "BellTouches$Setup"
def TX4 : u_T := fun k => match k with
  | 0 => ("BellTouches$Setup", "n", "I", false)
  | 1 => ("BellTouches$Setup", "changes", "[I", true)
  | 2 => ("BellTouches$Setup", "changeCount", "I", false)
  | 3 => ("BellTouches$Setup", "bob", "I", false)
  | 4 => ("BellTouches$Setup", "single", "I", false)
  | 5 => ("BellTouches$Setup", "leadCalls", "[I", true)
  | 6 => ("BellTouches$Setup", "leadCount", "I", false)
  | 7 => ("BellTouches$Setup", "patternBells", "[I", true)
  | 8 => ("BellTouches$Setup", "seen", "LBellTouches$HandRows;", true)
  | 9 => ("BellTouches$Setup", "events", "LBellTouches$HandRows;", true)
  | _ => ("BellTouches$Setup", "book", "LBellTouches$HandRows;", true)
def tyX4 : Nat → FieldType := fun k => match k with
  | 0 => .int
  | 1 => .array .int
  | 2 => .int
  | 3 => .int
  | 4 => .int
  | 5 => .array .int
  | 6 => .int
  | 7 => .array .int
  | 8 => .object "BellTouches$HandRows"
  | 9 => .object "BellTouches$HandRows"
  | _ => .object "BellTouches$HandRows"
abbrev wsX40 : List Cond := u_ws RX4 TX4 11
theorem nmX4 : ∀ a, a < 11 → ∀ b, b < 11 → a ≠ b → (TX4 a).2.1 ≠ (TX4 b).2.1 := by decide +kernel
theorem tyX4_ok : ∀ k, k < 11 → parseFieldDescriptor (TX4 k).2.2.1 = some (tyX4 k) := by decide +kernel
abbrev cX4_init : ByteArray := prog_6_method_1_code
def yX4_init : MethodName := ⟨RX4, "<init>", "()V"⟩
abbrev cX4_begin : ByteArray := prog_6_method_2_code
def yX4_begin : MethodName := ⟨RX4, "begin", "(I)V"⟩
abbrev cX4_copyFrom : ByteArray := prog_6_method_3_code
def yX4_copyFrom : MethodName := ⟨RX4, "copyFrom", "(LBellTouches$Setup;)V"⟩
abbrev cX4_calledChange : ByteArray := prog_6_method_4_code
def yX4_calledChange : MethodName := ⟨RX4, "calledChange", "(I)I"⟩
abbrev cX4_setCalledChange : ByteArray := prog_6_method_5_code
def yX4_setCalledChange : MethodName := ⟨RX4, "setCalledChange", "(II)V"⟩
abbrev cX4_isMusic : ByteArray := prog_6_method_6_code
def yX4_isMusic : MethodName := ⟨RX4, "isMusic", "(II)Z"⟩
abbrev cX4_holdsPattern : ByteArray := prog_6_method_7_code
def yX4_holdsPattern : MethodName := ⟨RX4, "holdsPattern", "(I)Z"⟩
abbrev cX4_happen : ByteArray := prog_6_method_8_code
def yX4_happen : MethodName := ⟨RX4, "happen", "()V"⟩
def RX5 : String := "BellTouches$SetupText"
def TX5 : u_T := fun k => match k with
  | 0 => ("BellTouches$SetupText", "length", "I", false)
  | 1 => ("BellTouches$SetupText", "signs", "[B", true)
  | 2 => ("BellTouches$SetupText", "place", "I", false)
  | 3 => ("BellTouches$SetupText", "kinds", "[I", true)
  | 4 => ("BellTouches$SetupText", "starts", "[I", true)
  | 5 => ("BellTouches$SetupText", "clauseCount", "I", false)
  | 6 => ("BellTouches$SetupText", "values", "[I", true)
  | _ => ("BellTouches$SetupText", "valueCount", "I", false)
def tyX5 : Nat → FieldType := fun k => match k with
  | 0 => .int
  | 1 => .array .byte
  | 2 => .int
  | 3 => .array .int
  | 4 => .array .int
  | 5 => .int
  | 6 => .array .int
  | _ => .int
abbrev wsX50 : List Cond := u_ws RX5 TX5 8
theorem nmX5 : ∀ a, a < 8 → ∀ b, b < 8 → a ≠ b → (TX5 a).2.1 ≠ (TX5 b).2.1 := by decide +kernel
theorem tyX5_ok : ∀ k, k < 8 → parseFieldDescriptor (TX5 k).2.2.1 = some (tyX5 k) := by decide +kernel
abbrev cX5_init : ByteArray := prog_7_method_1_code
def yX5_init : MethodName := ⟨RX5, "<init>", "()V"⟩
abbrev cX5_append : ByteArray := prog_7_method_2_code
def yX5_append : MethodName := ⟨RX5, "append", "(I)Z"⟩
abbrev cX5_parse : ByteArray := prog_7_method_3_code
def yX5_parse : MethodName := ⟨RX5, "parse", "()I"⟩
abbrev cX5_next : ByteArray := prog_7_method_4_code
def yX5_next : MethodName := ⟨RX5, "next", "()I"⟩
abbrev cX5_parseClause : ByteArray := prog_7_method_5_code
def yX5_parseClause : MethodName := ⟨RX5, "parseClause", "()Z"⟩
abbrev cX5_parseDigit : ByteArray := prog_7_method_6_code
def yX5_parseDigit : MethodName := ⟨RX5, "parseDigit", "()Z"⟩
abbrev cX5_parseWords : ByteArray := prog_7_method_7_code
def yX5_parseWords : MethodName := ⟨RX5, "parseWords", "()Z"⟩
abbrev cX5_parseWord : ByteArray := prog_7_method_8_code
def yX5_parseWord : MethodName := ⟨RX5, "parseWord", "()Z"⟩
abbrev cX5_parseCalls : ByteArray := prog_7_method_9_code
def yX5_parseCalls : MethodName := ⟨RX5, "parseCalls", "()Z"⟩
abbrev cX5_isPlaceSign : ByteArray := prog_7_method_10_code
def yX5_isPlaceSign : MethodName := ⟨RX5, "isPlaceSign", "(I)Z"⟩
abbrev cX5_callOf : ByteArray := prog_7_method_11_code
def yX5_callOf : MethodName := ⟨RX5, "callOf", "(I)I"⟩
abbrev cX5_keep : ByteArray := prog_7_method_12_code
def yX5_keep : MethodName := ⟨RX5, "keep", "(I)V"⟩
abbrev cX5_perform : ByteArray := prog_7_method_13_code
def yX5_perform : MethodName := ⟨RX5, "perform", "(LBellTouches$Setup;)I"⟩
abbrev cX5_performClause : ByteArray := prog_7_method_14_code
def yX5_performClause : MethodName := ⟨RX5, "performClause", "(LBellTouches$Setup;III)Z"⟩
abbrev cX5_beginBells : ByteArray := prog_7_method_15_code
def yX5_beginBells : MethodName := ⟨RX5, "beginBells", "(LBellTouches$Setup;I)Z"⟩
abbrev cX5_setMethod : ByteArray := prog_7_method_16_code
def yX5_setMethod : MethodName := ⟨RX5, "setMethod", "(LBellTouches$Setup;II)Z"⟩
abbrev cX5_setCall : ByteArray := prog_7_method_17_code
def yX5_setCall : MethodName := ⟨RX5, "setCall", "(LBellTouches$Setup;II)Z"⟩
abbrev cX5_setLeads : ByteArray := prog_7_method_18_code
def yX5_setLeads : MethodName := ⟨RX5, "setLeads", "(LBellTouches$Setup;II)Z"⟩
def RX6 : String := "BellTouches$Tape"
def TX6 : u_T := fun k => match k with
  | 0 => ("BellTouches$Tape", "sort", "I", false)
  | 1 => ("BellTouches$Tape", "length", "I", false)
  | _ => ("BellTouches$Tape", "items", "[J", true)
def tyX6 : Nat → FieldType := fun k => match k with
  | 0 => .int
  | 1 => .int
  | _ => .array .long
abbrev wsX60 : List Cond := u_ws RX6 TX6 3
theorem nmX6 : ∀ a, a < 3 → ∀ b, b < 3 → a ≠ b → (TX6 a).2.1 ≠ (TX6 b).2.1 := by decide +kernel
theorem tyX6_ok : ∀ k, k < 3 → parseFieldDescriptor (TX6 k).2.2.1 = some (tyX6 k) := by decide +kernel
abbrev cX6_init : ByteArray := prog_8_method_1_code
def yX6_init : MethodName := ⟨RX6, "<init>", "()V"⟩
abbrev cX6_begin : ByteArray := prog_8_method_2_code
def yX6_begin : MethodName := ⟨RX6, "begin", "(II)V"⟩
abbrev cX6_has : ByteArray := prog_8_method_3_code
def yX6_has : MethodName := ⟨RX6, "has", "(II)Z"⟩
abbrev cX6_narrowed : ByteArray := prog_8_method_4_code
def yX6_narrowed : MethodName := ⟨RX6, "narrowed", "(IJ)J"⟩
def RX7 : String := "BellTouches$Touch"
def TX7 : u_T := fun k => match k with
  | 0 => ("BellTouches$Touch", "rows", "[I", true)
  | 1 => ("BellTouches$Touch", "last", "I", false)
  | 2 => ("BellTouches$Touch", "changeCount", "I", false)
  | 3 => ("BellTouches$Touch", "pairs", "[I", true)
  | 4 => ("BellTouches$Touch", "lastPairs", "[I", true)
  | 5 => ("BellTouches$Touch", "firsts", "[I", true)
  | 6 => ("BellTouches$Touch", "table", "LBellTouches$RowTable;", true)
  | _ => ("BellTouches$Touch", "compared", "Z", false)
def tyX7 : Nat → FieldType := fun k => match k with
  | 0 => .array .int
  | 1 => .int
  | 2 => .int
  | 3 => .array .int
  | 4 => .array .int
  | 5 => .array .int
  | 6 => .object "BellTouches$RowTable"
  | _ => .boolean
abbrev wsX70 : List Cond := u_ws RX7 TX7 8
theorem nmX7 : ∀ a, a < 8 → ∀ b, b < 8 → a ≠ b → (TX7 a).2.1 ≠ (TX7 b).2.1 := by decide +kernel
theorem tyX7_ok : ∀ k, k < 8 → parseFieldDescriptor (TX7 k).2.2.1 = some (tyX7 k) := by decide +kernel
abbrev cX7_init : ByteArray := prog_9_method_1_code
def yX7_init : MethodName := ⟨RX7, "<init>", "()V"⟩
abbrev cX7_ring : ByteArray := prog_9_method_2_code
def yX7_ring : MethodName := ⟨RX7, "ring", "(LBellTouches$Setup;)V"⟩
abbrev cX7_begin : ByteArray := prog_9_method_3_code
def yX7_begin : MethodName := ⟨RX7, "begin", "(LBellTouches$Setup;)V"⟩
abbrev cX7_step : ByteArray := prog_9_method_4_code
def yX7_step : MethodName := ⟨RX7, "step", "(II)V"⟩
abbrev cX7_firstAs : ByteArray := prog_9_method_5_code
def yX7_firstAs : MethodName := ⟨RX7, "firstAs", "(I)I"⟩
abbrev cX7_roundRow : ByteArray := prog_9_method_6_code
def yX7_roundRow : MethodName := ⟨RX7, "roundRow", "()I"⟩
abbrev cX7_falseRow : ByteArray := prog_9_method_7_code
def yX7_falseRow : MethodName := ⟨RX7, "falseRow", "()I"⟩
abbrev cX7_isTrue : ByteArray := prog_9_method_8_code
def yX7_isTrue : MethodName := ⟨RX7, "isTrue", "()Z"⟩
abbrev cX7_course : ByteArray := prog_9_method_9_code
def yX7_course : MethodName := ⟨RX7, "course", "()I"⟩
abbrev cX7_compare : ByteArray := prog_9_method_10_code
def yX7_compare : MethodName := ⟨RX7, "compare", "()V"⟩
def RX8 : String := "BellTouches"
def TX8 : u_T := fun k => match k with
  | 0 => ("BellTouches", "setup", "LBellTouches$Setup;", true)
  | 1 => ("BellTouches", "kept", "LBellTouches$Setup;", true)
  | 2 => ("BellTouches", "trialSetup", "LBellTouches$Setup;", true)
  | 3 => ("BellTouches", "touch", "LBellTouches$Touch;", true)
  | 4 => ("BellTouches", "trial", "LBellTouches$Touch;", true)
  | 5 => ("BellTouches", "fewest", "LBellTouches$Fewest;", true)
  | 6 => ("BellTouches", "text", "LBellTouches$SetupText;", true)
  | 7 => ("BellTouches", "tapes", "[LBellTouches$Tape;", true)
  | 8 => ("BellTouches", "hasImage", "Z", false)
  | _ => ("BellTouches", "stale", "Z", false)
def tyX8 : Nat → FieldType := fun k => match k with
  | 0 => .object "BellTouches$Setup"
  | 1 => .object "BellTouches$Setup"
  | 2 => .object "BellTouches$Setup"
  | 3 => .object "BellTouches$Touch"
  | 4 => .object "BellTouches$Touch"
  | 5 => .object "BellTouches$Fewest"
  | 6 => .object "BellTouches$SetupText"
  | 7 => .array (.object "BellTouches$Tape")
  | 8 => .boolean
  | _ => .boolean
abbrev wsX80 : List Cond := u_ws RX8 TX8 10
theorem nmX8 : ∀ a, a < 10 → ∀ b, b < 10 → a ≠ b → (TX8 a).2.1 ≠ (TX8 b).2.1 := by decide +kernel
theorem tyX8_ok : ∀ k, k < 10 → parseFieldDescriptor (TX8 k).2.2.1 = some (tyX8 k) := by decide +kernel
abbrev cX8_init : ByteArray := prog_1_method_1_code
def yX8_init : MethodName := ⟨RX8, "<init>", "()V"⟩
abbrev cX8_bells : ByteArray := prog_1_method_2_code
def yX8_bells : MethodName := ⟨RX8, "bells", "(I)I"⟩
abbrev cX8_change : ByteArray := prog_1_method_3_code
def yX8_change : MethodName := ⟨RX8, "change", "(I)I"⟩
abbrev cX8_calls : ByteArray := prog_1_method_4_code
def yX8_calls : MethodName := ⟨RX8, "calls", "(II)I"⟩
abbrev cX8_call : ByteArray := prog_1_method_5_code
def yX8_call : MethodName := ⟨RX8, "call", "(II)I"⟩
abbrev cX8_leads : ByteArray := prog_1_method_6_code
def yX8_leads : MethodName := ⟨RX8, "leads", "(I)I"⟩
abbrev cX8_pattern : ByteArray := prog_1_method_7_code
def yX8_pattern : MethodName := ⟨RX8, "pattern", "(II)I"⟩
abbrev cX8_feed : ByteArray := prog_1_method_8_code
def yX8_feed : MethodName := ⟨RX8, "feed", "(I)I"⟩
abbrev cX8_read : ByteArray := prog_1_method_9_code
def yX8_read : MethodName := ⟨RX8, "read", "()I"⟩
abbrev cX8_of : ByteArray := prog_1_method_10_code
def yX8_of : MethodName := ⟨RX8, "of", "(II)I"⟩
abbrev cX8_told : ByteArray := prog_1_method_11_code
def yX8_told : MethodName := ⟨RX8, "told", "(I)I"⟩
abbrev cX8_at : ByteArray := prog_1_method_12_code
def yX8_at : MethodName := ⟨RX8, "at", "(II)I"⟩
abbrev cX8_where : ByteArray := prog_1_method_13_code
def yX8_where : MethodName := ⟨RX8, "where", "(II)I"⟩
abbrev cX8_same : ByteArray := prog_1_method_14_code
def yX8_same : MethodName := ⟨RX8, "same", "(I)I"⟩
abbrev cX8_good : ByteArray := prog_1_method_15_code
def yX8_good : MethodName := ⟨RX8, "good", "(I)I"⟩
abbrev cX8_music : ByteArray := prog_1_method_16_code
def yX8_music : MethodName := ⟨RX8, "music", "(I)I"⟩
abbrev cX8_least : ByteArray := prog_1_method_17_code
def yX8_least : MethodName := ⟨RX8, "least", "(II)I"⟩
abbrev cX8_still : ByteArray := prog_1_method_18_code
def yX8_still : MethodName := ⟨RX8, "still", "(I)I"⟩
abbrev cX8_ahead : ByteArray := prog_1_method_19_code
def yX8_ahead : MethodName := ⟨RX8, "ahead", "(II)I"⟩
abbrev cX8_see : ByteArray := prog_1_method_20_code
def yX8_see : MethodName := ⟨RX8, "see", "(III)I"⟩
abbrev cX8_fits : ByteArray := prog_1_method_21_code
def yX8_fits : MethodName := ⟨RX8, "fits", "(I)I"⟩
abbrev cX8_odds : ByteArray := prog_1_method_22_code
def yX8_odds : MethodName := ⟨RX8, "odds", "(III)J"⟩
abbrev cX8_mean : ByteArray := prog_1_method_23_code
def yX8_mean : MethodName := ⟨RX8, "mean", "(I)J"⟩
abbrev cX8_event : ByteArray := prog_1_method_24_code
def yX8_event : MethodName := ⟨RX8, "event", "(II)I"⟩
abbrev cX8_after : ByteArray := prog_1_method_25_code
def yX8_after : MethodName := ⟨RX8, "after", "(I)I"⟩
abbrev cX8_book : ByteArray := prog_1_method_26_code
def yX8_book : MethodName := ⟨RX8, "book", "(II)I"⟩
abbrev cX8_looked : ByteArray := prog_1_method_27_code
def yX8_looked : MethodName := ⟨RX8, "looked", "()I"⟩
abbrev cX8_judge : ByteArray := prog_1_method_28_code
def yX8_judge : MethodName := ⟨RX8, "judge", "(III)I"⟩
abbrev cX8_image : ByteArray := prog_1_method_29_code
def yX8_image : MethodName := ⟨RX8, "image", "()I"⟩
abbrev cX8_undo : ByteArray := prog_1_method_30_code
def yX8_undo : MethodName := ⟨RX8, "undo", "()I"⟩
abbrev cX8_count : ByteArray := prog_1_method_31_code
def yX8_count : MethodName := ⟨RX8, "count", "(I)I"⟩
abbrev cX8_tape : ByteArray := prog_1_method_32_code
def yX8_tape : MethodName := ⟨RX8, "tape", "(III)I"⟩
abbrev cX8_item : ByteArray := prog_1_method_33_code
def yX8_item : MethodName := ⟨RX8, "item", "(IIJ)I"⟩
abbrev cX8_peek : ByteArray := prog_1_method_34_code
def yX8_peek : MethodName := ⟨RX8, "peek", "(II)J"⟩
abbrev cX8_shift : ByteArray := prog_1_method_35_code
def yX8_shift : MethodName := ⟨RX8, "shift", "(IIIII)I"⟩
abbrev cX8_isPlaces : ByteArray := prog_1_method_36_code
def yX8_isPlaces : MethodName := ⟨RX8, "isPlaces", "(I)Z"⟩
abbrev cX8_isBell : ByteArray := prog_1_method_37_code
def yX8_isBell : MethodName := ⟨RX8, "isBell", "(I)Z"⟩
abbrev cX8_isRow : ByteArray := prog_1_method_38_code
def yX8_isRow : MethodName := ⟨RX8, "isRow", "(I)Z"⟩
abbrev cX8_isLead : ByteArray := prog_1_method_39_code
def yX8_isLead : MethodName := ⟨RX8, "isLead", "(I)Z"⟩
abbrev cX8_isTape : ByteArray := prog_1_method_40_code
def yX8_isTape : MethodName := ⟨RX8, "isTape", "(I)Z"⟩
abbrev cX8_isPart : ByteArray := prog_1_method_41_code
def yX8_isPart : MethodName := ⟨RX8, "isPart", "(I)Z"⟩
abbrev cX8_orNotFound : ByteArray := prog_1_method_42_code
def yX8_orNotFound : MethodName := ⟨RX8, "orNotFound", "(I)I"⟩
abbrev cX8_rung : ByteArray := prog_1_method_43_code
def yX8_rung : MethodName := ⟨RX8, "rung", "()LBellTouches$Touch;"⟩
abbrev cX8_countMusic : ByteArray := prog_1_method_44_code
def yX8_countMusic : MethodName := ⟨RX8, "countMusic", "(I)I"⟩
abbrev cX8_fitsLast : ByteArray := prog_1_method_45_code
def yX8_fitsLast : MethodName := ⟨RX8, "fitsLast", "(I)Z"⟩
abbrev cX8_lowestTerms : ByteArray := prog_1_method_46_code
def yX8_lowestTerms : MethodName := ⟨RX8, "lowestTerms", "(III)J"⟩
def RX9 : String := "BellTouchesModel"
def TX9 : u_T := fun k => match k with
  | 0 => ("BellTouchesModel", "now", "[I", true)
  | 1 => ("BellTouchesModel", "old", "[I", true)
  | 2 => ("BellTouchesModel", "imaged", "Z", false)
  | 3 => ("BellTouchesModel", "last", "I", false)
  | 4 => ("BellTouchesModel", "bell", "[I", true)
  | 5 => ("BellTouchesModel", "key", "[I", true)
  | 6 => ("BellTouchesModel", "texts", "I", false)
  | 7 => ("BellTouchesModel", "text", "[I", true)
  | 8 => ("BellTouchesModel", "at", "I", false)
  | 9 => ("BellTouchesModel", "fault", "I", false)
  | 10 => ("BellTouchesModel", "clauses", "I", false)
  | 11 => ("BellTouchesModel", "clause", "[I", true)
  | 12 => ("BellTouchesModel", "from", "[I", true)
  | 13 => ("BellTouchesModel", "many", "[I", true)
  | 14 => ("BellTouchesModel", "numbers", "I", false)
  | 15 => ("BellTouchesModel", "number", "[I", true)
  | 16 => ("BellTouchesModel", "sort", "[I", true)
  | 17 => ("BellTouchesModel", "long1", "[I", true)
  | 18 => ("BellTouchesModel", "items", "[J", true)
  | _ => ("BellTouchesModel", "moved", "[J", true)
def tyX9 : Nat → FieldType := fun k => match k with
  | 0 => .array .int
  | 1 => .array .int
  | 2 => .boolean
  | 3 => .int
  | 4 => .array .int
  | 5 => .array .int
  | 6 => .int
  | 7 => .array .int
  | 8 => .int
  | 9 => .int
  | 10 => .int
  | 11 => .array .int
  | 12 => .array .int
  | 13 => .array .int
  | 14 => .int
  | 15 => .array .int
  | 16 => .array .int
  | 17 => .array .int
  | 18 => .array .long
  | _ => .array .long
abbrev wsX90 : List Cond := u_ws RX9 TX9 20
theorem nmX9 : ∀ a, a < 20 → ∀ b, b < 20 → a ≠ b → (TX9 a).2.1 ≠ (TX9 b).2.1 := by decide +kernel
theorem tyX9_ok : ∀ k, k < 20 → parseFieldDescriptor (TX9 k).2.2.1 = some (tyX9 k) := by decide +kernel
abbrev cX9_init : ByteArray := prog_11_method_1_code
def yX9_init : MethodName := ⟨RX9, "<init>", "()V"⟩
abbrev cX9_within : ByteArray := prog_11_method_2_code
def yX9_within : MethodName := ⟨RX9, "within", "(III)Z"⟩
abbrev cX9_begins : ByteArray := prog_11_method_3_code
def yX9_begins : MethodName := ⟨RX9, "begins", "(I)V"⟩
abbrev cX9_becomes : ByteArray := prog_11_method_4_code
def yX9_becomes : MethodName := ⟨RX9, "becomes", "(II)I"⟩
abbrev cX9_bells : ByteArray := prog_11_method_5_code
def yX9_bells : MethodName := ⟨RX9, "bells", "(I)I"⟩
abbrev cX9_areKept : ByteArray := prog_11_method_6_code
def yX9_areKept : MethodName := ⟨RX9, "areKept", "(I)Z"⟩
abbrev cX9_isGood : ByteArray := prog_11_method_7_code
def yX9_isGood : MethodName := ⟨RX9, "isGood", "(I)Z"⟩
abbrev cX9_change : ByteArray := prog_11_method_8_code
def yX9_change : MethodName := ⟨RX9, "change", "(I)I"⟩
abbrev cX9_calls : ByteArray := prog_11_method_9_code
def yX9_calls : MethodName := ⟨RX9, "calls", "(II)I"⟩
abbrev cX9_call : ByteArray := prog_11_method_10_code
def yX9_call : MethodName := ⟨RX9, "call", "(II)I"⟩
abbrev cX9_leads : ByteArray := prog_11_method_11_code
def yX9_leads : MethodName := ⟨RX9, "leads", "(I)I"⟩
abbrev cX9_pattern : ByteArray := prog_11_method_12_code
def yX9_pattern : MethodName := ⟨RX9, "pattern", "(II)I"⟩
abbrev cX9_feed : ByteArray := prog_11_method_13_code
def yX9_feed : MethodName := ⟨RX9, "feed", "(I)I"⟩
abbrev cX9_sign : ByteArray := prog_11_method_14_code
def yX9_sign : MethodName := ⟨RX9, "sign", "()I"⟩
abbrev cX9_wrong : ByteArray := prog_11_method_15_code
def yX9_wrong : MethodName := ⟨RX9, "wrong", "()V"⟩
abbrev cX9_adds : ByteArray := prog_11_method_16_code
def yX9_adds : MethodName := ⟨RX9, "adds", "(I)V"⟩
abbrev cX9_digits : ByteArray := prog_11_method_17_code
def yX9_digits : MethodName := ⟨RX9, "digits", "()V"⟩
abbrev cX9_word : ByteArray := prog_11_method_18_code
def yX9_word : MethodName := ⟨RX9, "word", "()Z"⟩
abbrev cX9_words : ByteArray := prog_11_method_19_code
def yX9_words : MethodName := ⟨RX9, "words", "()V"⟩
abbrev cX9_callOf : ByteArray := prog_11_method_20_code
def yX9_callOf : MethodName := ⟨RX9, "callOf", "(I)I"⟩
abbrev cX9_reads : ByteArray := prog_11_method_21_code
def yX9_reads : MethodName := ⟨RX9, "reads", "()V"⟩
abbrev cX9_areGood : ByteArray := prog_11_method_22_code
def yX9_areGood : MethodName := ⟨RX9, "areGood", "(I)Z"⟩
abbrev cX9_does : ByteArray := prog_11_method_23_code
def yX9_does : MethodName := ⟨RX9, "does", "(I)Z"⟩
abbrev cX9_read : ByteArray := prog_11_method_24_code
def yX9_read : MethodName := ⟨RX9, "read", "()I"⟩
abbrev cX9_goes : ByteArray := prog_11_method_25_code
def yX9_goes : MethodName := ⟨RX9, "goes", "(II)V"⟩
abbrev cX9_keys : ByteArray := prog_11_method_26_code
def yX9_keys : MethodName := ⟨RX9, "keys", "(I)V"⟩
abbrev cX9_rings : ByteArray := prog_11_method_27_code
def yX9_rings : MethodName := ⟨RX9, "rings", "()V"⟩
abbrev cX9_round : ByteArray := prog_11_method_28_code
def yX9_round : MethodName := ⟨RX9, "round", "()I"⟩
abbrev cX9_first : ByteArray := prog_11_method_29_code
def yX9_first : MethodName := ⟨RX9, "first", "(I)I"⟩
abbrev cX9_wrongRow : ByteArray := prog_11_method_30_code
def yX9_wrongRow : MethodName := ⟨RX9, "wrongRow", "()I"⟩
abbrev cX9_isTrue : ByteArray := prog_11_method_31_code
def yX9_isTrue : MethodName := ⟨RX9, "isTrue", "()I"⟩
abbrev cX9_course : ByteArray := prog_11_method_32_code
def yX9_course : MethodName := ⟨RX9, "course", "()I"⟩
abbrev cX9_of : ByteArray := prog_11_method_33_code
def yX9_of : MethodName := ⟨RX9, "of", "(II)I"⟩
abbrev cX9_told : ByteArray := prog_11_method_34_code
def yX9_told : MethodName := ⟨RX9, "told", "(I)I"⟩
abbrev cX9_isPlace : ByteArray := prog_11_method_35_code
def yX9_isPlace : MethodName := ⟨RX9, "isPlace", "(I)Z"⟩
abbrev cX9_place : ByteArray := prog_11_method_36_code
def yX9_place : MethodName := ⟨RX9, "place", "(II)I"⟩
abbrev cX9_at : ByteArray := prog_11_method_37_code
def yX9_at : MethodName := ⟨RX9, "at", "(II)I"⟩
abbrev cX9_where : ByteArray := prog_11_method_38_code
def yX9_where : MethodName := ⟨RX9, "where", "(II)I"⟩
abbrev cX9_same : ByteArray := prog_11_method_39_code
def yX9_same : MethodName := ⟨RX9, "same", "(I)I"⟩
abbrev cX9_good : ByteArray := prog_11_method_40_code
def yX9_good : MethodName := ⟨RX9, "good", "(I)I"⟩
abbrev cX9_isMusic : ByteArray := prog_11_method_41_code
def yX9_isMusic : MethodName := ⟨RX9, "isMusic", "(II)Z"⟩
abbrev cX9_musicOf : ByteArray := prog_11_method_42_code
def yX9_musicOf : MethodName := ⟨RX9, "musicOf", "(I)I"⟩
abbrev cX9_music : ByteArray := prog_11_method_43_code
def yX9_music : MethodName := ⟨RX9, "music", "(I)I"⟩
abbrev cX9_least : ByteArray := prog_11_method_44_code
def yX9_least : MethodName := ⟨RX9, "least", "(II)I"⟩
abbrev cX9_still : ByteArray := prog_11_method_45_code
def yX9_still : MethodName := ⟨RX9, "still", "(I)I"⟩
abbrev cX9_ahead : ByteArray := prog_11_method_46_code
def yX9_ahead : MethodName := ⟨RX9, "ahead", "(II)I"⟩
abbrev cX9_see : ByteArray := prog_11_method_47_code
def yX9_see : MethodName := ⟨RX9, "see", "(III)I"⟩
abbrev cX9_isSeen : ByteArray := prog_11_method_48_code
def yX9_isSeen : MethodName := ⟨RX9, "isSeen", "()Z"⟩
abbrev cX9_fits : ByteArray := prog_11_method_49_code
def yX9_fits : MethodName := ⟨RX9, "fits", "(I)I"⟩
abbrev cX9_lowest : ByteArray := prog_11_method_50_code
def yX9_lowest : MethodName := ⟨RX9, "lowest", "(III)J"⟩
abbrev cX9_odds : ByteArray := prog_11_method_51_code
def yX9_odds : MethodName := ⟨RX9, "odds", "(III)J"⟩
abbrev cX9_mean : ByteArray := prog_11_method_52_code
def yX9_mean : MethodName := ⟨RX9, "mean", "(I)J"⟩
abbrev cX9_event : ByteArray := prog_11_method_53_code
def yX9_event : MethodName := ⟨RX9, "event", "(II)I"⟩
abbrev cX9_after : ByteArray := prog_11_method_54_code
def yX9_after : MethodName := ⟨RX9, "after", "(I)I"⟩
abbrev cX9_book : ByteArray := prog_11_method_55_code
def yX9_book : MethodName := ⟨RX9, "book", "(II)I"⟩
abbrev cX9_looked : ByteArray := prog_11_method_56_code
def yX9_looked : MethodName := ⟨RX9, "looked", "()I"⟩
abbrev cX9_isTape : ByteArray := prog_11_method_57_code
def yX9_isTape : MethodName := ⟨RX9, "isTape", "(I)Z"⟩
abbrev cX9_judge : ByteArray := prog_11_method_58_code
def yX9_judge : MethodName := ⟨RX9, "judge", "(III)I"⟩
abbrev cX9_image : ByteArray := prog_11_method_59_code
def yX9_image : MethodName := ⟨RX9, "image", "()I"⟩
abbrev cX9_undo : ByteArray := prog_11_method_60_code
def yX9_undo : MethodName := ⟨RX9, "undo", "()I"⟩
abbrev cX9_count : ByteArray := prog_11_method_61_code
def yX9_count : MethodName := ⟨RX9, "count", "(I)I"⟩
abbrev cX9_tape : ByteArray := prog_11_method_62_code
def yX9_tape : MethodName := ⟨RX9, "tape", "(III)I"⟩
abbrev cX9_item : ByteArray := prog_11_method_63_code
def yX9_item : MethodName := ⟨RX9, "item", "(IIJ)I"⟩
abbrev cX9_peek : ByteArray := prog_11_method_64_code
def yX9_peek : MethodName := ⟨RX9, "peek", "(II)J"⟩
abbrev cX9_shift : ByteArray := prog_11_method_65_code
def yX9_shift : MethodName := ⟨RX9, "shift", "(IIIII)I"⟩
def RJ9 : String := "java/lang/Math"
def TJ9 : u_T := fun k => match k with
  | _ => ("", "", "", false)
def tyJ9 : Nat → FieldType := fun k => match k with
  | _ => .int
abbrev wsJ90 : List Cond := u_ws RJ9 TJ9 0
theorem nmJ9 : ∀ a, a < 0 → ∀ b, b < 0 → a ≠ b → (TJ9 a).2.1 ≠ (TJ9 b).2.1 := by decide +kernel
theorem tyJ9_ok : ∀ k, k < 0 → parseFieldDescriptor (TJ9 k).2.2.1 = some (tyJ9 k) := by decide +kernel
abbrev cJ9_max_7cf53 : ByteArray := prog_12_method_65_code
def yJ9_max_7cf53 : MethodName := ⟨RJ9, "max", "(II)I"⟩
def RJ10 : String := "java/lang/System"
def TJ10 : u_T := fun k => match k with
  | _ => ("", "", "", false)
def tyJ10 : Nat → FieldType := fun k => match k with
  | _ => .int
abbrev wsJ100 : List Cond := u_ws RJ10 TJ10 0
theorem nmJ10 : ∀ a, a < 0 → ∀ b, b < 0 → a ≠ b → (TJ10 a).2.1 ≠ (TJ10 b).2.1 := by decide +kernel
theorem tyJ10_ok : ∀ k, k < 0 → parseFieldDescriptor (TJ10 k).2.2.1 = some (tyJ10 k) := by decide +kernel
def RL : String := "BellTouchesLaw"
abbrev cL_law : ByteArray := code
def yL_law : MethodName := ⟨RL, "law", "([I)Z"⟩
def wsX3_init : List Cond := .code yX3_init cX3_init 1 none :: ([.methodLink RX3 3 objectInit, .instanceMethod objectInit, .code objectInit ⟨#[0xb1]⟩ 1 none, .arrayClass .int, .fieldLink RX3 9 "BellTouches$RowTable" "numbers" "[I"] ++ wsX30)
def wsX7_init : List Cond := .code yX7_init cX7_init 1 none :: ([.methodLink RX7 3 objectInit, .instanceMethod objectInit, .code objectInit ⟨#[0xb1]⟩ 1 none, .arrayClass .int, .fieldLink RX7 9 "BellTouches$Touch" "rows" "[I", .fieldLink RX7 15 "BellTouches$Touch" "last" "I", .fieldLink RX7 19 "BellTouches$Touch" "changeCount" "I", .fieldLink RX7 22 "BellTouches$Touch" "pairs" "[I", .fieldLink RX7 25 "BellTouches$Touch" "lastPairs" "[I", .fieldLink RX7 28 "BellTouches$Touch" "firsts" "[I", .classLink RX7 31 RX3, .instantiable RX3 1, .initialized RX3, .fieldLink RX7 34 "BellTouches$Touch" "table" "LBellTouches$RowTable;", .fieldLink RX7 38 "BellTouches$Touch" "compared" "Z", .instanceMethod yX3_init, .code yX3_init cX3_init 1 none, .methodLink RX3 3 objectInit, .fieldLink RX3 9 "BellTouches$RowTable" "numbers" "[I"] ++ wsX70 ++ wsX30)
def wsX0_init_r1 : List Cond := [Cond.methodLink RX0 3 objectInit, Cond.instanceMethod objectInit, Cond.code objectInit ⟨#[0xb1]⟩ 1 none, Cond.fieldLink RX0 9 "BellTouches$Fewest" "number" "I", Cond.fieldLink RX0 15 "BellTouches$Fewest" "notPlain" "I", Cond.classLink RX0 18 RX7, Cond.instantiable RX7 8, Cond.initialized RX7, Cond.fieldLink RX0 21 "BellTouches$Fewest" "touch" "LBellTouches$Touch;", Cond.classLink RX0 25 RX3, Cond.instantiable RX3 1, Cond.initialized RX3, Cond.fieldLink RX0 28 "BellTouches$Fewest" "table" "LBellTouches$RowTable;", Cond.arrayClass .boolean, Cond.fieldLink RX0 32 "BellTouches$Fewest" "thereIs" "[Z", Cond.fieldLink RX0 36 "BellTouches$Fewest" "leadCount" "I", Cond.fieldLink RX0 39 "BellTouches$Fewest" "bound" "I", Cond.instanceMethod yX7_init, Cond.code yX7_init cX7_init 1 none, Cond.methodLink RX7 3 objectInit, Cond.arrayClass .int, Cond.fieldLink RX7 9 "BellTouches$Touch" "rows" "[I", Cond.fieldLink RX7 15 "BellTouches$Touch" "last" "I", Cond.fieldLink RX7 19 "BellTouches$Touch" "changeCount" "I"]
def wsX0_init_r2 : List Cond := [Cond.fieldLink RX7 22 "BellTouches$Touch" "pairs" "[I", Cond.fieldLink RX7 25 "BellTouches$Touch" "lastPairs" "[I", Cond.fieldLink RX7 28 "BellTouches$Touch" "firsts" "[I", Cond.classLink RX7 31 RX3, Cond.fieldLink RX7 34 "BellTouches$Touch" "table" "LBellTouches$RowTable;", Cond.fieldLink RX7 38 "BellTouches$Touch" "compared" "Z", Cond.instanceMethod yX3_init, Cond.code yX3_init cX3_init 1 none, Cond.methodLink RX3 3 objectInit, Cond.fieldLink RX3 9 "BellTouches$RowTable" "numbers" "[I"]
def wsX0_init : List Cond := .code yX0_init cX0_init 1 none :: ((wsX0_init_r1 ++ wsX0_init_r2) ++ wsX00 ++ wsX70 ++ wsX30)
def wsX2_isKept : List Cond := .code yX2_isKept cX2_isKept 2 (some .boolean) :: ([])
def wsX2_pairs : List Cond := .code yX2_pairs cX2_pairs 4 (some .int) :: ([.methodLink RX2 21 yX2_isKept, .static yX2_isKept, .initialized RX2, .code yX2_isKept cX2_isKept 2 (some .boolean)])
def wsX4_calledChange : List Cond := .code yX4_calledChange cX4_calledChange 2 (some .int) :: ([.fieldLink RX4 22 "BellTouches$Setup" "bob" "I", .fieldLink RX4 25 "BellTouches$Setup" "single" "I"] ++ wsX40)
def wsX2_rounds : List Cond := .code yX2_rounds cX2_rounds 3 (some .int) :: ([])
def wsX7_begin_r1 : List Cond := [Cond.fieldLink RX7 58 "BellTouches$Setup" "changeCount" "I", Cond.fieldLink RX7 19 "BellTouches$Touch" "changeCount" "I", Cond.fieldLink RX7 22 "BellTouches$Touch" "pairs" "[I", Cond.fieldLink RX7 59 "BellTouches$Setup" "n" "I", Cond.fieldLink RX7 62 "BellTouches$Setup" "changes" "[I", Cond.fieldLink RX7 25 "BellTouches$Touch" "lastPairs" "[I", Cond.fieldLink RX7 9 "BellTouches$Touch" "rows" "[I", Cond.fieldLink RX7 15 "BellTouches$Touch" "last" "I", Cond.fieldLink RX7 38 "BellTouches$Touch" "compared" "Z", Cond.methodLink RX7 65 yX2_pairs, Cond.static yX2_pairs, Cond.initialized RX2, Cond.code yX2_pairs cX2_pairs 4 (some .int), Cond.methodLink RX2 21 yX2_isKept, Cond.static yX2_isKept, Cond.code yX2_isKept cX2_isKept 2 (some .boolean), Cond.methodLink RX7 70 yX4_calledChange, Cond.instanceMethod yX4_calledChange, Cond.selects RX4 yX4_calledChange yX4_calledChange, Cond.initialized RX4, Cond.code yX4_calledChange cX4_calledChange 2 (some .int), Cond.fieldLink RX4 22 "BellTouches$Setup" "bob" "I", Cond.fieldLink RX4 25 "BellTouches$Setup" "single" "I", Cond.methodLink RX7 74 yX2_rounds]
def wsX7_begin_r2 : List Cond := [Cond.static yX2_rounds, Cond.code yX2_rounds cX2_rounds 3 (some .int)]
def wsX7_begin : List Cond := .code yX7_begin cX7_begin 4 none :: ((wsX7_begin_r1 ++ wsX7_begin_r2) ++ wsX40 ++ wsX70)
def wsX3_start : List Cond := .code yX3_start cX3_start 1 (some .int) :: ([.constant RX3 17 (-1640531535)])
def wsX3_enter : List Cond := .code yX3_enter cX3_enter 7 (some .int) :: ([.fieldLink RX3 9 "BellTouches$RowTable" "numbers" "[I", .methodLink RX3 13 yX3_start, .static yX3_start, .initialized RX3, .code yX3_start cX3_start 1 (some .int), .constant RX3 17 (-1640531535)] ++ wsX30)
def wsX2_swapped : List Cond := .code yX2_swapped cX2_swapped 3 (some .int) :: ([])
def wsX7_step : List Cond := .code yX7_step cX7_step 4 none :: ([.fieldLink RX7 15 "BellTouches$Touch" "last" "I", .fieldLink RX7 19 "BellTouches$Touch" "changeCount" "I", .fieldLink RX7 25 "BellTouches$Touch" "lastPairs" "[I", .fieldLink RX7 22 "BellTouches$Touch" "pairs" "[I", .fieldLink RX7 9 "BellTouches$Touch" "rows" "[I", .methodLink RX7 77 yX2_swapped, .static yX2_swapped, .initialized RX2, .code yX2_swapped cX2_swapped 3 (some .int)] ++ wsX70)
def wsX0_ringTillAgain_r1 : List Cond := [Cond.fieldLink RX0 21 "BellTouches$Fewest" "touch" "LBellTouches$Touch;", Cond.fieldLink RX0 54 "BellTouches$Touch" "changeCount" "I", Cond.fieldLink RX0 28 "BellTouches$Fewest" "table" "LBellTouches$RowTable;", Cond.fieldLink RX0 57 "BellTouches$Touch" "rows" "[I", Cond.fieldLink RX0 73 "BellTouches$Touch" "last" "I", Cond.methodLink RX0 88 yX7_step, Cond.instanceMethod yX7_step, Cond.selects RX7 yX7_step yX7_step, Cond.initialized RX7, Cond.code yX7_step cX7_step 4 none, Cond.fieldLink RX7 15 "BellTouches$Touch" "last" "I", Cond.fieldLink RX7 19 "BellTouches$Touch" "changeCount" "I", Cond.fieldLink RX7 25 "BellTouches$Touch" "lastPairs" "[I", Cond.fieldLink RX7 22 "BellTouches$Touch" "pairs" "[I", Cond.fieldLink RX7 9 "BellTouches$Touch" "rows" "[I", Cond.methodLink RX7 77 yX2_swapped, Cond.static yX2_swapped, Cond.initialized RX2, Cond.code yX2_swapped cX2_swapped 3 (some .int), Cond.methodLink RX0 61 yX3_enter, Cond.instanceMethod yX3_enter, Cond.selects RX3 yX3_enter yX3_enter, Cond.initialized RX3, Cond.code yX3_enter cX3_enter 7 (some .int)]
def wsX0_ringTillAgain_r2 : List Cond := [Cond.fieldLink RX3 9 "BellTouches$RowTable" "numbers" "[I", Cond.methodLink RX3 13 yX3_start, Cond.static yX3_start, Cond.code yX3_start cX3_start 1 (some .int), Cond.constant RX3 17 (-1640531535)]
def wsX0_ringTillAgain : List Cond := .code yX0_ringTillAgain cX0_ringTillAgain 3 (some .int) :: ((wsX0_ringTillAgain_r1 ++ wsX0_ringTillAgain_r2) ++ wsX00 ++ wsX70 ++ wsX30)
def wsX0_isEnd : List Cond := .code yX0_isEnd cX0_isEnd 2 (some .boolean) :: ([.fieldLink RX0 36 "BellTouches$Fewest" "leadCount" "I", .fieldLink RX0 21 "BellTouches$Fewest" "touch" "LBellTouches$Touch;", .fieldLink RX0 54 "BellTouches$Touch" "changeCount" "I", .fieldLink RX0 57 "BellTouches$Touch" "rows" "[I"] ++ wsX00 ++ wsX70)
def wsX3_leave : List Cond := .code yX3_leave cX3_leave 6 none :: ([.fieldLink RX3 9 "BellTouches$RowTable" "numbers" "[I", .methodLink RX3 13 yX3_start, .static yX3_start, .initialized RX3, .code yX3_start cX3_start 1 (some .int), .constant RX3 17 (-1640531535)] ++ wsX30)
def wsX0_backTo : List Cond := .code yX0_backTo cX0_backTo 3 none :: ([.fieldLink RX0 21 "BellTouches$Fewest" "touch" "LBellTouches$Touch;", .fieldLink RX0 73 "BellTouches$Touch" "last" "I", .fieldLink RX0 28 "BellTouches$Fewest" "table" "LBellTouches$RowTable;", .fieldLink RX0 57 "BellTouches$Touch" "rows" "[I", .methodLink RX0 69 yX3_leave, .instanceMethod yX3_leave, .selects RX3 yX3_leave yX3_leave, .initialized RX3, .code yX3_leave cX3_leave 6 none, .fieldLink RX3 9 "BellTouches$RowTable" "numbers" "[I", .methodLink RX3 13 yX3_start, .static yX3_start, .code yX3_start cX3_start 1 (some .int), .constant RX3 17 (-1640531535)] ++ wsX00 ++ wsX70 ++ wsX30)
def wsX0_search_r1 : List Cond := [Cond.fieldLink RX0 36 "BellTouches$Fewest" "leadCount" "I", Cond.fieldLink RX0 32 "BellTouches$Fewest" "thereIs" "[Z", Cond.fieldLink RX0 39 "BellTouches$Fewest" "bound" "I", Cond.fieldLink RX0 21 "BellTouches$Fewest" "touch" "LBellTouches$Touch;", Cond.fieldLink RX0 73 "BellTouches$Touch" "last" "I", Cond.fieldLink RX0 9 "BellTouches$Fewest" "number" "I", Cond.fieldLink RX0 15 "BellTouches$Fewest" "notPlain" "I", Cond.methodLink RX0 76 yX0_ringTillAgain, Cond.instanceMethod yX0_ringTillAgain, Cond.selects RX0 yX0_ringTillAgain yX0_ringTillAgain, Cond.initialized RX0, Cond.code yX0_ringTillAgain cX0_ringTillAgain 3 (some .int), Cond.fieldLink RX0 54 "BellTouches$Touch" "changeCount" "I", Cond.fieldLink RX0 28 "BellTouches$Fewest" "table" "LBellTouches$RowTable;", Cond.fieldLink RX0 57 "BellTouches$Touch" "rows" "[I", Cond.methodLink RX0 88 yX7_step, Cond.instanceMethod yX7_step, Cond.selects RX7 yX7_step yX7_step, Cond.initialized RX7, Cond.code yX7_step cX7_step 4 none, Cond.fieldLink RX7 15 "BellTouches$Touch" "last" "I", Cond.fieldLink RX7 19 "BellTouches$Touch" "changeCount" "I", Cond.fieldLink RX7 25 "BellTouches$Touch" "lastPairs" "[I", Cond.fieldLink RX7 22 "BellTouches$Touch" "pairs" "[I"]
def wsX0_search_r2 : List Cond := [Cond.fieldLink RX7 9 "BellTouches$Touch" "rows" "[I", Cond.methodLink RX7 77 yX2_swapped, Cond.static yX2_swapped, Cond.initialized RX2, Cond.code yX2_swapped cX2_swapped 3 (some .int), Cond.methodLink RX0 61 yX3_enter, Cond.instanceMethod yX3_enter, Cond.selects RX3 yX3_enter yX3_enter, Cond.initialized RX3, Cond.code yX3_enter cX3_enter 7 (some .int), Cond.fieldLink RX3 9 "BellTouches$RowTable" "numbers" "[I", Cond.methodLink RX3 13 yX3_start, Cond.static yX3_start, Cond.code yX3_start cX3_start 1 (some .int), Cond.constant RX3 17 (-1640531535), Cond.methodLink RX0 65 yX0_search, Cond.static yX0_search, Cond.methodLink RX0 80 yX0_isEnd, Cond.instanceMethod yX0_isEnd, Cond.selects RX0 yX0_isEnd yX0_isEnd, Cond.code yX0_isEnd cX0_isEnd 2 (some .boolean), Cond.methodLink RX0 84 yX0_backTo, Cond.instanceMethod yX0_backTo, Cond.selects RX0 yX0_backTo yX0_backTo]
def wsX0_search_r3 : List Cond := [Cond.code yX0_backTo cX0_backTo 3 none, Cond.methodLink RX0 69 yX3_leave, Cond.instanceMethod yX3_leave, Cond.selects RX3 yX3_leave yX3_leave, Cond.code yX3_leave cX3_leave 6 none]
def wsX0_search : List Cond := .code yX0_search cX0_search 8 none :: ((wsX0_search_r1 ++ (wsX0_search_r2 ++ wsX0_search_r3)) ++ wsX00 ++ wsX70 ++ wsX30)
def wsX0_find_r1 : List Cond := [Cond.fieldLink RX0 9 "BellTouches$Fewest" "number" "I", Cond.fieldLink RX0 15 "BellTouches$Fewest" "notPlain" "I", Cond.fieldLink RX0 36 "BellTouches$Fewest" "leadCount" "I", Cond.fieldLink RX0 39 "BellTouches$Fewest" "bound" "I", Cond.fieldLink RX0 32 "BellTouches$Fewest" "thereIs" "[Z", Cond.fieldLink RX0 42 "BellTouches$Setup" "bob" "I", Cond.fieldLink RX0 47 "BellTouches$Setup" "single" "I", Cond.fieldLink RX0 21 "BellTouches$Fewest" "touch" "LBellTouches$Touch;", Cond.fieldLink RX0 54 "BellTouches$Touch" "changeCount" "I", Cond.fieldLink RX0 28 "BellTouches$Fewest" "table" "LBellTouches$RowTable;", Cond.fieldLink RX0 57 "BellTouches$Touch" "rows" "[I", Cond.methodLink RX0 50 yX7_begin, Cond.instanceMethod yX7_begin, Cond.selects RX7 yX7_begin yX7_begin, Cond.initialized RX7, Cond.code yX7_begin cX7_begin 4 none, Cond.fieldLink RX7 58 "BellTouches$Setup" "changeCount" "I", Cond.fieldLink RX7 19 "BellTouches$Touch" "changeCount" "I", Cond.fieldLink RX7 22 "BellTouches$Touch" "pairs" "[I", Cond.fieldLink RX7 59 "BellTouches$Setup" "n" "I", Cond.fieldLink RX7 62 "BellTouches$Setup" "changes" "[I", Cond.fieldLink RX7 25 "BellTouches$Touch" "lastPairs" "[I", Cond.fieldLink RX7 9 "BellTouches$Touch" "rows" "[I", Cond.fieldLink RX7 15 "BellTouches$Touch" "last" "I"]
def wsX0_find_r2 : List Cond := [Cond.fieldLink RX7 38 "BellTouches$Touch" "compared" "Z", Cond.methodLink RX7 65 yX2_pairs, Cond.static yX2_pairs, Cond.initialized RX2, Cond.code yX2_pairs cX2_pairs 4 (some .int), Cond.methodLink RX2 21 yX2_isKept, Cond.static yX2_isKept, Cond.code yX2_isKept cX2_isKept 2 (some .boolean), Cond.methodLink RX7 70 yX4_calledChange, Cond.instanceMethod yX4_calledChange, Cond.selects RX4 yX4_calledChange yX4_calledChange, Cond.initialized RX4, Cond.code yX4_calledChange cX4_calledChange 2 (some .int), Cond.fieldLink RX4 22 "BellTouches$Setup" "bob" "I", Cond.fieldLink RX4 25 "BellTouches$Setup" "single" "I", Cond.methodLink RX7 74 yX2_rounds, Cond.static yX2_rounds, Cond.code yX2_rounds cX2_rounds 3 (some .int), Cond.methodLink RX0 61 yX3_enter, Cond.instanceMethod yX3_enter, Cond.selects RX3 yX3_enter yX3_enter, Cond.initialized RX3, Cond.code yX3_enter cX3_enter 7 (some .int), Cond.fieldLink RX3 9 "BellTouches$RowTable" "numbers" "[I"]
def wsX0_find_r3 : List Cond := [Cond.methodLink RX3 13 yX3_start, Cond.static yX3_start, Cond.code yX3_start cX3_start 1 (some .int), Cond.constant RX3 17 (-1640531535), Cond.methodLink RX0 65 yX0_search, Cond.static yX0_search, Cond.initialized RX0, Cond.code yX0_search cX0_search 8 none, Cond.fieldLink RX0 73 "BellTouches$Touch" "last" "I", Cond.methodLink RX0 76 yX0_ringTillAgain, Cond.instanceMethod yX0_ringTillAgain, Cond.selects RX0 yX0_ringTillAgain yX0_ringTillAgain, Cond.code yX0_ringTillAgain cX0_ringTillAgain 3 (some .int), Cond.methodLink RX0 88 yX7_step, Cond.instanceMethod yX7_step, Cond.selects RX7 yX7_step yX7_step, Cond.code yX7_step cX7_step 4 none, Cond.methodLink RX7 77 yX2_swapped, Cond.static yX2_swapped, Cond.code yX2_swapped cX2_swapped 3 (some .int), Cond.methodLink RX0 80 yX0_isEnd, Cond.instanceMethod yX0_isEnd, Cond.selects RX0 yX0_isEnd yX0_isEnd, Cond.code yX0_isEnd cX0_isEnd 2 (some .boolean)]
def wsX0_find_r4 : List Cond := [Cond.methodLink RX0 84 yX0_backTo, Cond.instanceMethod yX0_backTo, Cond.selects RX0 yX0_backTo yX0_backTo, Cond.code yX0_backTo cX0_backTo 3 none, Cond.methodLink RX0 69 yX3_leave, Cond.instanceMethod yX3_leave, Cond.selects RX3 yX3_leave yX3_leave, Cond.code yX3_leave cX3_leave 6 none]
def wsX0_find : List Cond := .code yX0_find cX0_find 3 none :: ((wsX0_find_r1 ++ (wsX0_find_r2 ++ (wsX0_find_r3 ++ wsX0_find_r4))) ++ wsX00 ++ wsX40 ++ wsX70 ++ wsX30)
def wsX1_init : List Cond := .code yX1_init cX1_init 3 none :: ([.methodLink RX1 1 objectInit, .instanceMethod objectInit, .code objectInit ⟨#[0xb1]⟩ 1 none, .fieldLink RX1 7 "BellTouches$HandRows" "size" "I", .arrayClass .int, .fieldLink RX1 13 "BellTouches$HandRows" "first" "[I", .fieldLink RX1 17 "BellTouches$HandRows" "second" "[I", .fieldLink RX1 20 "BellTouches$HandRows" "third" "[I"] ++ wsX10)
def wsX1_append : List Cond := .code yX1_append cX1_append 4 (some .boolean) :: ([.fieldLink RX1 7 "BellTouches$HandRows" "size" "I", .fieldLink RX1 13 "BellTouches$HandRows" "first" "[I", .fieldLink RX1 17 "BellTouches$HandRows" "second" "[I", .fieldLink RX1 20 "BellTouches$HandRows" "third" "[I"] ++ wsX10)
def wsX1_copyFrom : List Cond := .code yX1_copyFrom cX1_copyFrom 3 none :: ([.fieldLink RX1 7 "BellTouches$HandRows" "size" "I", .fieldLink RX1 13 "BellTouches$HandRows" "first" "[I", .fieldLink RX1 17 "BellTouches$HandRows" "second" "[I", .fieldLink RX1 20 "BellTouches$HandRows" "third" "[I", .methodLink RX1 23 yX1_append, .instanceMethod yX1_append, .selects RX1 yX1_append yX1_append, .initialized RX1, .code yX1_append cX1_append 4 (some .boolean)] ++ wsX10)
def wsX2_bellIn : List Cond := .code yX2_bellIn cX2_bellIn 2 (some .int) :: ([])
def wsX2_placeOf : List Cond := .code yX2_placeOf cX2_placeOf 3 (some .int) :: ([.methodLink RX2 9 yX2_bellIn, .static yX2_bellIn, .initialized RX2, .code yX2_bellIn cX2_bellIn 2 (some .int)])
def wsX2_isRightAhead : List Cond := .code yX2_isRightAhead cX2_isRightAhead 3 (some .boolean) :: ([.methodLink RX2 15 yX2_placeOf, .static yX2_placeOf, .initialized RX2, .code yX2_placeOf cX2_placeOf 3 (some .int), .methodLink RX2 9 yX2_bellIn, .static yX2_bellIn, .code yX2_bellIn cX2_bellIn 2 (some .int)])
def wsX2_isGood : List Cond := .code yX2_isGood cX2_isGood 2 (some .boolean) :: ([.methodLink RX2 18 yX2_pairs, .static yX2_pairs, .initialized RX2, .code yX2_pairs cX2_pairs 4 (some .int), .methodLink RX2 21 yX2_isKept, .static yX2_isKept, .code yX2_isKept cX2_isKept 2 (some .boolean)])
def wsX4_init_r1 : List Cond := [Cond.methodLink RX4 3 objectInit, Cond.instanceMethod objectInit, Cond.code objectInit ⟨#[0xb1]⟩ 1 none, Cond.fieldLink RX4 9 "BellTouches$Setup" "n" "I", Cond.arrayClass .int, Cond.fieldLink RX4 15 "BellTouches$Setup" "changes" "[I", Cond.fieldLink RX4 19 "BellTouches$Setup" "changeCount" "I", Cond.fieldLink RX4 22 "BellTouches$Setup" "bob" "I", Cond.fieldLink RX4 25 "BellTouches$Setup" "single" "I", Cond.fieldLink RX4 28 "BellTouches$Setup" "leadCalls" "[I", Cond.fieldLink RX4 31 "BellTouches$Setup" "leadCount" "I", Cond.fieldLink RX4 34 "BellTouches$Setup" "patternBells" "[I", Cond.classLink RX4 37 RX1, Cond.instantiable RX1 4, Cond.initialized RX1, Cond.fieldLink RX4 42 "BellTouches$Setup" "seen" "LBellTouches$HandRows;", Cond.fieldLink RX4 46 "BellTouches$Setup" "events" "LBellTouches$HandRows;", Cond.fieldLink RX4 49 "BellTouches$Setup" "book" "LBellTouches$HandRows;", Cond.methodLink RX4 39 yX1_init, Cond.instanceMethod yX1_init, Cond.code yX1_init cX1_init 3 none, Cond.methodLink RX1 1 objectInit, Cond.fieldLink RX1 7 "BellTouches$HandRows" "size" "I", Cond.fieldLink RX1 13 "BellTouches$HandRows" "first" "[I"]
def wsX4_init_r2 : List Cond := [Cond.fieldLink RX1 17 "BellTouches$HandRows" "second" "[I", Cond.fieldLink RX1 20 "BellTouches$HandRows" "third" "[I"]
def wsX4_init : List Cond := .code yX4_init cX4_init 1 none :: ((wsX4_init_r1 ++ wsX4_init_r2) ++ wsX40 ++ wsX10)
def wsX4_begin : List Cond := .code yX4_begin cX4_begin 3 none :: ([.fieldLink RX4 9 "BellTouches$Setup" "n" "I", .fieldLink RX4 19 "BellTouches$Setup" "changeCount" "I", .fieldLink RX4 22 "BellTouches$Setup" "bob" "I", .fieldLink RX4 25 "BellTouches$Setup" "single" "I", .fieldLink RX4 31 "BellTouches$Setup" "leadCount" "I", .fieldLink RX4 28 "BellTouches$Setup" "leadCalls" "[I", .fieldLink RX4 34 "BellTouches$Setup" "patternBells" "[I", .fieldLink RX4 42 "BellTouches$Setup" "seen" "LBellTouches$HandRows;", .fieldLink RX4 52 "BellTouches$HandRows" "size" "I", .fieldLink RX4 46 "BellTouches$Setup" "events" "LBellTouches$HandRows;", .fieldLink RX4 49 "BellTouches$Setup" "book" "LBellTouches$HandRows;"] ++ wsX40 ++ wsX10)
def wsX4_copyFrom_r1 : List Cond := [Cond.fieldLink RX4 9 "BellTouches$Setup" "n" "I", Cond.fieldLink RX4 19 "BellTouches$Setup" "changeCount" "I", Cond.fieldLink RX4 22 "BellTouches$Setup" "bob" "I", Cond.fieldLink RX4 25 "BellTouches$Setup" "single" "I", Cond.fieldLink RX4 31 "BellTouches$Setup" "leadCount" "I", Cond.fieldLink RX4 15 "BellTouches$Setup" "changes" "[I", Cond.methodLink RX4 55 arraycopyName, Cond.native arraycopyName, Cond.static arraycopyName, Cond.initialized "java/lang/System", Cond.fieldLink RX4 28 "BellTouches$Setup" "leadCalls" "[I", Cond.fieldLink RX4 34 "BellTouches$Setup" "patternBells" "[I", Cond.fieldLink RX4 42 "BellTouches$Setup" "seen" "LBellTouches$HandRows;", Cond.fieldLink RX4 46 "BellTouches$Setup" "events" "LBellTouches$HandRows;", Cond.fieldLink RX4 49 "BellTouches$Setup" "book" "LBellTouches$HandRows;", Cond.methodLink RX4 61 yX1_copyFrom, Cond.instanceMethod yX1_copyFrom, Cond.selects RX1 yX1_copyFrom yX1_copyFrom, Cond.initialized RX1, Cond.code yX1_copyFrom cX1_copyFrom 3 none, Cond.fieldLink RX1 7 "BellTouches$HandRows" "size" "I", Cond.fieldLink RX1 13 "BellTouches$HandRows" "first" "[I", Cond.fieldLink RX1 17 "BellTouches$HandRows" "second" "[I", Cond.fieldLink RX1 20 "BellTouches$HandRows" "third" "[I"]
def wsX4_copyFrom_r2 : List Cond := [Cond.methodLink RX1 23 yX1_append, Cond.instanceMethod yX1_append, Cond.selects RX1 yX1_append yX1_append, Cond.code yX1_append cX1_append 4 (some .boolean)]
def wsX4_copyFrom : List Cond := .code yX4_copyFrom cX4_copyFrom 2 none :: ((wsX4_copyFrom_r1 ++ wsX4_copyFrom_r2) ++ wsX40 ++ wsX10)
def wsX4_setCalledChange : List Cond := .code yX4_setCalledChange cX4_setCalledChange 3 none :: ([.fieldLink RX4 22 "BellTouches$Setup" "bob" "I", .fieldLink RX4 25 "BellTouches$Setup" "single" "I"] ++ wsX40)
def wsX4_holdsPattern : List Cond := .code yX4_holdsPattern cX4_holdsPattern 4 (some .boolean) :: ([.fieldLink RX4 9 "BellTouches$Setup" "n" "I", .fieldLink RX4 34 "BellTouches$Setup" "patternBells" "[I", .methodLink RX4 80 yX2_bellIn, .static yX2_bellIn, .initialized RX2, .code yX2_bellIn cX2_bellIn 2 (some .int)] ++ wsX40)
def wsX4_isMusic : List Cond := .code yX4_isMusic cX4_isMusic 4 (some .boolean) :: ([.fieldLink RX4 9 "BellTouches$Setup" "n" "I", .constant RX4 71 (65535), .methodLink RX4 65 yX2_rounds, .static yX2_rounds, .initialized RX2, .code yX2_rounds cX2_rounds 3 (some .int), .methodLink RX4 72 yX4_holdsPattern, .instanceMethod yX4_holdsPattern, .selects RX4 yX4_holdsPattern yX4_holdsPattern, .initialized RX4, .code yX4_holdsPattern cX4_holdsPattern 4 (some .boolean), .fieldLink RX4 34 "BellTouches$Setup" "patternBells" "[I", .methodLink RX4 80 yX2_bellIn, .static yX2_bellIn, .code yX2_bellIn cX2_bellIn 2 (some .int), .methodLink RX4 76 yX2_isRightAhead, .static yX2_isRightAhead, .code yX2_isRightAhead cX2_isRightAhead 3 (some .boolean), .methodLink RX2 15 yX2_placeOf, .static yX2_placeOf, .code yX2_placeOf cX2_placeOf 3 (some .int), .methodLink RX2 9 yX2_bellIn] ++ wsX40)
def wsX4_happen : List Cond := .code yX4_happen cX4_happen 3 none :: ([.fieldLink RX4 46 "BellTouches$Setup" "events" "LBellTouches$HandRows;", .fieldLink RX4 52 "BellTouches$HandRows" "size" "I", .fieldLink RX4 84 "BellTouches$HandRows" "second" "[I", .fieldLink RX4 87 "BellTouches$HandRows" "first" "[I", .fieldLink RX4 28 "BellTouches$Setup" "leadCalls" "[I", .fieldLink RX4 19 "BellTouches$Setup" "changeCount" "I", .methodLink RX4 90 Lib.Math.max.name, .static Lib.Math.max.name, .initialized "java/lang/Math", .code Lib.Math.max.name Lib.Math.max.code 2 (some .int), .fieldLink RX4 31 "BellTouches$Setup" "leadCount" "I"] ++ wsX40 ++ wsX10)
def wsX5_init : List Cond := .code yX5_init cX5_init 1 none :: ([.methodLink RX5 3 objectInit, .instanceMethod objectInit, .code objectInit ⟨#[0xb1]⟩ 1 none, .fieldLink RX5 9 "BellTouches$SetupText" "length" "I", .arrayClass .byte, .fieldLink RX5 15 "BellTouches$SetupText" "signs" "[B", .fieldLink RX5 19 "BellTouches$SetupText" "place" "I", .arrayClass .int, .fieldLink RX5 22 "BellTouches$SetupText" "kinds" "[I", .fieldLink RX5 26 "BellTouches$SetupText" "starts" "[I", .fieldLink RX5 29 "BellTouches$SetupText" "clauseCount" "I", .fieldLink RX5 32 "BellTouches$SetupText" "values" "[I", .fieldLink RX5 35 "BellTouches$SetupText" "valueCount" "I"] ++ wsX50)
def wsX5_append : List Cond := .code yX5_append cX5_append 2 (some .boolean) :: ([.fieldLink RX5 9 "BellTouches$SetupText" "length" "I", .fieldLink RX5 15 "BellTouches$SetupText" "signs" "[B"] ++ wsX50)
def wsX5_next : List Cond := .code yX5_next cX5_next 1 (some .int) :: ([.fieldLink RX5 19 "BellTouches$SetupText" "place" "I", .fieldLink RX5 9 "BellTouches$SetupText" "length" "I", .fieldLink RX5 15 "BellTouches$SetupText" "signs" "[B"] ++ wsX50)
def wsX5_keep : List Cond := .code yX5_keep cX5_keep 2 none :: ([.fieldLink RX5 35 "BellTouches$SetupText" "valueCount" "I", .fieldLink RX5 32 "BellTouches$SetupText" "values" "[I"] ++ wsX50)
def wsX5_parseDigit : List Cond := .code yX5_parseDigit cX5_parseDigit 2 (some .boolean) :: ([.fieldLink RX5 19 "BellTouches$SetupText" "place" "I", .methodLink RX5 38 yX5_next, .instanceMethod yX5_next, .selects RX5 yX5_next yX5_next, .initialized RX5, .code yX5_next cX5_next 1 (some .int), .fieldLink RX5 9 "BellTouches$SetupText" "length" "I", .fieldLink RX5 15 "BellTouches$SetupText" "signs" "[B", .methodLink RX5 58 yX5_keep, .instanceMethod yX5_keep, .selects RX5 yX5_keep yX5_keep, .code yX5_keep cX5_keep 2 none, .fieldLink RX5 35 "BellTouches$SetupText" "valueCount" "I", .fieldLink RX5 32 "BellTouches$SetupText" "values" "[I"] ++ wsX50)
def wsX5_isPlaceSign : List Cond := .code yX5_isPlaceSign cX5_isPlaceSign 1 (some .boolean) :: ([])
def wsX5_parseWord : List Cond := .code yX5_parseWord cX5_parseWord 3 (some .boolean) :: ([.fieldLink RX5 19 "BellTouches$SetupText" "place" "I", .methodLink RX5 38 yX5_next, .instanceMethod yX5_next, .selects RX5 yX5_next yX5_next, .initialized RX5, .code yX5_next cX5_next 1 (some .int), .fieldLink RX5 9 "BellTouches$SetupText" "length" "I", .fieldLink RX5 15 "BellTouches$SetupText" "signs" "[B", .methodLink RX5 58 yX5_keep, .instanceMethod yX5_keep, .selects RX5 yX5_keep yX5_keep, .code yX5_keep cX5_keep 2 none, .fieldLink RX5 35 "BellTouches$SetupText" "valueCount" "I", .fieldLink RX5 32 "BellTouches$SetupText" "values" "[I", .methodLink RX5 62 yX5_isPlaceSign, .static yX5_isPlaceSign, .code yX5_isPlaceSign cX5_isPlaceSign 1 (some .boolean)] ++ wsX50)
def wsX5_parseWords : List Cond := .code yX5_parseWords cX5_parseWords 3 (some .boolean) :: ([.fieldLink RX5 15 "BellTouches$SetupText" "signs" "[B", .fieldLink RX5 19 "BellTouches$SetupText" "place" "I", .methodLink RX5 52 yX5_parseWord, .instanceMethod yX5_parseWord, .selects RX5 yX5_parseWord yX5_parseWord, .initialized RX5, .code yX5_parseWord cX5_parseWord 3 (some .boolean), .methodLink RX5 38 yX5_next, .instanceMethod yX5_next, .selects RX5 yX5_next yX5_next, .code yX5_next cX5_next 1 (some .int), .fieldLink RX5 9 "BellTouches$SetupText" "length" "I", .methodLink RX5 58 yX5_keep, .instanceMethod yX5_keep, .selects RX5 yX5_keep yX5_keep, .code yX5_keep cX5_keep 2 none, .fieldLink RX5 35 "BellTouches$SetupText" "valueCount" "I", .fieldLink RX5 32 "BellTouches$SetupText" "values" "[I", .methodLink RX5 62 yX5_isPlaceSign, .static yX5_isPlaceSign, .code yX5_isPlaceSign cX5_isPlaceSign 1 (some .boolean)] ++ wsX50)
def wsX5_callOf : List Cond := .code yX5_callOf cX5_callOf 1 (some .int) :: ([])
def wsX5_parseCalls : List Cond := .code yX5_parseCalls cX5_parseCalls 2 (some .boolean) :: ([.fieldLink RX5 19 "BellTouches$SetupText" "place" "I", .methodLink RX5 38 yX5_next, .instanceMethod yX5_next, .selects RX5 yX5_next yX5_next, .initialized RX5, .code yX5_next cX5_next 1 (some .int), .fieldLink RX5 9 "BellTouches$SetupText" "length" "I", .fieldLink RX5 15 "BellTouches$SetupText" "signs" "[B", .methodLink RX5 66 yX5_callOf, .static yX5_callOf, .code yX5_callOf cX5_callOf 1 (some .int), .methodLink RX5 58 yX5_keep, .instanceMethod yX5_keep, .selects RX5 yX5_keep yX5_keep, .code yX5_keep cX5_keep 2 none, .fieldLink RX5 35 "BellTouches$SetupText" "valueCount" "I", .fieldLink RX5 32 "BellTouches$SetupText" "values" "[I"] ++ wsX50)
def wsX5_parseClause_r1 : List Cond := [Cond.fieldLink RX5 19 "BellTouches$SetupText" "place" "I", Cond.methodLink RX5 38 yX5_next, Cond.instanceMethod yX5_next, Cond.selects RX5 yX5_next yX5_next, Cond.initialized RX5, Cond.code yX5_next cX5_next 1 (some .int), Cond.fieldLink RX5 9 "BellTouches$SetupText" "length" "I", Cond.fieldLink RX5 15 "BellTouches$SetupText" "signs" "[B", Cond.methodLink RX5 46 yX5_parseDigit, Cond.instanceMethod yX5_parseDigit, Cond.selects RX5 yX5_parseDigit yX5_parseDigit, Cond.code yX5_parseDigit cX5_parseDigit 2 (some .boolean), Cond.methodLink RX5 58 yX5_keep, Cond.instanceMethod yX5_keep, Cond.selects RX5 yX5_keep yX5_keep, Cond.code yX5_keep cX5_keep 2 none, Cond.fieldLink RX5 35 "BellTouches$SetupText" "valueCount" "I", Cond.fieldLink RX5 32 "BellTouches$SetupText" "values" "[I", Cond.methodLink RX5 49 yX5_parseWords, Cond.instanceMethod yX5_parseWords, Cond.selects RX5 yX5_parseWords yX5_parseWords, Cond.code yX5_parseWords cX5_parseWords 3 (some .boolean), Cond.methodLink RX5 52 yX5_parseWord, Cond.instanceMethod yX5_parseWord]
def wsX5_parseClause_r2 : List Cond := [Cond.selects RX5 yX5_parseWord yX5_parseWord, Cond.code yX5_parseWord cX5_parseWord 3 (some .boolean), Cond.methodLink RX5 62 yX5_isPlaceSign, Cond.static yX5_isPlaceSign, Cond.code yX5_isPlaceSign cX5_isPlaceSign 1 (some .boolean), Cond.methodLink RX5 55 yX5_parseCalls, Cond.instanceMethod yX5_parseCalls, Cond.selects RX5 yX5_parseCalls yX5_parseCalls, Cond.code yX5_parseCalls cX5_parseCalls 2 (some .boolean), Cond.methodLink RX5 66 yX5_callOf, Cond.static yX5_callOf, Cond.code yX5_callOf cX5_callOf 1 (some .int)]
def wsX5_parseClause : List Cond := .code yX5_parseClause cX5_parseClause 2 (some .boolean) :: ((wsX5_parseClause_r1 ++ wsX5_parseClause_r2) ++ wsX50)
def wsX5_parse_r1 : List Cond := [Cond.fieldLink RX5 19 "BellTouches$SetupText" "place" "I", Cond.fieldLink RX5 29 "BellTouches$SetupText" "clauseCount" "I", Cond.fieldLink RX5 35 "BellTouches$SetupText" "valueCount" "I", Cond.fieldLink RX5 26 "BellTouches$SetupText" "starts" "[I", Cond.fieldLink RX5 22 "BellTouches$SetupText" "kinds" "[I", Cond.methodLink RX5 38 yX5_next, Cond.instanceMethod yX5_next, Cond.selects RX5 yX5_next yX5_next, Cond.initialized RX5, Cond.code yX5_next cX5_next 1 (some .int), Cond.fieldLink RX5 9 "BellTouches$SetupText" "length" "I", Cond.fieldLink RX5 15 "BellTouches$SetupText" "signs" "[B", Cond.methodLink RX5 42 yX5_parseClause, Cond.instanceMethod yX5_parseClause, Cond.selects RX5 yX5_parseClause yX5_parseClause, Cond.code yX5_parseClause cX5_parseClause 2 (some .boolean), Cond.methodLink RX5 46 yX5_parseDigit, Cond.instanceMethod yX5_parseDigit, Cond.selects RX5 yX5_parseDigit yX5_parseDigit, Cond.code yX5_parseDigit cX5_parseDigit 2 (some .boolean), Cond.methodLink RX5 58 yX5_keep, Cond.instanceMethod yX5_keep, Cond.selects RX5 yX5_keep yX5_keep, Cond.code yX5_keep cX5_keep 2 none]
def wsX5_parse_r2 : List Cond := [Cond.fieldLink RX5 32 "BellTouches$SetupText" "values" "[I", Cond.methodLink RX5 49 yX5_parseWords, Cond.instanceMethod yX5_parseWords, Cond.selects RX5 yX5_parseWords yX5_parseWords, Cond.code yX5_parseWords cX5_parseWords 3 (some .boolean), Cond.methodLink RX5 52 yX5_parseWord, Cond.instanceMethod yX5_parseWord, Cond.selects RX5 yX5_parseWord yX5_parseWord, Cond.code yX5_parseWord cX5_parseWord 3 (some .boolean), Cond.methodLink RX5 62 yX5_isPlaceSign, Cond.static yX5_isPlaceSign, Cond.code yX5_isPlaceSign cX5_isPlaceSign 1 (some .boolean), Cond.methodLink RX5 55 yX5_parseCalls, Cond.instanceMethod yX5_parseCalls, Cond.selects RX5 yX5_parseCalls yX5_parseCalls, Cond.code yX5_parseCalls cX5_parseCalls 2 (some .boolean), Cond.methodLink RX5 66 yX5_callOf, Cond.static yX5_callOf, Cond.code yX5_callOf cX5_callOf 1 (some .int)]
def wsX5_parse : List Cond := .code yX5_parse cX5_parse 2 (some .int) :: ((wsX5_parse_r1 ++ wsX5_parse_r2) ++ wsX50)
def wsX5_beginBells : List Cond := .code yX5_beginBells cX5_beginBells 2 (some .boolean) :: ([.methodLink RX5 88 yX4_begin, .instanceMethod yX4_begin, .selects RX4 yX4_begin yX4_begin, .initialized RX4, .code yX4_begin cX4_begin 3 none, .fieldLink RX4 9 "BellTouches$Setup" "n" "I", .fieldLink RX4 19 "BellTouches$Setup" "changeCount" "I", .fieldLink RX4 22 "BellTouches$Setup" "bob" "I", .fieldLink RX4 25 "BellTouches$Setup" "single" "I", .fieldLink RX4 31 "BellTouches$Setup" "leadCount" "I", .fieldLink RX4 28 "BellTouches$Setup" "leadCalls" "[I", .fieldLink RX4 34 "BellTouches$Setup" "patternBells" "[I", .fieldLink RX4 42 "BellTouches$Setup" "seen" "LBellTouches$HandRows;", .fieldLink RX4 52 "BellTouches$HandRows" "size" "I", .fieldLink RX4 46 "BellTouches$Setup" "events" "LBellTouches$HandRows;", .fieldLink RX4 49 "BellTouches$Setup" "book" "LBellTouches$HandRows;"] ++ wsX40 ++ wsX10)
def wsX5_setMethod : List Cond := .code yX5_setMethod cX5_setMethod 5 (some .boolean) :: ([.fieldLink RX5 93 "BellTouches$Setup" "n" "I", .fieldLink RX5 32 "BellTouches$SetupText" "values" "[I", .fieldLink RX5 102 "BellTouches$Setup" "changeCount" "I", .fieldLink RX5 105 "BellTouches$Setup" "changes" "[I", .methodLink RX5 96 yX2_isGood, .static yX2_isGood, .initialized RX2, .code yX2_isGood cX2_isGood 2 (some .boolean), .methodLink RX2 18 yX2_pairs, .static yX2_pairs, .code yX2_pairs cX2_pairs 4 (some .int), .methodLink RX2 21 yX2_isKept, .static yX2_isKept, .code yX2_isKept cX2_isKept 2 (some .boolean)] ++ wsX40 ++ wsX50)
def wsX5_setCall : List Cond := .code yX5_setCall cX5_setCall 3 (some .boolean) :: ([.fieldLink RX5 93 "BellTouches$Setup" "n" "I", .methodLink RX5 96 yX2_isGood, .static yX2_isGood, .initialized RX2, .code yX2_isGood cX2_isGood 2 (some .boolean), .methodLink RX2 18 yX2_pairs, .static yX2_pairs, .code yX2_pairs cX2_pairs 4 (some .int), .methodLink RX2 21 yX2_isKept, .static yX2_isKept, .code yX2_isKept cX2_isKept 2 (some .boolean), .methodLink RX5 108 yX4_setCalledChange, .instanceMethod yX4_setCalledChange, .selects RX4 yX4_setCalledChange yX4_setCalledChange, .initialized RX4, .code yX4_setCalledChange cX4_setCalledChange 3 none, .fieldLink RX4 22 "BellTouches$Setup" "bob" "I", .fieldLink RX4 25 "BellTouches$Setup" "single" "I"] ++ wsX40)
def wsX5_setLeads : List Cond := .code yX5_setLeads cX5_setLeads 5 (some .boolean) :: ([.fieldLink RX5 112 "BellTouches$Setup" "leadCount" "I", .fieldLink RX5 115 "BellTouches$Setup" "leadCalls" "[I", .fieldLink RX5 32 "BellTouches$SetupText" "values" "[I"] ++ wsX40 ++ wsX50)
def wsX5_performClause_r1 : List Cond := [Cond.fieldLink RX5 32 "BellTouches$SetupText" "values" "[I", Cond.methodLink RX5 74 yX5_beginBells, Cond.static yX5_beginBells, Cond.initialized RX5, Cond.code yX5_beginBells cX5_beginBells 2 (some .boolean), Cond.methodLink RX5 88 yX4_begin, Cond.instanceMethod yX4_begin, Cond.selects RX4 yX4_begin yX4_begin, Cond.initialized RX4, Cond.code yX4_begin cX4_begin 3 none, Cond.fieldLink RX4 9 "BellTouches$Setup" "n" "I", Cond.fieldLink RX4 19 "BellTouches$Setup" "changeCount" "I", Cond.fieldLink RX4 22 "BellTouches$Setup" "bob" "I", Cond.fieldLink RX4 25 "BellTouches$Setup" "single" "I", Cond.fieldLink RX4 31 "BellTouches$Setup" "leadCount" "I", Cond.fieldLink RX4 28 "BellTouches$Setup" "leadCalls" "[I", Cond.fieldLink RX4 34 "BellTouches$Setup" "patternBells" "[I", Cond.fieldLink RX4 42 "BellTouches$Setup" "seen" "LBellTouches$HandRows;", Cond.fieldLink RX4 52 "BellTouches$HandRows" "size" "I", Cond.fieldLink RX4 46 "BellTouches$Setup" "events" "LBellTouches$HandRows;", Cond.fieldLink RX4 49 "BellTouches$Setup" "book" "LBellTouches$HandRows;", Cond.methodLink RX5 78 yX5_setMethod, Cond.instanceMethod yX5_setMethod, Cond.selects RX5 yX5_setMethod yX5_setMethod]
def wsX5_performClause_r2 : List Cond := [Cond.code yX5_setMethod cX5_setMethod 5 (some .boolean), Cond.fieldLink RX5 93 "BellTouches$Setup" "n" "I", Cond.fieldLink RX5 102 "BellTouches$Setup" "changeCount" "I", Cond.fieldLink RX5 105 "BellTouches$Setup" "changes" "[I", Cond.methodLink RX5 96 yX2_isGood, Cond.static yX2_isGood, Cond.initialized RX2, Cond.code yX2_isGood cX2_isGood 2 (some .boolean), Cond.methodLink RX2 18 yX2_pairs, Cond.static yX2_pairs, Cond.code yX2_pairs cX2_pairs 4 (some .int), Cond.methodLink RX2 21 yX2_isKept, Cond.static yX2_isKept, Cond.code yX2_isKept cX2_isKept 2 (some .boolean), Cond.methodLink RX5 82 yX5_setCall, Cond.static yX5_setCall, Cond.code yX5_setCall cX5_setCall 3 (some .boolean), Cond.methodLink RX5 108 yX4_setCalledChange, Cond.instanceMethod yX4_setCalledChange, Cond.selects RX4 yX4_setCalledChange yX4_setCalledChange, Cond.code yX4_setCalledChange cX4_setCalledChange 3 none, Cond.methodLink RX5 85 yX5_setLeads, Cond.instanceMethod yX5_setLeads, Cond.selects RX5 yX5_setLeads yX5_setLeads]
def wsX5_performClause_r3 : List Cond := [Cond.code yX5_setLeads cX5_setLeads 5 (some .boolean), Cond.fieldLink RX5 112 "BellTouches$Setup" "leadCount" "I", Cond.fieldLink RX5 115 "BellTouches$Setup" "leadCalls" "[I"]
def wsX5_performClause : List Cond := .code yX5_performClause cX5_performClause 5 (some .boolean) :: ((wsX5_performClause_r1 ++ (wsX5_performClause_r2 ++ wsX5_performClause_r3)) ++ wsX50 ++ wsX40 ++ wsX10)
def wsX5_perform_r1 : List Cond := [Cond.fieldLink RX5 29 "BellTouches$SetupText" "clauseCount" "I", Cond.fieldLink RX5 22 "BellTouches$SetupText" "kinds" "[I", Cond.fieldLink RX5 26 "BellTouches$SetupText" "starts" "[I", Cond.methodLink RX5 70 yX5_performClause, Cond.instanceMethod yX5_performClause, Cond.selects RX5 yX5_performClause yX5_performClause, Cond.initialized RX5, Cond.code yX5_performClause cX5_performClause 5 (some .boolean), Cond.fieldLink RX5 32 "BellTouches$SetupText" "values" "[I", Cond.methodLink RX5 74 yX5_beginBells, Cond.static yX5_beginBells, Cond.code yX5_beginBells cX5_beginBells 2 (some .boolean), Cond.methodLink RX5 88 yX4_begin, Cond.instanceMethod yX4_begin, Cond.selects RX4 yX4_begin yX4_begin, Cond.initialized RX4, Cond.code yX4_begin cX4_begin 3 none, Cond.fieldLink RX4 9 "BellTouches$Setup" "n" "I", Cond.fieldLink RX4 19 "BellTouches$Setup" "changeCount" "I", Cond.fieldLink RX4 22 "BellTouches$Setup" "bob" "I", Cond.fieldLink RX4 25 "BellTouches$Setup" "single" "I", Cond.fieldLink RX4 31 "BellTouches$Setup" "leadCount" "I", Cond.fieldLink RX4 28 "BellTouches$Setup" "leadCalls" "[I", Cond.fieldLink RX4 34 "BellTouches$Setup" "patternBells" "[I"]
def wsX5_perform_r2 : List Cond := [Cond.fieldLink RX4 42 "BellTouches$Setup" "seen" "LBellTouches$HandRows;", Cond.fieldLink RX4 52 "BellTouches$HandRows" "size" "I", Cond.fieldLink RX4 46 "BellTouches$Setup" "events" "LBellTouches$HandRows;", Cond.fieldLink RX4 49 "BellTouches$Setup" "book" "LBellTouches$HandRows;", Cond.methodLink RX5 78 yX5_setMethod, Cond.instanceMethod yX5_setMethod, Cond.selects RX5 yX5_setMethod yX5_setMethod, Cond.code yX5_setMethod cX5_setMethod 5 (some .boolean), Cond.fieldLink RX5 93 "BellTouches$Setup" "n" "I", Cond.fieldLink RX5 102 "BellTouches$Setup" "changeCount" "I", Cond.fieldLink RX5 105 "BellTouches$Setup" "changes" "[I", Cond.methodLink RX5 96 yX2_isGood, Cond.static yX2_isGood, Cond.initialized RX2, Cond.code yX2_isGood cX2_isGood 2 (some .boolean), Cond.methodLink RX2 18 yX2_pairs, Cond.static yX2_pairs, Cond.code yX2_pairs cX2_pairs 4 (some .int), Cond.methodLink RX2 21 yX2_isKept, Cond.static yX2_isKept, Cond.code yX2_isKept cX2_isKept 2 (some .boolean), Cond.methodLink RX5 82 yX5_setCall, Cond.static yX5_setCall, Cond.code yX5_setCall cX5_setCall 3 (some .boolean)]
def wsX5_perform_r3 : List Cond := [Cond.methodLink RX5 108 yX4_setCalledChange, Cond.instanceMethod yX4_setCalledChange, Cond.selects RX4 yX4_setCalledChange yX4_setCalledChange, Cond.code yX4_setCalledChange cX4_setCalledChange 3 none, Cond.methodLink RX5 85 yX5_setLeads, Cond.instanceMethod yX5_setLeads, Cond.selects RX5 yX5_setLeads yX5_setLeads, Cond.code yX5_setLeads cX5_setLeads 5 (some .boolean), Cond.fieldLink RX5 112 "BellTouches$Setup" "leadCount" "I", Cond.fieldLink RX5 115 "BellTouches$Setup" "leadCalls" "[I"]
def wsX5_perform : List Cond := .code yX5_perform cX5_perform 4 (some .int) :: ((wsX5_perform_r1 ++ (wsX5_perform_r2 ++ wsX5_perform_r3)) ++ wsX50 ++ wsX40 ++ wsX10)
def wsX6_init : List Cond := .code yX6_init cX6_init 1 none :: ([.methodLink RX6 3 objectInit, .instanceMethod objectInit, .code objectInit ⟨#[0xb1]⟩ 1 none, .fieldLink RX6 9 "BellTouches$Tape" "sort" "I", .fieldLink RX6 15 "BellTouches$Tape" "length" "I", .arrayClass .long, .fieldLink RX6 18 "BellTouches$Tape" "items" "[J"] ++ wsX60)
def wsX6_begin : List Cond := .code yX6_begin cX6_begin 4 none :: ([.fieldLink RX6 9 "BellTouches$Tape" "sort" "I", .fieldLink RX6 15 "BellTouches$Tape" "length" "I", .fieldLink RX6 18 "BellTouches$Tape" "items" "[J"] ++ wsX60)
def wsX6_has : List Cond := .code yX6_has cX6_has 3 (some .boolean) :: ([.fieldLink RX6 15 "BellTouches$Tape" "length" "I"] ++ wsX60)
def wsX6_narrowed : List Cond := .code yX6_narrowed cX6_narrowed 3 (some .long) :: ([])
def wsX7_ring_r1 : List Cond := [Cond.fieldLink RX7 46 "BellTouches$Setup" "leadCount" "I", Cond.fieldLink RX7 19 "BellTouches$Touch" "changeCount" "I", Cond.fieldLink RX7 51 "BellTouches$Setup" "leadCalls" "[I", Cond.methodLink RX7 42 yX7_begin, Cond.instanceMethod yX7_begin, Cond.selects RX7 yX7_begin yX7_begin, Cond.initialized RX7, Cond.code yX7_begin cX7_begin 4 none, Cond.fieldLink RX7 58 "BellTouches$Setup" "changeCount" "I", Cond.fieldLink RX7 22 "BellTouches$Touch" "pairs" "[I", Cond.fieldLink RX7 59 "BellTouches$Setup" "n" "I", Cond.fieldLink RX7 62 "BellTouches$Setup" "changes" "[I", Cond.fieldLink RX7 25 "BellTouches$Touch" "lastPairs" "[I", Cond.fieldLink RX7 9 "BellTouches$Touch" "rows" "[I", Cond.fieldLink RX7 15 "BellTouches$Touch" "last" "I", Cond.fieldLink RX7 38 "BellTouches$Touch" "compared" "Z", Cond.methodLink RX7 65 yX2_pairs, Cond.static yX2_pairs, Cond.initialized RX2, Cond.code yX2_pairs cX2_pairs 4 (some .int), Cond.methodLink RX2 21 yX2_isKept, Cond.static yX2_isKept, Cond.code yX2_isKept cX2_isKept 2 (some .boolean), Cond.methodLink RX7 70 yX4_calledChange]
def wsX7_ring_r2 : List Cond := [Cond.instanceMethod yX4_calledChange, Cond.selects RX4 yX4_calledChange yX4_calledChange, Cond.initialized RX4, Cond.code yX4_calledChange cX4_calledChange 2 (some .int), Cond.fieldLink RX4 22 "BellTouches$Setup" "bob" "I", Cond.fieldLink RX4 25 "BellTouches$Setup" "single" "I", Cond.methodLink RX7 74 yX2_rounds, Cond.static yX2_rounds, Cond.code yX2_rounds cX2_rounds 3 (some .int), Cond.methodLink RX7 54 yX7_step, Cond.instanceMethod yX7_step, Cond.selects RX7 yX7_step yX7_step, Cond.code yX7_step cX7_step 4 none, Cond.methodLink RX7 77 yX2_swapped, Cond.static yX2_swapped, Cond.code yX2_swapped cX2_swapped 3 (some .int)]
def wsX7_ring : List Cond := .code yX7_ring cX7_ring 4 none :: ((wsX7_ring_r1 ++ wsX7_ring_r2) ++ wsX40 ++ wsX70)
def wsX7_compare : List Cond := .code yX7_compare cX7_compare 2 none :: ([.fieldLink RX7 38 "BellTouches$Touch" "compared" "Z", .fieldLink RX7 15 "BellTouches$Touch" "last" "I", .fieldLink RX7 28 "BellTouches$Touch" "firsts" "[I", .fieldLink RX7 34 "BellTouches$Touch" "table" "LBellTouches$RowTable;", .fieldLink RX7 9 "BellTouches$Touch" "rows" "[I", .methodLink RX7 87 yX3_enter, .instanceMethod yX3_enter, .selects RX3 yX3_enter yX3_enter, .initialized RX3, .code yX3_enter cX3_enter 7 (some .int), .fieldLink RX3 9 "BellTouches$RowTable" "numbers" "[I", .methodLink RX3 13 yX3_start, .static yX3_start, .code yX3_start cX3_start 1 (some .int), .constant RX3 17 (-1640531535), .methodLink RX7 91 yX3_leave, .instanceMethod yX3_leave, .selects RX3 yX3_leave yX3_leave, .code yX3_leave cX3_leave 6 none] ++ wsX70 ++ wsX30)
def wsX7_firstAs : List Cond := .code yX7_firstAs cX7_firstAs 2 (some .int) :: ([.fieldLink RX7 28 "BellTouches$Touch" "firsts" "[I", .methodLink RX7 80 yX7_compare, .instanceMethod yX7_compare, .selects RX7 yX7_compare yX7_compare, .initialized RX7, .code yX7_compare cX7_compare 2 none, .fieldLink RX7 38 "BellTouches$Touch" "compared" "Z", .fieldLink RX7 15 "BellTouches$Touch" "last" "I", .fieldLink RX7 34 "BellTouches$Touch" "table" "LBellTouches$RowTable;", .fieldLink RX7 9 "BellTouches$Touch" "rows" "[I", .methodLink RX7 87 yX3_enter, .instanceMethod yX3_enter, .selects RX3 yX3_enter yX3_enter, .initialized RX3, .code yX3_enter cX3_enter 7 (some .int), .fieldLink RX3 9 "BellTouches$RowTable" "numbers" "[I", .methodLink RX3 13 yX3_start, .static yX3_start, .code yX3_start cX3_start 1 (some .int), .constant RX3 17 (-1640531535), .methodLink RX7 91 yX3_leave, .instanceMethod yX3_leave, .selects RX3 yX3_leave yX3_leave, .code yX3_leave cX3_leave 6 none] ++ wsX70 ++ wsX30)
def wsX7_roundRow : List Cond := .code yX7_roundRow cX7_roundRow 2 (some .int) :: ([.fieldLink RX7 15 "BellTouches$Touch" "last" "I", .fieldLink RX7 28 "BellTouches$Touch" "firsts" "[I", .methodLink RX7 80 yX7_compare, .instanceMethod yX7_compare, .selects RX7 yX7_compare yX7_compare, .initialized RX7, .code yX7_compare cX7_compare 2 none, .fieldLink RX7 38 "BellTouches$Touch" "compared" "Z", .fieldLink RX7 34 "BellTouches$Touch" "table" "LBellTouches$RowTable;", .fieldLink RX7 9 "BellTouches$Touch" "rows" "[I", .methodLink RX7 87 yX3_enter, .instanceMethod yX3_enter, .selects RX3 yX3_enter yX3_enter, .initialized RX3, .code yX3_enter cX3_enter 7 (some .int), .fieldLink RX3 9 "BellTouches$RowTable" "numbers" "[I", .methodLink RX3 13 yX3_start, .static yX3_start, .code yX3_start cX3_start 1 (some .int), .constant RX3 17 (-1640531535), .methodLink RX7 91 yX3_leave, .instanceMethod yX3_leave, .selects RX3 yX3_leave yX3_leave, .code yX3_leave cX3_leave 6 none] ++ wsX70 ++ wsX30)
def wsX7_falseRow : List Cond := .code yX7_falseRow cX7_falseRow 3 (some .int) :: ([.fieldLink RX7 15 "BellTouches$Touch" "last" "I", .fieldLink RX7 28 "BellTouches$Touch" "firsts" "[I", .methodLink RX7 80 yX7_compare, .instanceMethod yX7_compare, .selects RX7 yX7_compare yX7_compare, .initialized RX7, .code yX7_compare cX7_compare 2 none, .fieldLink RX7 38 "BellTouches$Touch" "compared" "Z", .fieldLink RX7 34 "BellTouches$Touch" "table" "LBellTouches$RowTable;", .fieldLink RX7 9 "BellTouches$Touch" "rows" "[I", .methodLink RX7 87 yX3_enter, .instanceMethod yX3_enter, .selects RX3 yX3_enter yX3_enter, .initialized RX3, .code yX3_enter cX3_enter 7 (some .int), .fieldLink RX3 9 "BellTouches$RowTable" "numbers" "[I", .methodLink RX3 13 yX3_start, .static yX3_start, .code yX3_start cX3_start 1 (some .int), .constant RX3 17 (-1640531535), .methodLink RX7 91 yX3_leave, .instanceMethod yX3_leave, .selects RX3 yX3_leave yX3_leave, .code yX3_leave cX3_leave 6 none] ++ wsX70 ++ wsX30)
def wsX7_isTrue_r1 : List Cond := [Cond.fieldLink RX7 15 "BellTouches$Touch" "last" "I", Cond.fieldLink RX7 9 "BellTouches$Touch" "rows" "[I", Cond.methodLink RX7 83 yX7_falseRow, Cond.instanceMethod yX7_falseRow, Cond.selects RX7 yX7_falseRow yX7_falseRow, Cond.initialized RX7, Cond.code yX7_falseRow cX7_falseRow 3 (some .int), Cond.fieldLink RX7 28 "BellTouches$Touch" "firsts" "[I", Cond.methodLink RX7 80 yX7_compare, Cond.instanceMethod yX7_compare, Cond.selects RX7 yX7_compare yX7_compare, Cond.code yX7_compare cX7_compare 2 none, Cond.fieldLink RX7 38 "BellTouches$Touch" "compared" "Z", Cond.fieldLink RX7 34 "BellTouches$Touch" "table" "LBellTouches$RowTable;", Cond.methodLink RX7 87 yX3_enter, Cond.instanceMethod yX3_enter, Cond.selects RX3 yX3_enter yX3_enter, Cond.initialized RX3, Cond.code yX3_enter cX3_enter 7 (some .int), Cond.fieldLink RX3 9 "BellTouches$RowTable" "numbers" "[I", Cond.methodLink RX3 13 yX3_start, Cond.static yX3_start, Cond.code yX3_start cX3_start 1 (some .int), Cond.constant RX3 17 (-1640531535)]
def wsX7_isTrue_r2 : List Cond := [Cond.methodLink RX7 91 yX3_leave, Cond.instanceMethod yX3_leave, Cond.selects RX3 yX3_leave yX3_leave, Cond.code yX3_leave cX3_leave 6 none]
def wsX7_isTrue : List Cond := .code yX7_isTrue cX7_isTrue 1 (some .boolean) :: ((wsX7_isTrue_r1 ++ wsX7_isTrue_r2) ++ wsX70 ++ wsX30)
def wsX7_course : List Cond := .code yX7_course cX7_course 4 (some .int) :: ([.fieldLink RX7 9 "BellTouches$Touch" "rows" "[I", .fieldLink RX7 19 "BellTouches$Touch" "changeCount" "I", .fieldLink RX7 22 "BellTouches$Touch" "pairs" "[I", .methodLink RX7 77 yX2_swapped, .static yX2_swapped, .initialized RX2, .code yX2_swapped cX2_swapped 3 (some .int)] ++ wsX70)
def wsX8_init_r1 : List Cond := [Cond.methodLink RX8 5 objectInit, Cond.instanceMethod objectInit, Cond.code objectInit ⟨#[0xb1]⟩ 1 none, Cond.classLink RX8 11 RX4, Cond.instantiable RX4 11, Cond.initialized RX4, Cond.fieldLink RX8 14 "BellTouches" "setup" "LBellTouches$Setup;", Cond.fieldLink RX8 18 "BellTouches" "kept" "LBellTouches$Setup;", Cond.fieldLink RX8 21 "BellTouches" "trialSetup" "LBellTouches$Setup;", Cond.classLink RX8 24 RX7, Cond.instantiable RX7 8, Cond.initialized RX7, Cond.fieldLink RX8 27 "BellTouches" "touch" "LBellTouches$Touch;", Cond.fieldLink RX8 31 "BellTouches" "trial" "LBellTouches$Touch;", Cond.classLink RX8 34 RX0, Cond.instantiable RX0 7, Cond.initialized RX0, Cond.fieldLink RX8 37 "BellTouches" "fewest" "LBellTouches$Fewest;", Cond.classLink RX8 41 RX5, Cond.instantiable RX5 8, Cond.initialized RX5, Cond.fieldLink RX8 44 "BellTouches" "text" "LBellTouches$SetupText;", Cond.classLink RX8 48 RX6, Cond.fieldLink RX8 50 "BellTouches" "tapes" "[LBellTouches$Tape;"]
def wsX8_init_r2 : List Cond := [Cond.fieldLink RX8 54 "BellTouches" "hasImage" "Z", Cond.fieldLink RX8 58 "BellTouches" "stale" "Z", Cond.instantiable RX6 3, Cond.initialized RX6, Cond.instanceMethod yX4_init, Cond.code yX4_init cX4_init 1 none, Cond.methodLink RX4 3 objectInit, Cond.fieldLink RX4 9 "BellTouches$Setup" "n" "I", Cond.arrayClass .int, Cond.fieldLink RX4 15 "BellTouches$Setup" "changes" "[I", Cond.fieldLink RX4 19 "BellTouches$Setup" "changeCount" "I", Cond.fieldLink RX4 22 "BellTouches$Setup" "bob" "I", Cond.fieldLink RX4 25 "BellTouches$Setup" "single" "I", Cond.fieldLink RX4 28 "BellTouches$Setup" "leadCalls" "[I", Cond.fieldLink RX4 31 "BellTouches$Setup" "leadCount" "I", Cond.fieldLink RX4 34 "BellTouches$Setup" "patternBells" "[I", Cond.classLink RX4 37 RX1, Cond.instantiable RX1 4, Cond.initialized RX1, Cond.fieldLink RX4 42 "BellTouches$Setup" "seen" "LBellTouches$HandRows;", Cond.fieldLink RX4 46 "BellTouches$Setup" "events" "LBellTouches$HandRows;", Cond.fieldLink RX4 49 "BellTouches$Setup" "book" "LBellTouches$HandRows;", Cond.methodLink RX4 39 yX1_init, Cond.instanceMethod yX1_init]
def wsX8_init_r3 : List Cond := [Cond.code yX1_init cX1_init 3 none, Cond.methodLink RX1 1 objectInit, Cond.fieldLink RX1 7 "BellTouches$HandRows" "size" "I", Cond.fieldLink RX1 13 "BellTouches$HandRows" "first" "[I", Cond.fieldLink RX1 17 "BellTouches$HandRows" "second" "[I", Cond.fieldLink RX1 20 "BellTouches$HandRows" "third" "[I", Cond.instanceMethod yX7_init, Cond.code yX7_init cX7_init 1 none, Cond.methodLink RX7 3 objectInit, Cond.fieldLink RX7 9 "BellTouches$Touch" "rows" "[I", Cond.fieldLink RX7 15 "BellTouches$Touch" "last" "I", Cond.fieldLink RX7 19 "BellTouches$Touch" "changeCount" "I", Cond.fieldLink RX7 22 "BellTouches$Touch" "pairs" "[I", Cond.fieldLink RX7 25 "BellTouches$Touch" "lastPairs" "[I", Cond.fieldLink RX7 28 "BellTouches$Touch" "firsts" "[I", Cond.classLink RX7 31 RX3, Cond.instantiable RX3 1, Cond.initialized RX3, Cond.fieldLink RX7 34 "BellTouches$Touch" "table" "LBellTouches$RowTable;", Cond.fieldLink RX7 38 "BellTouches$Touch" "compared" "Z", Cond.instanceMethod yX3_init, Cond.code yX3_init cX3_init 1 none, Cond.methodLink RX3 3 objectInit, Cond.fieldLink RX3 9 "BellTouches$RowTable" "numbers" "[I"]
def wsX8_init_r4 : List Cond := [Cond.instanceMethod yX0_init, Cond.code yX0_init cX0_init 1 none, Cond.methodLink RX0 3 objectInit, Cond.fieldLink RX0 9 "BellTouches$Fewest" "number" "I", Cond.fieldLink RX0 15 "BellTouches$Fewest" "notPlain" "I", Cond.classLink RX0 18 RX7, Cond.fieldLink RX0 21 "BellTouches$Fewest" "touch" "LBellTouches$Touch;", Cond.classLink RX0 25 RX3, Cond.fieldLink RX0 28 "BellTouches$Fewest" "table" "LBellTouches$RowTable;", Cond.arrayClass .boolean, Cond.fieldLink RX0 32 "BellTouches$Fewest" "thereIs" "[Z", Cond.fieldLink RX0 36 "BellTouches$Fewest" "leadCount" "I", Cond.fieldLink RX0 39 "BellTouches$Fewest" "bound" "I", Cond.instanceMethod yX5_init, Cond.code yX5_init cX5_init 1 none, Cond.methodLink RX5 3 objectInit, Cond.fieldLink RX5 9 "BellTouches$SetupText" "length" "I", Cond.arrayClass .byte, Cond.fieldLink RX5 15 "BellTouches$SetupText" "signs" "[B", Cond.fieldLink RX5 19 "BellTouches$SetupText" "place" "I", Cond.fieldLink RX5 22 "BellTouches$SetupText" "kinds" "[I", Cond.fieldLink RX5 26 "BellTouches$SetupText" "starts" "[I", Cond.fieldLink RX5 29 "BellTouches$SetupText" "clauseCount" "I", Cond.fieldLink RX5 32 "BellTouches$SetupText" "values" "[I"]
def wsX8_init_r5 : List Cond := [Cond.fieldLink RX5 35 "BellTouches$SetupText" "valueCount" "I", Cond.instanceMethod yX6_init, Cond.code yX6_init cX6_init 1 none, Cond.methodLink RX6 3 objectInit, Cond.fieldLink RX6 9 "BellTouches$Tape" "sort" "I", Cond.fieldLink RX6 15 "BellTouches$Tape" "length" "I", Cond.arrayClass .long, Cond.fieldLink RX6 18 "BellTouches$Tape" "items" "[J"]
def wsX8_init : List Cond := .code yX8_init cX8_init 2 none :: ((wsX8_init_r1 ++ (wsX8_init_r2 ++ (wsX8_init_r3 ++ (wsX8_init_r4 ++ wsX8_init_r5)))) ++ wsX40 ++ wsX80 ++ wsX70 ++ wsX00 ++ wsX50 ++ wsX60 ++ wsX10 ++ wsX30)
def wsX8_bells : List Cond := .code yX8_bells cX8_bells 3 (some .int) :: ([.fieldLink RX8 14 "BellTouches" "setup" "LBellTouches$Setup;", .fieldLink RX8 62 "BellTouches$Setup" "n" "I", .fieldLink RX8 58 "BellTouches" "stale" "Z", .methodLink RX8 66 yX4_begin, .instanceMethod yX4_begin, .selects RX4 yX4_begin yX4_begin, .initialized RX4, .code yX4_begin cX4_begin 3 none, .fieldLink RX4 9 "BellTouches$Setup" "n" "I", .fieldLink RX4 19 "BellTouches$Setup" "changeCount" "I", .fieldLink RX4 22 "BellTouches$Setup" "bob" "I", .fieldLink RX4 25 "BellTouches$Setup" "single" "I", .fieldLink RX4 31 "BellTouches$Setup" "leadCount" "I", .fieldLink RX4 28 "BellTouches$Setup" "leadCalls" "[I", .fieldLink RX4 34 "BellTouches$Setup" "patternBells" "[I", .fieldLink RX4 42 "BellTouches$Setup" "seen" "LBellTouches$HandRows;", .fieldLink RX4 52 "BellTouches$HandRows" "size" "I", .fieldLink RX4 46 "BellTouches$Setup" "events" "LBellTouches$HandRows;", .fieldLink RX4 49 "BellTouches$Setup" "book" "LBellTouches$HandRows;"] ++ wsX80 ++ wsX40 ++ wsX10)
def wsX8_isPlaces : List Cond := .code yX8_isPlaces cX8_isPlaces 2 (some .boolean) :: ([.fieldLink RX8 14 "BellTouches" "setup" "LBellTouches$Setup;", .fieldLink RX8 62 "BellTouches$Setup" "n" "I"] ++ wsX80 ++ wsX40)
def wsX8_change : List Cond := .code yX8_change cX8_change 2 (some .int) :: ([.fieldLink RX8 14 "BellTouches" "setup" "LBellTouches$Setup;", .fieldLink RX8 62 "BellTouches$Setup" "n" "I", .fieldLink RX8 80 "BellTouches$Setup" "changeCount" "I", .fieldLink RX8 83 "BellTouches$Setup" "changes" "[I", .fieldLink RX8 58 "BellTouches" "stale" "Z", .methodLink RX8 70 yX8_isPlaces, .instanceMethod yX8_isPlaces, .selects RX8 yX8_isPlaces yX8_isPlaces, .initialized RX8, .code yX8_isPlaces cX8_isPlaces 2 (some .boolean), .methodLink RX8 74 yX2_isGood, .static yX2_isGood, .initialized RX2, .code yX2_isGood cX2_isGood 2 (some .boolean), .methodLink RX2 18 yX2_pairs, .static yX2_pairs, .code yX2_pairs cX2_pairs 4 (some .int), .methodLink RX2 21 yX2_isKept, .static yX2_isKept, .code yX2_isKept cX2_isKept 2 (some .boolean)] ++ wsX80 ++ wsX40)
def wsX8_calls_r1 : List Cond := [Cond.fieldLink RX8 14 "BellTouches" "setup" "LBellTouches$Setup;", Cond.fieldLink RX8 62 "BellTouches$Setup" "n" "I", Cond.fieldLink RX8 58 "BellTouches" "stale" "Z", Cond.methodLink RX8 70 yX8_isPlaces, Cond.instanceMethod yX8_isPlaces, Cond.selects RX8 yX8_isPlaces yX8_isPlaces, Cond.initialized RX8, Cond.code yX8_isPlaces cX8_isPlaces 2 (some .boolean), Cond.methodLink RX8 74 yX2_isGood, Cond.static yX2_isGood, Cond.initialized RX2, Cond.code yX2_isGood cX2_isGood 2 (some .boolean), Cond.methodLink RX2 18 yX2_pairs, Cond.static yX2_pairs, Cond.code yX2_pairs cX2_pairs 4 (some .int), Cond.methodLink RX2 21 yX2_isKept, Cond.static yX2_isKept, Cond.code yX2_isKept cX2_isKept 2 (some .boolean), Cond.methodLink RX8 87 yX4_calledChange, Cond.instanceMethod yX4_calledChange, Cond.selects RX4 yX4_calledChange yX4_calledChange, Cond.initialized RX4, Cond.code yX4_calledChange cX4_calledChange 2 (some .int), Cond.fieldLink RX4 22 "BellTouches$Setup" "bob" "I"]
def wsX8_calls_r2 : List Cond := [Cond.fieldLink RX4 25 "BellTouches$Setup" "single" "I", Cond.methodLink RX8 91 yX4_setCalledChange, Cond.instanceMethod yX4_setCalledChange, Cond.selects RX4 yX4_setCalledChange yX4_setCalledChange, Cond.code yX4_setCalledChange cX4_setCalledChange 3 none]
def wsX8_calls : List Cond := .code yX8_calls cX8_calls 4 (some .int) :: ((wsX8_calls_r1 ++ wsX8_calls_r2) ++ wsX80 ++ wsX40)
def wsX8_isLead : List Cond := .code yX8_isLead cX8_isLead 1 (some .boolean) :: ([])
def wsX8_call : List Cond := .code yX8_call cX8_call 4 (some .int) :: ([.fieldLink RX8 14 "BellTouches" "setup" "LBellTouches$Setup;", .fieldLink RX8 98 "BellTouches$Setup" "leadCalls" "[I", .fieldLink RX8 58 "BellTouches" "stale" "Z", .methodLink RX8 95 yX8_isLead, .static yX8_isLead, .initialized RX8, .code yX8_isLead cX8_isLead 1 (some .boolean)] ++ wsX80 ++ wsX40)
def wsX8_leads : List Cond := .code yX8_leads cX8_leads 3 (some .int) :: ([.fieldLink RX8 14 "BellTouches" "setup" "LBellTouches$Setup;", .fieldLink RX8 101 "BellTouches$Setup" "leadCount" "I", .fieldLink RX8 58 "BellTouches" "stale" "Z"] ++ wsX80 ++ wsX40)
def wsX8_pattern : List Cond := .code yX8_pattern cX8_pattern 4 (some .int) :: ([.fieldLink RX8 14 "BellTouches" "setup" "LBellTouches$Setup;", .fieldLink RX8 104 "BellTouches$Setup" "patternBells" "[I"] ++ wsX80 ++ wsX40)
def wsX8_feed : List Cond := .code yX8_feed cX8_feed 2 (some .int) :: ([.fieldLink RX8 44 "BellTouches" "text" "LBellTouches$SetupText;", .fieldLink RX8 110 "BellTouches$SetupText" "length" "I", .methodLink RX8 107 yX5_append, .instanceMethod yX5_append, .selects RX5 yX5_append yX5_append, .initialized RX5, .code yX5_append cX5_append 2 (some .boolean), .fieldLink RX5 9 "BellTouches$SetupText" "length" "I", .fieldLink RX5 15 "BellTouches$SetupText" "signs" "[B"] ++ wsX80 ++ wsX50)
def wsX8_read_r1 : List Cond := [Cond.fieldLink RX8 44 "BellTouches" "text" "LBellTouches$SetupText;", Cond.fieldLink RX8 110 "BellTouches$SetupText" "length" "I", Cond.fieldLink RX8 58 "BellTouches" "stale" "Z", Cond.fieldLink RX8 14 "BellTouches" "setup" "LBellTouches$Setup;", Cond.methodLink RX8 113 yX5_parse, Cond.instanceMethod yX5_parse, Cond.selects RX5 yX5_parse yX5_parse, Cond.initialized RX5, Cond.code yX5_parse cX5_parse 2 (some .int), Cond.fieldLink RX5 19 "BellTouches$SetupText" "place" "I", Cond.fieldLink RX5 29 "BellTouches$SetupText" "clauseCount" "I", Cond.fieldLink RX5 35 "BellTouches$SetupText" "valueCount" "I", Cond.fieldLink RX5 26 "BellTouches$SetupText" "starts" "[I", Cond.fieldLink RX5 22 "BellTouches$SetupText" "kinds" "[I", Cond.methodLink RX5 38 yX5_next, Cond.instanceMethod yX5_next, Cond.selects RX5 yX5_next yX5_next, Cond.code yX5_next cX5_next 1 (some .int), Cond.fieldLink RX5 9 "BellTouches$SetupText" "length" "I", Cond.fieldLink RX5 15 "BellTouches$SetupText" "signs" "[B", Cond.methodLink RX5 42 yX5_parseClause, Cond.instanceMethod yX5_parseClause, Cond.selects RX5 yX5_parseClause yX5_parseClause, Cond.code yX5_parseClause cX5_parseClause 2 (some .boolean)]
def wsX8_read_r2 : List Cond := [Cond.methodLink RX5 46 yX5_parseDigit, Cond.instanceMethod yX5_parseDigit, Cond.selects RX5 yX5_parseDigit yX5_parseDigit, Cond.code yX5_parseDigit cX5_parseDigit 2 (some .boolean), Cond.methodLink RX5 58 yX5_keep, Cond.instanceMethod yX5_keep, Cond.selects RX5 yX5_keep yX5_keep, Cond.code yX5_keep cX5_keep 2 none, Cond.fieldLink RX5 32 "BellTouches$SetupText" "values" "[I", Cond.methodLink RX5 49 yX5_parseWords, Cond.instanceMethod yX5_parseWords, Cond.selects RX5 yX5_parseWords yX5_parseWords, Cond.code yX5_parseWords cX5_parseWords 3 (some .boolean), Cond.methodLink RX5 52 yX5_parseWord, Cond.instanceMethod yX5_parseWord, Cond.selects RX5 yX5_parseWord yX5_parseWord, Cond.code yX5_parseWord cX5_parseWord 3 (some .boolean), Cond.methodLink RX5 62 yX5_isPlaceSign, Cond.static yX5_isPlaceSign, Cond.code yX5_isPlaceSign cX5_isPlaceSign 1 (some .boolean), Cond.methodLink RX5 55 yX5_parseCalls, Cond.instanceMethod yX5_parseCalls, Cond.selects RX5 yX5_parseCalls yX5_parseCalls, Cond.code yX5_parseCalls cX5_parseCalls 2 (some .boolean)]
def wsX8_read_r3 : List Cond := [Cond.methodLink RX5 66 yX5_callOf, Cond.static yX5_callOf, Cond.code yX5_callOf cX5_callOf 1 (some .int), Cond.methodLink RX8 117 yX5_perform, Cond.instanceMethod yX5_perform, Cond.selects RX5 yX5_perform yX5_perform, Cond.code yX5_perform cX5_perform 4 (some .int), Cond.methodLink RX5 70 yX5_performClause, Cond.instanceMethod yX5_performClause, Cond.selects RX5 yX5_performClause yX5_performClause, Cond.code yX5_performClause cX5_performClause 5 (some .boolean), Cond.methodLink RX5 74 yX5_beginBells, Cond.static yX5_beginBells, Cond.code yX5_beginBells cX5_beginBells 2 (some .boolean), Cond.methodLink RX5 88 yX4_begin, Cond.instanceMethod yX4_begin, Cond.selects RX4 yX4_begin yX4_begin, Cond.initialized RX4, Cond.code yX4_begin cX4_begin 3 none, Cond.fieldLink RX4 9 "BellTouches$Setup" "n" "I", Cond.fieldLink RX4 19 "BellTouches$Setup" "changeCount" "I", Cond.fieldLink RX4 22 "BellTouches$Setup" "bob" "I", Cond.fieldLink RX4 25 "BellTouches$Setup" "single" "I", Cond.fieldLink RX4 31 "BellTouches$Setup" "leadCount" "I"]
def wsX8_read_r4 : List Cond := [Cond.fieldLink RX4 28 "BellTouches$Setup" "leadCalls" "[I", Cond.fieldLink RX4 34 "BellTouches$Setup" "patternBells" "[I", Cond.fieldLink RX4 42 "BellTouches$Setup" "seen" "LBellTouches$HandRows;", Cond.fieldLink RX4 52 "BellTouches$HandRows" "size" "I", Cond.fieldLink RX4 46 "BellTouches$Setup" "events" "LBellTouches$HandRows;", Cond.fieldLink RX4 49 "BellTouches$Setup" "book" "LBellTouches$HandRows;", Cond.methodLink RX5 78 yX5_setMethod, Cond.instanceMethod yX5_setMethod, Cond.selects RX5 yX5_setMethod yX5_setMethod, Cond.code yX5_setMethod cX5_setMethod 5 (some .boolean), Cond.fieldLink RX5 93 "BellTouches$Setup" "n" "I", Cond.fieldLink RX5 102 "BellTouches$Setup" "changeCount" "I", Cond.fieldLink RX5 105 "BellTouches$Setup" "changes" "[I", Cond.methodLink RX5 96 yX2_isGood, Cond.static yX2_isGood, Cond.initialized RX2, Cond.code yX2_isGood cX2_isGood 2 (some .boolean), Cond.methodLink RX2 18 yX2_pairs, Cond.static yX2_pairs, Cond.code yX2_pairs cX2_pairs 4 (some .int), Cond.methodLink RX2 21 yX2_isKept, Cond.static yX2_isKept, Cond.code yX2_isKept cX2_isKept 2 (some .boolean), Cond.methodLink RX5 82 yX5_setCall]
def wsX8_read_r5 : List Cond := [Cond.static yX5_setCall, Cond.code yX5_setCall cX5_setCall 3 (some .boolean), Cond.methodLink RX5 108 yX4_setCalledChange, Cond.instanceMethod yX4_setCalledChange, Cond.selects RX4 yX4_setCalledChange yX4_setCalledChange, Cond.code yX4_setCalledChange cX4_setCalledChange 3 none, Cond.methodLink RX5 85 yX5_setLeads, Cond.instanceMethod yX5_setLeads, Cond.selects RX5 yX5_setLeads yX5_setLeads, Cond.code yX5_setLeads cX5_setLeads 5 (some .boolean), Cond.fieldLink RX5 112 "BellTouches$Setup" "leadCount" "I", Cond.fieldLink RX5 115 "BellTouches$Setup" "leadCalls" "[I"]
def wsX8_read : List Cond := .code yX8_read cX8_read 2 (some .int) :: ((wsX8_read_r1 ++ (wsX8_read_r2 ++ (wsX8_read_r3 ++ (wsX8_read_r4 ++ wsX8_read_r5)))) ++ wsX80 ++ wsX50 ++ wsX40 ++ wsX10)
def wsX8_orNotFound : List Cond := .code yX8_orNotFound cX8_orNotFound 1 (some .int) :: ([])
def wsX8_of : List Cond := .code yX8_of cX8_of 3 (some .int) :: ([.fieldLink RX8 14 "BellTouches" "setup" "LBellTouches$Setup;", .fieldLink RX8 80 "BellTouches$Setup" "changeCount" "I", .fieldLink RX8 83 "BellTouches$Setup" "changes" "[I", .fieldLink RX8 121 "BellTouches$Setup" "bob" "I", .fieldLink RX8 127 "BellTouches$Setup" "single" "I", .fieldLink RX8 98 "BellTouches$Setup" "leadCalls" "[I", .methodLink RX8 124 yX8_orNotFound, .static yX8_orNotFound, .initialized RX8, .code yX8_orNotFound cX8_orNotFound 1 (some .int), .methodLink RX8 95 yX8_isLead, .static yX8_isLead, .code yX8_isLead cX8_isLead 1 (some .boolean)] ++ wsX80 ++ wsX40)
def wsX8_rung_r1 : List Cond := [Cond.fieldLink RX8 58 "BellTouches" "stale" "Z", Cond.fieldLink RX8 27 "BellTouches" "touch" "LBellTouches$Touch;", Cond.fieldLink RX8 14 "BellTouches" "setup" "LBellTouches$Setup;", Cond.methodLink RX8 219 yX7_ring, Cond.instanceMethod yX7_ring, Cond.selects RX7 yX7_ring yX7_ring, Cond.initialized RX7, Cond.code yX7_ring cX7_ring 4 none, Cond.fieldLink RX7 46 "BellTouches$Setup" "leadCount" "I", Cond.fieldLink RX7 19 "BellTouches$Touch" "changeCount" "I", Cond.fieldLink RX7 51 "BellTouches$Setup" "leadCalls" "[I", Cond.methodLink RX7 42 yX7_begin, Cond.instanceMethod yX7_begin, Cond.selects RX7 yX7_begin yX7_begin, Cond.code yX7_begin cX7_begin 4 none, Cond.fieldLink RX7 58 "BellTouches$Setup" "changeCount" "I", Cond.fieldLink RX7 22 "BellTouches$Touch" "pairs" "[I", Cond.fieldLink RX7 59 "BellTouches$Setup" "n" "I", Cond.fieldLink RX7 62 "BellTouches$Setup" "changes" "[I", Cond.fieldLink RX7 25 "BellTouches$Touch" "lastPairs" "[I", Cond.fieldLink RX7 9 "BellTouches$Touch" "rows" "[I", Cond.fieldLink RX7 15 "BellTouches$Touch" "last" "I", Cond.fieldLink RX7 38 "BellTouches$Touch" "compared" "Z", Cond.methodLink RX7 65 yX2_pairs]
def wsX8_rung_r2 : List Cond := [Cond.static yX2_pairs, Cond.initialized RX2, Cond.code yX2_pairs cX2_pairs 4 (some .int), Cond.methodLink RX2 21 yX2_isKept, Cond.static yX2_isKept, Cond.code yX2_isKept cX2_isKept 2 (some .boolean), Cond.methodLink RX7 70 yX4_calledChange, Cond.instanceMethod yX4_calledChange, Cond.selects RX4 yX4_calledChange yX4_calledChange, Cond.initialized RX4, Cond.code yX4_calledChange cX4_calledChange 2 (some .int), Cond.fieldLink RX4 22 "BellTouches$Setup" "bob" "I", Cond.fieldLink RX4 25 "BellTouches$Setup" "single" "I", Cond.methodLink RX7 74 yX2_rounds, Cond.static yX2_rounds, Cond.code yX2_rounds cX2_rounds 3 (some .int), Cond.methodLink RX7 54 yX7_step, Cond.instanceMethod yX7_step, Cond.selects RX7 yX7_step yX7_step, Cond.code yX7_step cX7_step 4 none, Cond.methodLink RX7 77 yX2_swapped, Cond.static yX2_swapped, Cond.code yX2_swapped cX2_swapped 3 (some .int)]
def wsX8_rung : List Cond := .code yX8_rung cX8_rung 1 (some (.object "BellTouches$Touch")) :: ((wsX8_rung_r1 ++ wsX8_rung_r2) ++ wsX80 ++ wsX40 ++ wsX70)
def wsX8_told_r1 : List Cond := [Cond.fieldLink RX8 14 "BellTouches" "setup" "LBellTouches$Setup;", Cond.fieldLink RX8 62 "BellTouches$Setup" "n" "I", Cond.fieldLink RX8 80 "BellTouches$Setup" "changeCount" "I", Cond.fieldLink RX8 101 "BellTouches$Setup" "leadCount" "I", Cond.fieldLink RX8 134 "BellTouches$Touch" "last" "I", Cond.methodLink RX8 130 yX8_rung, Cond.instanceMethod yX8_rung, Cond.selects RX8 yX8_rung yX8_rung, Cond.initialized RX8, Cond.code yX8_rung cX8_rung 1 (some (.object "BellTouches$Touch")), Cond.fieldLink RX8 58 "BellTouches" "stale" "Z", Cond.fieldLink RX8 27 "BellTouches" "touch" "LBellTouches$Touch;", Cond.methodLink RX8 219 yX7_ring, Cond.instanceMethod yX7_ring, Cond.selects RX7 yX7_ring yX7_ring, Cond.initialized RX7, Cond.code yX7_ring cX7_ring 4 none, Cond.fieldLink RX7 46 "BellTouches$Setup" "leadCount" "I", Cond.fieldLink RX7 19 "BellTouches$Touch" "changeCount" "I", Cond.fieldLink RX7 51 "BellTouches$Setup" "leadCalls" "[I", Cond.methodLink RX7 42 yX7_begin, Cond.instanceMethod yX7_begin, Cond.selects RX7 yX7_begin yX7_begin, Cond.code yX7_begin cX7_begin 4 none]
def wsX8_told_r2 : List Cond := [Cond.fieldLink RX7 58 "BellTouches$Setup" "changeCount" "I", Cond.fieldLink RX7 22 "BellTouches$Touch" "pairs" "[I", Cond.fieldLink RX7 59 "BellTouches$Setup" "n" "I", Cond.fieldLink RX7 62 "BellTouches$Setup" "changes" "[I", Cond.fieldLink RX7 25 "BellTouches$Touch" "lastPairs" "[I", Cond.fieldLink RX7 9 "BellTouches$Touch" "rows" "[I", Cond.fieldLink RX7 15 "BellTouches$Touch" "last" "I", Cond.fieldLink RX7 38 "BellTouches$Touch" "compared" "Z", Cond.methodLink RX7 65 yX2_pairs, Cond.static yX2_pairs, Cond.initialized RX2, Cond.code yX2_pairs cX2_pairs 4 (some .int), Cond.methodLink RX2 21 yX2_isKept, Cond.static yX2_isKept, Cond.code yX2_isKept cX2_isKept 2 (some .boolean), Cond.methodLink RX7 70 yX4_calledChange, Cond.instanceMethod yX4_calledChange, Cond.selects RX4 yX4_calledChange yX4_calledChange, Cond.initialized RX4, Cond.code yX4_calledChange cX4_calledChange 2 (some .int), Cond.fieldLink RX4 22 "BellTouches$Setup" "bob" "I", Cond.fieldLink RX4 25 "BellTouches$Setup" "single" "I", Cond.methodLink RX7 74 yX2_rounds, Cond.static yX2_rounds]
def wsX8_told_r3 : List Cond := [Cond.code yX2_rounds cX2_rounds 3 (some .int), Cond.methodLink RX7 54 yX7_step, Cond.instanceMethod yX7_step, Cond.selects RX7 yX7_step yX7_step, Cond.code yX7_step cX7_step 4 none, Cond.methodLink RX7 77 yX2_swapped, Cond.static yX2_swapped, Cond.code yX2_swapped cX2_swapped 3 (some .int), Cond.methodLink RX8 137 yX7_roundRow, Cond.instanceMethod yX7_roundRow, Cond.selects RX7 yX7_roundRow yX7_roundRow, Cond.code yX7_roundRow cX7_roundRow 2 (some .int), Cond.fieldLink RX7 28 "BellTouches$Touch" "firsts" "[I", Cond.methodLink RX7 80 yX7_compare, Cond.instanceMethod yX7_compare, Cond.selects RX7 yX7_compare yX7_compare, Cond.code yX7_compare cX7_compare 2 none, Cond.fieldLink RX7 34 "BellTouches$Touch" "table" "LBellTouches$RowTable;", Cond.methodLink RX7 87 yX3_enter, Cond.instanceMethod yX3_enter, Cond.selects RX3 yX3_enter yX3_enter, Cond.initialized RX3, Cond.code yX3_enter cX3_enter 7 (some .int), Cond.fieldLink RX3 9 "BellTouches$RowTable" "numbers" "[I"]
def wsX8_told_r4 : List Cond := [Cond.methodLink RX3 13 yX3_start, Cond.static yX3_start, Cond.code yX3_start cX3_start 1 (some .int), Cond.constant RX3 17 (-1640531535), Cond.methodLink RX7 91 yX3_leave, Cond.instanceMethod yX3_leave, Cond.selects RX3 yX3_leave yX3_leave, Cond.code yX3_leave cX3_leave 6 none, Cond.methodLink RX8 140 yX7_falseRow, Cond.instanceMethod yX7_falseRow, Cond.selects RX7 yX7_falseRow yX7_falseRow, Cond.code yX7_falseRow cX7_falseRow 3 (some .int), Cond.methodLink RX8 143 yX7_isTrue, Cond.instanceMethod yX7_isTrue, Cond.selects RX7 yX7_isTrue yX7_isTrue, Cond.code yX7_isTrue cX7_isTrue 1 (some .boolean), Cond.methodLink RX7 83 yX7_falseRow, Cond.methodLink RX8 147 yX7_course, Cond.instanceMethod yX7_course, Cond.selects RX7 yX7_course yX7_course, Cond.code yX7_course cX7_course 4 (some .int)]
def wsX8_told : List Cond := .code yX8_told cX8_told 2 (some .int) :: ((wsX8_told_r1 ++ (wsX8_told_r2 ++ (wsX8_told_r3 ++ wsX8_told_r4))) ++ wsX80 ++ wsX40 ++ wsX70 ++ wsX30)
def wsX8_isRow_r1 : List Cond := [Cond.fieldLink RX8 134 "BellTouches$Touch" "last" "I", Cond.methodLink RX8 130 yX8_rung, Cond.instanceMethod yX8_rung, Cond.selects RX8 yX8_rung yX8_rung, Cond.initialized RX8, Cond.code yX8_rung cX8_rung 1 (some (.object "BellTouches$Touch")), Cond.fieldLink RX8 58 "BellTouches" "stale" "Z", Cond.fieldLink RX8 27 "BellTouches" "touch" "LBellTouches$Touch;", Cond.fieldLink RX8 14 "BellTouches" "setup" "LBellTouches$Setup;", Cond.methodLink RX8 219 yX7_ring, Cond.instanceMethod yX7_ring, Cond.selects RX7 yX7_ring yX7_ring, Cond.initialized RX7, Cond.code yX7_ring cX7_ring 4 none, Cond.fieldLink RX7 46 "BellTouches$Setup" "leadCount" "I", Cond.fieldLink RX7 19 "BellTouches$Touch" "changeCount" "I", Cond.fieldLink RX7 51 "BellTouches$Setup" "leadCalls" "[I", Cond.methodLink RX7 42 yX7_begin, Cond.instanceMethod yX7_begin, Cond.selects RX7 yX7_begin yX7_begin, Cond.code yX7_begin cX7_begin 4 none, Cond.fieldLink RX7 58 "BellTouches$Setup" "changeCount" "I", Cond.fieldLink RX7 22 "BellTouches$Touch" "pairs" "[I", Cond.fieldLink RX7 59 "BellTouches$Setup" "n" "I"]
def wsX8_isRow_r2 : List Cond := [Cond.fieldLink RX7 62 "BellTouches$Setup" "changes" "[I", Cond.fieldLink RX7 25 "BellTouches$Touch" "lastPairs" "[I", Cond.fieldLink RX7 9 "BellTouches$Touch" "rows" "[I", Cond.fieldLink RX7 15 "BellTouches$Touch" "last" "I", Cond.fieldLink RX7 38 "BellTouches$Touch" "compared" "Z", Cond.methodLink RX7 65 yX2_pairs, Cond.static yX2_pairs, Cond.initialized RX2, Cond.code yX2_pairs cX2_pairs 4 (some .int), Cond.methodLink RX2 21 yX2_isKept, Cond.static yX2_isKept, Cond.code yX2_isKept cX2_isKept 2 (some .boolean), Cond.methodLink RX7 70 yX4_calledChange, Cond.instanceMethod yX4_calledChange, Cond.selects RX4 yX4_calledChange yX4_calledChange, Cond.initialized RX4, Cond.code yX4_calledChange cX4_calledChange 2 (some .int), Cond.fieldLink RX4 22 "BellTouches$Setup" "bob" "I", Cond.fieldLink RX4 25 "BellTouches$Setup" "single" "I", Cond.methodLink RX7 74 yX2_rounds, Cond.static yX2_rounds, Cond.code yX2_rounds cX2_rounds 3 (some .int), Cond.methodLink RX7 54 yX7_step, Cond.instanceMethod yX7_step]
def wsX8_isRow_r3 : List Cond := [Cond.selects RX7 yX7_step yX7_step, Cond.code yX7_step cX7_step 4 none, Cond.methodLink RX7 77 yX2_swapped, Cond.static yX2_swapped, Cond.code yX2_swapped cX2_swapped 3 (some .int)]
def wsX8_isRow : List Cond := .code yX8_isRow cX8_isRow 2 (some .boolean) :: ((wsX8_isRow_r1 ++ (wsX8_isRow_r2 ++ wsX8_isRow_r3)) ++ wsX70 ++ wsX80 ++ wsX40)
def wsX8_isBell : List Cond := .code yX8_isBell cX8_isBell 2 (some .boolean) :: ([.fieldLink RX8 14 "BellTouches" "setup" "LBellTouches$Setup;", .fieldLink RX8 62 "BellTouches$Setup" "n" "I"] ++ wsX80 ++ wsX40)
def wsX8_at_r1 : List Cond := [Cond.fieldLink RX8 156 "BellTouches$Touch" "rows" "[I", Cond.methodLink RX8 150 yX8_isRow, Cond.instanceMethod yX8_isRow, Cond.selects RX8 yX8_isRow yX8_isRow, Cond.initialized RX8, Cond.code yX8_isRow cX8_isRow 2 (some .boolean), Cond.fieldLink RX8 134 "BellTouches$Touch" "last" "I", Cond.methodLink RX8 130 yX8_rung, Cond.instanceMethod yX8_rung, Cond.selects RX8 yX8_rung yX8_rung, Cond.code yX8_rung cX8_rung 1 (some (.object "BellTouches$Touch")), Cond.fieldLink RX8 58 "BellTouches" "stale" "Z", Cond.fieldLink RX8 27 "BellTouches" "touch" "LBellTouches$Touch;", Cond.fieldLink RX8 14 "BellTouches" "setup" "LBellTouches$Setup;", Cond.methodLink RX8 219 yX7_ring, Cond.instanceMethod yX7_ring, Cond.selects RX7 yX7_ring yX7_ring, Cond.initialized RX7, Cond.code yX7_ring cX7_ring 4 none, Cond.fieldLink RX7 46 "BellTouches$Setup" "leadCount" "I", Cond.fieldLink RX7 19 "BellTouches$Touch" "changeCount" "I", Cond.fieldLink RX7 51 "BellTouches$Setup" "leadCalls" "[I", Cond.methodLink RX7 42 yX7_begin, Cond.instanceMethod yX7_begin]
def wsX8_at_r2 : List Cond := [Cond.selects RX7 yX7_begin yX7_begin, Cond.code yX7_begin cX7_begin 4 none, Cond.fieldLink RX7 58 "BellTouches$Setup" "changeCount" "I", Cond.fieldLink RX7 22 "BellTouches$Touch" "pairs" "[I", Cond.fieldLink RX7 59 "BellTouches$Setup" "n" "I", Cond.fieldLink RX7 62 "BellTouches$Setup" "changes" "[I", Cond.fieldLink RX7 25 "BellTouches$Touch" "lastPairs" "[I", Cond.fieldLink RX7 9 "BellTouches$Touch" "rows" "[I", Cond.fieldLink RX7 15 "BellTouches$Touch" "last" "I", Cond.fieldLink RX7 38 "BellTouches$Touch" "compared" "Z", Cond.methodLink RX7 65 yX2_pairs, Cond.static yX2_pairs, Cond.initialized RX2, Cond.code yX2_pairs cX2_pairs 4 (some .int), Cond.methodLink RX2 21 yX2_isKept, Cond.static yX2_isKept, Cond.code yX2_isKept cX2_isKept 2 (some .boolean), Cond.methodLink RX7 70 yX4_calledChange, Cond.instanceMethod yX4_calledChange, Cond.selects RX4 yX4_calledChange yX4_calledChange, Cond.initialized RX4, Cond.code yX4_calledChange cX4_calledChange 2 (some .int), Cond.fieldLink RX4 22 "BellTouches$Setup" "bob" "I", Cond.fieldLink RX4 25 "BellTouches$Setup" "single" "I"]
def wsX8_at_r3 : List Cond := [Cond.methodLink RX7 74 yX2_rounds, Cond.static yX2_rounds, Cond.code yX2_rounds cX2_rounds 3 (some .int), Cond.methodLink RX7 54 yX7_step, Cond.instanceMethod yX7_step, Cond.selects RX7 yX7_step yX7_step, Cond.code yX7_step cX7_step 4 none, Cond.methodLink RX7 77 yX2_swapped, Cond.static yX2_swapped, Cond.code yX2_swapped cX2_swapped 3 (some .int), Cond.methodLink RX8 153 yX8_isBell, Cond.instanceMethod yX8_isBell, Cond.selects RX8 yX8_isBell yX8_isBell, Cond.code yX8_isBell cX8_isBell 2 (some .boolean), Cond.fieldLink RX8 62 "BellTouches$Setup" "n" "I", Cond.methodLink RX8 159 yX2_bellIn, Cond.static yX2_bellIn, Cond.code yX2_bellIn cX2_bellIn 2 (some .int)]
def wsX8_at : List Cond := .code yX8_at cX8_at 3 (some .int) :: ((wsX8_at_r1 ++ (wsX8_at_r2 ++ wsX8_at_r3)) ++ wsX70 ++ wsX80 ++ wsX40)
def wsX8_where_r1 : List Cond := [Cond.fieldLink RX8 156 "BellTouches$Touch" "rows" "[I", Cond.methodLink RX8 150 yX8_isRow, Cond.instanceMethod yX8_isRow, Cond.selects RX8 yX8_isRow yX8_isRow, Cond.initialized RX8, Cond.code yX8_isRow cX8_isRow 2 (some .boolean), Cond.fieldLink RX8 134 "BellTouches$Touch" "last" "I", Cond.methodLink RX8 130 yX8_rung, Cond.instanceMethod yX8_rung, Cond.selects RX8 yX8_rung yX8_rung, Cond.code yX8_rung cX8_rung 1 (some (.object "BellTouches$Touch")), Cond.fieldLink RX8 58 "BellTouches" "stale" "Z", Cond.fieldLink RX8 27 "BellTouches" "touch" "LBellTouches$Touch;", Cond.fieldLink RX8 14 "BellTouches" "setup" "LBellTouches$Setup;", Cond.methodLink RX8 219 yX7_ring, Cond.instanceMethod yX7_ring, Cond.selects RX7 yX7_ring yX7_ring, Cond.initialized RX7, Cond.code yX7_ring cX7_ring 4 none, Cond.fieldLink RX7 46 "BellTouches$Setup" "leadCount" "I", Cond.fieldLink RX7 19 "BellTouches$Touch" "changeCount" "I", Cond.fieldLink RX7 51 "BellTouches$Setup" "leadCalls" "[I", Cond.methodLink RX7 42 yX7_begin, Cond.instanceMethod yX7_begin]
def wsX8_where_r2 : List Cond := [Cond.selects RX7 yX7_begin yX7_begin, Cond.code yX7_begin cX7_begin 4 none, Cond.fieldLink RX7 58 "BellTouches$Setup" "changeCount" "I", Cond.fieldLink RX7 22 "BellTouches$Touch" "pairs" "[I", Cond.fieldLink RX7 59 "BellTouches$Setup" "n" "I", Cond.fieldLink RX7 62 "BellTouches$Setup" "changes" "[I", Cond.fieldLink RX7 25 "BellTouches$Touch" "lastPairs" "[I", Cond.fieldLink RX7 9 "BellTouches$Touch" "rows" "[I", Cond.fieldLink RX7 15 "BellTouches$Touch" "last" "I", Cond.fieldLink RX7 38 "BellTouches$Touch" "compared" "Z", Cond.methodLink RX7 65 yX2_pairs, Cond.static yX2_pairs, Cond.initialized RX2, Cond.code yX2_pairs cX2_pairs 4 (some .int), Cond.methodLink RX2 21 yX2_isKept, Cond.static yX2_isKept, Cond.code yX2_isKept cX2_isKept 2 (some .boolean), Cond.methodLink RX7 70 yX4_calledChange, Cond.instanceMethod yX4_calledChange, Cond.selects RX4 yX4_calledChange yX4_calledChange, Cond.initialized RX4, Cond.code yX4_calledChange cX4_calledChange 2 (some .int), Cond.fieldLink RX4 22 "BellTouches$Setup" "bob" "I", Cond.fieldLink RX4 25 "BellTouches$Setup" "single" "I"]
def wsX8_where_r3 : List Cond := [Cond.methodLink RX7 74 yX2_rounds, Cond.static yX2_rounds, Cond.code yX2_rounds cX2_rounds 3 (some .int), Cond.methodLink RX7 54 yX7_step, Cond.instanceMethod yX7_step, Cond.selects RX7 yX7_step yX7_step, Cond.code yX7_step cX7_step 4 none, Cond.methodLink RX7 77 yX2_swapped, Cond.static yX2_swapped, Cond.code yX2_swapped cX2_swapped 3 (some .int), Cond.methodLink RX8 153 yX8_isBell, Cond.instanceMethod yX8_isBell, Cond.selects RX8 yX8_isBell yX8_isBell, Cond.code yX8_isBell cX8_isBell 2 (some .boolean), Cond.fieldLink RX8 62 "BellTouches$Setup" "n" "I", Cond.methodLink RX8 163 yX2_placeOf, Cond.static yX2_placeOf, Cond.code yX2_placeOf cX2_placeOf 3 (some .int), Cond.methodLink RX2 9 yX2_bellIn, Cond.static yX2_bellIn, Cond.code yX2_bellIn cX2_bellIn 2 (some .int)]
def wsX8_where : List Cond := .code yX8_where cX8_where 3 (some .int) :: ((wsX8_where_r1 ++ (wsX8_where_r2 ++ wsX8_where_r3)) ++ wsX70 ++ wsX80 ++ wsX40)
def wsX8_same_r1 : List Cond := [Cond.methodLink RX8 150 yX8_isRow, Cond.instanceMethod yX8_isRow, Cond.selects RX8 yX8_isRow yX8_isRow, Cond.initialized RX8, Cond.code yX8_isRow cX8_isRow 2 (some .boolean), Cond.fieldLink RX8 134 "BellTouches$Touch" "last" "I", Cond.methodLink RX8 130 yX8_rung, Cond.instanceMethod yX8_rung, Cond.selects RX8 yX8_rung yX8_rung, Cond.code yX8_rung cX8_rung 1 (some (.object "BellTouches$Touch")), Cond.fieldLink RX8 58 "BellTouches" "stale" "Z", Cond.fieldLink RX8 27 "BellTouches" "touch" "LBellTouches$Touch;", Cond.fieldLink RX8 14 "BellTouches" "setup" "LBellTouches$Setup;", Cond.methodLink RX8 219 yX7_ring, Cond.instanceMethod yX7_ring, Cond.selects RX7 yX7_ring yX7_ring, Cond.initialized RX7, Cond.code yX7_ring cX7_ring 4 none, Cond.fieldLink RX7 46 "BellTouches$Setup" "leadCount" "I", Cond.fieldLink RX7 19 "BellTouches$Touch" "changeCount" "I", Cond.fieldLink RX7 51 "BellTouches$Setup" "leadCalls" "[I", Cond.methodLink RX7 42 yX7_begin, Cond.instanceMethod yX7_begin, Cond.selects RX7 yX7_begin yX7_begin]
def wsX8_same_r2 : List Cond := [Cond.code yX7_begin cX7_begin 4 none, Cond.fieldLink RX7 58 "BellTouches$Setup" "changeCount" "I", Cond.fieldLink RX7 22 "BellTouches$Touch" "pairs" "[I", Cond.fieldLink RX7 59 "BellTouches$Setup" "n" "I", Cond.fieldLink RX7 62 "BellTouches$Setup" "changes" "[I", Cond.fieldLink RX7 25 "BellTouches$Touch" "lastPairs" "[I", Cond.fieldLink RX7 9 "BellTouches$Touch" "rows" "[I", Cond.fieldLink RX7 15 "BellTouches$Touch" "last" "I", Cond.fieldLink RX7 38 "BellTouches$Touch" "compared" "Z", Cond.methodLink RX7 65 yX2_pairs, Cond.static yX2_pairs, Cond.initialized RX2, Cond.code yX2_pairs cX2_pairs 4 (some .int), Cond.methodLink RX2 21 yX2_isKept, Cond.static yX2_isKept, Cond.code yX2_isKept cX2_isKept 2 (some .boolean), Cond.methodLink RX7 70 yX4_calledChange, Cond.instanceMethod yX4_calledChange, Cond.selects RX4 yX4_calledChange yX4_calledChange, Cond.initialized RX4, Cond.code yX4_calledChange cX4_calledChange 2 (some .int), Cond.fieldLink RX4 22 "BellTouches$Setup" "bob" "I", Cond.fieldLink RX4 25 "BellTouches$Setup" "single" "I", Cond.methodLink RX7 74 yX2_rounds]
def wsX8_same_r3 : List Cond := [Cond.static yX2_rounds, Cond.code yX2_rounds cX2_rounds 3 (some .int), Cond.methodLink RX7 54 yX7_step, Cond.instanceMethod yX7_step, Cond.selects RX7 yX7_step yX7_step, Cond.code yX7_step cX7_step 4 none, Cond.methodLink RX7 77 yX2_swapped, Cond.static yX2_swapped, Cond.code yX2_swapped cX2_swapped 3 (some .int), Cond.methodLink RX8 166 yX7_firstAs, Cond.instanceMethod yX7_firstAs, Cond.selects RX7 yX7_firstAs yX7_firstAs, Cond.code yX7_firstAs cX7_firstAs 2 (some .int), Cond.fieldLink RX7 28 "BellTouches$Touch" "firsts" "[I", Cond.methodLink RX7 80 yX7_compare, Cond.instanceMethod yX7_compare, Cond.selects RX7 yX7_compare yX7_compare, Cond.code yX7_compare cX7_compare 2 none, Cond.fieldLink RX7 34 "BellTouches$Touch" "table" "LBellTouches$RowTable;", Cond.methodLink RX7 87 yX3_enter, Cond.instanceMethod yX3_enter, Cond.selects RX3 yX3_enter yX3_enter, Cond.initialized RX3, Cond.code yX3_enter cX3_enter 7 (some .int)]
def wsX8_same_r4 : List Cond := [Cond.fieldLink RX3 9 "BellTouches$RowTable" "numbers" "[I", Cond.methodLink RX3 13 yX3_start, Cond.static yX3_start, Cond.code yX3_start cX3_start 1 (some .int), Cond.constant RX3 17 (-1640531535), Cond.methodLink RX7 91 yX3_leave, Cond.instanceMethod yX3_leave, Cond.selects RX3 yX3_leave yX3_leave, Cond.code yX3_leave cX3_leave 6 none]
def wsX8_same : List Cond := .code yX8_same cX8_same 2 (some .int) :: ((wsX8_same_r1 ++ (wsX8_same_r2 ++ (wsX8_same_r3 ++ wsX8_same_r4))) ++ wsX70 ++ wsX80 ++ wsX40 ++ wsX30)
def wsX8_good : List Cond := .code yX8_good cX8_good 2 (some .int) :: ([.fieldLink RX8 14 "BellTouches" "setup" "LBellTouches$Setup;", .fieldLink RX8 62 "BellTouches$Setup" "n" "I", .methodLink RX8 70 yX8_isPlaces, .instanceMethod yX8_isPlaces, .selects RX8 yX8_isPlaces yX8_isPlaces, .initialized RX8, .code yX8_isPlaces cX8_isPlaces 2 (some .boolean), .methodLink RX8 74 yX2_isGood, .static yX2_isGood, .initialized RX2, .code yX2_isGood cX2_isGood 2 (some .boolean), .methodLink RX2 18 yX2_pairs, .static yX2_pairs, .code yX2_pairs cX2_pairs 4 (some .int), .methodLink RX2 21 yX2_isKept, .static yX2_isKept, .code yX2_isKept cX2_isKept 2 (some .boolean)] ++ wsX80 ++ wsX40)
def wsX8_countMusic_r1 : List Cond := [Cond.fieldLink RX8 156 "BellTouches$Touch" "rows" "[I", Cond.fieldLink RX8 27 "BellTouches" "touch" "LBellTouches$Touch;", Cond.fieldLink RX8 134 "BellTouches$Touch" "last" "I", Cond.fieldLink RX8 14 "BellTouches" "setup" "LBellTouches$Setup;", Cond.methodLink RX8 130 yX8_rung, Cond.instanceMethod yX8_rung, Cond.selects RX8 yX8_rung yX8_rung, Cond.initialized RX8, Cond.code yX8_rung cX8_rung 1 (some (.object "BellTouches$Touch")), Cond.fieldLink RX8 58 "BellTouches" "stale" "Z", Cond.methodLink RX8 219 yX7_ring, Cond.instanceMethod yX7_ring, Cond.selects RX7 yX7_ring yX7_ring, Cond.initialized RX7, Cond.code yX7_ring cX7_ring 4 none, Cond.fieldLink RX7 46 "BellTouches$Setup" "leadCount" "I", Cond.fieldLink RX7 19 "BellTouches$Touch" "changeCount" "I", Cond.fieldLink RX7 51 "BellTouches$Setup" "leadCalls" "[I", Cond.methodLink RX7 42 yX7_begin, Cond.instanceMethod yX7_begin, Cond.selects RX7 yX7_begin yX7_begin, Cond.code yX7_begin cX7_begin 4 none, Cond.fieldLink RX7 58 "BellTouches$Setup" "changeCount" "I", Cond.fieldLink RX7 22 "BellTouches$Touch" "pairs" "[I"]
def wsX8_countMusic_r2 : List Cond := [Cond.fieldLink RX7 59 "BellTouches$Setup" "n" "I", Cond.fieldLink RX7 62 "BellTouches$Setup" "changes" "[I", Cond.fieldLink RX7 25 "BellTouches$Touch" "lastPairs" "[I", Cond.fieldLink RX7 9 "BellTouches$Touch" "rows" "[I", Cond.fieldLink RX7 15 "BellTouches$Touch" "last" "I", Cond.fieldLink RX7 38 "BellTouches$Touch" "compared" "Z", Cond.methodLink RX7 65 yX2_pairs, Cond.static yX2_pairs, Cond.initialized RX2, Cond.code yX2_pairs cX2_pairs 4 (some .int), Cond.methodLink RX2 21 yX2_isKept, Cond.static yX2_isKept, Cond.code yX2_isKept cX2_isKept 2 (some .boolean), Cond.methodLink RX7 70 yX4_calledChange, Cond.instanceMethod yX4_calledChange, Cond.selects RX4 yX4_calledChange yX4_calledChange, Cond.initialized RX4, Cond.code yX4_calledChange cX4_calledChange 2 (some .int), Cond.fieldLink RX4 22 "BellTouches$Setup" "bob" "I", Cond.fieldLink RX4 25 "BellTouches$Setup" "single" "I", Cond.methodLink RX7 74 yX2_rounds, Cond.static yX2_rounds, Cond.code yX2_rounds cX2_rounds 3 (some .int), Cond.methodLink RX7 54 yX7_step]
def wsX8_countMusic_r3 : List Cond := [Cond.instanceMethod yX7_step, Cond.selects RX7 yX7_step yX7_step, Cond.code yX7_step cX7_step 4 none, Cond.methodLink RX7 77 yX2_swapped, Cond.static yX2_swapped, Cond.code yX2_swapped cX2_swapped 3 (some .int), Cond.methodLink RX8 256 yX4_isMusic, Cond.instanceMethod yX4_isMusic, Cond.selects RX4 yX4_isMusic yX4_isMusic, Cond.code yX4_isMusic cX4_isMusic 4 (some .boolean), Cond.fieldLink RX4 9 "BellTouches$Setup" "n" "I", Cond.constant RX4 71 (65535), Cond.methodLink RX4 65 yX2_rounds, Cond.methodLink RX4 72 yX4_holdsPattern, Cond.instanceMethod yX4_holdsPattern, Cond.selects RX4 yX4_holdsPattern yX4_holdsPattern, Cond.code yX4_holdsPattern cX4_holdsPattern 4 (some .boolean), Cond.fieldLink RX4 34 "BellTouches$Setup" "patternBells" "[I", Cond.methodLink RX4 80 yX2_bellIn, Cond.static yX2_bellIn, Cond.code yX2_bellIn cX2_bellIn 2 (some .int), Cond.methodLink RX4 76 yX2_isRightAhead, Cond.static yX2_isRightAhead, Cond.code yX2_isRightAhead cX2_isRightAhead 3 (some .boolean)]
def wsX8_countMusic_r4 : List Cond := [Cond.methodLink RX2 15 yX2_placeOf, Cond.static yX2_placeOf, Cond.code yX2_placeOf cX2_placeOf 3 (some .int), Cond.methodLink RX2 9 yX2_bellIn]
def wsX8_countMusic : List Cond := .code yX8_countMusic cX8_countMusic 5 (some .int) :: ((wsX8_countMusic_r1 ++ (wsX8_countMusic_r2 ++ (wsX8_countMusic_r3 ++ wsX8_countMusic_r4))) ++ wsX70 ++ wsX80 ++ wsX40)
def wsX8_music_r1 : List Cond := [Cond.methodLink RX8 169 yX8_countMusic, Cond.instanceMethod yX8_countMusic, Cond.selects RX8 yX8_countMusic yX8_countMusic, Cond.initialized RX8, Cond.code yX8_countMusic cX8_countMusic 5 (some .int), Cond.fieldLink RX8 156 "BellTouches$Touch" "rows" "[I", Cond.fieldLink RX8 27 "BellTouches" "touch" "LBellTouches$Touch;", Cond.fieldLink RX8 134 "BellTouches$Touch" "last" "I", Cond.fieldLink RX8 14 "BellTouches" "setup" "LBellTouches$Setup;", Cond.methodLink RX8 130 yX8_rung, Cond.instanceMethod yX8_rung, Cond.selects RX8 yX8_rung yX8_rung, Cond.code yX8_rung cX8_rung 1 (some (.object "BellTouches$Touch")), Cond.fieldLink RX8 58 "BellTouches" "stale" "Z", Cond.methodLink RX8 219 yX7_ring, Cond.instanceMethod yX7_ring, Cond.selects RX7 yX7_ring yX7_ring, Cond.initialized RX7, Cond.code yX7_ring cX7_ring 4 none, Cond.fieldLink RX7 46 "BellTouches$Setup" "leadCount" "I", Cond.fieldLink RX7 19 "BellTouches$Touch" "changeCount" "I", Cond.fieldLink RX7 51 "BellTouches$Setup" "leadCalls" "[I", Cond.methodLink RX7 42 yX7_begin, Cond.instanceMethod yX7_begin]
def wsX8_music_r2 : List Cond := [Cond.selects RX7 yX7_begin yX7_begin, Cond.code yX7_begin cX7_begin 4 none, Cond.fieldLink RX7 58 "BellTouches$Setup" "changeCount" "I", Cond.fieldLink RX7 22 "BellTouches$Touch" "pairs" "[I", Cond.fieldLink RX7 59 "BellTouches$Setup" "n" "I", Cond.fieldLink RX7 62 "BellTouches$Setup" "changes" "[I", Cond.fieldLink RX7 25 "BellTouches$Touch" "lastPairs" "[I", Cond.fieldLink RX7 9 "BellTouches$Touch" "rows" "[I", Cond.fieldLink RX7 15 "BellTouches$Touch" "last" "I", Cond.fieldLink RX7 38 "BellTouches$Touch" "compared" "Z", Cond.methodLink RX7 65 yX2_pairs, Cond.static yX2_pairs, Cond.initialized RX2, Cond.code yX2_pairs cX2_pairs 4 (some .int), Cond.methodLink RX2 21 yX2_isKept, Cond.static yX2_isKept, Cond.code yX2_isKept cX2_isKept 2 (some .boolean), Cond.methodLink RX7 70 yX4_calledChange, Cond.instanceMethod yX4_calledChange, Cond.selects RX4 yX4_calledChange yX4_calledChange, Cond.initialized RX4, Cond.code yX4_calledChange cX4_calledChange 2 (some .int), Cond.fieldLink RX4 22 "BellTouches$Setup" "bob" "I", Cond.fieldLink RX4 25 "BellTouches$Setup" "single" "I"]
def wsX8_music_r3 : List Cond := [Cond.methodLink RX7 74 yX2_rounds, Cond.static yX2_rounds, Cond.code yX2_rounds cX2_rounds 3 (some .int), Cond.methodLink RX7 54 yX7_step, Cond.instanceMethod yX7_step, Cond.selects RX7 yX7_step yX7_step, Cond.code yX7_step cX7_step 4 none, Cond.methodLink RX7 77 yX2_swapped, Cond.static yX2_swapped, Cond.code yX2_swapped cX2_swapped 3 (some .int), Cond.methodLink RX8 256 yX4_isMusic, Cond.instanceMethod yX4_isMusic, Cond.selects RX4 yX4_isMusic yX4_isMusic, Cond.code yX4_isMusic cX4_isMusic 4 (some .boolean), Cond.fieldLink RX4 9 "BellTouches$Setup" "n" "I", Cond.constant RX4 71 (65535), Cond.methodLink RX4 65 yX2_rounds, Cond.methodLink RX4 72 yX4_holdsPattern, Cond.instanceMethod yX4_holdsPattern, Cond.selects RX4 yX4_holdsPattern yX4_holdsPattern, Cond.code yX4_holdsPattern cX4_holdsPattern 4 (some .boolean), Cond.fieldLink RX4 34 "BellTouches$Setup" "patternBells" "[I", Cond.methodLink RX4 80 yX2_bellIn, Cond.static yX2_bellIn]
def wsX8_music_r4 : List Cond := [Cond.code yX2_bellIn cX2_bellIn 2 (some .int), Cond.methodLink RX4 76 yX2_isRightAhead, Cond.static yX2_isRightAhead, Cond.code yX2_isRightAhead cX2_isRightAhead 3 (some .boolean), Cond.methodLink RX2 15 yX2_placeOf, Cond.static yX2_placeOf, Cond.code yX2_placeOf cX2_placeOf 3 (some .int), Cond.methodLink RX2 9 yX2_bellIn]
def wsX8_music : List Cond := .code yX8_music cX8_music 2 (some .int) :: ((wsX8_music_r1 ++ (wsX8_music_r2 ++ (wsX8_music_r3 ++ wsX8_music_r4))) ++ wsX70 ++ wsX80 ++ wsX40)
def wsX8_least_r1 : List Cond := [Cond.fieldLink RX8 37 "BellTouches" "fewest" "LBellTouches$Fewest;", Cond.fieldLink RX8 14 "BellTouches" "setup" "LBellTouches$Setup;", Cond.fieldLink RX8 176 "BellTouches$Fewest" "number" "I", Cond.fieldLink RX8 179 "BellTouches$Fewest" "notPlain" "I", Cond.methodLink RX8 172 yX0_find, Cond.instanceMethod yX0_find, Cond.selects RX0 yX0_find yX0_find, Cond.initialized RX0, Cond.code yX0_find cX0_find 3 none, Cond.fieldLink RX0 9 "BellTouches$Fewest" "number" "I", Cond.fieldLink RX0 15 "BellTouches$Fewest" "notPlain" "I", Cond.fieldLink RX0 36 "BellTouches$Fewest" "leadCount" "I", Cond.fieldLink RX0 39 "BellTouches$Fewest" "bound" "I", Cond.fieldLink RX0 32 "BellTouches$Fewest" "thereIs" "[Z", Cond.fieldLink RX0 42 "BellTouches$Setup" "bob" "I", Cond.fieldLink RX0 47 "BellTouches$Setup" "single" "I", Cond.fieldLink RX0 21 "BellTouches$Fewest" "touch" "LBellTouches$Touch;", Cond.fieldLink RX0 54 "BellTouches$Touch" "changeCount" "I", Cond.fieldLink RX0 28 "BellTouches$Fewest" "table" "LBellTouches$RowTable;", Cond.fieldLink RX0 57 "BellTouches$Touch" "rows" "[I", Cond.methodLink RX0 50 yX7_begin, Cond.instanceMethod yX7_begin, Cond.selects RX7 yX7_begin yX7_begin, Cond.initialized RX7]
def wsX8_least_r2 : List Cond := [Cond.code yX7_begin cX7_begin 4 none, Cond.fieldLink RX7 58 "BellTouches$Setup" "changeCount" "I", Cond.fieldLink RX7 19 "BellTouches$Touch" "changeCount" "I", Cond.fieldLink RX7 22 "BellTouches$Touch" "pairs" "[I", Cond.fieldLink RX7 59 "BellTouches$Setup" "n" "I", Cond.fieldLink RX7 62 "BellTouches$Setup" "changes" "[I", Cond.fieldLink RX7 25 "BellTouches$Touch" "lastPairs" "[I", Cond.fieldLink RX7 9 "BellTouches$Touch" "rows" "[I", Cond.fieldLink RX7 15 "BellTouches$Touch" "last" "I", Cond.fieldLink RX7 38 "BellTouches$Touch" "compared" "Z", Cond.methodLink RX7 65 yX2_pairs, Cond.static yX2_pairs, Cond.initialized RX2, Cond.code yX2_pairs cX2_pairs 4 (some .int), Cond.methodLink RX2 21 yX2_isKept, Cond.static yX2_isKept, Cond.code yX2_isKept cX2_isKept 2 (some .boolean), Cond.methodLink RX7 70 yX4_calledChange, Cond.instanceMethod yX4_calledChange, Cond.selects RX4 yX4_calledChange yX4_calledChange, Cond.initialized RX4, Cond.code yX4_calledChange cX4_calledChange 2 (some .int), Cond.fieldLink RX4 22 "BellTouches$Setup" "bob" "I", Cond.fieldLink RX4 25 "BellTouches$Setup" "single" "I"]
def wsX8_least_r3 : List Cond := [Cond.methodLink RX7 74 yX2_rounds, Cond.static yX2_rounds, Cond.code yX2_rounds cX2_rounds 3 (some .int), Cond.methodLink RX0 61 yX3_enter, Cond.instanceMethod yX3_enter, Cond.selects RX3 yX3_enter yX3_enter, Cond.initialized RX3, Cond.code yX3_enter cX3_enter 7 (some .int), Cond.fieldLink RX3 9 "BellTouches$RowTable" "numbers" "[I", Cond.methodLink RX3 13 yX3_start, Cond.static yX3_start, Cond.code yX3_start cX3_start 1 (some .int), Cond.constant RX3 17 (-1640531535), Cond.methodLink RX0 65 yX0_search, Cond.static yX0_search, Cond.code yX0_search cX0_search 8 none, Cond.fieldLink RX0 73 "BellTouches$Touch" "last" "I", Cond.methodLink RX0 76 yX0_ringTillAgain, Cond.instanceMethod yX0_ringTillAgain, Cond.selects RX0 yX0_ringTillAgain yX0_ringTillAgain, Cond.code yX0_ringTillAgain cX0_ringTillAgain 3 (some .int), Cond.methodLink RX0 88 yX7_step, Cond.instanceMethod yX7_step, Cond.selects RX7 yX7_step yX7_step]
def wsX8_least_r4 : List Cond := [Cond.code yX7_step cX7_step 4 none, Cond.methodLink RX7 77 yX2_swapped, Cond.static yX2_swapped, Cond.code yX2_swapped cX2_swapped 3 (some .int), Cond.methodLink RX0 80 yX0_isEnd, Cond.instanceMethod yX0_isEnd, Cond.selects RX0 yX0_isEnd yX0_isEnd, Cond.code yX0_isEnd cX0_isEnd 2 (some .boolean), Cond.methodLink RX0 84 yX0_backTo, Cond.instanceMethod yX0_backTo, Cond.selects RX0 yX0_backTo yX0_backTo, Cond.code yX0_backTo cX0_backTo 3 none, Cond.methodLink RX0 69 yX3_leave, Cond.instanceMethod yX3_leave, Cond.selects RX3 yX3_leave yX3_leave, Cond.code yX3_leave cX3_leave 6 none]
def wsX8_least : List Cond := .code yX8_least cX8_least 3 (some .int) :: ((wsX8_least_r1 ++ (wsX8_least_r2 ++ (wsX8_least_r3 ++ wsX8_least_r4))) ++ wsX80 ++ wsX00 ++ wsX40 ++ wsX70 ++ wsX30)
def wsX8_still_r1 : List Cond := [Cond.fieldLink RX8 156 "BellTouches$Touch" "rows" "[I", Cond.fieldLink RX8 27 "BellTouches" "touch" "LBellTouches$Touch;", Cond.fieldLink RX8 134 "BellTouches$Touch" "last" "I", Cond.methodLink RX8 153 yX8_isBell, Cond.instanceMethod yX8_isBell, Cond.selects RX8 yX8_isBell yX8_isBell, Cond.initialized RX8, Cond.code yX8_isBell cX8_isBell 2 (some .boolean), Cond.fieldLink RX8 14 "BellTouches" "setup" "LBellTouches$Setup;", Cond.fieldLink RX8 62 "BellTouches$Setup" "n" "I", Cond.methodLink RX8 130 yX8_rung, Cond.instanceMethod yX8_rung, Cond.selects RX8 yX8_rung yX8_rung, Cond.code yX8_rung cX8_rung 1 (some (.object "BellTouches$Touch")), Cond.fieldLink RX8 58 "BellTouches" "stale" "Z", Cond.methodLink RX8 219 yX7_ring, Cond.instanceMethod yX7_ring, Cond.selects RX7 yX7_ring yX7_ring, Cond.initialized RX7, Cond.code yX7_ring cX7_ring 4 none, Cond.fieldLink RX7 46 "BellTouches$Setup" "leadCount" "I", Cond.fieldLink RX7 19 "BellTouches$Touch" "changeCount" "I", Cond.fieldLink RX7 51 "BellTouches$Setup" "leadCalls" "[I", Cond.methodLink RX7 42 yX7_begin]
def wsX8_still_r2 : List Cond := [Cond.instanceMethod yX7_begin, Cond.selects RX7 yX7_begin yX7_begin, Cond.code yX7_begin cX7_begin 4 none, Cond.fieldLink RX7 58 "BellTouches$Setup" "changeCount" "I", Cond.fieldLink RX7 22 "BellTouches$Touch" "pairs" "[I", Cond.fieldLink RX7 59 "BellTouches$Setup" "n" "I", Cond.fieldLink RX7 62 "BellTouches$Setup" "changes" "[I", Cond.fieldLink RX7 25 "BellTouches$Touch" "lastPairs" "[I", Cond.fieldLink RX7 9 "BellTouches$Touch" "rows" "[I", Cond.fieldLink RX7 15 "BellTouches$Touch" "last" "I", Cond.fieldLink RX7 38 "BellTouches$Touch" "compared" "Z", Cond.methodLink RX7 65 yX2_pairs, Cond.static yX2_pairs, Cond.initialized RX2, Cond.code yX2_pairs cX2_pairs 4 (some .int), Cond.methodLink RX2 21 yX2_isKept, Cond.static yX2_isKept, Cond.code yX2_isKept cX2_isKept 2 (some .boolean), Cond.methodLink RX7 70 yX4_calledChange, Cond.instanceMethod yX4_calledChange, Cond.selects RX4 yX4_calledChange yX4_calledChange, Cond.initialized RX4, Cond.code yX4_calledChange cX4_calledChange 2 (some .int), Cond.fieldLink RX4 22 "BellTouches$Setup" "bob" "I"]
def wsX8_still_r3 : List Cond := [Cond.fieldLink RX4 25 "BellTouches$Setup" "single" "I", Cond.methodLink RX7 74 yX2_rounds, Cond.static yX2_rounds, Cond.code yX2_rounds cX2_rounds 3 (some .int), Cond.methodLink RX7 54 yX7_step, Cond.instanceMethod yX7_step, Cond.selects RX7 yX7_step yX7_step, Cond.code yX7_step cX7_step 4 none, Cond.methodLink RX7 77 yX2_swapped, Cond.static yX2_swapped, Cond.code yX2_swapped cX2_swapped 3 (some .int), Cond.methodLink RX8 163 yX2_placeOf, Cond.static yX2_placeOf, Cond.code yX2_placeOf cX2_placeOf 3 (some .int), Cond.methodLink RX2 9 yX2_bellIn, Cond.static yX2_bellIn, Cond.code yX2_bellIn cX2_bellIn 2 (some .int)]
def wsX8_still : List Cond := .code yX8_still cX8_still 5 (some .int) :: ((wsX8_still_r1 ++ (wsX8_still_r2 ++ wsX8_still_r3)) ++ wsX70 ++ wsX80 ++ wsX40)
def wsX8_ahead_r1 : List Cond := [Cond.fieldLink RX8 156 "BellTouches$Touch" "rows" "[I", Cond.fieldLink RX8 27 "BellTouches" "touch" "LBellTouches$Touch;", Cond.fieldLink RX8 134 "BellTouches$Touch" "last" "I", Cond.methodLink RX8 153 yX8_isBell, Cond.instanceMethod yX8_isBell, Cond.selects RX8 yX8_isBell yX8_isBell, Cond.initialized RX8, Cond.code yX8_isBell cX8_isBell 2 (some .boolean), Cond.fieldLink RX8 14 "BellTouches" "setup" "LBellTouches$Setup;", Cond.fieldLink RX8 62 "BellTouches$Setup" "n" "I", Cond.methodLink RX8 130 yX8_rung, Cond.instanceMethod yX8_rung, Cond.selects RX8 yX8_rung yX8_rung, Cond.code yX8_rung cX8_rung 1 (some (.object "BellTouches$Touch")), Cond.fieldLink RX8 58 "BellTouches" "stale" "Z", Cond.methodLink RX8 219 yX7_ring, Cond.instanceMethod yX7_ring, Cond.selects RX7 yX7_ring yX7_ring, Cond.initialized RX7, Cond.code yX7_ring cX7_ring 4 none, Cond.fieldLink RX7 46 "BellTouches$Setup" "leadCount" "I", Cond.fieldLink RX7 19 "BellTouches$Touch" "changeCount" "I", Cond.fieldLink RX7 51 "BellTouches$Setup" "leadCalls" "[I", Cond.methodLink RX7 42 yX7_begin]
def wsX8_ahead_r2 : List Cond := [Cond.instanceMethod yX7_begin, Cond.selects RX7 yX7_begin yX7_begin, Cond.code yX7_begin cX7_begin 4 none, Cond.fieldLink RX7 58 "BellTouches$Setup" "changeCount" "I", Cond.fieldLink RX7 22 "BellTouches$Touch" "pairs" "[I", Cond.fieldLink RX7 59 "BellTouches$Setup" "n" "I", Cond.fieldLink RX7 62 "BellTouches$Setup" "changes" "[I", Cond.fieldLink RX7 25 "BellTouches$Touch" "lastPairs" "[I", Cond.fieldLink RX7 9 "BellTouches$Touch" "rows" "[I", Cond.fieldLink RX7 15 "BellTouches$Touch" "last" "I", Cond.fieldLink RX7 38 "BellTouches$Touch" "compared" "Z", Cond.methodLink RX7 65 yX2_pairs, Cond.static yX2_pairs, Cond.initialized RX2, Cond.code yX2_pairs cX2_pairs 4 (some .int), Cond.methodLink RX2 21 yX2_isKept, Cond.static yX2_isKept, Cond.code yX2_isKept cX2_isKept 2 (some .boolean), Cond.methodLink RX7 70 yX4_calledChange, Cond.instanceMethod yX4_calledChange, Cond.selects RX4 yX4_calledChange yX4_calledChange, Cond.initialized RX4, Cond.code yX4_calledChange cX4_calledChange 2 (some .int), Cond.fieldLink RX4 22 "BellTouches$Setup" "bob" "I"]
def wsX8_ahead_r3 : List Cond := [Cond.fieldLink RX4 25 "BellTouches$Setup" "single" "I", Cond.methodLink RX7 74 yX2_rounds, Cond.static yX2_rounds, Cond.code yX2_rounds cX2_rounds 3 (some .int), Cond.methodLink RX7 54 yX7_step, Cond.instanceMethod yX7_step, Cond.selects RX7 yX7_step yX7_step, Cond.code yX7_step cX7_step 4 none, Cond.methodLink RX7 77 yX2_swapped, Cond.static yX2_swapped, Cond.code yX2_swapped cX2_swapped 3 (some .int), Cond.methodLink RX8 182 yX2_isRightAhead, Cond.static yX2_isRightAhead, Cond.code yX2_isRightAhead cX2_isRightAhead 3 (some .boolean), Cond.methodLink RX2 15 yX2_placeOf, Cond.static yX2_placeOf, Cond.code yX2_placeOf cX2_placeOf 3 (some .int), Cond.methodLink RX2 9 yX2_bellIn, Cond.static yX2_bellIn, Cond.code yX2_bellIn cX2_bellIn 2 (some .int)]
def wsX8_ahead : List Cond := .code yX8_ahead cX8_ahead 6 (some .int) :: ((wsX8_ahead_r1 ++ (wsX8_ahead_r2 ++ wsX8_ahead_r3)) ++ wsX70 ++ wsX80 ++ wsX40)
def wsX8_see : List Cond := .code yX8_see cX8_see 4 (some .int) :: ([.fieldLink RX8 14 "BellTouches" "setup" "LBellTouches$Setup;", .fieldLink RX8 186 "BellTouches$Setup" "seen" "LBellTouches$HandRows;", .fieldLink RX8 190 "BellTouches$HandRows" "size" "I", .methodLink RX8 153 yX8_isBell, .instanceMethod yX8_isBell, .selects RX8 yX8_isBell yX8_isBell, .initialized RX8, .code yX8_isBell cX8_isBell 2 (some .boolean), .fieldLink RX8 62 "BellTouches$Setup" "n" "I", .methodLink RX8 195 yX1_append, .instanceMethod yX1_append, .selects RX1 yX1_append yX1_append, .initialized RX1, .code yX1_append cX1_append 4 (some .boolean), .fieldLink RX1 7 "BellTouches$HandRows" "size" "I", .fieldLink RX1 13 "BellTouches$HandRows" "first" "[I", .fieldLink RX1 17 "BellTouches$HandRows" "second" "[I", .fieldLink RX1 20 "BellTouches$HandRows" "third" "[I"] ++ wsX80 ++ wsX40 ++ wsX10)
def wsX8_fitsLast_r1 : List Cond := [Cond.fieldLink RX8 21 "BellTouches" "trialSetup" "LBellTouches$Setup;", Cond.fieldLink RX8 80 "BellTouches$Setup" "changeCount" "I", Cond.fieldLink RX8 83 "BellTouches$Setup" "changes" "[I", Cond.fieldLink RX8 31 "BellTouches" "trial" "LBellTouches$Touch;", Cond.fieldLink RX8 14 "BellTouches" "setup" "LBellTouches$Setup;", Cond.fieldLink RX8 186 "BellTouches$Setup" "seen" "LBellTouches$HandRows;", Cond.fieldLink RX8 190 "BellTouches$HandRows" "size" "I", Cond.fieldLink RX8 225 "BellTouches$HandRows" "first" "[I", Cond.fieldLink RX8 134 "BellTouches$Touch" "last" "I", Cond.fieldLink RX8 156 "BellTouches$Touch" "rows" "[I", Cond.fieldLink RX8 228 "BellTouches$HandRows" "second" "[I", Cond.fieldLink RX8 259 "BellTouches$HandRows" "third" "[I", Cond.methodLink RX8 219 yX7_ring, Cond.instanceMethod yX7_ring, Cond.selects RX7 yX7_ring yX7_ring, Cond.initialized RX7, Cond.code yX7_ring cX7_ring 4 none, Cond.fieldLink RX7 46 "BellTouches$Setup" "leadCount" "I", Cond.fieldLink RX7 19 "BellTouches$Touch" "changeCount" "I", Cond.fieldLink RX7 51 "BellTouches$Setup" "leadCalls" "[I", Cond.methodLink RX7 42 yX7_begin, Cond.instanceMethod yX7_begin, Cond.selects RX7 yX7_begin yX7_begin, Cond.code yX7_begin cX7_begin 4 none]
def wsX8_fitsLast_r2 : List Cond := [Cond.fieldLink RX7 58 "BellTouches$Setup" "changeCount" "I", Cond.fieldLink RX7 22 "BellTouches$Touch" "pairs" "[I", Cond.fieldLink RX7 59 "BellTouches$Setup" "n" "I", Cond.fieldLink RX7 62 "BellTouches$Setup" "changes" "[I", Cond.fieldLink RX7 25 "BellTouches$Touch" "lastPairs" "[I", Cond.fieldLink RX7 9 "BellTouches$Touch" "rows" "[I", Cond.fieldLink RX7 15 "BellTouches$Touch" "last" "I", Cond.fieldLink RX7 38 "BellTouches$Touch" "compared" "Z", Cond.methodLink RX7 65 yX2_pairs, Cond.static yX2_pairs, Cond.initialized RX2, Cond.code yX2_pairs cX2_pairs 4 (some .int), Cond.methodLink RX2 21 yX2_isKept, Cond.static yX2_isKept, Cond.code yX2_isKept cX2_isKept 2 (some .boolean), Cond.methodLink RX7 70 yX4_calledChange, Cond.instanceMethod yX4_calledChange, Cond.selects RX4 yX4_calledChange yX4_calledChange, Cond.initialized RX4, Cond.code yX4_calledChange cX4_calledChange 2 (some .int), Cond.fieldLink RX4 22 "BellTouches$Setup" "bob" "I", Cond.fieldLink RX4 25 "BellTouches$Setup" "single" "I", Cond.methodLink RX7 74 yX2_rounds, Cond.static yX2_rounds]
def wsX8_fitsLast_r3 : List Cond := [Cond.code yX2_rounds cX2_rounds 3 (some .int), Cond.methodLink RX7 54 yX7_step, Cond.instanceMethod yX7_step, Cond.selects RX7 yX7_step yX7_step, Cond.code yX7_step cX7_step 4 none, Cond.methodLink RX7 77 yX2_swapped, Cond.static yX2_swapped, Cond.code yX2_swapped cX2_swapped 3 (some .int), Cond.methodLink RX8 159 yX2_bellIn, Cond.static yX2_bellIn, Cond.code yX2_bellIn cX2_bellIn 2 (some .int)]
def wsX8_fitsLast : List Cond := .code yX8_fitsLast cX8_fitsLast 6 (some .boolean) :: ((wsX8_fitsLast_r1 ++ (wsX8_fitsLast_r2 ++ wsX8_fitsLast_r3)) ++ wsX80 ++ wsX40 ++ wsX10 ++ wsX70)
def wsX8_fits_r1 : List Cond := [Cond.fieldLink RX8 21 "BellTouches" "trialSetup" "LBellTouches$Setup;", Cond.fieldLink RX8 14 "BellTouches" "setup" "LBellTouches$Setup;", Cond.fieldLink RX8 80 "BellTouches$Setup" "changeCount" "I", Cond.fieldLink RX8 62 "BellTouches$Setup" "n" "I", Cond.methodLink RX8 197 yX4_copyFrom, Cond.instanceMethod yX4_copyFrom, Cond.selects RX4 yX4_copyFrom yX4_copyFrom, Cond.initialized RX4, Cond.code yX4_copyFrom cX4_copyFrom 2 none, Cond.fieldLink RX4 9 "BellTouches$Setup" "n" "I", Cond.fieldLink RX4 19 "BellTouches$Setup" "changeCount" "I", Cond.fieldLink RX4 22 "BellTouches$Setup" "bob" "I", Cond.fieldLink RX4 25 "BellTouches$Setup" "single" "I", Cond.fieldLink RX4 31 "BellTouches$Setup" "leadCount" "I", Cond.fieldLink RX4 15 "BellTouches$Setup" "changes" "[I", Cond.methodLink RX4 55 arraycopyName, Cond.native arraycopyName, Cond.static arraycopyName, Cond.initialized "java/lang/System", Cond.fieldLink RX4 28 "BellTouches$Setup" "leadCalls" "[I", Cond.fieldLink RX4 34 "BellTouches$Setup" "patternBells" "[I", Cond.fieldLink RX4 42 "BellTouches$Setup" "seen" "LBellTouches$HandRows;", Cond.fieldLink RX4 46 "BellTouches$Setup" "events" "LBellTouches$HandRows;", Cond.fieldLink RX4 49 "BellTouches$Setup" "book" "LBellTouches$HandRows;"]
def wsX8_fits_r2 : List Cond := [Cond.methodLink RX4 61 yX1_copyFrom, Cond.instanceMethod yX1_copyFrom, Cond.selects RX1 yX1_copyFrom yX1_copyFrom, Cond.initialized RX1, Cond.code yX1_copyFrom cX1_copyFrom 3 none, Cond.fieldLink RX1 7 "BellTouches$HandRows" "size" "I", Cond.fieldLink RX1 13 "BellTouches$HandRows" "first" "[I", Cond.fieldLink RX1 17 "BellTouches$HandRows" "second" "[I", Cond.fieldLink RX1 20 "BellTouches$HandRows" "third" "[I", Cond.methodLink RX1 23 yX1_append, Cond.instanceMethod yX1_append, Cond.selects RX1 yX1_append yX1_append, Cond.code yX1_append cX1_append 4 (some .boolean), Cond.methodLink RX8 74 yX2_isGood, Cond.static yX2_isGood, Cond.initialized RX2, Cond.code yX2_isGood cX2_isGood 2 (some .boolean), Cond.methodLink RX2 18 yX2_pairs, Cond.static yX2_pairs, Cond.code yX2_pairs cX2_pairs 4 (some .int), Cond.methodLink RX2 21 yX2_isKept, Cond.static yX2_isKept, Cond.code yX2_isKept cX2_isKept 2 (some .boolean), Cond.methodLink RX8 201 yX8_fitsLast]
def wsX8_fits_r3 : List Cond := [Cond.instanceMethod yX8_fitsLast, Cond.selects RX8 yX8_fitsLast yX8_fitsLast, Cond.initialized RX8, Cond.code yX8_fitsLast cX8_fitsLast 6 (some .boolean), Cond.fieldLink RX8 83 "BellTouches$Setup" "changes" "[I", Cond.fieldLink RX8 31 "BellTouches" "trial" "LBellTouches$Touch;", Cond.fieldLink RX8 186 "BellTouches$Setup" "seen" "LBellTouches$HandRows;", Cond.fieldLink RX8 190 "BellTouches$HandRows" "size" "I", Cond.fieldLink RX8 225 "BellTouches$HandRows" "first" "[I", Cond.fieldLink RX8 134 "BellTouches$Touch" "last" "I", Cond.fieldLink RX8 156 "BellTouches$Touch" "rows" "[I", Cond.fieldLink RX8 228 "BellTouches$HandRows" "second" "[I", Cond.fieldLink RX8 259 "BellTouches$HandRows" "third" "[I", Cond.methodLink RX8 219 yX7_ring, Cond.instanceMethod yX7_ring, Cond.selects RX7 yX7_ring yX7_ring, Cond.initialized RX7, Cond.code yX7_ring cX7_ring 4 none, Cond.fieldLink RX7 46 "BellTouches$Setup" "leadCount" "I", Cond.fieldLink RX7 19 "BellTouches$Touch" "changeCount" "I", Cond.fieldLink RX7 51 "BellTouches$Setup" "leadCalls" "[I", Cond.methodLink RX7 42 yX7_begin, Cond.instanceMethod yX7_begin, Cond.selects RX7 yX7_begin yX7_begin]
def wsX8_fits_r4 : List Cond := [Cond.code yX7_begin cX7_begin 4 none, Cond.fieldLink RX7 58 "BellTouches$Setup" "changeCount" "I", Cond.fieldLink RX7 22 "BellTouches$Touch" "pairs" "[I", Cond.fieldLink RX7 59 "BellTouches$Setup" "n" "I", Cond.fieldLink RX7 62 "BellTouches$Setup" "changes" "[I", Cond.fieldLink RX7 25 "BellTouches$Touch" "lastPairs" "[I", Cond.fieldLink RX7 9 "BellTouches$Touch" "rows" "[I", Cond.fieldLink RX7 15 "BellTouches$Touch" "last" "I", Cond.fieldLink RX7 38 "BellTouches$Touch" "compared" "Z", Cond.methodLink RX7 65 yX2_pairs, Cond.methodLink RX7 70 yX4_calledChange, Cond.instanceMethod yX4_calledChange, Cond.selects RX4 yX4_calledChange yX4_calledChange, Cond.code yX4_calledChange cX4_calledChange 2 (some .int), Cond.methodLink RX7 74 yX2_rounds, Cond.static yX2_rounds, Cond.code yX2_rounds cX2_rounds 3 (some .int), Cond.methodLink RX7 54 yX7_step, Cond.instanceMethod yX7_step, Cond.selects RX7 yX7_step yX7_step, Cond.code yX7_step cX7_step 4 none, Cond.methodLink RX7 77 yX2_swapped, Cond.static yX2_swapped, Cond.code yX2_swapped cX2_swapped 3 (some .int)]
def wsX8_fits_r5 : List Cond := [Cond.methodLink RX8 159 yX2_bellIn, Cond.static yX2_bellIn, Cond.code yX2_bellIn cX2_bellIn 2 (some .int)]
def wsX8_fits : List Cond := .code yX8_fits cX8_fits 6 (some .int) :: ((wsX8_fits_r1 ++ (wsX8_fits_r2 ++ (wsX8_fits_r3 ++ (wsX8_fits_r4 ++ wsX8_fits_r5)))) ++ wsX80 ++ wsX40 ++ wsX10 ++ wsX70)
def wsX8_isPart : List Cond := .code yX8_isPart cX8_isPart 1 (some .boolean) :: ([])
def wsX8_lowestTerms : List Cond := .code yX8_lowestTerms cX8_lowestTerms 5 (some .long) :: ([])
def wsX8_odds_r1 : List Cond := [Cond.constantLong RX8 207 (-9223372036854775808), Cond.fieldLink RX8 156 "BellTouches$Touch" "rows" "[I", Cond.fieldLink RX8 27 "BellTouches" "touch" "LBellTouches$Touch;", Cond.fieldLink RX8 134 "BellTouches$Touch" "last" "I", Cond.methodLink RX8 153 yX8_isBell, Cond.instanceMethod yX8_isBell, Cond.selects RX8 yX8_isBell yX8_isBell, Cond.initialized RX8, Cond.code yX8_isBell cX8_isBell 2 (some .boolean), Cond.fieldLink RX8 14 "BellTouches" "setup" "LBellTouches$Setup;", Cond.fieldLink RX8 62 "BellTouches$Setup" "n" "I", Cond.methodLink RX8 204 yX8_isPart, Cond.static yX8_isPart, Cond.code yX8_isPart cX8_isPart 1 (some .boolean), Cond.methodLink RX8 130 yX8_rung, Cond.instanceMethod yX8_rung, Cond.selects RX8 yX8_rung yX8_rung, Cond.code yX8_rung cX8_rung 1 (some (.object "BellTouches$Touch")), Cond.fieldLink RX8 58 "BellTouches" "stale" "Z", Cond.methodLink RX8 219 yX7_ring, Cond.instanceMethod yX7_ring, Cond.selects RX7 yX7_ring yX7_ring, Cond.initialized RX7, Cond.code yX7_ring cX7_ring 4 none]
def wsX8_odds_r2 : List Cond := [Cond.fieldLink RX7 46 "BellTouches$Setup" "leadCount" "I", Cond.fieldLink RX7 19 "BellTouches$Touch" "changeCount" "I", Cond.fieldLink RX7 51 "BellTouches$Setup" "leadCalls" "[I", Cond.methodLink RX7 42 yX7_begin, Cond.instanceMethod yX7_begin, Cond.selects RX7 yX7_begin yX7_begin, Cond.code yX7_begin cX7_begin 4 none, Cond.fieldLink RX7 58 "BellTouches$Setup" "changeCount" "I", Cond.fieldLink RX7 22 "BellTouches$Touch" "pairs" "[I", Cond.fieldLink RX7 59 "BellTouches$Setup" "n" "I", Cond.fieldLink RX7 62 "BellTouches$Setup" "changes" "[I", Cond.fieldLink RX7 25 "BellTouches$Touch" "lastPairs" "[I", Cond.fieldLink RX7 9 "BellTouches$Touch" "rows" "[I", Cond.fieldLink RX7 15 "BellTouches$Touch" "last" "I", Cond.fieldLink RX7 38 "BellTouches$Touch" "compared" "Z", Cond.methodLink RX7 65 yX2_pairs, Cond.static yX2_pairs, Cond.initialized RX2, Cond.code yX2_pairs cX2_pairs 4 (some .int), Cond.methodLink RX2 21 yX2_isKept, Cond.static yX2_isKept, Cond.code yX2_isKept cX2_isKept 2 (some .boolean), Cond.methodLink RX7 70 yX4_calledChange, Cond.instanceMethod yX4_calledChange]
def wsX8_odds_r3 : List Cond := [Cond.selects RX4 yX4_calledChange yX4_calledChange, Cond.initialized RX4, Cond.code yX4_calledChange cX4_calledChange 2 (some .int), Cond.fieldLink RX4 22 "BellTouches$Setup" "bob" "I", Cond.fieldLink RX4 25 "BellTouches$Setup" "single" "I", Cond.methodLink RX7 74 yX2_rounds, Cond.static yX2_rounds, Cond.code yX2_rounds cX2_rounds 3 (some .int), Cond.methodLink RX7 54 yX7_step, Cond.instanceMethod yX7_step, Cond.selects RX7 yX7_step yX7_step, Cond.code yX7_step cX7_step 4 none, Cond.methodLink RX7 77 yX2_swapped, Cond.static yX2_swapped, Cond.code yX2_swapped cX2_swapped 3 (some .int), Cond.methodLink RX8 159 yX2_bellIn, Cond.static yX2_bellIn, Cond.code yX2_bellIn cX2_bellIn 2 (some .int), Cond.methodLink RX8 209 yX8_lowestTerms, Cond.static yX8_lowestTerms, Cond.code yX8_lowestTerms cX8_lowestTerms 5 (some .long)]
def wsX8_odds : List Cond := .code yX8_odds cX8_odds 7 (some .long) :: ((wsX8_odds_r1 ++ (wsX8_odds_r2 ++ wsX8_odds_r3)) ++ wsX70 ++ wsX80 ++ wsX40)
def wsX8_mean_r1 : List Cond := [Cond.constantLong RX8 207 (-9223372036854775808), Cond.fieldLink RX8 134 "BellTouches$Touch" "last" "I", Cond.methodLink RX8 204 yX8_isPart, Cond.static yX8_isPart, Cond.initialized RX8, Cond.code yX8_isPart cX8_isPart 1 (some .boolean), Cond.methodLink RX8 169 yX8_countMusic, Cond.instanceMethod yX8_countMusic, Cond.selects RX8 yX8_countMusic yX8_countMusic, Cond.code yX8_countMusic cX8_countMusic 5 (some .int), Cond.fieldLink RX8 156 "BellTouches$Touch" "rows" "[I", Cond.fieldLink RX8 27 "BellTouches" "touch" "LBellTouches$Touch;", Cond.fieldLink RX8 14 "BellTouches" "setup" "LBellTouches$Setup;", Cond.methodLink RX8 130 yX8_rung, Cond.instanceMethod yX8_rung, Cond.selects RX8 yX8_rung yX8_rung, Cond.code yX8_rung cX8_rung 1 (some (.object "BellTouches$Touch")), Cond.fieldLink RX8 58 "BellTouches" "stale" "Z", Cond.methodLink RX8 219 yX7_ring, Cond.instanceMethod yX7_ring, Cond.selects RX7 yX7_ring yX7_ring, Cond.initialized RX7, Cond.code yX7_ring cX7_ring 4 none, Cond.fieldLink RX7 46 "BellTouches$Setup" "leadCount" "I"]
def wsX8_mean_r2 : List Cond := [Cond.fieldLink RX7 19 "BellTouches$Touch" "changeCount" "I", Cond.fieldLink RX7 51 "BellTouches$Setup" "leadCalls" "[I", Cond.methodLink RX7 42 yX7_begin, Cond.instanceMethod yX7_begin, Cond.selects RX7 yX7_begin yX7_begin, Cond.code yX7_begin cX7_begin 4 none, Cond.fieldLink RX7 58 "BellTouches$Setup" "changeCount" "I", Cond.fieldLink RX7 22 "BellTouches$Touch" "pairs" "[I", Cond.fieldLink RX7 59 "BellTouches$Setup" "n" "I", Cond.fieldLink RX7 62 "BellTouches$Setup" "changes" "[I", Cond.fieldLink RX7 25 "BellTouches$Touch" "lastPairs" "[I", Cond.fieldLink RX7 9 "BellTouches$Touch" "rows" "[I", Cond.fieldLink RX7 15 "BellTouches$Touch" "last" "I", Cond.fieldLink RX7 38 "BellTouches$Touch" "compared" "Z", Cond.methodLink RX7 65 yX2_pairs, Cond.static yX2_pairs, Cond.initialized RX2, Cond.code yX2_pairs cX2_pairs 4 (some .int), Cond.methodLink RX2 21 yX2_isKept, Cond.static yX2_isKept, Cond.code yX2_isKept cX2_isKept 2 (some .boolean), Cond.methodLink RX7 70 yX4_calledChange, Cond.instanceMethod yX4_calledChange, Cond.selects RX4 yX4_calledChange yX4_calledChange]
def wsX8_mean_r3 : List Cond := [Cond.initialized RX4, Cond.code yX4_calledChange cX4_calledChange 2 (some .int), Cond.fieldLink RX4 22 "BellTouches$Setup" "bob" "I", Cond.fieldLink RX4 25 "BellTouches$Setup" "single" "I", Cond.methodLink RX7 74 yX2_rounds, Cond.static yX2_rounds, Cond.code yX2_rounds cX2_rounds 3 (some .int), Cond.methodLink RX7 54 yX7_step, Cond.instanceMethod yX7_step, Cond.selects RX7 yX7_step yX7_step, Cond.code yX7_step cX7_step 4 none, Cond.methodLink RX7 77 yX2_swapped, Cond.static yX2_swapped, Cond.code yX2_swapped cX2_swapped 3 (some .int), Cond.methodLink RX8 256 yX4_isMusic, Cond.instanceMethod yX4_isMusic, Cond.selects RX4 yX4_isMusic yX4_isMusic, Cond.code yX4_isMusic cX4_isMusic 4 (some .boolean), Cond.fieldLink RX4 9 "BellTouches$Setup" "n" "I", Cond.constant RX4 71 (65535), Cond.methodLink RX4 65 yX2_rounds, Cond.methodLink RX4 72 yX4_holdsPattern, Cond.instanceMethod yX4_holdsPattern, Cond.selects RX4 yX4_holdsPattern yX4_holdsPattern]
def wsX8_mean_r4 : List Cond := [Cond.code yX4_holdsPattern cX4_holdsPattern 4 (some .boolean), Cond.fieldLink RX4 34 "BellTouches$Setup" "patternBells" "[I", Cond.methodLink RX4 80 yX2_bellIn, Cond.static yX2_bellIn, Cond.code yX2_bellIn cX2_bellIn 2 (some .int), Cond.methodLink RX4 76 yX2_isRightAhead, Cond.static yX2_isRightAhead, Cond.code yX2_isRightAhead cX2_isRightAhead 3 (some .boolean), Cond.methodLink RX2 15 yX2_placeOf, Cond.static yX2_placeOf, Cond.code yX2_placeOf cX2_placeOf 3 (some .int), Cond.methodLink RX2 9 yX2_bellIn, Cond.methodLink RX8 209 yX8_lowestTerms, Cond.static yX8_lowestTerms, Cond.code yX8_lowestTerms cX8_lowestTerms 5 (some .long)]
def wsX8_mean : List Cond := .code yX8_mean cX8_mean 4 (some .long) :: ((wsX8_mean_r1 ++ (wsX8_mean_r2 ++ (wsX8_mean_r3 ++ wsX8_mean_r4))) ++ wsX70 ++ wsX80 ++ wsX40)
def wsX8_event : List Cond := .code yX8_event cX8_event 3 (some .int) :: ([.fieldLink RX8 14 "BellTouches" "setup" "LBellTouches$Setup;", .fieldLink RX8 213 "BellTouches$Setup" "events" "LBellTouches$HandRows;", .fieldLink RX8 190 "BellTouches$HandRows" "size" "I", .methodLink RX8 95 yX8_isLead, .static yX8_isLead, .initialized RX8, .code yX8_isLead cX8_isLead 1 (some .boolean), .methodLink RX8 195 yX1_append, .instanceMethod yX1_append, .selects RX1 yX1_append yX1_append, .initialized RX1, .code yX1_append cX1_append 4 (some .boolean), .fieldLink RX1 7 "BellTouches$HandRows" "size" "I", .fieldLink RX1 13 "BellTouches$HandRows" "first" "[I", .fieldLink RX1 17 "BellTouches$HandRows" "second" "[I", .fieldLink RX1 20 "BellTouches$HandRows" "third" "[I"] ++ wsX80 ++ wsX40 ++ wsX10)
def wsX8_after_r1 : List Cond := [Cond.fieldLink RX8 21 "BellTouches" "trialSetup" "LBellTouches$Setup;", Cond.fieldLink RX8 14 "BellTouches" "setup" "LBellTouches$Setup;", Cond.fieldLink RX8 31 "BellTouches" "trial" "LBellTouches$Touch;", Cond.methodLink RX8 197 yX4_copyFrom, Cond.instanceMethod yX4_copyFrom, Cond.selects RX4 yX4_copyFrom yX4_copyFrom, Cond.initialized RX4, Cond.code yX4_copyFrom cX4_copyFrom 2 none, Cond.fieldLink RX4 9 "BellTouches$Setup" "n" "I", Cond.fieldLink RX4 19 "BellTouches$Setup" "changeCount" "I", Cond.fieldLink RX4 22 "BellTouches$Setup" "bob" "I", Cond.fieldLink RX4 25 "BellTouches$Setup" "single" "I", Cond.fieldLink RX4 31 "BellTouches$Setup" "leadCount" "I", Cond.fieldLink RX4 15 "BellTouches$Setup" "changes" "[I", Cond.methodLink RX4 55 arraycopyName, Cond.native arraycopyName, Cond.static arraycopyName, Cond.initialized "java/lang/System", Cond.fieldLink RX4 28 "BellTouches$Setup" "leadCalls" "[I", Cond.fieldLink RX4 34 "BellTouches$Setup" "patternBells" "[I", Cond.fieldLink RX4 42 "BellTouches$Setup" "seen" "LBellTouches$HandRows;", Cond.fieldLink RX4 46 "BellTouches$Setup" "events" "LBellTouches$HandRows;", Cond.fieldLink RX4 49 "BellTouches$Setup" "book" "LBellTouches$HandRows;", Cond.methodLink RX4 61 yX1_copyFrom]
def wsX8_after_r2 : List Cond := [Cond.instanceMethod yX1_copyFrom, Cond.selects RX1 yX1_copyFrom yX1_copyFrom, Cond.initialized RX1, Cond.code yX1_copyFrom cX1_copyFrom 3 none, Cond.fieldLink RX1 7 "BellTouches$HandRows" "size" "I", Cond.fieldLink RX1 13 "BellTouches$HandRows" "first" "[I", Cond.fieldLink RX1 17 "BellTouches$HandRows" "second" "[I", Cond.fieldLink RX1 20 "BellTouches$HandRows" "third" "[I", Cond.methodLink RX1 23 yX1_append, Cond.instanceMethod yX1_append, Cond.selects RX1 yX1_append yX1_append, Cond.code yX1_append cX1_append 4 (some .boolean), Cond.methodLink RX8 216 yX4_happen, Cond.instanceMethod yX4_happen, Cond.selects RX4 yX4_happen yX4_happen, Cond.code yX4_happen cX4_happen 3 none, Cond.fieldLink RX4 52 "BellTouches$HandRows" "size" "I", Cond.fieldLink RX4 84 "BellTouches$HandRows" "second" "[I", Cond.fieldLink RX4 87 "BellTouches$HandRows" "first" "[I", Cond.methodLink RX4 90 Lib.Math.max.name, Cond.static Lib.Math.max.name, Cond.initialized "java/lang/Math", Cond.code Lib.Math.max.name Lib.Math.max.code 2 (some .int), Cond.methodLink RX8 219 yX7_ring]
def wsX8_after_r3 : List Cond := [Cond.instanceMethod yX7_ring, Cond.selects RX7 yX7_ring yX7_ring, Cond.initialized RX7, Cond.code yX7_ring cX7_ring 4 none, Cond.fieldLink RX7 46 "BellTouches$Setup" "leadCount" "I", Cond.fieldLink RX7 19 "BellTouches$Touch" "changeCount" "I", Cond.fieldLink RX7 51 "BellTouches$Setup" "leadCalls" "[I", Cond.methodLink RX7 42 yX7_begin, Cond.instanceMethod yX7_begin, Cond.selects RX7 yX7_begin yX7_begin, Cond.code yX7_begin cX7_begin 4 none, Cond.fieldLink RX7 58 "BellTouches$Setup" "changeCount" "I", Cond.fieldLink RX7 22 "BellTouches$Touch" "pairs" "[I", Cond.fieldLink RX7 59 "BellTouches$Setup" "n" "I", Cond.fieldLink RX7 62 "BellTouches$Setup" "changes" "[I", Cond.fieldLink RX7 25 "BellTouches$Touch" "lastPairs" "[I", Cond.fieldLink RX7 9 "BellTouches$Touch" "rows" "[I", Cond.fieldLink RX7 15 "BellTouches$Touch" "last" "I", Cond.fieldLink RX7 38 "BellTouches$Touch" "compared" "Z", Cond.methodLink RX7 65 yX2_pairs, Cond.static yX2_pairs, Cond.initialized RX2, Cond.code yX2_pairs cX2_pairs 4 (some .int), Cond.methodLink RX2 21 yX2_isKept]
def wsX8_after_r4 : List Cond := [Cond.static yX2_isKept, Cond.code yX2_isKept cX2_isKept 2 (some .boolean), Cond.methodLink RX7 70 yX4_calledChange, Cond.instanceMethod yX4_calledChange, Cond.selects RX4 yX4_calledChange yX4_calledChange, Cond.code yX4_calledChange cX4_calledChange 2 (some .int), Cond.methodLink RX7 74 yX2_rounds, Cond.static yX2_rounds, Cond.code yX2_rounds cX2_rounds 3 (some .int), Cond.methodLink RX7 54 yX7_step, Cond.instanceMethod yX7_step, Cond.selects RX7 yX7_step yX7_step, Cond.code yX7_step cX7_step 4 none, Cond.methodLink RX7 77 yX2_swapped, Cond.static yX2_swapped, Cond.code yX2_swapped cX2_swapped 3 (some .int), Cond.methodLink RX8 137 yX7_roundRow, Cond.instanceMethod yX7_roundRow, Cond.selects RX7 yX7_roundRow yX7_roundRow, Cond.code yX7_roundRow cX7_roundRow 2 (some .int), Cond.fieldLink RX7 28 "BellTouches$Touch" "firsts" "[I", Cond.methodLink RX7 80 yX7_compare, Cond.instanceMethod yX7_compare, Cond.selects RX7 yX7_compare yX7_compare]
def wsX8_after_r5 : List Cond := [Cond.code yX7_compare cX7_compare 2 none, Cond.fieldLink RX7 34 "BellTouches$Touch" "table" "LBellTouches$RowTable;", Cond.methodLink RX7 87 yX3_enter, Cond.instanceMethod yX3_enter, Cond.selects RX3 yX3_enter yX3_enter, Cond.initialized RX3, Cond.code yX3_enter cX3_enter 7 (some .int), Cond.fieldLink RX3 9 "BellTouches$RowTable" "numbers" "[I", Cond.methodLink RX3 13 yX3_start, Cond.static yX3_start, Cond.code yX3_start cX3_start 1 (some .int), Cond.constant RX3 17 (-1640531535), Cond.methodLink RX7 91 yX3_leave, Cond.instanceMethod yX3_leave, Cond.selects RX3 yX3_leave yX3_leave, Cond.code yX3_leave cX3_leave 6 none, Cond.methodLink RX8 140 yX7_falseRow, Cond.instanceMethod yX7_falseRow, Cond.selects RX7 yX7_falseRow yX7_falseRow, Cond.code yX7_falseRow cX7_falseRow 3 (some .int), Cond.methodLink RX8 143 yX7_isTrue, Cond.instanceMethod yX7_isTrue, Cond.selects RX7 yX7_isTrue yX7_isTrue, Cond.code yX7_isTrue cX7_isTrue 1 (some .boolean)]
def wsX8_after_r6 : List Cond := [Cond.methodLink RX7 83 yX7_falseRow]
def wsX8_after : List Cond := .code yX8_after cX8_after 2 (some .int) :: ((wsX8_after_r1 ++ (wsX8_after_r2 ++ (wsX8_after_r3 ++ (wsX8_after_r4 ++ (wsX8_after_r5 ++ wsX8_after_r6))))) ++ wsX80 ++ wsX40 ++ wsX10 ++ wsX70 ++ wsX30)
def wsX8_book : List Cond := .code yX8_book cX8_book 3 (some .int) :: ([.fieldLink RX8 14 "BellTouches" "setup" "LBellTouches$Setup;", .fieldLink RX8 222 "BellTouches$Setup" "book" "LBellTouches$HandRows;", .fieldLink RX8 190 "BellTouches$HandRows" "size" "I", .methodLink RX8 153 yX8_isBell, .instanceMethod yX8_isBell, .selects RX8 yX8_isBell yX8_isBell, .initialized RX8, .code yX8_isBell cX8_isBell 2 (some .boolean), .fieldLink RX8 62 "BellTouches$Setup" "n" "I", .methodLink RX8 195 yX1_append, .instanceMethod yX1_append, .selects RX1 yX1_append yX1_append, .initialized RX1, .code yX1_append cX1_append 4 (some .boolean), .fieldLink RX1 7 "BellTouches$HandRows" "size" "I", .fieldLink RX1 13 "BellTouches$HandRows" "first" "[I", .fieldLink RX1 17 "BellTouches$HandRows" "second" "[I", .fieldLink RX1 20 "BellTouches$HandRows" "third" "[I"] ++ wsX80 ++ wsX40 ++ wsX10)
def wsX8_looked_r1 : List Cond := [Cond.fieldLink RX8 14 "BellTouches" "setup" "LBellTouches$Setup;", Cond.fieldLink RX8 222 "BellTouches$Setup" "book" "LBellTouches$HandRows;", Cond.fieldLink RX8 190 "BellTouches$HandRows" "size" "I", Cond.fieldLink RX8 225 "BellTouches$HandRows" "first" "[I", Cond.fieldLink RX8 156 "BellTouches$Touch" "rows" "[I", Cond.fieldLink RX8 228 "BellTouches$HandRows" "second" "[I", Cond.methodLink RX8 150 yX8_isRow, Cond.instanceMethod yX8_isRow, Cond.selects RX8 yX8_isRow yX8_isRow, Cond.initialized RX8, Cond.code yX8_isRow cX8_isRow 2 (some .boolean), Cond.fieldLink RX8 134 "BellTouches$Touch" "last" "I", Cond.methodLink RX8 130 yX8_rung, Cond.instanceMethod yX8_rung, Cond.selects RX8 yX8_rung yX8_rung, Cond.code yX8_rung cX8_rung 1 (some (.object "BellTouches$Touch")), Cond.fieldLink RX8 58 "BellTouches" "stale" "Z", Cond.fieldLink RX8 27 "BellTouches" "touch" "LBellTouches$Touch;", Cond.methodLink RX8 219 yX7_ring, Cond.instanceMethod yX7_ring, Cond.selects RX7 yX7_ring yX7_ring, Cond.initialized RX7, Cond.code yX7_ring cX7_ring 4 none, Cond.fieldLink RX7 46 "BellTouches$Setup" "leadCount" "I"]
def wsX8_looked_r2 : List Cond := [Cond.fieldLink RX7 19 "BellTouches$Touch" "changeCount" "I", Cond.fieldLink RX7 51 "BellTouches$Setup" "leadCalls" "[I", Cond.methodLink RX7 42 yX7_begin, Cond.instanceMethod yX7_begin, Cond.selects RX7 yX7_begin yX7_begin, Cond.code yX7_begin cX7_begin 4 none, Cond.fieldLink RX7 58 "BellTouches$Setup" "changeCount" "I", Cond.fieldLink RX7 22 "BellTouches$Touch" "pairs" "[I", Cond.fieldLink RX7 59 "BellTouches$Setup" "n" "I", Cond.fieldLink RX7 62 "BellTouches$Setup" "changes" "[I", Cond.fieldLink RX7 25 "BellTouches$Touch" "lastPairs" "[I", Cond.fieldLink RX7 9 "BellTouches$Touch" "rows" "[I", Cond.fieldLink RX7 15 "BellTouches$Touch" "last" "I", Cond.fieldLink RX7 38 "BellTouches$Touch" "compared" "Z", Cond.methodLink RX7 65 yX2_pairs, Cond.static yX2_pairs, Cond.initialized RX2, Cond.code yX2_pairs cX2_pairs 4 (some .int), Cond.methodLink RX2 21 yX2_isKept, Cond.static yX2_isKept, Cond.code yX2_isKept cX2_isKept 2 (some .boolean), Cond.methodLink RX7 70 yX4_calledChange, Cond.instanceMethod yX4_calledChange, Cond.selects RX4 yX4_calledChange yX4_calledChange]
def wsX8_looked_r3 : List Cond := [Cond.initialized RX4, Cond.code yX4_calledChange cX4_calledChange 2 (some .int), Cond.fieldLink RX4 22 "BellTouches$Setup" "bob" "I", Cond.fieldLink RX4 25 "BellTouches$Setup" "single" "I", Cond.methodLink RX7 74 yX2_rounds, Cond.static yX2_rounds, Cond.code yX2_rounds cX2_rounds 3 (some .int), Cond.methodLink RX7 54 yX7_step, Cond.instanceMethod yX7_step, Cond.selects RX7 yX7_step yX7_step, Cond.code yX7_step cX7_step 4 none, Cond.methodLink RX7 77 yX2_swapped, Cond.static yX2_swapped, Cond.code yX2_swapped cX2_swapped 3 (some .int), Cond.methodLink RX8 159 yX2_bellIn, Cond.static yX2_bellIn, Cond.code yX2_bellIn cX2_bellIn 2 (some .int)]
def wsX8_looked : List Cond := .code yX8_looked cX8_looked 4 (some .int) :: ((wsX8_looked_r1 ++ (wsX8_looked_r2 ++ wsX8_looked_r3)) ++ wsX80 ++ wsX40 ++ wsX10 ++ wsX70)
def wsX8_isTape : List Cond := .code yX8_isTape cX8_isTape 1 (some .boolean) :: ([])
def wsX8_judge_r1 : List Cond := [Cond.fieldLink RX8 50 "BellTouches" "tapes" "[LBellTouches$Tape;", Cond.fieldLink RX8 234 "BellTouches$Tape" "sort" "I", Cond.fieldLink RX8 14 "BellTouches" "setup" "LBellTouches$Setup;", Cond.fieldLink RX8 62 "BellTouches$Setup" "n" "I", Cond.fieldLink RX8 240 "BellTouches$Tape" "items" "[J", Cond.fieldLink RX8 156 "BellTouches$Touch" "rows" "[I", Cond.methodLink RX8 150 yX8_isRow, Cond.instanceMethod yX8_isRow, Cond.selects RX8 yX8_isRow yX8_isRow, Cond.initialized RX8, Cond.code yX8_isRow cX8_isRow 2 (some .boolean), Cond.fieldLink RX8 134 "BellTouches$Touch" "last" "I", Cond.methodLink RX8 130 yX8_rung, Cond.instanceMethod yX8_rung, Cond.selects RX8 yX8_rung yX8_rung, Cond.code yX8_rung cX8_rung 1 (some (.object "BellTouches$Touch")), Cond.fieldLink RX8 58 "BellTouches" "stale" "Z", Cond.fieldLink RX8 27 "BellTouches" "touch" "LBellTouches$Touch;", Cond.methodLink RX8 219 yX7_ring, Cond.instanceMethod yX7_ring, Cond.selects RX7 yX7_ring yX7_ring, Cond.initialized RX7, Cond.code yX7_ring cX7_ring 4 none, Cond.fieldLink RX7 46 "BellTouches$Setup" "leadCount" "I"]
def wsX8_judge_r2 : List Cond := [Cond.fieldLink RX7 19 "BellTouches$Touch" "changeCount" "I", Cond.fieldLink RX7 51 "BellTouches$Setup" "leadCalls" "[I", Cond.methodLink RX7 42 yX7_begin, Cond.instanceMethod yX7_begin, Cond.selects RX7 yX7_begin yX7_begin, Cond.code yX7_begin cX7_begin 4 none, Cond.fieldLink RX7 58 "BellTouches$Setup" "changeCount" "I", Cond.fieldLink RX7 22 "BellTouches$Touch" "pairs" "[I", Cond.fieldLink RX7 59 "BellTouches$Setup" "n" "I", Cond.fieldLink RX7 62 "BellTouches$Setup" "changes" "[I", Cond.fieldLink RX7 25 "BellTouches$Touch" "lastPairs" "[I", Cond.fieldLink RX7 9 "BellTouches$Touch" "rows" "[I", Cond.fieldLink RX7 15 "BellTouches$Touch" "last" "I", Cond.fieldLink RX7 38 "BellTouches$Touch" "compared" "Z", Cond.methodLink RX7 65 yX2_pairs, Cond.static yX2_pairs, Cond.initialized RX2, Cond.code yX2_pairs cX2_pairs 4 (some .int), Cond.methodLink RX2 21 yX2_isKept, Cond.static yX2_isKept, Cond.code yX2_isKept cX2_isKept 2 (some .boolean), Cond.methodLink RX7 70 yX4_calledChange, Cond.instanceMethod yX4_calledChange, Cond.selects RX4 yX4_calledChange yX4_calledChange]
def wsX8_judge_r3 : List Cond := [Cond.initialized RX4, Cond.code yX4_calledChange cX4_calledChange 2 (some .int), Cond.fieldLink RX4 22 "BellTouches$Setup" "bob" "I", Cond.fieldLink RX4 25 "BellTouches$Setup" "single" "I", Cond.methodLink RX7 74 yX2_rounds, Cond.static yX2_rounds, Cond.code yX2_rounds cX2_rounds 3 (some .int), Cond.methodLink RX7 54 yX7_step, Cond.instanceMethod yX7_step, Cond.selects RX7 yX7_step yX7_step, Cond.code yX7_step cX7_step 4 none, Cond.methodLink RX7 77 yX2_swapped, Cond.static yX2_swapped, Cond.code yX2_swapped cX2_swapped 3 (some .int), Cond.methodLink RX8 231 yX8_isTape, Cond.static yX8_isTape, Cond.code yX8_isTape cX8_isTape 1 (some .boolean), Cond.methodLink RX8 237 yX6_has, Cond.instanceMethod yX6_has, Cond.selects RX6 yX6_has yX6_has, Cond.initialized RX6, Cond.code yX6_has cX6_has 3 (some .boolean), Cond.fieldLink RX6 15 "BellTouches$Tape" "length" "I", Cond.methodLink RX8 159 yX2_bellIn]
def wsX8_judge_r4 : List Cond := [Cond.static yX2_bellIn, Cond.code yX2_bellIn cX2_bellIn 2 (some .int)]
def wsX8_judge : List Cond := .code yX8_judge cX8_judge 6 (some .int) :: ((wsX8_judge_r1 ++ (wsX8_judge_r2 ++ (wsX8_judge_r3 ++ wsX8_judge_r4))) ++ wsX80 ++ wsX60 ++ wsX40 ++ wsX70)
def wsX8_image_r1 : List Cond := [Cond.fieldLink RX8 18 "BellTouches" "kept" "LBellTouches$Setup;", Cond.fieldLink RX8 14 "BellTouches" "setup" "LBellTouches$Setup;", Cond.fieldLink RX8 54 "BellTouches" "hasImage" "Z", Cond.fieldLink RX8 80 "BellTouches$Setup" "changeCount" "I", Cond.methodLink RX8 197 yX4_copyFrom, Cond.instanceMethod yX4_copyFrom, Cond.selects RX4 yX4_copyFrom yX4_copyFrom, Cond.initialized RX4, Cond.code yX4_copyFrom cX4_copyFrom 2 none, Cond.fieldLink RX4 9 "BellTouches$Setup" "n" "I", Cond.fieldLink RX4 19 "BellTouches$Setup" "changeCount" "I", Cond.fieldLink RX4 22 "BellTouches$Setup" "bob" "I", Cond.fieldLink RX4 25 "BellTouches$Setup" "single" "I", Cond.fieldLink RX4 31 "BellTouches$Setup" "leadCount" "I", Cond.fieldLink RX4 15 "BellTouches$Setup" "changes" "[I", Cond.methodLink RX4 55 arraycopyName, Cond.native arraycopyName, Cond.static arraycopyName, Cond.initialized "java/lang/System", Cond.fieldLink RX4 28 "BellTouches$Setup" "leadCalls" "[I", Cond.fieldLink RX4 34 "BellTouches$Setup" "patternBells" "[I", Cond.fieldLink RX4 42 "BellTouches$Setup" "seen" "LBellTouches$HandRows;", Cond.fieldLink RX4 46 "BellTouches$Setup" "events" "LBellTouches$HandRows;", Cond.fieldLink RX4 49 "BellTouches$Setup" "book" "LBellTouches$HandRows;"]
def wsX8_image_r2 : List Cond := [Cond.methodLink RX4 61 yX1_copyFrom, Cond.instanceMethod yX1_copyFrom, Cond.selects RX1 yX1_copyFrom yX1_copyFrom, Cond.initialized RX1, Cond.code yX1_copyFrom cX1_copyFrom 3 none, Cond.fieldLink RX1 7 "BellTouches$HandRows" "size" "I", Cond.fieldLink RX1 13 "BellTouches$HandRows" "first" "[I", Cond.fieldLink RX1 17 "BellTouches$HandRows" "second" "[I", Cond.fieldLink RX1 20 "BellTouches$HandRows" "third" "[I", Cond.methodLink RX1 23 yX1_append, Cond.instanceMethod yX1_append, Cond.selects RX1 yX1_append yX1_append, Cond.code yX1_append cX1_append 4 (some .boolean)]
def wsX8_image : List Cond := .code yX8_image cX8_image 1 (some .int) :: ((wsX8_image_r1 ++ wsX8_image_r2) ++ wsX80 ++ wsX40 ++ wsX10)
def wsX8_undo_r1 : List Cond := [Cond.fieldLink RX8 54 "BellTouches" "hasImage" "Z", Cond.fieldLink RX8 14 "BellTouches" "setup" "LBellTouches$Setup;", Cond.fieldLink RX8 18 "BellTouches" "kept" "LBellTouches$Setup;", Cond.fieldLink RX8 58 "BellTouches" "stale" "Z", Cond.fieldLink RX8 80 "BellTouches$Setup" "changeCount" "I", Cond.methodLink RX8 197 yX4_copyFrom, Cond.instanceMethod yX4_copyFrom, Cond.selects RX4 yX4_copyFrom yX4_copyFrom, Cond.initialized RX4, Cond.code yX4_copyFrom cX4_copyFrom 2 none, Cond.fieldLink RX4 9 "BellTouches$Setup" "n" "I", Cond.fieldLink RX4 19 "BellTouches$Setup" "changeCount" "I", Cond.fieldLink RX4 22 "BellTouches$Setup" "bob" "I", Cond.fieldLink RX4 25 "BellTouches$Setup" "single" "I", Cond.fieldLink RX4 31 "BellTouches$Setup" "leadCount" "I", Cond.fieldLink RX4 15 "BellTouches$Setup" "changes" "[I", Cond.methodLink RX4 55 arraycopyName, Cond.native arraycopyName, Cond.static arraycopyName, Cond.initialized "java/lang/System", Cond.fieldLink RX4 28 "BellTouches$Setup" "leadCalls" "[I", Cond.fieldLink RX4 34 "BellTouches$Setup" "patternBells" "[I", Cond.fieldLink RX4 42 "BellTouches$Setup" "seen" "LBellTouches$HandRows;", Cond.fieldLink RX4 46 "BellTouches$Setup" "events" "LBellTouches$HandRows;"]
def wsX8_undo_r2 : List Cond := [Cond.fieldLink RX4 49 "BellTouches$Setup" "book" "LBellTouches$HandRows;", Cond.methodLink RX4 61 yX1_copyFrom, Cond.instanceMethod yX1_copyFrom, Cond.selects RX1 yX1_copyFrom yX1_copyFrom, Cond.initialized RX1, Cond.code yX1_copyFrom cX1_copyFrom 3 none, Cond.fieldLink RX1 7 "BellTouches$HandRows" "size" "I", Cond.fieldLink RX1 13 "BellTouches$HandRows" "first" "[I", Cond.fieldLink RX1 17 "BellTouches$HandRows" "second" "[I", Cond.fieldLink RX1 20 "BellTouches$HandRows" "third" "[I", Cond.methodLink RX1 23 yX1_append, Cond.instanceMethod yX1_append, Cond.selects RX1 yX1_append yX1_append, Cond.code yX1_append cX1_append 4 (some .boolean)]
def wsX8_undo : List Cond := .code yX8_undo cX8_undo 1 (some .int) :: ((wsX8_undo_r1 ++ wsX8_undo_r2) ++ wsX80 ++ wsX40 ++ wsX10)
def wsX8_count : List Cond := .code yX8_count cX8_count 2 (some .int) :: ([.fieldLink RX8 14 "BellTouches" "setup" "LBellTouches$Setup;", .fieldLink RX8 186 "BellTouches$Setup" "seen" "LBellTouches$HandRows;", .fieldLink RX8 190 "BellTouches$HandRows" "size" "I", .fieldLink RX8 213 "BellTouches$Setup" "events" "LBellTouches$HandRows;", .fieldLink RX8 222 "BellTouches$Setup" "book" "LBellTouches$HandRows;", .fieldLink RX8 44 "BellTouches" "text" "LBellTouches$SetupText;", .fieldLink RX8 110 "BellTouches$SetupText" "length" "I"] ++ wsX80 ++ wsX40 ++ wsX10 ++ wsX50)
def wsX8_tape : List Cond := .code yX8_tape cX8_tape 4 (some .int) :: ([.fieldLink RX8 50 "BellTouches" "tapes" "[LBellTouches$Tape;", .methodLink RX8 231 yX8_isTape, .static yX8_isTape, .initialized RX8, .code yX8_isTape cX8_isTape 1 (some .boolean), .methodLink RX8 244 yX6_begin, .instanceMethod yX6_begin, .selects RX6 yX6_begin yX6_begin, .initialized RX6, .code yX6_begin cX6_begin 4 none, .fieldLink RX6 9 "BellTouches$Tape" "sort" "I", .fieldLink RX6 15 "BellTouches$Tape" "length" "I", .fieldLink RX6 18 "BellTouches$Tape" "items" "[J"] ++ wsX80 ++ wsX60)
def wsX8_item : List Cond := .code yX8_item cX8_item 6 (some .int) :: ([.fieldLink RX8 50 "BellTouches" "tapes" "[LBellTouches$Tape;", .fieldLink RX8 234 "BellTouches$Tape" "sort" "I", .fieldLink RX8 240 "BellTouches$Tape" "items" "[J", .methodLink RX8 231 yX8_isTape, .static yX8_isTape, .initialized RX8, .code yX8_isTape cX8_isTape 1 (some .boolean), .methodLink RX8 237 yX6_has, .instanceMethod yX6_has, .selects RX6 yX6_has yX6_has, .initialized RX6, .code yX6_has cX6_has 3 (some .boolean), .fieldLink RX6 15 "BellTouches$Tape" "length" "I", .methodLink RX8 246 yX6_narrowed, .static yX6_narrowed, .code yX6_narrowed cX6_narrowed 3 (some .long)] ++ wsX80 ++ wsX60)
def wsX8_peek : List Cond := .code yX8_peek cX8_peek 3 (some .long) :: ([.fieldLink RX8 50 "BellTouches" "tapes" "[LBellTouches$Tape;", .constantLong RX8 207 (-9223372036854775808), .fieldLink RX8 240 "BellTouches$Tape" "items" "[J", .methodLink RX8 231 yX8_isTape, .static yX8_isTape, .initialized RX8, .code yX8_isTape cX8_isTape 1 (some .boolean), .methodLink RX8 237 yX6_has, .instanceMethod yX6_has, .selects RX6 yX6_has yX6_has, .initialized RX6, .code yX6_has cX6_has 3 (some .boolean), .fieldLink RX6 15 "BellTouches$Tape" "length" "I"] ++ wsX80 ++ wsX60)
def wsX8_shift : List Cond := .code yX8_shift cX8_shift 8 (some .int) :: ([.fieldLink RX8 50 "BellTouches" "tapes" "[LBellTouches$Tape;", .fieldLink RX8 234 "BellTouches$Tape" "sort" "I", .fieldLink RX8 240 "BellTouches$Tape" "items" "[J", .methodLink RX8 250 arraycopyName, .native arraycopyName, .static arraycopyName, .initialized "java/lang/System", .methodLink RX8 231 yX8_isTape, .static yX8_isTape, .initialized RX8, .code yX8_isTape cX8_isTape 1 (some .boolean), .methodLink RX8 237 yX6_has, .instanceMethod yX6_has, .selects RX6 yX6_has yX6_has, .initialized RX6, .code yX6_has cX6_has 3 (some .boolean), .fieldLink RX6 15 "BellTouches$Tape" "length" "I"] ++ wsX80 ++ wsX60)
def wsX9_begins : List Cond := .code yX9_begins cX9_begins 3 none :: ([.fieldLink RX9 9 "BellTouchesModel" "now" "[I"] ++ wsX90)
def wsX9_init : List Cond := .code yX9_init cX9_init 1 none :: ([.methodLink RX9 3 objectInit, .instanceMethod objectInit, .code objectInit ⟨#[0xb1]⟩ 1 none, .arrayClass .int, .fieldLink RX9 9 "BellTouchesModel" "now" "[I", .fieldLink RX9 15 "BellTouchesModel" "old" "[I", .fieldLink RX9 18 "BellTouchesModel" "bell" "[I", .fieldLink RX9 21 "BellTouchesModel" "key" "[I", .fieldLink RX9 24 "BellTouchesModel" "text" "[I", .fieldLink RX9 27 "BellTouchesModel" "clause" "[I", .fieldLink RX9 30 "BellTouchesModel" "from" "[I", .fieldLink RX9 33 "BellTouchesModel" "many" "[I", .fieldLink RX9 36 "BellTouchesModel" "number" "[I", .fieldLink RX9 39 "BellTouchesModel" "sort" "[I", .fieldLink RX9 42 "BellTouchesModel" "long1" "[I", .arrayClass .long, .fieldLink RX9 45 "BellTouchesModel" "items" "[J", .fieldLink RX9 49 "BellTouchesModel" "moved" "[J", .methodLink RX9 52 yX9_begins, .instanceMethod yX9_begins, .selects RX9 yX9_begins yX9_begins, .initialized RX9, .code yX9_begins cX9_begins 3 none] ++ wsX90)
def wsX9_within : List Cond := .code yX9_within cX9_within 3 (some .boolean) :: ([])
def wsX9_becomes : List Cond := .code yX9_becomes cX9_becomes 4 (some .int) :: ([.fieldLink RX9 9 "BellTouchesModel" "now" "[I"] ++ wsX90)
def wsX9_bells : List Cond := .code yX9_bells cX9_bells 3 (some .int) :: ([.fieldLink RX9 9 "BellTouchesModel" "now" "[I", .methodLink RX9 56 yX9_within, .static yX9_within, .initialized RX9, .code yX9_within cX9_within 3 (some .boolean), .methodLink RX9 52 yX9_begins, .instanceMethod yX9_begins, .selects RX9 yX9_begins yX9_begins, .code yX9_begins cX9_begins 3 none] ++ wsX90)
def wsX9_areKept : List Cond := .code yX9_areKept cX9_areKept 2 (some .boolean) :: ([.fieldLink RX9 9 "BellTouchesModel" "now" "[I", .methodLink RX9 56 yX9_within, .static yX9_within, .initialized RX9, .code yX9_within cX9_within 3 (some .boolean)] ++ wsX90)
def wsX9_isGood : List Cond := .code yX9_isGood cX9_isGood 3 (some .boolean) :: ([.fieldLink RX9 9 "BellTouchesModel" "now" "[I"] ++ wsX90)
def wsX9_change : List Cond := .code yX9_change cX9_change 2 (some .int) :: ([.fieldLink RX9 9 "BellTouchesModel" "now" "[I", .methodLink RX9 60 yX9_areKept, .instanceMethod yX9_areKept, .selects RX9 yX9_areKept yX9_areKept, .initialized RX9, .code yX9_areKept cX9_areKept 2 (some .boolean), .methodLink RX9 56 yX9_within, .static yX9_within, .code yX9_within cX9_within 3 (some .boolean), .methodLink RX9 64 yX9_isGood, .instanceMethod yX9_isGood, .selects RX9 yX9_isGood yX9_isGood, .code yX9_isGood cX9_isGood 3 (some .boolean)] ++ wsX90)
def wsX9_calls : List Cond := .code yX9_calls cX9_calls 3 (some .int) :: ([.methodLink RX9 56 yX9_within, .static yX9_within, .initialized RX9, .code yX9_within cX9_within 3 (some .boolean), .methodLink RX9 60 yX9_areKept, .instanceMethod yX9_areKept, .selects RX9 yX9_areKept yX9_areKept, .code yX9_areKept cX9_areKept 2 (some .boolean), .fieldLink RX9 9 "BellTouchesModel" "now" "[I", .methodLink RX9 64 yX9_isGood, .instanceMethod yX9_isGood, .selects RX9 yX9_isGood yX9_isGood, .code yX9_isGood cX9_isGood 3 (some .boolean), .methodLink RX9 67 yX9_becomes, .instanceMethod yX9_becomes, .selects RX9 yX9_becomes yX9_becomes, .code yX9_becomes cX9_becomes 4 (some .int)] ++ wsX90)
def wsX9_call : List Cond := .code yX9_call cX9_call 3 (some .int) :: ([.methodLink RX9 56 yX9_within, .static yX9_within, .initialized RX9, .code yX9_within cX9_within 3 (some .boolean), .methodLink RX9 67 yX9_becomes, .instanceMethod yX9_becomes, .selects RX9 yX9_becomes yX9_becomes, .code yX9_becomes cX9_becomes 4 (some .int), .fieldLink RX9 9 "BellTouchesModel" "now" "[I"] ++ wsX90)
def wsX9_leads : List Cond := .code yX9_leads cX9_leads 2 (some .int) :: ([.methodLink RX9 56 yX9_within, .static yX9_within, .initialized RX9, .code yX9_within cX9_within 3 (some .boolean), .methodLink RX9 67 yX9_becomes, .instanceMethod yX9_becomes, .selects RX9 yX9_becomes yX9_becomes, .code yX9_becomes cX9_becomes 4 (some .int), .fieldLink RX9 9 "BellTouchesModel" "now" "[I"] ++ wsX90)
def wsX9_pattern : List Cond := .code yX9_pattern cX9_pattern 3 (some .int) :: ([.methodLink RX9 56 yX9_within, .static yX9_within, .initialized RX9, .code yX9_within cX9_within 3 (some .boolean), .methodLink RX9 67 yX9_becomes, .instanceMethod yX9_becomes, .selects RX9 yX9_becomes yX9_becomes, .code yX9_becomes cX9_becomes 4 (some .int), .fieldLink RX9 9 "BellTouchesModel" "now" "[I"] ++ wsX90)
def wsX9_feed : List Cond := .code yX9_feed cX9_feed 2 (some .int) :: ([.fieldLink RX9 71 "BellTouchesModel" "texts" "I", .fieldLink RX9 24 "BellTouchesModel" "text" "[I", .methodLink RX9 56 yX9_within, .static yX9_within, .initialized RX9, .code yX9_within cX9_within 3 (some .boolean)] ++ wsX90)
def wsX9_sign : List Cond := .code yX9_sign cX9_sign 1 (some .int) :: ([.fieldLink RX9 75 "BellTouchesModel" "at" "I", .fieldLink RX9 71 "BellTouchesModel" "texts" "I", .fieldLink RX9 24 "BellTouchesModel" "text" "[I"] ++ wsX90)
def wsX9_wrong : List Cond := .code yX9_wrong cX9_wrong 1 none :: ([.fieldLink RX9 78 "BellTouchesModel" "fault" "I", .fieldLink RX9 75 "BellTouchesModel" "at" "I"] ++ wsX90)
def wsX9_adds : List Cond := .code yX9_adds cX9_adds 2 none :: ([.fieldLink RX9 36 "BellTouchesModel" "number" "[I", .fieldLink RX9 81 "BellTouchesModel" "numbers" "I", .fieldLink RX9 33 "BellTouchesModel" "many" "[I", .fieldLink RX9 84 "BellTouchesModel" "clauses" "I"] ++ wsX90)
def wsX9_digits : List Cond := .code yX9_digits cX9_digits 3 none :: ([.fieldLink RX9 75 "BellTouchesModel" "at" "I", .methodLink RX9 87 yX9_sign, .instanceMethod yX9_sign, .selects RX9 yX9_sign yX9_sign, .initialized RX9, .code yX9_sign cX9_sign 1 (some .int), .fieldLink RX9 71 "BellTouchesModel" "texts" "I", .fieldLink RX9 24 "BellTouchesModel" "text" "[I", .methodLink RX9 56 yX9_within, .static yX9_within, .code yX9_within cX9_within 3 (some .boolean), .methodLink RX9 91 yX9_wrong, .instanceMethod yX9_wrong, .selects RX9 yX9_wrong yX9_wrong, .code yX9_wrong cX9_wrong 1 none, .fieldLink RX9 78 "BellTouchesModel" "fault" "I", .methodLink RX9 94 yX9_adds, .instanceMethod yX9_adds, .selects RX9 yX9_adds yX9_adds, .code yX9_adds cX9_adds 2 none, .fieldLink RX9 36 "BellTouchesModel" "number" "[I", .fieldLink RX9 81 "BellTouchesModel" "numbers" "I", .fieldLink RX9 33 "BellTouchesModel" "many" "[I", .fieldLink RX9 84 "BellTouchesModel" "clauses" "I"] ++ wsX90)
def wsX9_word_r1 : List Cond := [Cond.fieldLink RX9 75 "BellTouchesModel" "at" "I", Cond.methodLink RX9 87 yX9_sign, Cond.instanceMethod yX9_sign, Cond.selects RX9 yX9_sign yX9_sign, Cond.initialized RX9, Cond.code yX9_sign cX9_sign 1 (some .int), Cond.fieldLink RX9 71 "BellTouchesModel" "texts" "I", Cond.fieldLink RX9 24 "BellTouchesModel" "text" "[I", Cond.methodLink RX9 94 yX9_adds, Cond.instanceMethod yX9_adds, Cond.selects RX9 yX9_adds yX9_adds, Cond.code yX9_adds cX9_adds 2 none, Cond.fieldLink RX9 36 "BellTouchesModel" "number" "[I", Cond.fieldLink RX9 81 "BellTouchesModel" "numbers" "I", Cond.fieldLink RX9 33 "BellTouchesModel" "many" "[I", Cond.fieldLink RX9 84 "BellTouchesModel" "clauses" "I", Cond.methodLink RX9 97 yX9_digits, Cond.instanceMethod yX9_digits, Cond.selects RX9 yX9_digits yX9_digits, Cond.code yX9_digits cX9_digits 3 none, Cond.methodLink RX9 56 yX9_within, Cond.static yX9_within, Cond.code yX9_within cX9_within 3 (some .boolean), Cond.methodLink RX9 91 yX9_wrong]
def wsX9_word_r2 : List Cond := [Cond.instanceMethod yX9_wrong, Cond.selects RX9 yX9_wrong yX9_wrong, Cond.code yX9_wrong cX9_wrong 1 none, Cond.fieldLink RX9 78 "BellTouchesModel" "fault" "I"]
def wsX9_word : List Cond := .code yX9_word cX9_word 1 (some .boolean) :: ((wsX9_word_r1 ++ wsX9_word_r2) ++ wsX90)
def wsX9_words_r1 : List Cond := [Cond.fieldLink RX9 78 "BellTouchesModel" "fault" "I", Cond.fieldLink RX9 33 "BellTouchesModel" "many" "[I", Cond.fieldLink RX9 84 "BellTouchesModel" "clauses" "I", Cond.fieldLink RX9 75 "BellTouchesModel" "at" "I", Cond.methodLink RX9 100 yX9_word, Cond.instanceMethod yX9_word, Cond.selects RX9 yX9_word yX9_word, Cond.initialized RX9, Cond.code yX9_word cX9_word 1 (some .boolean), Cond.methodLink RX9 87 yX9_sign, Cond.instanceMethod yX9_sign, Cond.selects RX9 yX9_sign yX9_sign, Cond.code yX9_sign cX9_sign 1 (some .int), Cond.fieldLink RX9 71 "BellTouchesModel" "texts" "I", Cond.fieldLink RX9 24 "BellTouchesModel" "text" "[I", Cond.methodLink RX9 94 yX9_adds, Cond.instanceMethod yX9_adds, Cond.selects RX9 yX9_adds yX9_adds, Cond.code yX9_adds cX9_adds 2 none, Cond.fieldLink RX9 36 "BellTouchesModel" "number" "[I", Cond.fieldLink RX9 81 "BellTouchesModel" "numbers" "I", Cond.methodLink RX9 97 yX9_digits, Cond.instanceMethod yX9_digits, Cond.selects RX9 yX9_digits yX9_digits]
def wsX9_words_r2 : List Cond := [Cond.code yX9_digits cX9_digits 3 none, Cond.methodLink RX9 56 yX9_within, Cond.static yX9_within, Cond.code yX9_within cX9_within 3 (some .boolean), Cond.methodLink RX9 91 yX9_wrong, Cond.instanceMethod yX9_wrong, Cond.selects RX9 yX9_wrong yX9_wrong, Cond.code yX9_wrong cX9_wrong 1 none]
def wsX9_words : List Cond := .code yX9_words cX9_words 4 none :: ((wsX9_words_r1 ++ wsX9_words_r2) ++ wsX90)
def wsX9_callOf : List Cond := .code yX9_callOf cX9_callOf 1 (some .int) :: ([])
def wsX9_reads_r1 : List Cond := [Cond.fieldLink RX9 27 "BellTouchesModel" "clause" "[I", Cond.fieldLink RX9 84 "BellTouchesModel" "clauses" "I", Cond.fieldLink RX9 30 "BellTouchesModel" "from" "[I", Cond.fieldLink RX9 81 "BellTouchesModel" "numbers" "I", Cond.fieldLink RX9 33 "BellTouchesModel" "many" "[I", Cond.fieldLink RX9 75 "BellTouchesModel" "at" "I", Cond.methodLink RX9 87 yX9_sign, Cond.instanceMethod yX9_sign, Cond.selects RX9 yX9_sign yX9_sign, Cond.initialized RX9, Cond.code yX9_sign cX9_sign 1 (some .int), Cond.fieldLink RX9 71 "BellTouchesModel" "texts" "I", Cond.fieldLink RX9 24 "BellTouchesModel" "text" "[I", Cond.methodLink RX9 56 yX9_within, Cond.static yX9_within, Cond.code yX9_within cX9_within 3 (some .boolean), Cond.methodLink RX9 91 yX9_wrong, Cond.instanceMethod yX9_wrong, Cond.selects RX9 yX9_wrong yX9_wrong, Cond.code yX9_wrong cX9_wrong 1 none, Cond.fieldLink RX9 78 "BellTouchesModel" "fault" "I", Cond.methodLink RX9 94 yX9_adds, Cond.instanceMethod yX9_adds, Cond.selects RX9 yX9_adds yX9_adds]
def wsX9_reads_r2 : List Cond := [Cond.code yX9_adds cX9_adds 2 none, Cond.fieldLink RX9 36 "BellTouchesModel" "number" "[I", Cond.methodLink RX9 104 yX9_words, Cond.instanceMethod yX9_words, Cond.selects RX9 yX9_words yX9_words, Cond.code yX9_words cX9_words 4 none, Cond.methodLink RX9 100 yX9_word, Cond.instanceMethod yX9_word, Cond.selects RX9 yX9_word yX9_word, Cond.code yX9_word cX9_word 1 (some .boolean), Cond.methodLink RX9 97 yX9_digits, Cond.instanceMethod yX9_digits, Cond.selects RX9 yX9_digits yX9_digits, Cond.code yX9_digits cX9_digits 3 none, Cond.methodLink RX9 107 yX9_callOf, Cond.static yX9_callOf, Cond.code yX9_callOf cX9_callOf 1 (some .int)]
def wsX9_reads : List Cond := .code yX9_reads cX9_reads 1 none :: ((wsX9_reads_r1 ++ wsX9_reads_r2) ++ wsX90)
def wsX9_areGood : List Cond := .code yX9_areGood cX9_areGood 4 (some .boolean) :: ([.fieldLink RX9 33 "BellTouchesModel" "many" "[I", .fieldLink RX9 36 "BellTouchesModel" "number" "[I", .fieldLink RX9 30 "BellTouchesModel" "from" "[I", .methodLink RX9 60 yX9_areKept, .instanceMethod yX9_areKept, .selects RX9 yX9_areKept yX9_areKept, .initialized RX9, .code yX9_areKept cX9_areKept 2 (some .boolean), .fieldLink RX9 9 "BellTouchesModel" "now" "[I", .methodLink RX9 56 yX9_within, .static yX9_within, .code yX9_within cX9_within 3 (some .boolean), .methodLink RX9 64 yX9_isGood, .instanceMethod yX9_isGood, .selects RX9 yX9_isGood yX9_isGood, .code yX9_isGood cX9_isGood 3 (some .boolean)] ++ wsX90)
def wsX9_does_r1 : List Cond := [Cond.fieldLink RX9 36 "BellTouchesModel" "number" "[I", Cond.fieldLink RX9 30 "BellTouchesModel" "from" "[I", Cond.fieldLink RX9 27 "BellTouchesModel" "clause" "[I", Cond.fieldLink RX9 9 "BellTouchesModel" "now" "[I", Cond.fieldLink RX9 33 "BellTouchesModel" "many" "[I", Cond.methodLink RX9 111 yX9_bells, Cond.instanceMethod yX9_bells, Cond.selects RX9 yX9_bells yX9_bells, Cond.initialized RX9, Cond.code yX9_bells cX9_bells 3 (some .int), Cond.methodLink RX9 56 yX9_within, Cond.static yX9_within, Cond.code yX9_within cX9_within 3 (some .boolean), Cond.methodLink RX9 52 yX9_begins, Cond.instanceMethod yX9_begins, Cond.selects RX9 yX9_begins yX9_begins, Cond.code yX9_begins cX9_begins 3 none, Cond.methodLink RX9 114 yX9_calls, Cond.instanceMethod yX9_calls, Cond.selects RX9 yX9_calls yX9_calls, Cond.code yX9_calls cX9_calls 3 (some .int), Cond.methodLink RX9 60 yX9_areKept, Cond.instanceMethod yX9_areKept, Cond.selects RX9 yX9_areKept yX9_areKept]
def wsX9_does_r2 : List Cond := [Cond.code yX9_areKept cX9_areKept 2 (some .boolean), Cond.methodLink RX9 64 yX9_isGood, Cond.instanceMethod yX9_isGood, Cond.selects RX9 yX9_isGood yX9_isGood, Cond.code yX9_isGood cX9_isGood 3 (some .boolean), Cond.methodLink RX9 67 yX9_becomes, Cond.instanceMethod yX9_becomes, Cond.selects RX9 yX9_becomes yX9_becomes, Cond.code yX9_becomes cX9_becomes 4 (some .int), Cond.methodLink RX9 117 yX9_areGood, Cond.instanceMethod yX9_areGood, Cond.selects RX9 yX9_areGood yX9_areGood, Cond.code yX9_areGood cX9_areGood 4 (some .boolean)]
def wsX9_does : List Cond := .code yX9_does cX9_does 4 (some .boolean) :: ((wsX9_does_r1 ++ wsX9_does_r2) ++ wsX90)
def wsX9_read_r1 : List Cond := [Cond.fieldLink RX9 75 "BellTouchesModel" "at" "I", Cond.fieldLink RX9 78 "BellTouchesModel" "fault" "I", Cond.fieldLink RX9 84 "BellTouchesModel" "clauses" "I", Cond.fieldLink RX9 81 "BellTouchesModel" "numbers" "I", Cond.fieldLink RX9 71 "BellTouchesModel" "texts" "I", Cond.methodLink RX9 120 yX9_reads, Cond.instanceMethod yX9_reads, Cond.selects RX9 yX9_reads yX9_reads, Cond.initialized RX9, Cond.code yX9_reads cX9_reads 1 none, Cond.fieldLink RX9 27 "BellTouchesModel" "clause" "[I", Cond.fieldLink RX9 30 "BellTouchesModel" "from" "[I", Cond.fieldLink RX9 33 "BellTouchesModel" "many" "[I", Cond.methodLink RX9 87 yX9_sign, Cond.instanceMethod yX9_sign, Cond.selects RX9 yX9_sign yX9_sign, Cond.code yX9_sign cX9_sign 1 (some .int), Cond.fieldLink RX9 24 "BellTouchesModel" "text" "[I", Cond.methodLink RX9 56 yX9_within, Cond.static yX9_within, Cond.code yX9_within cX9_within 3 (some .boolean), Cond.methodLink RX9 91 yX9_wrong, Cond.instanceMethod yX9_wrong, Cond.selects RX9 yX9_wrong yX9_wrong]
def wsX9_read_r2 : List Cond := [Cond.code yX9_wrong cX9_wrong 1 none, Cond.methodLink RX9 94 yX9_adds, Cond.instanceMethod yX9_adds, Cond.selects RX9 yX9_adds yX9_adds, Cond.code yX9_adds cX9_adds 2 none, Cond.fieldLink RX9 36 "BellTouchesModel" "number" "[I", Cond.methodLink RX9 104 yX9_words, Cond.instanceMethod yX9_words, Cond.selects RX9 yX9_words yX9_words, Cond.code yX9_words cX9_words 4 none, Cond.methodLink RX9 100 yX9_word, Cond.instanceMethod yX9_word, Cond.selects RX9 yX9_word yX9_word, Cond.code yX9_word cX9_word 1 (some .boolean), Cond.methodLink RX9 97 yX9_digits, Cond.instanceMethod yX9_digits, Cond.selects RX9 yX9_digits yX9_digits, Cond.code yX9_digits cX9_digits 3 none, Cond.methodLink RX9 107 yX9_callOf, Cond.static yX9_callOf, Cond.code yX9_callOf cX9_callOf 1 (some .int), Cond.methodLink RX9 123 yX9_does, Cond.instanceMethod yX9_does, Cond.selects RX9 yX9_does yX9_does]
def wsX9_read_r3 : List Cond := [Cond.code yX9_does cX9_does 4 (some .boolean), Cond.fieldLink RX9 9 "BellTouchesModel" "now" "[I", Cond.methodLink RX9 111 yX9_bells, Cond.instanceMethod yX9_bells, Cond.selects RX9 yX9_bells yX9_bells, Cond.code yX9_bells cX9_bells 3 (some .int), Cond.methodLink RX9 52 yX9_begins, Cond.instanceMethod yX9_begins, Cond.selects RX9 yX9_begins yX9_begins, Cond.code yX9_begins cX9_begins 3 none, Cond.methodLink RX9 114 yX9_calls, Cond.instanceMethod yX9_calls, Cond.selects RX9 yX9_calls yX9_calls, Cond.code yX9_calls cX9_calls 3 (some .int), Cond.methodLink RX9 60 yX9_areKept, Cond.instanceMethod yX9_areKept, Cond.selects RX9 yX9_areKept yX9_areKept, Cond.code yX9_areKept cX9_areKept 2 (some .boolean), Cond.methodLink RX9 64 yX9_isGood, Cond.instanceMethod yX9_isGood, Cond.selects RX9 yX9_isGood yX9_isGood, Cond.code yX9_isGood cX9_isGood 3 (some .boolean), Cond.methodLink RX9 67 yX9_becomes, Cond.instanceMethod yX9_becomes]
def wsX9_read_r4 : List Cond := [Cond.selects RX9 yX9_becomes yX9_becomes, Cond.code yX9_becomes cX9_becomes 4 (some .int), Cond.methodLink RX9 117 yX9_areGood, Cond.instanceMethod yX9_areGood, Cond.selects RX9 yX9_areGood yX9_areGood, Cond.code yX9_areGood cX9_areGood 4 (some .boolean)]
def wsX9_read : List Cond := .code yX9_read cX9_read 4 (some .int) :: ((wsX9_read_r1 ++ (wsX9_read_r2 ++ (wsX9_read_r3 ++ wsX9_read_r4))) ++ wsX90)
def wsX9_keys : List Cond := .code yX9_keys cX9_keys 4 none :: ([.fieldLink RX9 9 "BellTouchesModel" "now" "[I", .fieldLink RX9 18 "BellTouchesModel" "bell" "[I", .fieldLink RX9 21 "BellTouchesModel" "key" "[I"] ++ wsX90)
def wsX9_goes : List Cond := .code yX9_goes cX9_goes 5 none :: ([.fieldLink RX9 9 "BellTouchesModel" "now" "[I", .fieldLink RX9 18 "BellTouchesModel" "bell" "[I", .methodLink RX9 126 yX9_keys, .instanceMethod yX9_keys, .selects RX9 yX9_keys yX9_keys, .initialized RX9, .code yX9_keys cX9_keys 4 none, .fieldLink RX9 21 "BellTouchesModel" "key" "[I"] ++ wsX90)
def wsX9_rings : List Cond := .code yX9_rings cX9_rings 5 none :: ([.fieldLink RX9 9 "BellTouchesModel" "now" "[I", .fieldLink RX9 18 "BellTouchesModel" "bell" "[I", .fieldLink RX9 129 "BellTouchesModel" "last" "I", .methodLink RX9 126 yX9_keys, .instanceMethod yX9_keys, .selects RX9 yX9_keys yX9_keys, .initialized RX9, .code yX9_keys cX9_keys 4 none, .fieldLink RX9 21 "BellTouchesModel" "key" "[I", .methodLink RX9 132 yX9_goes, .instanceMethod yX9_goes, .selects RX9 yX9_goes yX9_goes, .code yX9_goes cX9_goes 5 none] ++ wsX90)
def wsX9_round : List Cond := .code yX9_round cX9_round 2 (some .int) :: ([.fieldLink RX9 129 "BellTouchesModel" "last" "I", .fieldLink RX9 21 "BellTouchesModel" "key" "[I"] ++ wsX90)
def wsX9_first : List Cond := .code yX9_first cX9_first 3 (some .int) :: ([.fieldLink RX9 21 "BellTouchesModel" "key" "[I"] ++ wsX90)
def wsX9_wrongRow : List Cond := .code yX9_wrongRow cX9_wrongRow 3 (some .int) :: ([.fieldLink RX9 129 "BellTouchesModel" "last" "I", .methodLink RX9 136 yX9_first, .instanceMethod yX9_first, .selects RX9 yX9_first yX9_first, .initialized RX9, .code yX9_first cX9_first 3 (some .int), .fieldLink RX9 21 "BellTouchesModel" "key" "[I"] ++ wsX90)
def wsX9_isTrue : List Cond := .code yX9_isTrue cX9_isTrue 1 (some .int) :: ([.fieldLink RX9 129 "BellTouchesModel" "last" "I", .fieldLink RX9 21 "BellTouchesModel" "key" "[I", .methodLink RX9 139 yX9_wrongRow, .instanceMethod yX9_wrongRow, .selects RX9 yX9_wrongRow yX9_wrongRow, .initialized RX9, .code yX9_wrongRow cX9_wrongRow 3 (some .int), .methodLink RX9 136 yX9_first, .instanceMethod yX9_first, .selects RX9 yX9_first yX9_first, .code yX9_first cX9_first 3 (some .int)] ++ wsX90)
def wsX9_course : List Cond := .code yX9_course cX9_course 6 (some .int) :: ([.fieldLink RX9 9 "BellTouchesModel" "now" "[I", .fieldLink RX9 18 "BellTouchesModel" "bell" "[I", .fieldLink RX9 21 "BellTouchesModel" "key" "[I", .methodLink RX9 126 yX9_keys, .instanceMethod yX9_keys, .selects RX9 yX9_keys yX9_keys, .initialized RX9, .code yX9_keys cX9_keys 4 none, .methodLink RX9 132 yX9_goes, .instanceMethod yX9_goes, .selects RX9 yX9_goes yX9_goes, .code yX9_goes cX9_goes 5 none] ++ wsX90)
def wsX9_of : List Cond := .code yX9_of cX9_of 3 (some .int) :: ([.fieldLink RX9 9 "BellTouchesModel" "now" "[I", .methodLink RX9 56 yX9_within, .static yX9_within, .initialized RX9, .code yX9_within cX9_within 3 (some .boolean)] ++ wsX90)
def wsX9_told_r1 : List Cond := [Cond.fieldLink RX9 9 "BellTouchesModel" "now" "[I", Cond.fieldLink RX9 129 "BellTouchesModel" "last" "I", Cond.methodLink RX9 142 yX9_course, Cond.instanceMethod yX9_course, Cond.selects RX9 yX9_course yX9_course, Cond.initialized RX9, Cond.code yX9_course cX9_course 6 (some .int), Cond.fieldLink RX9 18 "BellTouchesModel" "bell" "[I", Cond.fieldLink RX9 21 "BellTouchesModel" "key" "[I", Cond.methodLink RX9 126 yX9_keys, Cond.instanceMethod yX9_keys, Cond.selects RX9 yX9_keys yX9_keys, Cond.code yX9_keys cX9_keys 4 none, Cond.methodLink RX9 132 yX9_goes, Cond.instanceMethod yX9_goes, Cond.selects RX9 yX9_goes yX9_goes, Cond.code yX9_goes cX9_goes 5 none, Cond.methodLink RX9 145 yX9_rings, Cond.instanceMethod yX9_rings, Cond.selects RX9 yX9_rings yX9_rings, Cond.code yX9_rings cX9_rings 5 none, Cond.methodLink RX9 148 yX9_round, Cond.instanceMethod yX9_round, Cond.selects RX9 yX9_round yX9_round]
def wsX9_told_r2 : List Cond := [Cond.code yX9_round cX9_round 2 (some .int), Cond.methodLink RX9 139 yX9_wrongRow, Cond.instanceMethod yX9_wrongRow, Cond.selects RX9 yX9_wrongRow yX9_wrongRow, Cond.code yX9_wrongRow cX9_wrongRow 3 (some .int), Cond.methodLink RX9 136 yX9_first, Cond.instanceMethod yX9_first, Cond.selects RX9 yX9_first yX9_first, Cond.code yX9_first cX9_first 3 (some .int), Cond.methodLink RX9 151 yX9_isTrue, Cond.instanceMethod yX9_isTrue, Cond.selects RX9 yX9_isTrue yX9_isTrue, Cond.code yX9_isTrue cX9_isTrue 1 (some .int)]
def wsX9_told : List Cond := .code yX9_told cX9_told 2 (some .int) :: ((wsX9_told_r1 ++ wsX9_told_r2) ++ wsX90)
def wsX9_isPlace : List Cond := .code yX9_isPlace cX9_isPlace 2 (some .boolean) :: ([.fieldLink RX9 9 "BellTouchesModel" "now" "[I", .methodLink RX9 56 yX9_within, .static yX9_within, .initialized RX9, .code yX9_within cX9_within 3 (some .boolean)] ++ wsX90)
def wsX9_place : List Cond := .code yX9_place cX9_place 4 (some .int) :: ([.fieldLink RX9 18 "BellTouchesModel" "bell" "[I"] ++ wsX90)
def wsX9_at : List Cond := .code yX9_at cX9_at 3 (some .int) :: ([.fieldLink RX9 129 "BellTouchesModel" "last" "I", .fieldLink RX9 18 "BellTouchesModel" "bell" "[I", .methodLink RX9 145 yX9_rings, .instanceMethod yX9_rings, .selects RX9 yX9_rings yX9_rings, .initialized RX9, .code yX9_rings cX9_rings 5 none, .fieldLink RX9 9 "BellTouchesModel" "now" "[I", .methodLink RX9 126 yX9_keys, .instanceMethod yX9_keys, .selects RX9 yX9_keys yX9_keys, .code yX9_keys cX9_keys 4 none, .fieldLink RX9 21 "BellTouchesModel" "key" "[I", .methodLink RX9 132 yX9_goes, .instanceMethod yX9_goes, .selects RX9 yX9_goes yX9_goes, .code yX9_goes cX9_goes 5 none, .methodLink RX9 56 yX9_within, .static yX9_within, .code yX9_within cX9_within 3 (some .boolean), .methodLink RX9 154 yX9_isPlace, .instanceMethod yX9_isPlace, .selects RX9 yX9_isPlace yX9_isPlace, .code yX9_isPlace cX9_isPlace 2 (some .boolean)] ++ wsX90)
def wsX9_where_r1 : List Cond := [Cond.fieldLink RX9 129 "BellTouchesModel" "last" "I", Cond.methodLink RX9 145 yX9_rings, Cond.instanceMethod yX9_rings, Cond.selects RX9 yX9_rings yX9_rings, Cond.initialized RX9, Cond.code yX9_rings cX9_rings 5 none, Cond.fieldLink RX9 9 "BellTouchesModel" "now" "[I", Cond.fieldLink RX9 18 "BellTouchesModel" "bell" "[I", Cond.methodLink RX9 126 yX9_keys, Cond.instanceMethod yX9_keys, Cond.selects RX9 yX9_keys yX9_keys, Cond.code yX9_keys cX9_keys 4 none, Cond.fieldLink RX9 21 "BellTouchesModel" "key" "[I", Cond.methodLink RX9 132 yX9_goes, Cond.instanceMethod yX9_goes, Cond.selects RX9 yX9_goes yX9_goes, Cond.code yX9_goes cX9_goes 5 none, Cond.methodLink RX9 56 yX9_within, Cond.static yX9_within, Cond.code yX9_within cX9_within 3 (some .boolean), Cond.methodLink RX9 154 yX9_isPlace, Cond.instanceMethod yX9_isPlace, Cond.selects RX9 yX9_isPlace yX9_isPlace, Cond.code yX9_isPlace cX9_isPlace 2 (some .boolean)]
def wsX9_where_r2 : List Cond := [Cond.methodLink RX9 157 yX9_place, Cond.instanceMethod yX9_place, Cond.selects RX9 yX9_place yX9_place, Cond.code yX9_place cX9_place 4 (some .int)]
def wsX9_where : List Cond := .code yX9_where cX9_where 3 (some .int) :: ((wsX9_where_r1 ++ wsX9_where_r2) ++ wsX90)
def wsX9_same : List Cond := .code yX9_same cX9_same 2 (some .int) :: ([.fieldLink RX9 129 "BellTouchesModel" "last" "I", .methodLink RX9 145 yX9_rings, .instanceMethod yX9_rings, .selects RX9 yX9_rings yX9_rings, .initialized RX9, .code yX9_rings cX9_rings 5 none, .fieldLink RX9 9 "BellTouchesModel" "now" "[I", .fieldLink RX9 18 "BellTouchesModel" "bell" "[I", .methodLink RX9 126 yX9_keys, .instanceMethod yX9_keys, .selects RX9 yX9_keys yX9_keys, .code yX9_keys cX9_keys 4 none, .fieldLink RX9 21 "BellTouchesModel" "key" "[I", .methodLink RX9 132 yX9_goes, .instanceMethod yX9_goes, .selects RX9 yX9_goes yX9_goes, .code yX9_goes cX9_goes 5 none, .methodLink RX9 56 yX9_within, .static yX9_within, .code yX9_within cX9_within 3 (some .boolean), .methodLink RX9 136 yX9_first, .instanceMethod yX9_first, .selects RX9 yX9_first yX9_first, .code yX9_first cX9_first 3 (some .int)] ++ wsX90)
def wsX9_good : List Cond := .code yX9_good cX9_good 2 (some .int) :: ([.methodLink RX9 60 yX9_areKept, .instanceMethod yX9_areKept, .selects RX9 yX9_areKept yX9_areKept, .initialized RX9, .code yX9_areKept cX9_areKept 2 (some .boolean), .fieldLink RX9 9 "BellTouchesModel" "now" "[I", .methodLink RX9 56 yX9_within, .static yX9_within, .code yX9_within cX9_within 3 (some .boolean), .methodLink RX9 64 yX9_isGood, .instanceMethod yX9_isGood, .selects RX9 yX9_isGood yX9_isGood, .code yX9_isGood cX9_isGood 3 (some .boolean)] ++ wsX90)
def wsX9_isMusic : List Cond := .code yX9_isMusic cX9_isMusic 5 (some .boolean) :: ([.fieldLink RX9 9 "BellTouchesModel" "now" "[I", .fieldLink RX9 18 "BellTouchesModel" "bell" "[I", .methodLink RX9 157 yX9_place, .instanceMethod yX9_place, .selects RX9 yX9_place yX9_place, .initialized RX9, .code yX9_place cX9_place 4 (some .int)] ++ wsX90)
def wsX9_musicOf : List Cond := .code yX9_musicOf cX9_musicOf 4 (some .int) :: ([.fieldLink RX9 129 "BellTouchesModel" "last" "I", .methodLink RX9 160 yX9_isMusic, .instanceMethod yX9_isMusic, .selects RX9 yX9_isMusic yX9_isMusic, .initialized RX9, .code yX9_isMusic cX9_isMusic 5 (some .boolean), .fieldLink RX9 9 "BellTouchesModel" "now" "[I", .fieldLink RX9 18 "BellTouchesModel" "bell" "[I", .methodLink RX9 157 yX9_place, .instanceMethod yX9_place, .selects RX9 yX9_place yX9_place, .code yX9_place cX9_place 4 (some .int)] ++ wsX90)
def wsX9_music_r1 : List Cond := [Cond.methodLink RX9 56 yX9_within, Cond.static yX9_within, Cond.initialized RX9, Cond.code yX9_within cX9_within 3 (some .boolean), Cond.methodLink RX9 145 yX9_rings, Cond.instanceMethod yX9_rings, Cond.selects RX9 yX9_rings yX9_rings, Cond.code yX9_rings cX9_rings 5 none, Cond.fieldLink RX9 9 "BellTouchesModel" "now" "[I", Cond.fieldLink RX9 18 "BellTouchesModel" "bell" "[I", Cond.fieldLink RX9 129 "BellTouchesModel" "last" "I", Cond.methodLink RX9 126 yX9_keys, Cond.instanceMethod yX9_keys, Cond.selects RX9 yX9_keys yX9_keys, Cond.code yX9_keys cX9_keys 4 none, Cond.fieldLink RX9 21 "BellTouchesModel" "key" "[I", Cond.methodLink RX9 132 yX9_goes, Cond.instanceMethod yX9_goes, Cond.selects RX9 yX9_goes yX9_goes, Cond.code yX9_goes cX9_goes 5 none, Cond.methodLink RX9 164 yX9_musicOf, Cond.instanceMethod yX9_musicOf, Cond.selects RX9 yX9_musicOf yX9_musicOf, Cond.code yX9_musicOf cX9_musicOf 4 (some .int)]
def wsX9_music_r2 : List Cond := [Cond.methodLink RX9 160 yX9_isMusic, Cond.instanceMethod yX9_isMusic, Cond.selects RX9 yX9_isMusic yX9_isMusic, Cond.code yX9_isMusic cX9_isMusic 5 (some .boolean), Cond.methodLink RX9 157 yX9_place, Cond.instanceMethod yX9_place, Cond.selects RX9 yX9_place yX9_place, Cond.code yX9_place cX9_place 4 (some .int)]
def wsX9_music : List Cond := .code yX9_music cX9_music 2 (some .int) :: ((wsX9_music_r1 ++ wsX9_music_r2) ++ wsX90)
def wsX9_least_r1 : List Cond := [Cond.fieldLink RX9 9 "BellTouchesModel" "now" "[I", Cond.methodLink RX9 56 yX9_within, Cond.static yX9_within, Cond.initialized RX9, Cond.code yX9_within cX9_within 3 (some .boolean), Cond.methodLink RX9 145 yX9_rings, Cond.instanceMethod yX9_rings, Cond.selects RX9 yX9_rings yX9_rings, Cond.code yX9_rings cX9_rings 5 none, Cond.fieldLink RX9 18 "BellTouchesModel" "bell" "[I", Cond.fieldLink RX9 129 "BellTouchesModel" "last" "I", Cond.methodLink RX9 126 yX9_keys, Cond.instanceMethod yX9_keys, Cond.selects RX9 yX9_keys yX9_keys, Cond.code yX9_keys cX9_keys 4 none, Cond.fieldLink RX9 21 "BellTouchesModel" "key" "[I", Cond.methodLink RX9 132 yX9_goes, Cond.instanceMethod yX9_goes, Cond.selects RX9 yX9_goes yX9_goes, Cond.code yX9_goes cX9_goes 5 none, Cond.methodLink RX9 151 yX9_isTrue, Cond.instanceMethod yX9_isTrue, Cond.selects RX9 yX9_isTrue yX9_isTrue, Cond.code yX9_isTrue cX9_isTrue 1 (some .int)]
def wsX9_least_r2 : List Cond := [Cond.methodLink RX9 139 yX9_wrongRow, Cond.instanceMethod yX9_wrongRow, Cond.selects RX9 yX9_wrongRow yX9_wrongRow, Cond.code yX9_wrongRow cX9_wrongRow 3 (some .int), Cond.methodLink RX9 136 yX9_first, Cond.instanceMethod yX9_first, Cond.selects RX9 yX9_first yX9_first, Cond.code yX9_first cX9_first 3 (some .int)]
def wsX9_least : List Cond := .code yX9_least cX9_least 16 (some .int) :: ((wsX9_least_r1 ++ wsX9_least_r2) ++ wsX90)
def wsX9_still_r1 : List Cond := [Cond.fieldLink RX9 129 "BellTouchesModel" "last" "I", Cond.methodLink RX9 154 yX9_isPlace, Cond.instanceMethod yX9_isPlace, Cond.selects RX9 yX9_isPlace yX9_isPlace, Cond.initialized RX9, Cond.code yX9_isPlace cX9_isPlace 2 (some .boolean), Cond.fieldLink RX9 9 "BellTouchesModel" "now" "[I", Cond.methodLink RX9 56 yX9_within, Cond.static yX9_within, Cond.code yX9_within cX9_within 3 (some .boolean), Cond.methodLink RX9 145 yX9_rings, Cond.instanceMethod yX9_rings, Cond.selects RX9 yX9_rings yX9_rings, Cond.code yX9_rings cX9_rings 5 none, Cond.fieldLink RX9 18 "BellTouchesModel" "bell" "[I", Cond.methodLink RX9 126 yX9_keys, Cond.instanceMethod yX9_keys, Cond.selects RX9 yX9_keys yX9_keys, Cond.code yX9_keys cX9_keys 4 none, Cond.fieldLink RX9 21 "BellTouchesModel" "key" "[I", Cond.methodLink RX9 132 yX9_goes, Cond.instanceMethod yX9_goes, Cond.selects RX9 yX9_goes yX9_goes, Cond.code yX9_goes cX9_goes 5 none]
def wsX9_still_r2 : List Cond := [Cond.methodLink RX9 157 yX9_place, Cond.instanceMethod yX9_place, Cond.selects RX9 yX9_place yX9_place, Cond.code yX9_place cX9_place 4 (some .int)]
def wsX9_still : List Cond := .code yX9_still cX9_still 4 (some .int) :: ((wsX9_still_r1 ++ wsX9_still_r2) ++ wsX90)
def wsX9_ahead_r1 : List Cond := [Cond.fieldLink RX9 129 "BellTouchesModel" "last" "I", Cond.methodLink RX9 154 yX9_isPlace, Cond.instanceMethod yX9_isPlace, Cond.selects RX9 yX9_isPlace yX9_isPlace, Cond.initialized RX9, Cond.code yX9_isPlace cX9_isPlace 2 (some .boolean), Cond.fieldLink RX9 9 "BellTouchesModel" "now" "[I", Cond.methodLink RX9 56 yX9_within, Cond.static yX9_within, Cond.code yX9_within cX9_within 3 (some .boolean), Cond.methodLink RX9 145 yX9_rings, Cond.instanceMethod yX9_rings, Cond.selects RX9 yX9_rings yX9_rings, Cond.code yX9_rings cX9_rings 5 none, Cond.fieldLink RX9 18 "BellTouchesModel" "bell" "[I", Cond.methodLink RX9 126 yX9_keys, Cond.instanceMethod yX9_keys, Cond.selects RX9 yX9_keys yX9_keys, Cond.code yX9_keys cX9_keys 4 none, Cond.fieldLink RX9 21 "BellTouchesModel" "key" "[I", Cond.methodLink RX9 132 yX9_goes, Cond.instanceMethod yX9_goes, Cond.selects RX9 yX9_goes yX9_goes, Cond.code yX9_goes cX9_goes 5 none]
def wsX9_ahead_r2 : List Cond := [Cond.methodLink RX9 157 yX9_place, Cond.instanceMethod yX9_place, Cond.selects RX9 yX9_place yX9_place, Cond.code yX9_place cX9_place 4 (some .int)]
def wsX9_ahead : List Cond := .code yX9_ahead cX9_ahead 5 (some .int) :: ((wsX9_ahead_r1 ++ wsX9_ahead_r2) ++ wsX90)
def wsX9_see : List Cond := .code yX9_see cX9_see 5 (some .int) :: ([.fieldLink RX9 9 "BellTouchesModel" "now" "[I", .methodLink RX9 56 yX9_within, .static yX9_within, .initialized RX9, .code yX9_within cX9_within 3 (some .boolean), .methodLink RX9 154 yX9_isPlace, .instanceMethod yX9_isPlace, .selects RX9 yX9_isPlace yX9_isPlace, .code yX9_isPlace cX9_isPlace 2 (some .boolean)] ++ wsX90)
def wsX9_isSeen : List Cond := .code yX9_isSeen cX9_isSeen 3 (some .boolean) :: ([.fieldLink RX9 9 "BellTouchesModel" "now" "[I", .fieldLink RX9 129 "BellTouchesModel" "last" "I", .fieldLink RX9 18 "BellTouchesModel" "bell" "[I"] ++ wsX90)
def wsX9_fits_r1 : List Cond := [Cond.fieldLink RX9 9 "BellTouchesModel" "now" "[I", Cond.methodLink RX9 56 yX9_within, Cond.static yX9_within, Cond.initialized RX9, Cond.code yX9_within cX9_within 3 (some .boolean), Cond.methodLink RX9 64 yX9_isGood, Cond.instanceMethod yX9_isGood, Cond.selects RX9 yX9_isGood yX9_isGood, Cond.code yX9_isGood cX9_isGood 3 (some .boolean), Cond.methodLink RX9 145 yX9_rings, Cond.instanceMethod yX9_rings, Cond.selects RX9 yX9_rings yX9_rings, Cond.code yX9_rings cX9_rings 5 none, Cond.fieldLink RX9 18 "BellTouchesModel" "bell" "[I", Cond.fieldLink RX9 129 "BellTouchesModel" "last" "I", Cond.methodLink RX9 126 yX9_keys, Cond.instanceMethod yX9_keys, Cond.selects RX9 yX9_keys yX9_keys, Cond.code yX9_keys cX9_keys 4 none, Cond.fieldLink RX9 21 "BellTouchesModel" "key" "[I", Cond.methodLink RX9 132 yX9_goes, Cond.instanceMethod yX9_goes, Cond.selects RX9 yX9_goes yX9_goes, Cond.code yX9_goes cX9_goes 5 none]
def wsX9_fits_r2 : List Cond := [Cond.methodLink RX9 167 yX9_isSeen, Cond.instanceMethod yX9_isSeen, Cond.selects RX9 yX9_isSeen yX9_isSeen, Cond.code yX9_isSeen cX9_isSeen 3 (some .boolean)]
def wsX9_fits : List Cond := .code yX9_fits cX9_fits 7 (some .int) :: ((wsX9_fits_r1 ++ wsX9_fits_r2) ++ wsX90)
def wsX9_lowest : List Cond := .code yX9_lowest cX9_lowest 6 (some .long) :: ([])
def wsX9_odds_r1 : List Cond := [Cond.constantLong RX9 170 (-9223372036854775808), Cond.fieldLink RX9 129 "BellTouchesModel" "last" "I", Cond.methodLink RX9 154 yX9_isPlace, Cond.instanceMethod yX9_isPlace, Cond.selects RX9 yX9_isPlace yX9_isPlace, Cond.initialized RX9, Cond.code yX9_isPlace cX9_isPlace 2 (some .boolean), Cond.fieldLink RX9 9 "BellTouchesModel" "now" "[I", Cond.methodLink RX9 56 yX9_within, Cond.static yX9_within, Cond.code yX9_within cX9_within 3 (some .boolean), Cond.methodLink RX9 145 yX9_rings, Cond.instanceMethod yX9_rings, Cond.selects RX9 yX9_rings yX9_rings, Cond.code yX9_rings cX9_rings 5 none, Cond.fieldLink RX9 18 "BellTouchesModel" "bell" "[I", Cond.methodLink RX9 126 yX9_keys, Cond.instanceMethod yX9_keys, Cond.selects RX9 yX9_keys yX9_keys, Cond.code yX9_keys cX9_keys 4 none, Cond.fieldLink RX9 21 "BellTouchesModel" "key" "[I", Cond.methodLink RX9 132 yX9_goes, Cond.instanceMethod yX9_goes, Cond.selects RX9 yX9_goes yX9_goes]
def wsX9_odds_r2 : List Cond := [Cond.code yX9_goes cX9_goes 5 none, Cond.methodLink RX9 157 yX9_place, Cond.instanceMethod yX9_place, Cond.selects RX9 yX9_place yX9_place, Cond.code yX9_place cX9_place 4 (some .int), Cond.methodLink RX9 172 yX9_lowest, Cond.static yX9_lowest, Cond.code yX9_lowest cX9_lowest 6 (some .long)]
def wsX9_odds : List Cond := .code yX9_odds cX9_odds 6 (some .long) :: ((wsX9_odds_r1 ++ wsX9_odds_r2) ++ wsX90)
def wsX9_mean_r1 : List Cond := [Cond.constantLong RX9 170 (-9223372036854775808), Cond.fieldLink RX9 129 "BellTouchesModel" "last" "I", Cond.methodLink RX9 56 yX9_within, Cond.static yX9_within, Cond.initialized RX9, Cond.code yX9_within cX9_within 3 (some .boolean), Cond.methodLink RX9 145 yX9_rings, Cond.instanceMethod yX9_rings, Cond.selects RX9 yX9_rings yX9_rings, Cond.code yX9_rings cX9_rings 5 none, Cond.fieldLink RX9 9 "BellTouchesModel" "now" "[I", Cond.fieldLink RX9 18 "BellTouchesModel" "bell" "[I", Cond.methodLink RX9 126 yX9_keys, Cond.instanceMethod yX9_keys, Cond.selects RX9 yX9_keys yX9_keys, Cond.code yX9_keys cX9_keys 4 none, Cond.fieldLink RX9 21 "BellTouchesModel" "key" "[I", Cond.methodLink RX9 132 yX9_goes, Cond.instanceMethod yX9_goes, Cond.selects RX9 yX9_goes yX9_goes, Cond.code yX9_goes cX9_goes 5 none, Cond.methodLink RX9 164 yX9_musicOf, Cond.instanceMethod yX9_musicOf, Cond.selects RX9 yX9_musicOf yX9_musicOf]
def wsX9_mean_r2 : List Cond := [Cond.code yX9_musicOf cX9_musicOf 4 (some .int), Cond.methodLink RX9 160 yX9_isMusic, Cond.instanceMethod yX9_isMusic, Cond.selects RX9 yX9_isMusic yX9_isMusic, Cond.code yX9_isMusic cX9_isMusic 5 (some .boolean), Cond.methodLink RX9 157 yX9_place, Cond.instanceMethod yX9_place, Cond.selects RX9 yX9_place yX9_place, Cond.code yX9_place cX9_place 4 (some .int), Cond.methodLink RX9 172 yX9_lowest, Cond.static yX9_lowest, Cond.code yX9_lowest cX9_lowest 6 (some .long)]
def wsX9_mean : List Cond := .code yX9_mean cX9_mean 4 (some .long) :: ((wsX9_mean_r1 ++ wsX9_mean_r2) ++ wsX90)
def wsX9_event : List Cond := .code yX9_event cX9_event 3 (some .int) :: ([.fieldLink RX9 9 "BellTouchesModel" "now" "[I", .methodLink RX9 56 yX9_within, .static yX9_within, .initialized RX9, .code yX9_within cX9_within 3 (some .boolean)] ++ wsX90)
def wsX9_after_r1 : List Cond := [Cond.fieldLink RX9 9 "BellTouchesModel" "now" "[I", Cond.methodLink RX9 176 Lib.Math.max.name, Cond.static Lib.Math.max.name, Cond.initialized "java/lang/Math", Cond.code Lib.Math.max.name Lib.Math.max.code 2 (some .int), Cond.methodLink RX9 56 yX9_within, Cond.static yX9_within, Cond.initialized RX9, Cond.code yX9_within cX9_within 3 (some .boolean), Cond.methodLink RX9 145 yX9_rings, Cond.instanceMethod yX9_rings, Cond.selects RX9 yX9_rings yX9_rings, Cond.code yX9_rings cX9_rings 5 none, Cond.fieldLink RX9 18 "BellTouchesModel" "bell" "[I", Cond.fieldLink RX9 129 "BellTouchesModel" "last" "I", Cond.methodLink RX9 126 yX9_keys, Cond.instanceMethod yX9_keys, Cond.selects RX9 yX9_keys yX9_keys, Cond.code yX9_keys cX9_keys 4 none, Cond.fieldLink RX9 21 "BellTouchesModel" "key" "[I", Cond.methodLink RX9 132 yX9_goes, Cond.instanceMethod yX9_goes, Cond.selects RX9 yX9_goes yX9_goes, Cond.code yX9_goes cX9_goes 5 none]
def wsX9_after_r2 : List Cond := [Cond.methodLink RX9 148 yX9_round, Cond.instanceMethod yX9_round, Cond.selects RX9 yX9_round yX9_round, Cond.code yX9_round cX9_round 2 (some .int), Cond.methodLink RX9 139 yX9_wrongRow, Cond.instanceMethod yX9_wrongRow, Cond.selects RX9 yX9_wrongRow yX9_wrongRow, Cond.code yX9_wrongRow cX9_wrongRow 3 (some .int), Cond.methodLink RX9 136 yX9_first, Cond.instanceMethod yX9_first, Cond.selects RX9 yX9_first yX9_first, Cond.code yX9_first cX9_first 3 (some .int), Cond.methodLink RX9 151 yX9_isTrue, Cond.instanceMethod yX9_isTrue, Cond.selects RX9 yX9_isTrue yX9_isTrue, Cond.code yX9_isTrue cX9_isTrue 1 (some .int)]
def wsX9_after : List Cond := .code yX9_after cX9_after 7 (some .int) :: ((wsX9_after_r1 ++ wsX9_after_r2) ++ wsX90)
def wsX9_book : List Cond := .code yX9_book cX9_book 3 (some .int) :: ([.fieldLink RX9 9 "BellTouchesModel" "now" "[I", .methodLink RX9 56 yX9_within, .static yX9_within, .initialized RX9, .code yX9_within cX9_within 3 (some .boolean), .methodLink RX9 154 yX9_isPlace, .instanceMethod yX9_isPlace, .selects RX9 yX9_isPlace yX9_isPlace, .code yX9_isPlace cX9_isPlace 2 (some .boolean)] ++ wsX90)
def wsX9_looked : List Cond := .code yX9_looked cX9_looked 3 (some .int) :: ([.fieldLink RX9 9 "BellTouchesModel" "now" "[I", .fieldLink RX9 129 "BellTouchesModel" "last" "I", .fieldLink RX9 18 "BellTouchesModel" "bell" "[I", .methodLink RX9 145 yX9_rings, .instanceMethod yX9_rings, .selects RX9 yX9_rings yX9_rings, .initialized RX9, .code yX9_rings cX9_rings 5 none, .methodLink RX9 126 yX9_keys, .instanceMethod yX9_keys, .selects RX9 yX9_keys yX9_keys, .code yX9_keys cX9_keys 4 none, .fieldLink RX9 21 "BellTouchesModel" "key" "[I", .methodLink RX9 132 yX9_goes, .instanceMethod yX9_goes, .selects RX9 yX9_goes yX9_goes, .code yX9_goes cX9_goes 5 none] ++ wsX90)
def wsX9_isTape : List Cond := .code yX9_isTape cX9_isTape 1 (some .boolean) :: ([.methodLink RX9 56 yX9_within, .static yX9_within, .initialized RX9, .code yX9_within cX9_within 3 (some .boolean)])
def wsX9_judge_r1 : List Cond := [Cond.fieldLink RX9 129 "BellTouchesModel" "last" "I", Cond.fieldLink RX9 39 "BellTouchesModel" "sort" "[I", Cond.fieldLink RX9 9 "BellTouchesModel" "now" "[I", Cond.fieldLink RX9 42 "BellTouchesModel" "long1" "[I", Cond.fieldLink RX9 45 "BellTouchesModel" "items" "[J", Cond.fieldLink RX9 18 "BellTouchesModel" "bell" "[I", Cond.methodLink RX9 145 yX9_rings, Cond.instanceMethod yX9_rings, Cond.selects RX9 yX9_rings yX9_rings, Cond.initialized RX9, Cond.code yX9_rings cX9_rings 5 none, Cond.methodLink RX9 126 yX9_keys, Cond.instanceMethod yX9_keys, Cond.selects RX9 yX9_keys yX9_keys, Cond.code yX9_keys cX9_keys 4 none, Cond.fieldLink RX9 21 "BellTouchesModel" "key" "[I", Cond.methodLink RX9 132 yX9_goes, Cond.instanceMethod yX9_goes, Cond.selects RX9 yX9_goes yX9_goes, Cond.code yX9_goes cX9_goes 5 none, Cond.methodLink RX9 56 yX9_within, Cond.static yX9_within, Cond.code yX9_within cX9_within 3 (some .boolean), Cond.methodLink RX9 181 yX9_isTape]
def wsX9_judge_r2 : List Cond := [Cond.static yX9_isTape, Cond.code yX9_isTape cX9_isTape 1 (some .boolean)]
def wsX9_judge : List Cond := .code yX9_judge cX9_judge 5 (some .int) :: ((wsX9_judge_r1 ++ wsX9_judge_r2) ++ wsX90)
def wsX9_image : List Cond := .code yX9_image cX9_image 2 (some .int) :: ([.fieldLink RX9 184 "BellTouchesModel" "imaged" "Z", .fieldLink RX9 15 "BellTouchesModel" "old" "[I", .fieldLink RX9 9 "BellTouchesModel" "now" "[I"] ++ wsX90)
def wsX9_undo : List Cond := .code yX9_undo cX9_undo 2 (some .int) :: ([.fieldLink RX9 184 "BellTouchesModel" "imaged" "Z", .fieldLink RX9 9 "BellTouchesModel" "now" "[I", .fieldLink RX9 15 "BellTouchesModel" "old" "[I"] ++ wsX90)
def wsX9_count : List Cond := .code yX9_count cX9_count 2 (some .int) :: ([.fieldLink RX9 9 "BellTouchesModel" "now" "[I", .fieldLink RX9 71 "BellTouchesModel" "texts" "I", .methodLink RX9 56 yX9_within, .static yX9_within, .initialized RX9, .code yX9_within cX9_within 3 (some .boolean)] ++ wsX90)
def wsX9_tape : List Cond := .code yX9_tape cX9_tape 5 (some .int) :: ([.fieldLink RX9 39 "BellTouchesModel" "sort" "[I", .fieldLink RX9 42 "BellTouchesModel" "long1" "[I", .fieldLink RX9 45 "BellTouchesModel" "items" "[J", .methodLink RX9 181 yX9_isTape, .static yX9_isTape, .initialized RX9, .code yX9_isTape cX9_isTape 1 (some .boolean), .methodLink RX9 56 yX9_within, .static yX9_within, .code yX9_within cX9_within 3 (some .boolean)] ++ wsX90)
def wsX9_item : List Cond := .code yX9_item cX9_item 6 (some .int) :: ([.fieldLink RX9 39 "BellTouchesModel" "sort" "[I", .fieldLink RX9 42 "BellTouchesModel" "long1" "[I", .fieldLink RX9 45 "BellTouchesModel" "items" "[J", .methodLink RX9 181 yX9_isTape, .static yX9_isTape, .initialized RX9, .code yX9_isTape cX9_isTape 1 (some .boolean), .methodLink RX9 56 yX9_within, .static yX9_within, .code yX9_within cX9_within 3 (some .boolean)] ++ wsX90)
def wsX9_peek : List Cond := .code yX9_peek cX9_peek 3 (some .long) :: ([.fieldLink RX9 42 "BellTouchesModel" "long1" "[I", .fieldLink RX9 45 "BellTouchesModel" "items" "[J", .constantLong RX9 170 (-9223372036854775808), .methodLink RX9 181 yX9_isTape, .static yX9_isTape, .initialized RX9, .code yX9_isTape cX9_isTape 1 (some .boolean), .methodLink RX9 56 yX9_within, .static yX9_within, .code yX9_within cX9_within 3 (some .boolean)] ++ wsX90)
def wsX9_shift : List Cond := .code yX9_shift cX9_shift 7 (some .int) :: ([.fieldLink RX9 39 "BellTouchesModel" "sort" "[I", .fieldLink RX9 42 "BellTouchesModel" "long1" "[I", .fieldLink RX9 49 "BellTouchesModel" "moved" "[J", .fieldLink RX9 45 "BellTouchesModel" "items" "[J", .methodLink RX9 181 yX9_isTape, .static yX9_isTape, .initialized RX9, .code yX9_isTape cX9_isTape 1 (some .boolean), .methodLink RX9 56 yX9_within, .static yX9_within, .code yX9_within cX9_within 3 (some .boolean)] ++ wsX90)
def wsJ9_max_7cf53 : List Cond := .code yJ9_max_7cf53 cJ9_max_7cf53 2 (some .int) :: ([])
def wsL_law_r1 : List Cond := [Cond.classLink RL 7 RX8, Cond.instantiable RX8 10, Cond.initialized RX8, Cond.classLink RL 10 RX9, Cond.instantiable RX9 20, Cond.initialized RX9, Cond.constantLong RL 143 (4294967295), Cond.methodLink RL 9 yX8_init, Cond.instanceMethod yX8_init, Cond.code yX8_init cX8_init 2 none, Cond.methodLink RX8 5 objectInit, Cond.instanceMethod objectInit, Cond.code objectInit ⟨#[0xb1]⟩ 1 none, Cond.classLink RX8 11 RX4, Cond.instantiable RX4 11, Cond.initialized RX4, Cond.fieldLink RX8 14 "BellTouches" "setup" "LBellTouches$Setup;", Cond.fieldLink RX8 18 "BellTouches" "kept" "LBellTouches$Setup;", Cond.fieldLink RX8 21 "BellTouches" "trialSetup" "LBellTouches$Setup;", Cond.classLink RX8 24 RX7, Cond.instantiable RX7 8, Cond.initialized RX7, Cond.fieldLink RX8 27 "BellTouches" "touch" "LBellTouches$Touch;", Cond.fieldLink RX8 31 "BellTouches" "trial" "LBellTouches$Touch;"]
def wsL_law_r2 : List Cond := [Cond.classLink RX8 34 RX0, Cond.instantiable RX0 7, Cond.initialized RX0, Cond.fieldLink RX8 37 "BellTouches" "fewest" "LBellTouches$Fewest;", Cond.classLink RX8 41 RX5, Cond.instantiable RX5 8, Cond.initialized RX5, Cond.fieldLink RX8 44 "BellTouches" "text" "LBellTouches$SetupText;", Cond.classLink RX8 48 RX6, Cond.fieldLink RX8 50 "BellTouches" "tapes" "[LBellTouches$Tape;", Cond.fieldLink RX8 54 "BellTouches" "hasImage" "Z", Cond.fieldLink RX8 58 "BellTouches" "stale" "Z", Cond.instantiable RX6 3, Cond.initialized RX6, Cond.instanceMethod yX4_init, Cond.code yX4_init cX4_init 1 none, Cond.methodLink RX4 3 objectInit, Cond.fieldLink RX4 9 "BellTouches$Setup" "n" "I", Cond.arrayClass .int, Cond.fieldLink RX4 15 "BellTouches$Setup" "changes" "[I", Cond.fieldLink RX4 19 "BellTouches$Setup" "changeCount" "I", Cond.fieldLink RX4 22 "BellTouches$Setup" "bob" "I", Cond.fieldLink RX4 25 "BellTouches$Setup" "single" "I", Cond.fieldLink RX4 28 "BellTouches$Setup" "leadCalls" "[I"]
def wsL_law_r3 : List Cond := [Cond.fieldLink RX4 31 "BellTouches$Setup" "leadCount" "I", Cond.fieldLink RX4 34 "BellTouches$Setup" "patternBells" "[I", Cond.classLink RX4 37 RX1, Cond.instantiable RX1 4, Cond.initialized RX1, Cond.fieldLink RX4 42 "BellTouches$Setup" "seen" "LBellTouches$HandRows;", Cond.fieldLink RX4 46 "BellTouches$Setup" "events" "LBellTouches$HandRows;", Cond.fieldLink RX4 49 "BellTouches$Setup" "book" "LBellTouches$HandRows;", Cond.methodLink RX4 39 yX1_init, Cond.instanceMethod yX1_init, Cond.code yX1_init cX1_init 3 none, Cond.methodLink RX1 1 objectInit, Cond.fieldLink RX1 7 "BellTouches$HandRows" "size" "I", Cond.fieldLink RX1 13 "BellTouches$HandRows" "first" "[I", Cond.fieldLink RX1 17 "BellTouches$HandRows" "second" "[I", Cond.fieldLink RX1 20 "BellTouches$HandRows" "third" "[I", Cond.instanceMethod yX7_init, Cond.code yX7_init cX7_init 1 none, Cond.methodLink RX7 3 objectInit, Cond.fieldLink RX7 9 "BellTouches$Touch" "rows" "[I", Cond.fieldLink RX7 15 "BellTouches$Touch" "last" "I", Cond.fieldLink RX7 19 "BellTouches$Touch" "changeCount" "I", Cond.fieldLink RX7 22 "BellTouches$Touch" "pairs" "[I", Cond.fieldLink RX7 25 "BellTouches$Touch" "lastPairs" "[I"]
def wsL_law_r4 : List Cond := [Cond.fieldLink RX7 28 "BellTouches$Touch" "firsts" "[I", Cond.classLink RX7 31 RX3, Cond.instantiable RX3 1, Cond.initialized RX3, Cond.fieldLink RX7 34 "BellTouches$Touch" "table" "LBellTouches$RowTable;", Cond.fieldLink RX7 38 "BellTouches$Touch" "compared" "Z", Cond.instanceMethod yX3_init, Cond.code yX3_init cX3_init 1 none, Cond.methodLink RX3 3 objectInit, Cond.fieldLink RX3 9 "BellTouches$RowTable" "numbers" "[I", Cond.instanceMethod yX0_init, Cond.code yX0_init cX0_init 1 none, Cond.methodLink RX0 3 objectInit, Cond.fieldLink RX0 9 "BellTouches$Fewest" "number" "I", Cond.fieldLink RX0 15 "BellTouches$Fewest" "notPlain" "I", Cond.classLink RX0 18 RX7, Cond.fieldLink RX0 21 "BellTouches$Fewest" "touch" "LBellTouches$Touch;", Cond.classLink RX0 25 RX3, Cond.fieldLink RX0 28 "BellTouches$Fewest" "table" "LBellTouches$RowTable;", Cond.arrayClass .boolean, Cond.fieldLink RX0 32 "BellTouches$Fewest" "thereIs" "[Z", Cond.fieldLink RX0 36 "BellTouches$Fewest" "leadCount" "I", Cond.fieldLink RX0 39 "BellTouches$Fewest" "bound" "I", Cond.instanceMethod yX5_init]
def wsL_law_r5 : List Cond := [Cond.code yX5_init cX5_init 1 none, Cond.methodLink RX5 3 objectInit, Cond.fieldLink RX5 9 "BellTouches$SetupText" "length" "I", Cond.arrayClass .byte, Cond.fieldLink RX5 15 "BellTouches$SetupText" "signs" "[B", Cond.fieldLink RX5 19 "BellTouches$SetupText" "place" "I", Cond.fieldLink RX5 22 "BellTouches$SetupText" "kinds" "[I", Cond.fieldLink RX5 26 "BellTouches$SetupText" "starts" "[I", Cond.fieldLink RX5 29 "BellTouches$SetupText" "clauseCount" "I", Cond.fieldLink RX5 32 "BellTouches$SetupText" "values" "[I", Cond.fieldLink RX5 35 "BellTouches$SetupText" "valueCount" "I", Cond.instanceMethod yX6_init, Cond.code yX6_init cX6_init 1 none, Cond.methodLink RX6 3 objectInit, Cond.fieldLink RX6 9 "BellTouches$Tape" "sort" "I", Cond.fieldLink RX6 15 "BellTouches$Tape" "length" "I", Cond.arrayClass .long, Cond.fieldLink RX6 18 "BellTouches$Tape" "items" "[J", Cond.methodLink RL 12 yX9_init, Cond.instanceMethod yX9_init, Cond.code yX9_init cX9_init 1 none, Cond.methodLink RX9 3 objectInit, Cond.fieldLink RX9 9 "BellTouchesModel" "now" "[I", Cond.fieldLink RX9 15 "BellTouchesModel" "old" "[I"]
def wsL_law_r6 : List Cond := [Cond.fieldLink RX9 18 "BellTouchesModel" "bell" "[I", Cond.fieldLink RX9 21 "BellTouchesModel" "key" "[I", Cond.fieldLink RX9 24 "BellTouchesModel" "text" "[I", Cond.fieldLink RX9 27 "BellTouchesModel" "clause" "[I", Cond.fieldLink RX9 30 "BellTouchesModel" "from" "[I", Cond.fieldLink RX9 33 "BellTouchesModel" "many" "[I", Cond.fieldLink RX9 36 "BellTouchesModel" "number" "[I", Cond.fieldLink RX9 39 "BellTouchesModel" "sort" "[I", Cond.fieldLink RX9 42 "BellTouchesModel" "long1" "[I", Cond.fieldLink RX9 45 "BellTouchesModel" "items" "[J", Cond.fieldLink RX9 49 "BellTouchesModel" "moved" "[J", Cond.methodLink RX9 52 yX9_begins, Cond.instanceMethod yX9_begins, Cond.selects RX9 yX9_begins yX9_begins, Cond.code yX9_begins cX9_begins 3 none, Cond.methodLink RL 13 yX8_bells, Cond.instanceMethod yX8_bells, Cond.selects RX8 yX8_bells yX8_bells, Cond.code yX8_bells cX8_bells 3 (some .int), Cond.fieldLink RX8 62 "BellTouches$Setup" "n" "I", Cond.methodLink RX8 66 yX4_begin, Cond.instanceMethod yX4_begin, Cond.selects RX4 yX4_begin yX4_begin, Cond.code yX4_begin cX4_begin 3 none]
def wsL_law_r7 : List Cond := [Cond.fieldLink RX4 52 "BellTouches$HandRows" "size" "I", Cond.methodLink RL 17 yX9_bells, Cond.instanceMethod yX9_bells, Cond.selects RX9 yX9_bells yX9_bells, Cond.code yX9_bells cX9_bells 3 (some .int), Cond.methodLink RX9 56 yX9_within, Cond.static yX9_within, Cond.code yX9_within cX9_within 3 (some .boolean), Cond.methodLink RL 18 yX8_change, Cond.instanceMethod yX8_change, Cond.selects RX8 yX8_change yX8_change, Cond.code yX8_change cX8_change 2 (some .int), Cond.fieldLink RX8 80 "BellTouches$Setup" "changeCount" "I", Cond.fieldLink RX8 83 "BellTouches$Setup" "changes" "[I", Cond.methodLink RX8 70 yX8_isPlaces, Cond.instanceMethod yX8_isPlaces, Cond.selects RX8 yX8_isPlaces yX8_isPlaces, Cond.code yX8_isPlaces cX8_isPlaces 2 (some .boolean), Cond.methodLink RX8 74 yX2_isGood, Cond.static yX2_isGood, Cond.initialized RX2, Cond.code yX2_isGood cX2_isGood 2 (some .boolean), Cond.methodLink RX2 18 yX2_pairs, Cond.static yX2_pairs]
def wsL_law_r8 : List Cond := [Cond.code yX2_pairs cX2_pairs 4 (some .int), Cond.methodLink RX2 21 yX2_isKept, Cond.static yX2_isKept, Cond.code yX2_isKept cX2_isKept 2 (some .boolean), Cond.methodLink RL 21 yX9_change, Cond.instanceMethod yX9_change, Cond.selects RX9 yX9_change yX9_change, Cond.code yX9_change cX9_change 2 (some .int), Cond.methodLink RX9 60 yX9_areKept, Cond.instanceMethod yX9_areKept, Cond.selects RX9 yX9_areKept yX9_areKept, Cond.code yX9_areKept cX9_areKept 2 (some .boolean), Cond.methodLink RX9 64 yX9_isGood, Cond.instanceMethod yX9_isGood, Cond.selects RX9 yX9_isGood yX9_isGood, Cond.code yX9_isGood cX9_isGood 3 (some .boolean), Cond.methodLink RL 22 yX8_calls, Cond.instanceMethod yX8_calls, Cond.selects RX8 yX8_calls yX8_calls, Cond.code yX8_calls cX8_calls 4 (some .int), Cond.methodLink RX8 87 yX4_calledChange, Cond.instanceMethod yX4_calledChange, Cond.selects RX4 yX4_calledChange yX4_calledChange, Cond.code yX4_calledChange cX4_calledChange 2 (some .int)]
def wsL_law_r9 : List Cond := [Cond.methodLink RX8 91 yX4_setCalledChange, Cond.instanceMethod yX4_setCalledChange, Cond.selects RX4 yX4_setCalledChange yX4_setCalledChange, Cond.code yX4_setCalledChange cX4_setCalledChange 3 none, Cond.methodLink RL 26 yX9_calls, Cond.instanceMethod yX9_calls, Cond.selects RX9 yX9_calls yX9_calls, Cond.code yX9_calls cX9_calls 3 (some .int), Cond.methodLink RX9 67 yX9_becomes, Cond.instanceMethod yX9_becomes, Cond.selects RX9 yX9_becomes yX9_becomes, Cond.code yX9_becomes cX9_becomes 4 (some .int), Cond.methodLink RL 27 yX8_call, Cond.instanceMethod yX8_call, Cond.selects RX8 yX8_call yX8_call, Cond.code yX8_call cX8_call 4 (some .int), Cond.fieldLink RX8 98 "BellTouches$Setup" "leadCalls" "[I", Cond.methodLink RX8 95 yX8_isLead, Cond.static yX8_isLead, Cond.code yX8_isLead cX8_isLead 1 (some .boolean), Cond.methodLink RL 30 yX9_call, Cond.instanceMethod yX9_call, Cond.selects RX9 yX9_call yX9_call, Cond.code yX9_call cX9_call 3 (some .int)]
def wsL_law_r10 : List Cond := [Cond.methodLink RL 31 yX8_leads, Cond.instanceMethod yX8_leads, Cond.selects RX8 yX8_leads yX8_leads, Cond.code yX8_leads cX8_leads 3 (some .int), Cond.fieldLink RX8 101 "BellTouches$Setup" "leadCount" "I", Cond.methodLink RL 34 yX9_leads, Cond.instanceMethod yX9_leads, Cond.selects RX9 yX9_leads yX9_leads, Cond.code yX9_leads cX9_leads 2 (some .int), Cond.methodLink RL 35 yX8_pattern, Cond.instanceMethod yX8_pattern, Cond.selects RX8 yX8_pattern yX8_pattern, Cond.code yX8_pattern cX8_pattern 4 (some .int), Cond.fieldLink RX8 104 "BellTouches$Setup" "patternBells" "[I", Cond.methodLink RL 38 yX9_pattern, Cond.instanceMethod yX9_pattern, Cond.selects RX9 yX9_pattern yX9_pattern, Cond.code yX9_pattern cX9_pattern 3 (some .int), Cond.methodLink RL 39 yX8_feed, Cond.instanceMethod yX8_feed, Cond.selects RX8 yX8_feed yX8_feed, Cond.code yX8_feed cX8_feed 2 (some .int), Cond.fieldLink RX8 110 "BellTouches$SetupText" "length" "I", Cond.methodLink RX8 107 yX5_append]
def wsL_law_r11 : List Cond := [Cond.instanceMethod yX5_append, Cond.selects RX5 yX5_append yX5_append, Cond.code yX5_append cX5_append 2 (some .boolean), Cond.methodLink RL 42 yX9_feed, Cond.instanceMethod yX9_feed, Cond.selects RX9 yX9_feed yX9_feed, Cond.code yX9_feed cX9_feed 2 (some .int), Cond.fieldLink RX9 71 "BellTouchesModel" "texts" "I", Cond.methodLink RL 43 yX8_read, Cond.instanceMethod yX8_read, Cond.selects RX8 yX8_read yX8_read, Cond.code yX8_read cX8_read 2 (some .int), Cond.methodLink RX8 113 yX5_parse, Cond.instanceMethod yX5_parse, Cond.selects RX5 yX5_parse yX5_parse, Cond.code yX5_parse cX5_parse 2 (some .int), Cond.methodLink RX5 38 yX5_next, Cond.instanceMethod yX5_next, Cond.selects RX5 yX5_next yX5_next, Cond.code yX5_next cX5_next 1 (some .int), Cond.methodLink RX5 42 yX5_parseClause, Cond.instanceMethod yX5_parseClause, Cond.selects RX5 yX5_parseClause yX5_parseClause, Cond.code yX5_parseClause cX5_parseClause 2 (some .boolean)]
def wsL_law_r12 : List Cond := [Cond.methodLink RX5 46 yX5_parseDigit, Cond.instanceMethod yX5_parseDigit, Cond.selects RX5 yX5_parseDigit yX5_parseDigit, Cond.code yX5_parseDigit cX5_parseDigit 2 (some .boolean), Cond.methodLink RX5 58 yX5_keep, Cond.instanceMethod yX5_keep, Cond.selects RX5 yX5_keep yX5_keep, Cond.code yX5_keep cX5_keep 2 none, Cond.methodLink RX5 49 yX5_parseWords, Cond.instanceMethod yX5_parseWords, Cond.selects RX5 yX5_parseWords yX5_parseWords, Cond.code yX5_parseWords cX5_parseWords 3 (some .boolean), Cond.methodLink RX5 52 yX5_parseWord, Cond.instanceMethod yX5_parseWord, Cond.selects RX5 yX5_parseWord yX5_parseWord, Cond.code yX5_parseWord cX5_parseWord 3 (some .boolean), Cond.methodLink RX5 62 yX5_isPlaceSign, Cond.static yX5_isPlaceSign, Cond.code yX5_isPlaceSign cX5_isPlaceSign 1 (some .boolean), Cond.methodLink RX5 55 yX5_parseCalls, Cond.instanceMethod yX5_parseCalls, Cond.selects RX5 yX5_parseCalls yX5_parseCalls, Cond.code yX5_parseCalls cX5_parseCalls 2 (some .boolean), Cond.methodLink RX5 66 yX5_callOf]
def wsL_law_r13 : List Cond := [Cond.static yX5_callOf, Cond.code yX5_callOf cX5_callOf 1 (some .int), Cond.methodLink RX8 117 yX5_perform, Cond.instanceMethod yX5_perform, Cond.selects RX5 yX5_perform yX5_perform, Cond.code yX5_perform cX5_perform 4 (some .int), Cond.methodLink RX5 70 yX5_performClause, Cond.instanceMethod yX5_performClause, Cond.selects RX5 yX5_performClause yX5_performClause, Cond.code yX5_performClause cX5_performClause 5 (some .boolean), Cond.methodLink RX5 74 yX5_beginBells, Cond.static yX5_beginBells, Cond.code yX5_beginBells cX5_beginBells 2 (some .boolean), Cond.methodLink RX5 88 yX4_begin, Cond.methodLink RX5 78 yX5_setMethod, Cond.instanceMethod yX5_setMethod, Cond.selects RX5 yX5_setMethod yX5_setMethod, Cond.code yX5_setMethod cX5_setMethod 5 (some .boolean), Cond.fieldLink RX5 93 "BellTouches$Setup" "n" "I", Cond.fieldLink RX5 102 "BellTouches$Setup" "changeCount" "I", Cond.fieldLink RX5 105 "BellTouches$Setup" "changes" "[I", Cond.methodLink RX5 96 yX2_isGood, Cond.methodLink RX5 82 yX5_setCall, Cond.static yX5_setCall]
def wsL_law_r14 : List Cond := [Cond.code yX5_setCall cX5_setCall 3 (some .boolean), Cond.methodLink RX5 108 yX4_setCalledChange, Cond.methodLink RX5 85 yX5_setLeads, Cond.instanceMethod yX5_setLeads, Cond.selects RX5 yX5_setLeads yX5_setLeads, Cond.code yX5_setLeads cX5_setLeads 5 (some .boolean), Cond.fieldLink RX5 112 "BellTouches$Setup" "leadCount" "I", Cond.fieldLink RX5 115 "BellTouches$Setup" "leadCalls" "[I", Cond.methodLink RL 47 yX9_read, Cond.instanceMethod yX9_read, Cond.selects RX9 yX9_read yX9_read, Cond.code yX9_read cX9_read 4 (some .int), Cond.fieldLink RX9 75 "BellTouchesModel" "at" "I", Cond.fieldLink RX9 78 "BellTouchesModel" "fault" "I", Cond.fieldLink RX9 84 "BellTouchesModel" "clauses" "I", Cond.fieldLink RX9 81 "BellTouchesModel" "numbers" "I", Cond.methodLink RX9 120 yX9_reads, Cond.instanceMethod yX9_reads, Cond.selects RX9 yX9_reads yX9_reads, Cond.code yX9_reads cX9_reads 1 none, Cond.methodLink RX9 87 yX9_sign, Cond.instanceMethod yX9_sign, Cond.selects RX9 yX9_sign yX9_sign, Cond.code yX9_sign cX9_sign 1 (some .int)]
def wsL_law_r15 : List Cond := [Cond.methodLink RX9 91 yX9_wrong, Cond.instanceMethod yX9_wrong, Cond.selects RX9 yX9_wrong yX9_wrong, Cond.code yX9_wrong cX9_wrong 1 none, Cond.methodLink RX9 94 yX9_adds, Cond.instanceMethod yX9_adds, Cond.selects RX9 yX9_adds yX9_adds, Cond.code yX9_adds cX9_adds 2 none, Cond.methodLink RX9 104 yX9_words, Cond.instanceMethod yX9_words, Cond.selects RX9 yX9_words yX9_words, Cond.code yX9_words cX9_words 4 none, Cond.methodLink RX9 100 yX9_word, Cond.instanceMethod yX9_word, Cond.selects RX9 yX9_word yX9_word, Cond.code yX9_word cX9_word 1 (some .boolean), Cond.methodLink RX9 97 yX9_digits, Cond.instanceMethod yX9_digits, Cond.selects RX9 yX9_digits yX9_digits, Cond.code yX9_digits cX9_digits 3 none, Cond.methodLink RX9 107 yX9_callOf, Cond.static yX9_callOf, Cond.code yX9_callOf cX9_callOf 1 (some .int), Cond.methodLink RX9 123 yX9_does]
def wsL_law_r16 : List Cond := [Cond.instanceMethod yX9_does, Cond.selects RX9 yX9_does yX9_does, Cond.code yX9_does cX9_does 4 (some .boolean), Cond.methodLink RX9 111 yX9_bells, Cond.methodLink RX9 114 yX9_calls, Cond.methodLink RX9 117 yX9_areGood, Cond.instanceMethod yX9_areGood, Cond.selects RX9 yX9_areGood yX9_areGood, Cond.code yX9_areGood cX9_areGood 4 (some .boolean), Cond.methodLink RL 48 yX8_of, Cond.instanceMethod yX8_of, Cond.selects RX8 yX8_of yX8_of, Cond.code yX8_of cX8_of 3 (some .int), Cond.fieldLink RX8 121 "BellTouches$Setup" "bob" "I", Cond.fieldLink RX8 127 "BellTouches$Setup" "single" "I", Cond.methodLink RX8 124 yX8_orNotFound, Cond.static yX8_orNotFound, Cond.code yX8_orNotFound cX8_orNotFound 1 (some .int), Cond.methodLink RL 51 yX9_of, Cond.instanceMethod yX9_of, Cond.selects RX9 yX9_of yX9_of, Cond.code yX9_of cX9_of 3 (some .int), Cond.methodLink RL 52 yX8_told, Cond.instanceMethod yX8_told]
def wsL_law_r17 : List Cond := [Cond.selects RX8 yX8_told yX8_told, Cond.code yX8_told cX8_told 2 (some .int), Cond.fieldLink RX8 134 "BellTouches$Touch" "last" "I", Cond.methodLink RX8 130 yX8_rung, Cond.instanceMethod yX8_rung, Cond.selects RX8 yX8_rung yX8_rung, Cond.code yX8_rung cX8_rung 1 (some (.object "BellTouches$Touch")), Cond.methodLink RX8 219 yX7_ring, Cond.instanceMethod yX7_ring, Cond.selects RX7 yX7_ring yX7_ring, Cond.code yX7_ring cX7_ring 4 none, Cond.fieldLink RX7 46 "BellTouches$Setup" "leadCount" "I", Cond.fieldLink RX7 51 "BellTouches$Setup" "leadCalls" "[I", Cond.methodLink RX7 42 yX7_begin, Cond.instanceMethod yX7_begin, Cond.selects RX7 yX7_begin yX7_begin, Cond.code yX7_begin cX7_begin 4 none, Cond.fieldLink RX7 58 "BellTouches$Setup" "changeCount" "I", Cond.fieldLink RX7 59 "BellTouches$Setup" "n" "I", Cond.fieldLink RX7 62 "BellTouches$Setup" "changes" "[I", Cond.methodLink RX7 65 yX2_pairs, Cond.methodLink RX7 70 yX4_calledChange, Cond.methodLink RX7 74 yX2_rounds, Cond.static yX2_rounds]
def wsL_law_r18 : List Cond := [Cond.code yX2_rounds cX2_rounds 3 (some .int), Cond.methodLink RX7 54 yX7_step, Cond.instanceMethod yX7_step, Cond.selects RX7 yX7_step yX7_step, Cond.code yX7_step cX7_step 4 none, Cond.methodLink RX7 77 yX2_swapped, Cond.static yX2_swapped, Cond.code yX2_swapped cX2_swapped 3 (some .int), Cond.methodLink RX8 137 yX7_roundRow, Cond.instanceMethod yX7_roundRow, Cond.selects RX7 yX7_roundRow yX7_roundRow, Cond.code yX7_roundRow cX7_roundRow 2 (some .int), Cond.methodLink RX7 80 yX7_compare, Cond.instanceMethod yX7_compare, Cond.selects RX7 yX7_compare yX7_compare, Cond.code yX7_compare cX7_compare 2 none, Cond.methodLink RX7 87 yX3_enter, Cond.instanceMethod yX3_enter, Cond.selects RX3 yX3_enter yX3_enter, Cond.code yX3_enter cX3_enter 7 (some .int), Cond.methodLink RX3 13 yX3_start, Cond.static yX3_start, Cond.code yX3_start cX3_start 1 (some .int), Cond.constant RX3 17 (-1640531535)]
def wsL_law_r19 : List Cond := [Cond.methodLink RX7 91 yX3_leave, Cond.instanceMethod yX3_leave, Cond.selects RX3 yX3_leave yX3_leave, Cond.code yX3_leave cX3_leave 6 none, Cond.methodLink RX8 140 yX7_falseRow, Cond.instanceMethod yX7_falseRow, Cond.selects RX7 yX7_falseRow yX7_falseRow, Cond.code yX7_falseRow cX7_falseRow 3 (some .int), Cond.methodLink RX8 143 yX7_isTrue, Cond.instanceMethod yX7_isTrue, Cond.selects RX7 yX7_isTrue yX7_isTrue, Cond.code yX7_isTrue cX7_isTrue 1 (some .boolean), Cond.methodLink RX7 83 yX7_falseRow, Cond.methodLink RX8 147 yX7_course, Cond.instanceMethod yX7_course, Cond.selects RX7 yX7_course yX7_course, Cond.code yX7_course cX7_course 4 (some .int), Cond.methodLink RL 55 yX9_told, Cond.instanceMethod yX9_told, Cond.selects RX9 yX9_told yX9_told, Cond.code yX9_told cX9_told 2 (some .int), Cond.fieldLink RX9 129 "BellTouchesModel" "last" "I", Cond.methodLink RX9 142 yX9_course, Cond.instanceMethod yX9_course]
def wsL_law_r20 : List Cond := [Cond.selects RX9 yX9_course yX9_course, Cond.code yX9_course cX9_course 6 (some .int), Cond.methodLink RX9 126 yX9_keys, Cond.instanceMethod yX9_keys, Cond.selects RX9 yX9_keys yX9_keys, Cond.code yX9_keys cX9_keys 4 none, Cond.methodLink RX9 132 yX9_goes, Cond.instanceMethod yX9_goes, Cond.selects RX9 yX9_goes yX9_goes, Cond.code yX9_goes cX9_goes 5 none, Cond.methodLink RX9 145 yX9_rings, Cond.instanceMethod yX9_rings, Cond.selects RX9 yX9_rings yX9_rings, Cond.code yX9_rings cX9_rings 5 none, Cond.methodLink RX9 148 yX9_round, Cond.instanceMethod yX9_round, Cond.selects RX9 yX9_round yX9_round, Cond.code yX9_round cX9_round 2 (some .int), Cond.methodLink RX9 139 yX9_wrongRow, Cond.instanceMethod yX9_wrongRow, Cond.selects RX9 yX9_wrongRow yX9_wrongRow, Cond.code yX9_wrongRow cX9_wrongRow 3 (some .int), Cond.methodLink RX9 136 yX9_first, Cond.instanceMethod yX9_first]
def wsL_law_r21 : List Cond := [Cond.selects RX9 yX9_first yX9_first, Cond.code yX9_first cX9_first 3 (some .int), Cond.methodLink RX9 151 yX9_isTrue, Cond.instanceMethod yX9_isTrue, Cond.selects RX9 yX9_isTrue yX9_isTrue, Cond.code yX9_isTrue cX9_isTrue 1 (some .int), Cond.methodLink RL 56 yX8_at, Cond.instanceMethod yX8_at, Cond.selects RX8 yX8_at yX8_at, Cond.code yX8_at cX8_at 3 (some .int), Cond.fieldLink RX8 156 "BellTouches$Touch" "rows" "[I", Cond.methodLink RX8 150 yX8_isRow, Cond.instanceMethod yX8_isRow, Cond.selects RX8 yX8_isRow yX8_isRow, Cond.code yX8_isRow cX8_isRow 2 (some .boolean), Cond.methodLink RX8 153 yX8_isBell, Cond.instanceMethod yX8_isBell, Cond.selects RX8 yX8_isBell yX8_isBell, Cond.code yX8_isBell cX8_isBell 2 (some .boolean), Cond.methodLink RX8 159 yX2_bellIn, Cond.static yX2_bellIn, Cond.code yX2_bellIn cX2_bellIn 2 (some .int), Cond.methodLink RL 59 yX9_at, Cond.instanceMethod yX9_at]
def wsL_law_r22 : List Cond := [Cond.selects RX9 yX9_at yX9_at, Cond.code yX9_at cX9_at 3 (some .int), Cond.methodLink RX9 154 yX9_isPlace, Cond.instanceMethod yX9_isPlace, Cond.selects RX9 yX9_isPlace yX9_isPlace, Cond.code yX9_isPlace cX9_isPlace 2 (some .boolean), Cond.methodLink RL 60 yX8_where, Cond.instanceMethod yX8_where, Cond.selects RX8 yX8_where yX8_where, Cond.code yX8_where cX8_where 3 (some .int), Cond.methodLink RX8 163 yX2_placeOf, Cond.static yX2_placeOf, Cond.code yX2_placeOf cX2_placeOf 3 (some .int), Cond.methodLink RX2 9 yX2_bellIn, Cond.methodLink RL 63 yX9_where, Cond.instanceMethod yX9_where, Cond.selects RX9 yX9_where yX9_where, Cond.code yX9_where cX9_where 3 (some .int), Cond.methodLink RX9 157 yX9_place, Cond.instanceMethod yX9_place, Cond.selects RX9 yX9_place yX9_place, Cond.code yX9_place cX9_place 4 (some .int), Cond.methodLink RL 64 yX8_same, Cond.instanceMethod yX8_same]
def wsL_law_r23 : List Cond := [Cond.selects RX8 yX8_same yX8_same, Cond.code yX8_same cX8_same 2 (some .int), Cond.methodLink RX8 166 yX7_firstAs, Cond.instanceMethod yX7_firstAs, Cond.selects RX7 yX7_firstAs yX7_firstAs, Cond.code yX7_firstAs cX7_firstAs 2 (some .int), Cond.methodLink RL 67 yX9_same, Cond.instanceMethod yX9_same, Cond.selects RX9 yX9_same yX9_same, Cond.code yX9_same cX9_same 2 (some .int), Cond.methodLink RL 68 yX8_good, Cond.instanceMethod yX8_good, Cond.selects RX8 yX8_good yX8_good, Cond.code yX8_good cX8_good 2 (some .int), Cond.methodLink RL 71 yX9_good, Cond.instanceMethod yX9_good, Cond.selects RX9 yX9_good yX9_good, Cond.code yX9_good cX9_good 2 (some .int), Cond.methodLink RL 72 yX8_music, Cond.instanceMethod yX8_music, Cond.selects RX8 yX8_music yX8_music, Cond.code yX8_music cX8_music 2 (some .int), Cond.methodLink RX8 169 yX8_countMusic, Cond.instanceMethod yX8_countMusic]
def wsL_law_r24 : List Cond := [Cond.selects RX8 yX8_countMusic yX8_countMusic, Cond.code yX8_countMusic cX8_countMusic 5 (some .int), Cond.methodLink RX8 256 yX4_isMusic, Cond.instanceMethod yX4_isMusic, Cond.selects RX4 yX4_isMusic yX4_isMusic, Cond.code yX4_isMusic cX4_isMusic 4 (some .boolean), Cond.constant RX4 71 (65535), Cond.methodLink RX4 65 yX2_rounds, Cond.methodLink RX4 72 yX4_holdsPattern, Cond.instanceMethod yX4_holdsPattern, Cond.selects RX4 yX4_holdsPattern yX4_holdsPattern, Cond.code yX4_holdsPattern cX4_holdsPattern 4 (some .boolean), Cond.methodLink RX4 80 yX2_bellIn, Cond.methodLink RX4 76 yX2_isRightAhead, Cond.static yX2_isRightAhead, Cond.code yX2_isRightAhead cX2_isRightAhead 3 (some .boolean), Cond.methodLink RX2 15 yX2_placeOf, Cond.methodLink RL 75 yX9_music, Cond.instanceMethod yX9_music, Cond.selects RX9 yX9_music yX9_music, Cond.code yX9_music cX9_music 2 (some .int), Cond.methodLink RX9 164 yX9_musicOf, Cond.instanceMethod yX9_musicOf, Cond.selects RX9 yX9_musicOf yX9_musicOf]
def wsL_law_r25 : List Cond := [Cond.code yX9_musicOf cX9_musicOf 4 (some .int), Cond.methodLink RX9 160 yX9_isMusic, Cond.instanceMethod yX9_isMusic, Cond.selects RX9 yX9_isMusic yX9_isMusic, Cond.code yX9_isMusic cX9_isMusic 5 (some .boolean), Cond.methodLink RL 76 yX8_least, Cond.instanceMethod yX8_least, Cond.selects RX8 yX8_least yX8_least, Cond.code yX8_least cX8_least 3 (some .int), Cond.fieldLink RX8 176 "BellTouches$Fewest" "number" "I", Cond.fieldLink RX8 179 "BellTouches$Fewest" "notPlain" "I", Cond.methodLink RX8 172 yX0_find, Cond.instanceMethod yX0_find, Cond.selects RX0 yX0_find yX0_find, Cond.code yX0_find cX0_find 3 none, Cond.fieldLink RX0 42 "BellTouches$Setup" "bob" "I", Cond.fieldLink RX0 47 "BellTouches$Setup" "single" "I", Cond.fieldLink RX0 54 "BellTouches$Touch" "changeCount" "I", Cond.fieldLink RX0 57 "BellTouches$Touch" "rows" "[I", Cond.methodLink RX0 50 yX7_begin, Cond.methodLink RX0 61 yX3_enter, Cond.methodLink RX0 65 yX0_search, Cond.static yX0_search, Cond.code yX0_search cX0_search 8 none]
def wsL_law_r26 : List Cond := [Cond.fieldLink RX0 73 "BellTouches$Touch" "last" "I", Cond.methodLink RX0 76 yX0_ringTillAgain, Cond.instanceMethod yX0_ringTillAgain, Cond.selects RX0 yX0_ringTillAgain yX0_ringTillAgain, Cond.code yX0_ringTillAgain cX0_ringTillAgain 3 (some .int), Cond.methodLink RX0 88 yX7_step, Cond.methodLink RX0 80 yX0_isEnd, Cond.instanceMethod yX0_isEnd, Cond.selects RX0 yX0_isEnd yX0_isEnd, Cond.code yX0_isEnd cX0_isEnd 2 (some .boolean), Cond.methodLink RX0 84 yX0_backTo, Cond.instanceMethod yX0_backTo, Cond.selects RX0 yX0_backTo yX0_backTo, Cond.code yX0_backTo cX0_backTo 3 none, Cond.methodLink RX0 69 yX3_leave, Cond.methodLink RL 79 yX9_least, Cond.instanceMethod yX9_least, Cond.selects RX9 yX9_least yX9_least, Cond.code yX9_least cX9_least 16 (some .int), Cond.methodLink RL 80 yX8_still, Cond.instanceMethod yX8_still, Cond.selects RX8 yX8_still yX8_still, Cond.code yX8_still cX8_still 5 (some .int), Cond.methodLink RL 83 yX9_still]
def wsL_law_r27 : List Cond := [Cond.instanceMethod yX9_still, Cond.selects RX9 yX9_still yX9_still, Cond.code yX9_still cX9_still 4 (some .int), Cond.methodLink RL 84 yX8_ahead, Cond.instanceMethod yX8_ahead, Cond.selects RX8 yX8_ahead yX8_ahead, Cond.code yX8_ahead cX8_ahead 6 (some .int), Cond.methodLink RX8 182 yX2_isRightAhead, Cond.methodLink RL 87 yX9_ahead, Cond.instanceMethod yX9_ahead, Cond.selects RX9 yX9_ahead yX9_ahead, Cond.code yX9_ahead cX9_ahead 5 (some .int), Cond.methodLink RL 88 yX8_see, Cond.instanceMethod yX8_see, Cond.selects RX8 yX8_see yX8_see, Cond.code yX8_see cX8_see 4 (some .int), Cond.fieldLink RX8 186 "BellTouches$Setup" "seen" "LBellTouches$HandRows;", Cond.fieldLink RX8 190 "BellTouches$HandRows" "size" "I", Cond.methodLink RX8 195 yX1_append, Cond.instanceMethod yX1_append, Cond.selects RX1 yX1_append yX1_append, Cond.code yX1_append cX1_append 4 (some .boolean), Cond.methodLink RL 92 yX9_see, Cond.instanceMethod yX9_see]
def wsL_law_r28 : List Cond := [Cond.selects RX9 yX9_see yX9_see, Cond.code yX9_see cX9_see 5 (some .int), Cond.methodLink RL 93 yX8_fits, Cond.instanceMethod yX8_fits, Cond.selects RX8 yX8_fits yX8_fits, Cond.code yX8_fits cX8_fits 6 (some .int), Cond.methodLink RX8 197 yX4_copyFrom, Cond.instanceMethod yX4_copyFrom, Cond.selects RX4 yX4_copyFrom yX4_copyFrom, Cond.code yX4_copyFrom cX4_copyFrom 2 none, Cond.methodLink RX4 55 arraycopyName, Cond.native arraycopyName, Cond.static arraycopyName, Cond.initialized "java/lang/System", Cond.methodLink RX4 61 yX1_copyFrom, Cond.instanceMethod yX1_copyFrom, Cond.selects RX1 yX1_copyFrom yX1_copyFrom, Cond.code yX1_copyFrom cX1_copyFrom 3 none, Cond.methodLink RX1 23 yX1_append, Cond.methodLink RX8 201 yX8_fitsLast, Cond.instanceMethod yX8_fitsLast, Cond.selects RX8 yX8_fitsLast yX8_fitsLast, Cond.code yX8_fitsLast cX8_fitsLast 6 (some .boolean), Cond.fieldLink RX8 225 "BellTouches$HandRows" "first" "[I"]
def wsL_law_r29 : List Cond := [Cond.fieldLink RX8 228 "BellTouches$HandRows" "second" "[I", Cond.fieldLink RX8 259 "BellTouches$HandRows" "third" "[I", Cond.methodLink RL 96 yX9_fits, Cond.instanceMethod yX9_fits, Cond.selects RX9 yX9_fits yX9_fits, Cond.code yX9_fits cX9_fits 7 (some .int), Cond.methodLink RX9 167 yX9_isSeen, Cond.instanceMethod yX9_isSeen, Cond.selects RX9 yX9_isSeen yX9_isSeen, Cond.code yX9_isSeen cX9_isSeen 3 (some .boolean), Cond.methodLink RL 97 yX8_odds, Cond.instanceMethod yX8_odds, Cond.selects RX8 yX8_odds yX8_odds, Cond.code yX8_odds cX8_odds 7 (some .long), Cond.constantLong RX8 207 (-9223372036854775808), Cond.methodLink RX8 204 yX8_isPart, Cond.static yX8_isPart, Cond.code yX8_isPart cX8_isPart 1 (some .boolean), Cond.methodLink RX8 209 yX8_lowestTerms, Cond.static yX8_lowestTerms, Cond.code yX8_lowestTerms cX8_lowestTerms 5 (some .long), Cond.methodLink RL 101 yX9_odds, Cond.instanceMethod yX9_odds, Cond.selects RX9 yX9_odds yX9_odds]
def wsL_law_r30 : List Cond := [Cond.code yX9_odds cX9_odds 6 (some .long), Cond.constantLong RX9 170 (-9223372036854775808), Cond.methodLink RX9 172 yX9_lowest, Cond.static yX9_lowest, Cond.code yX9_lowest cX9_lowest 6 (some .long), Cond.methodLink RL 102 yX8_mean, Cond.instanceMethod yX8_mean, Cond.selects RX8 yX8_mean yX8_mean, Cond.code yX8_mean cX8_mean 4 (some .long), Cond.methodLink RL 106 yX9_mean, Cond.instanceMethod yX9_mean, Cond.selects RX9 yX9_mean yX9_mean, Cond.code yX9_mean cX9_mean 4 (some .long), Cond.methodLink RL 107 yX8_event, Cond.instanceMethod yX8_event, Cond.selects RX8 yX8_event yX8_event, Cond.code yX8_event cX8_event 3 (some .int), Cond.fieldLink RX8 213 "BellTouches$Setup" "events" "LBellTouches$HandRows;", Cond.methodLink RL 110 yX9_event, Cond.instanceMethod yX9_event, Cond.selects RX9 yX9_event yX9_event, Cond.code yX9_event cX9_event 3 (some .int), Cond.methodLink RL 111 yX8_after, Cond.instanceMethod yX8_after]
def wsL_law_r31 : List Cond := [Cond.selects RX8 yX8_after yX8_after, Cond.code yX8_after cX8_after 2 (some .int), Cond.methodLink RX8 216 yX4_happen, Cond.instanceMethod yX4_happen, Cond.selects RX4 yX4_happen yX4_happen, Cond.code yX4_happen cX4_happen 3 none, Cond.fieldLink RX4 84 "BellTouches$HandRows" "second" "[I", Cond.fieldLink RX4 87 "BellTouches$HandRows" "first" "[I", Cond.methodLink RX4 90 Lib.Math.max.name, Cond.static Lib.Math.max.name, Cond.initialized "java/lang/Math", Cond.code Lib.Math.max.name Lib.Math.max.code 2 (some .int), Cond.methodLink RL 114 yX9_after, Cond.instanceMethod yX9_after, Cond.selects RX9 yX9_after yX9_after, Cond.code yX9_after cX9_after 7 (some .int), Cond.methodLink RX9 176 Lib.Math.max.name, Cond.methodLink RL 115 yX8_book, Cond.instanceMethod yX8_book, Cond.selects RX8 yX8_book yX8_book, Cond.code yX8_book cX8_book 3 (some .int), Cond.fieldLink RX8 222 "BellTouches$Setup" "book" "LBellTouches$HandRows;", Cond.methodLink RL 118 yX9_book, Cond.instanceMethod yX9_book]
def wsL_law_r32 : List Cond := [Cond.selects RX9 yX9_book yX9_book, Cond.code yX9_book cX9_book 3 (some .int), Cond.methodLink RL 119 yX8_looked, Cond.instanceMethod yX8_looked, Cond.selects RX8 yX8_looked yX8_looked, Cond.code yX8_looked cX8_looked 4 (some .int), Cond.methodLink RL 122 yX9_looked, Cond.instanceMethod yX9_looked, Cond.selects RX9 yX9_looked yX9_looked, Cond.code yX9_looked cX9_looked 3 (some .int), Cond.methodLink RL 123 yX8_judge, Cond.instanceMethod yX8_judge, Cond.selects RX8 yX8_judge yX8_judge, Cond.code yX8_judge cX8_judge 6 (some .int), Cond.fieldLink RX8 234 "BellTouches$Tape" "sort" "I", Cond.fieldLink RX8 240 "BellTouches$Tape" "items" "[J", Cond.methodLink RX8 231 yX8_isTape, Cond.static yX8_isTape, Cond.code yX8_isTape cX8_isTape 1 (some .boolean), Cond.methodLink RX8 237 yX6_has, Cond.instanceMethod yX6_has, Cond.selects RX6 yX6_has yX6_has, Cond.code yX6_has cX6_has 3 (some .boolean), Cond.methodLink RL 126 yX9_judge]
def wsL_law_r33 : List Cond := [Cond.instanceMethod yX9_judge, Cond.selects RX9 yX9_judge yX9_judge, Cond.code yX9_judge cX9_judge 5 (some .int), Cond.methodLink RX9 181 yX9_isTape, Cond.static yX9_isTape, Cond.code yX9_isTape cX9_isTape 1 (some .boolean), Cond.methodLink RL 127 yX8_image, Cond.instanceMethod yX8_image, Cond.selects RX8 yX8_image yX8_image, Cond.code yX8_image cX8_image 1 (some .int), Cond.methodLink RL 130 yX9_image, Cond.instanceMethod yX9_image, Cond.selects RX9 yX9_image yX9_image, Cond.code yX9_image cX9_image 2 (some .int), Cond.fieldLink RX9 184 "BellTouchesModel" "imaged" "Z", Cond.methodLink RL 131 yX8_undo, Cond.instanceMethod yX8_undo, Cond.selects RX8 yX8_undo yX8_undo, Cond.code yX8_undo cX8_undo 1 (some .int), Cond.methodLink RL 134 yX9_undo, Cond.instanceMethod yX9_undo, Cond.selects RX9 yX9_undo yX9_undo, Cond.code yX9_undo cX9_undo 2 (some .int), Cond.methodLink RL 135 yX8_count]
def wsL_law_r34 : List Cond := [Cond.instanceMethod yX8_count, Cond.selects RX8 yX8_count yX8_count, Cond.code yX8_count cX8_count 2 (some .int), Cond.methodLink RL 138 yX9_count, Cond.instanceMethod yX9_count, Cond.selects RX9 yX9_count yX9_count, Cond.code yX9_count cX9_count 2 (some .int), Cond.methodLink RL 139 yX8_tape, Cond.instanceMethod yX8_tape, Cond.selects RX8 yX8_tape yX8_tape, Cond.code yX8_tape cX8_tape 4 (some .int), Cond.methodLink RX8 244 yX6_begin, Cond.instanceMethod yX6_begin, Cond.selects RX6 yX6_begin yX6_begin, Cond.code yX6_begin cX6_begin 4 none, Cond.methodLink RL 142 yX9_tape, Cond.instanceMethod yX9_tape, Cond.selects RX9 yX9_tape yX9_tape, Cond.code yX9_tape cX9_tape 5 (some .int), Cond.methodLink RL 145 yX8_item, Cond.instanceMethod yX8_item, Cond.selects RX8 yX8_item yX8_item, Cond.code yX8_item cX8_item 6 (some .int), Cond.methodLink RX8 246 yX6_narrowed]
def wsL_law_r35 : List Cond := [Cond.static yX6_narrowed, Cond.code yX6_narrowed cX6_narrowed 3 (some .long), Cond.methodLink RL 149 yX9_item, Cond.instanceMethod yX9_item, Cond.selects RX9 yX9_item yX9_item, Cond.code yX9_item cX9_item 6 (some .int), Cond.methodLink RL 150 yX8_peek, Cond.instanceMethod yX8_peek, Cond.selects RX8 yX8_peek yX8_peek, Cond.code yX8_peek cX8_peek 3 (some .long), Cond.methodLink RL 154 yX9_peek, Cond.instanceMethod yX9_peek, Cond.selects RX9 yX9_peek yX9_peek, Cond.code yX9_peek cX9_peek 3 (some .long), Cond.methodLink RL 155 yX8_shift, Cond.instanceMethod yX8_shift, Cond.selects RX8 yX8_shift yX8_shift, Cond.code yX8_shift cX8_shift 8 (some .int), Cond.methodLink RX8 250 arraycopyName, Cond.methodLink RL 159 yX9_shift, Cond.instanceMethod yX9_shift, Cond.selects RX9 yX9_shift yX9_shift, Cond.code yX9_shift cX9_shift 7 (some .int)]
def wsL_law : List Cond := (wsL_law_r1 ++ (wsL_law_r2 ++ (wsL_law_r3 ++ (wsL_law_r4 ++ (wsL_law_r5 ++ (wsL_law_r6 ++ (wsL_law_r7 ++ (wsL_law_r8 ++ (wsL_law_r9 ++ (wsL_law_r10 ++ (wsL_law_r11 ++ (wsL_law_r12 ++ (wsL_law_r13 ++ (wsL_law_r14 ++ (wsL_law_r15 ++ (wsL_law_r16 ++ (wsL_law_r17 ++ (wsL_law_r18 ++ (wsL_law_r19 ++ (wsL_law_r20 ++ (wsL_law_r21 ++ (wsL_law_r22 ++ (wsL_law_r23 ++ (wsL_law_r24 ++ (wsL_law_r25 ++ (wsL_law_r26 ++ (wsL_law_r27 ++ (wsL_law_r28 ++ (wsL_law_r29 ++ (wsL_law_r30 ++ (wsL_law_r31 ++ (wsL_law_r32 ++ (wsL_law_r33 ++ (wsL_law_r34 ++ wsL_law_r35)))))))))))))))))))))))))))))))))) ++ wsX80 ++ wsX90 ++ wsX40 ++ wsX70 ++ wsX00 ++ wsX50 ++ wsX60 ++ wsX10 ++ wsX30 ++ ([] : List Cond)
set_option maxRecDepth 20000 in
theorem wsL_law_in : ∀ w ∈ wsL_law, w ∈ lw_tbl := fun w h => (goodIn_p wsL_law [64, 67, 72, 78, 162, 168, 208, 243, 277, 729, 734, 326, 330, 799, 802, 334, 338, 341, 344, 347, 806, 810, 814, 351, 355, 359, 818, 822, 363, 366, 826, 370, 830, 374, 834, 378, 382, 838, 386, 390, 394, 398, 402, 406, 410, 414, 417, 421, 424, 428, 432, 435, 440, 444, 449, 842, 846, 850, 854, 858, 862, 866, 870, 873, 877, 883, 453, 456, 887, 460, 464, 468, 472, 477, 481, 484, 488, 492, 496, 499, 504, 508, 512, 517, 891, 895, 899, 903, 907, 911, 915, 919, 923, 521, 525, 529, 532, 927, 931, 536, 539, 935, 939, 544, 548, 943, 552, 947, 556, 560, 564, 570, 574, 951, 955, 959, 579, 583, 588, 592, 597, 601, 963, 606, 967, 610, 971, 615, 619, 975, 623, 627, 634, 639, 979, 983, 643, 646, 650, 987, 991, 654, 995, 658, 999, 662, 666, 669, 1003, 673, 1008, 677, 1012, 681, 684, 688, 1016, 1019, 692, 1023, 696, 1027, 700, 1031, 704, 708, 1035, 712, 715, 1039, 719, 1043, 723, 1047] (by decide +kernel) (by decide +kernel) w h).1
theorem inlX0 : ∀ w ∈ wsX00, w ∈ wsL_law := fun _ h => List.mem_append_left _ (List.mem_append_left _ (List.mem_append_left _ (List.mem_append_left _ (List.mem_append_left _ (List.mem_append_right _ h)))))
theorem inX0 : ∀ w ∈ wsX00, w ∈ lw_tbl := fun w h => wsL_law_in w (inlX0 w h)
theorem inlX1 : ∀ w ∈ wsX10, w ∈ wsL_law := fun _ h => List.mem_append_left _ (List.mem_append_left _ (List.mem_append_right _ h))
theorem inX1 : ∀ w ∈ wsX10, w ∈ lw_tbl := fun w h => wsL_law_in w (inlX1 w h)
theorem inX2 : ∀ w ∈ wsX20, w ∈ lw_tbl := by decide +kernel
theorem inlX3 : ∀ w ∈ wsX30, w ∈ wsL_law := fun _ h => List.mem_append_left _ (List.mem_append_right _ h)
theorem inX3 : ∀ w ∈ wsX30, w ∈ lw_tbl := fun w h => wsL_law_in w (inlX3 w h)
theorem inlX4 : ∀ w ∈ wsX40, w ∈ wsL_law := fun _ h => List.mem_append_left _ (List.mem_append_left _ (List.mem_append_left _ (List.mem_append_left _ (List.mem_append_left _ (List.mem_append_left _ (List.mem_append_left _ (List.mem_append_right _ h)))))))
theorem inX4 : ∀ w ∈ wsX40, w ∈ lw_tbl := fun w h => wsL_law_in w (inlX4 w h)
theorem inlX5 : ∀ w ∈ wsX50, w ∈ wsL_law := fun _ h => List.mem_append_left _ (List.mem_append_left _ (List.mem_append_left _ (List.mem_append_left _ (List.mem_append_right _ h))))
theorem inX5 : ∀ w ∈ wsX50, w ∈ lw_tbl := fun w h => wsL_law_in w (inlX5 w h)
theorem inlX6 : ∀ w ∈ wsX60, w ∈ wsL_law := fun _ h => List.mem_append_left _ (List.mem_append_left _ (List.mem_append_left _ (List.mem_append_right _ h)))
theorem inX6 : ∀ w ∈ wsX60, w ∈ lw_tbl := fun w h => wsL_law_in w (inlX6 w h)
theorem inlX7 : ∀ w ∈ wsX70, w ∈ wsL_law := fun _ h => List.mem_append_left _ (List.mem_append_left _ (List.mem_append_left _ (List.mem_append_left _ (List.mem_append_left _ (List.mem_append_left _ (List.mem_append_right _ h))))))
theorem inX7 : ∀ w ∈ wsX70, w ∈ lw_tbl := fun w h => wsL_law_in w (inlX7 w h)
theorem inlX8 : ∀ w ∈ wsX80, w ∈ wsL_law := fun _ h => List.mem_append_left _ (List.mem_append_left _ (List.mem_append_left _ (List.mem_append_left _ (List.mem_append_left _ (List.mem_append_left _ (List.mem_append_left _ (List.mem_append_left _ (List.mem_append_left _ (List.mem_append_right _ h)))))))))
theorem inX8 : ∀ w ∈ wsX80, w ∈ lw_tbl := fun w h => wsL_law_in w (inlX8 w h)
theorem inlX9 : ∀ w ∈ wsX90, w ∈ wsL_law := fun _ h => List.mem_append_left _ (List.mem_append_left _ (List.mem_append_left _ (List.mem_append_left _ (List.mem_append_left _ (List.mem_append_left _ (List.mem_append_left _ (List.mem_append_left _ (List.mem_append_right _ h))))))))
theorem inX9 : ∀ w ∈ wsX90, w ∈ lw_tbl := fun w h => wsL_law_in w (inlX9 w h)
theorem inJ9 : ∀ w ∈ wsJ90, w ∈ lw_tbl := by decide +kernel
theorem inJ10 : ∀ w ∈ wsJ100, w ∈ lw_tbl := by decide +kernel
set_option maxRecDepth 20000 in
theorem ggX0_init_X7_init : GoodIn wsX0_init wsX7_init := goodIn_r _ [19, 20, 2, 3, 21, 22, 23, 24, 25, 26, 27, 28, 11, 12, 29, 30, 31, 32, 33, 34, 42, 43, 44, 45, 46, 47, 48, 49, 50] (by decide +kernel) (by decide +kernel)
set_option maxRecDepth 20000 in
theorem gX0_init_X7_init_n20 : GoodIn wsX0_init (wsX7_init) := ggX0_init_X7_init
set_option maxRecDepth 20000 in
theorem ggX0_init_X3_init : GoodIn wsX0_init wsX3_init := goodIn_r _ [32, 33, 2, 3, 21, 34, 50] (by decide +kernel) (by decide +kernel)
set_option maxRecDepth 20000 in
theorem gX0_init_X3_init_n27 : GoodIn wsX0_init (wsX3_init) := ggX0_init_X3_init
theorem dX0_init_0 : decode cX0_init 0 = .ok (.aload_n 0, 1) := by decide +kernel
theorem dX0_init_1 : decode cX0_init 1 = .ok (.invokespecial 3, 3) := by decide +kernel
theorem dX0_init_4 : decode cX0_init 4 = .ok (.aload_n 0, 1) := by decide +kernel
theorem dX0_init_5 : decode cX0_init 5 = .ok (.bipush (-5), 2) := by decide +kernel
theorem dX0_init_7 : decode cX0_init 7 = .ok (.putfield 9, 3) := by decide +kernel
theorem dX0_init_10 : decode cX0_init 10 = .ok (.aload_n 0, 1) := by decide +kernel
theorem dX0_init_11 : decode cX0_init 11 = .ok (.bipush (-5), 2) := by decide +kernel
theorem dX0_init_13 : decode cX0_init 13 = .ok (.putfield 15, 3) := by decide +kernel
theorem dX0_init_16 : decode cX0_init 16 = .ok (.aload_n 0, 1) := by decide +kernel
theorem dX0_init_17 : decode cX0_init 17 = .ok (.new 18, 3) := by decide +kernel
theorem dX0_init_20 : decode cX0_init 20 = .ok (.dup, 1) := by decide +kernel
theorem dX0_init_21 : decode cX0_init 21 = .ok (.invokespecial 20, 3) := by decide +kernel
theorem dX0_init_24 : decode cX0_init 24 = .ok (.putfield 21, 3) := by decide +kernel
theorem dX0_init_27 : decode cX0_init 27 = .ok (.aload_n 0, 1) := by decide +kernel
theorem dX0_init_28 : decode cX0_init 28 = .ok (.new 25, 3) := by decide +kernel
theorem dX0_init_31 : decode cX0_init 31 = .ok (.dup, 1) := by decide +kernel
theorem dX0_init_32 : decode cX0_init 32 = .ok (.invokespecial 27, 3) := by decide +kernel
theorem dX0_init_35 : decode cX0_init 35 = .ok (.putfield 28, 3) := by decide +kernel
theorem dX0_init_38 : decode cX0_init 38 = .ok (.aload_n 0, 1) := by decide +kernel
theorem dX0_init_39 : decode cX0_init 39 = .ok (.iconst 3, 1) := by decide +kernel
theorem dX0_init_40 : decode cX0_init 40 = .ok (.newarray .boolean, 2) := by decide +kernel
theorem dX0_init_42 : decode cX0_init 42 = .ok (.putfield 32, 3) := by decide +kernel
theorem dX0_init_45 : decode cX0_init 45 = .ok (.aload_n 0, 1) := by decide +kernel
theorem dX0_init_46 : decode cX0_init 46 = .ok (.iconst 0, 1) := by decide +kernel
theorem dX0_init_47 : decode cX0_init 47 = .ok (.putfield 36, 3) := by decide +kernel
theorem dX0_init_50 : decode cX0_init 50 = .ok (.aload_n 0, 1) := by decide +kernel
theorem dX0_init_51 : decode cX0_init 51 = .ok (.iconst 0, 1) := by decide +kernel
theorem dX0_init_52 : decode cX0_init 52 = .ok (.putfield 39, 3) := by decide +kernel
theorem dX0_init_55 : decode cX0_init 55 = .ok (.return_, 1) := by decide +kernel
set_option maxRecDepth 20000 in
theorem ggX0_find_X7_begin : GoodIn wsX0_find wsX7_begin := goodIn_r _ [16, 17, 18, 19, 20, 21, 22, 23, 24, 25, 26, 27, 28, 29, 30, 31, 32, 33, 34, 35, 36, 37, 38, 39, 40, 41, 42, 88, 89, 90, 91, 92, 93, 94, 95, 96, 97, 98, 99, 100, 101, 102, 103, 104, 105, 106] (by decide +kernel) (by decide +kernel)
set_option maxRecDepth 20000 in
theorem gX0_find_X7_begin : GoodIn wsX0_find (wsV RX0 50 RX7 yX7_begin wsX7_begin) := goodIn_app (goodIn_of _ (by decide +kernel)) ggX0_find_X7_begin
set_option maxRecDepth 20000 in
theorem ggX0_find_X3_enter : GoodIn wsX0_find wsX3_enter := goodIn_r _ [47, 48, 49, 50, 46, 51, 52, 107] (by decide +kernel) (by decide +kernel)
set_option maxRecDepth 20000 in
theorem gX0_find_X3_enter : GoodIn wsX0_find (wsV RX0 61 RX3 yX3_enter wsX3_enter) := goodIn_app (goodIn_of _ (by decide +kernel)) ggX0_find_X3_enter
set_option maxRecDepth 20000 in
theorem ggX0_find_X0_search : GoodIn wsX0_find wsX0_search := goodIn_r _ [56, 3, 5, 4, 8, 57, 1, 2, 58, 59, 60, 55, 61, 9, 10, 11, 62, 63, 64, 15, 65, 24, 18, 22, 19, 23, 66, 67, 28, 68, 43, 44, 45, 46, 47, 48, 49, 50, 51, 52, 53, 54, 69, 70, 71, 72, 73, 74, 75, 76, 77, 78, 79, 80, 81, 82, 83, 84, 85, 86, 87, 99, 100, 101, 102, 103, 104, 105, 106, 107] (by decide +kernel) (by decide +kernel)
set_option maxRecDepth 20000 in
theorem gX0_find_X0_search : GoodIn wsX0_find (va_wsS RX0 65 yX0_search wsX0_search) := goodIn_app (goodIn_of _ (by decide +kernel)) ggX0_find_X0_search
set_option maxRecDepth 20000 in
theorem ggX0_find_X3_leave : GoodIn wsX0_find wsX3_leave := goodIn_r _ [80, 48, 49, 50, 46, 51, 52, 107] (by decide +kernel) (by decide +kernel)
set_option maxRecDepth 20000 in
theorem gX0_find_X3_leave : GoodIn wsX0_find (wsV RX0 69 RX3 yX3_leave wsX3_leave) := goodIn_app (goodIn_of _ (by decide +kernel)) ggX0_find_X3_leave
theorem dX0_find_0 : decode cX0_find 0 = .ok (.aload_n 0, 1) := by decide +kernel
theorem dX0_find_1 : decode cX0_find 1 = .ok (.bipush (-5), 2) := by decide +kernel
theorem dX0_find_3 : decode cX0_find 3 = .ok (.putfield 9, 3) := by decide +kernel
theorem dX0_find_6 : decode cX0_find 6 = .ok (.aload_n 0, 1) := by decide +kernel
theorem dX0_find_7 : decode cX0_find 7 = .ok (.bipush (-5), 2) := by decide +kernel
theorem dX0_find_9 : decode cX0_find 9 = .ok (.putfield 15, 3) := by decide +kernel
theorem dX0_find_12 : decode cX0_find 12 = .ok (.aload_n 0, 1) := by decide +kernel
theorem dX0_find_13 : decode cX0_find 13 = .ok (.iload_n 2, 1) := by decide +kernel
theorem dX0_find_14 : decode cX0_find 14 = .ok (.putfield 36, 3) := by decide +kernel
theorem dX0_find_17 : decode cX0_find 17 = .ok (.aload_n 0, 1) := by decide +kernel
theorem dX0_find_18 : decode cX0_find 18 = .ok (.iload_n 2, 1) := by decide +kernel
theorem dX0_find_19 : decode cX0_find 19 = .ok (.iconst 1, 1) := by decide +kernel
theorem dX0_find_20 : decode cX0_find 20 = .ok (.iadd, 1) := by decide +kernel
theorem dX0_find_21 : decode cX0_find 21 = .ok (.putfield 39, 3) := by decide +kernel
theorem dX0_find_24 : decode cX0_find 24 = .ok (.aload_n 0, 1) := by decide +kernel
theorem dX0_find_25 : decode cX0_find 25 = .ok (.getfield 32, 3) := by decide +kernel
theorem dX0_find_28 : decode cX0_find 28 = .ok (.iconst 0, 1) := by decide +kernel
theorem dX0_find_29 : decode cX0_find 29 = .ok (.iconst 1, 1) := by decide +kernel
theorem dX0_find_30 : decode cX0_find 30 = .ok (.bastore, 1) := by decide +kernel
theorem dX0_find_31 : decode cX0_find 31 = .ok (.aload_n 0, 1) := by decide +kernel
theorem dX0_find_32 : decode cX0_find 32 = .ok (.getfield 32, 3) := by decide +kernel
theorem dX0_find_35 : decode cX0_find 35 = .ok (.iconst 1, 1) := by decide +kernel
theorem dX0_find_36 : decode cX0_find 36 = .ok (.aload_n 1, 1) := by decide +kernel
theorem dX0_find_37 : decode cX0_find 37 = .ok (.getfield 42, 3) := by decide +kernel
theorem dX0_find_40 : decode cX0_find 40 = .ok (.iconst (-1), 1) := by decide +kernel
theorem dX0_find_41 : decode cX0_find 41 = .ok (.if_icmp .eq 7, 3) := by decide +kernel
theorem dX0_find_44 : decode cX0_find 44 = .ok (.iconst 1, 1) := by decide +kernel
theorem dX0_find_45 : decode cX0_find 45 = .ok (.goto 4, 3) := by decide +kernel
theorem dX0_find_48 : decode cX0_find 48 = .ok (.iconst 0, 1) := by decide +kernel
theorem dX0_find_49 : decode cX0_find 49 = .ok (.bastore, 1) := by decide +kernel
theorem dX0_find_50 : decode cX0_find 50 = .ok (.aload_n 0, 1) := by decide +kernel
theorem dX0_find_51 : decode cX0_find 51 = .ok (.getfield 32, 3) := by decide +kernel
theorem dX0_find_54 : decode cX0_find 54 = .ok (.iconst 2, 1) := by decide +kernel
theorem dX0_find_55 : decode cX0_find 55 = .ok (.aload_n 1, 1) := by decide +kernel
theorem dX0_find_56 : decode cX0_find 56 = .ok (.getfield 47, 3) := by decide +kernel
theorem dX0_find_59 : decode cX0_find 59 = .ok (.iconst (-1), 1) := by decide +kernel
theorem dX0_find_60 : decode cX0_find 60 = .ok (.if_icmp .eq 7, 3) := by decide +kernel
theorem dX0_find_63 : decode cX0_find 63 = .ok (.iconst 1, 1) := by decide +kernel
theorem dX0_find_64 : decode cX0_find 64 = .ok (.goto 4, 3) := by decide +kernel
theorem dX0_find_67 : decode cX0_find 67 = .ok (.iconst 0, 1) := by decide +kernel
theorem dX0_find_68 : decode cX0_find 68 = .ok (.bastore, 1) := by decide +kernel
theorem dX0_find_69 : decode cX0_find 69 = .ok (.aload_n 0, 1) := by decide +kernel
theorem dX0_find_70 : decode cX0_find 70 = .ok (.getfield 21, 3) := by decide +kernel
theorem dX0_find_73 : decode cX0_find 73 = .ok (.aload_n 1, 1) := by decide +kernel
theorem dX0_find_74 : decode cX0_find 74 = .ok (.invokevirtual 50, 3) := by decide +kernel
theorem dX0_find_77 : decode cX0_find 77 = .ok (.aload_n 0, 1) := by decide +kernel
theorem dX0_find_78 : decode cX0_find 78 = .ok (.getfield 21, 3) := by decide +kernel
theorem dX0_find_81 : decode cX0_find 81 = .ok (.getfield 54, 3) := by decide +kernel
theorem dX0_find_84 : decode cX0_find 84 = .ok (.ifCond .le 41, 3) := by decide +kernel
theorem dX0_find_87 : decode cX0_find 87 = .ok (.aload_n 0, 1) := by decide +kernel
theorem dX0_find_88 : decode cX0_find 88 = .ok (.getfield 28, 3) := by decide +kernel
theorem dX0_find_91 : decode cX0_find 91 = .ok (.aload_n 0, 1) := by decide +kernel
theorem dX0_find_92 : decode cX0_find 92 = .ok (.getfield 21, 3) := by decide +kernel
theorem dX0_find_95 : decode cX0_find 95 = .ok (.getfield 57, 3) := by decide +kernel
theorem dX0_find_98 : decode cX0_find 98 = .ok (.iconst 0, 1) := by decide +kernel
theorem dX0_find_99 : decode cX0_find 99 = .ok (.invokevirtual 61, 3) := by decide +kernel
theorem dX0_find_102 : decode cX0_find 102 = .ok (.pop, 1) := by decide +kernel
theorem dX0_find_103 : decode cX0_find 103 = .ok (.aload_n 0, 1) := by decide +kernel
theorem dX0_find_104 : decode cX0_find 104 = .ok (.iconst 0, 1) := by decide +kernel
theorem dX0_find_105 : decode cX0_find 105 = .ok (.iconst 0, 1) := by decide +kernel
theorem dX0_find_106 : decode cX0_find 106 = .ok (.iconst 0, 1) := by decide +kernel
theorem dX0_find_107 : decode cX0_find 107 = .ok (.invokestatic 65, 3) := by decide +kernel
theorem dX0_find_110 : decode cX0_find 110 = .ok (.aload_n 0, 1) := by decide +kernel
theorem dX0_find_111 : decode cX0_find 111 = .ok (.getfield 28, 3) := by decide +kernel
theorem dX0_find_114 : decode cX0_find 114 = .ok (.aload_n 0, 1) := by decide +kernel
theorem dX0_find_115 : decode cX0_find 115 = .ok (.getfield 21, 3) := by decide +kernel
theorem dX0_find_118 : decode cX0_find 118 = .ok (.getfield 57, 3) := by decide +kernel
theorem dX0_find_121 : decode cX0_find 121 = .ok (.iconst 0, 1) := by decide +kernel
theorem dX0_find_122 : decode cX0_find 122 = .ok (.invokevirtual 69, 3) := by decide +kernel
theorem dX0_find_125 : decode cX0_find 125 = .ok (.return_, 1) := by decide +kernel
set_option maxRecDepth 20000 in
theorem ggX0_search_X0_ringTillAgain : GoodIn wsX0_search wsX0_ringTillAgain := goodIn_r _ [12, 4, 13, 14, 15, 5, 16, 17, 18, 19, 20, 21, 22, 23, 24, 25, 26, 27, 28, 29, 30, 31, 32, 33, 34, 35, 36, 37, 38, 39, 54, 55, 56, 57, 58, 59, 60, 61, 62, 63, 64, 65, 66, 67, 68, 69] (by decide +kernel) (by decide +kernel)
set_option maxRecDepth 20000 in
theorem gX0_search_X0_ringTillAgain : GoodIn wsX0_search (wsV RX0 76 RX0 yX0_ringTillAgain wsX0_ringTillAgain) := goodIn_app (goodIn_of _ (by decide +kernel)) ggX0_search_X0_ringTillAgain
set_option maxRecDepth 20000 in
theorem ggX0_search_X0_search : GoodIn wsX0_search wsX0_search := goodIn_r _ [0, 1, 2, 3, 4, 5, 6, 7, 8, 9, 10, 11, 12, 13, 14, 15, 16, 17, 18, 19, 20, 21, 22, 23, 24, 25, 26, 27, 28, 29, 30, 31, 32, 33, 34, 35, 36, 37, 38, 39, 40, 41, 42, 43, 44, 45, 46, 47, 48, 49, 50, 51, 52, 53, 54, 55, 56, 57, 58, 59, 60, 61, 62, 63, 64, 65, 66, 67, 68, 69] (by decide +kernel) (by decide +kernel)
set_option maxRecDepth 20000 in
theorem gX0_search_X0_search : GoodIn wsX0_search (va_wsS RX0 65 yX0_search wsX0_search) := goodIn_app (goodIn_of _ (by decide +kernel)) ggX0_search_X0_search
set_option maxRecDepth 20000 in
theorem ggX0_search_X0_isEnd : GoodIn wsX0_search wsX0_isEnd := goodIn_r _ [45, 1, 4, 13, 15, 54, 55, 56, 57, 58, 59, 60, 61, 62, 63, 64, 65, 66, 67, 68] (by decide +kernel) (by decide +kernel)
set_option maxRecDepth 20000 in
theorem gX0_search_X0_isEnd : GoodIn wsX0_search (wsV RX0 80 RX0 yX0_isEnd wsX0_isEnd) := goodIn_app (goodIn_of _ (by decide +kernel)) ggX0_search_X0_isEnd
set_option maxRecDepth 20000 in
theorem ggX0_search_X0_backTo : GoodIn wsX0_search wsX0_backTo := goodIn_r _ [49, 4, 5, 14, 15, 50, 51, 52, 33, 53, 35, 36, 37, 38, 39, 54, 55, 56, 57, 58, 59, 60, 61, 62, 63, 64, 65, 66, 67, 68, 69] (by decide +kernel) (by decide +kernel)
set_option maxRecDepth 20000 in
theorem gX0_search_X0_backTo : GoodIn wsX0_search (wsV RX0 84 RX0 yX0_backTo wsX0_backTo) := goodIn_app (goodIn_of _ (by decide +kernel)) ggX0_search_X0_backTo
theorem dX0_search_0 : decode cX0_search 0 = .ok (.iload_n 1, 1) := by decide +kernel
theorem dX0_search_1 : decode cX0_search 1 = .ok (.aload_n 0, 1) := by decide +kernel
theorem dX0_search_2 : decode cX0_search 2 = .ok (.getfield 36, 3) := by decide +kernel
theorem dX0_search_5 : decode cX0_search 5 = .ok (.if_icmp .lt 4, 3) := by decide +kernel
theorem dX0_search_8 : decode cX0_search 8 = .ok (.return_, 1) := by decide +kernel
theorem dX0_search_9 : decode cX0_search 9 = .ok (.iconst 0, 1) := by decide +kernel
theorem dX0_search_10 : decode cX0_search 10 = .ok (.istore 4, 2) := by decide +kernel
theorem dX0_search_12 : decode cX0_search 12 = .ok (.iload 4, 2) := by decide +kernel
theorem dX0_search_14 : decode cX0_search 14 = .ok (.iconst 2, 1) := by decide +kernel
theorem dX0_search_15 : decode cX0_search 15 = .ok (.if_icmp .gt 121, 3) := by decide +kernel
theorem dX0_search_18 : decode cX0_search 18 = .ok (.iload 4, 2) := by decide +kernel
theorem dX0_search_20 : decode cX0_search 20 = .ok (.ifCond .ne 7, 3) := by decide +kernel
theorem dX0_search_23 : decode cX0_search 23 = .ok (.iload_n 3, 1) := by decide +kernel
theorem dX0_search_24 : decode cX0_search 24 = .ok (.goto 6, 3) := by decide +kernel
theorem dX0_search_27 : decode cX0_search 27 = .ok (.iload_n 3, 1) := by decide +kernel
theorem dX0_search_28 : decode cX0_search 28 = .ok (.iconst 1, 1) := by decide +kernel
theorem dX0_search_29 : decode cX0_search 29 = .ok (.iadd, 1) := by decide +kernel
theorem dX0_search_30 : decode cX0_search 30 = .ok (.istore 5, 2) := by decide +kernel
theorem dX0_search_32 : decode cX0_search 32 = .ok (.aload_n 0, 1) := by decide +kernel
theorem dX0_search_33 : decode cX0_search 33 = .ok (.getfield 32, 3) := by decide +kernel
theorem dX0_search_36 : decode cX0_search 36 = .ok (.iload 4, 2) := by decide +kernel
theorem dX0_search_38 : decode cX0_search 38 = .ok (.baload, 1) := by decide +kernel
theorem dX0_search_39 : decode cX0_search 39 = .ok (.ifCond .eq 91, 3) := by decide +kernel
theorem dX0_search_42 : decode cX0_search 42 = .ok (.iload 5, 2) := by decide +kernel
theorem dX0_search_44 : decode cX0_search 44 = .ok (.aload_n 0, 1) := by decide +kernel
theorem dX0_search_45 : decode cX0_search 45 = .ok (.getfield 39, 3) := by decide +kernel
theorem dX0_search_48 : decode cX0_search 48 = .ok (.if_icmp .ge 82, 3) := by decide +kernel
theorem dX0_search_51 : decode cX0_search 51 = .ok (.aload_n 0, 1) := by decide +kernel
theorem dX0_search_52 : decode cX0_search 52 = .ok (.getfield 21, 3) := by decide +kernel
theorem dX0_search_55 : decode cX0_search 55 = .ok (.getfield 73, 3) := by decide +kernel
theorem dX0_search_58 : decode cX0_search 58 = .ok (.istore 6, 2) := by decide +kernel
theorem dX0_search_60 : decode cX0_search 60 = .ok (.aload_n 0, 1) := by decide +kernel
theorem dX0_search_61 : decode cX0_search 61 = .ok (.iload 4, 2) := by decide +kernel
theorem dX0_search_63 : decode cX0_search 63 = .ok (.invokevirtual 76, 3) := by decide +kernel
theorem dX0_search_66 : decode cX0_search 66 = .ok (.istore 7, 2) := by decide +kernel
theorem dX0_search_68 : decode cX0_search 68 = .ok (.iload 7, 2) := by decide +kernel
theorem dX0_search_70 : decode cX0_search 70 = .ok (.bipush (-5), 2) := by decide +kernel
theorem dX0_search_72 : decode cX0_search 72 = .ok (.if_icmp .ne 21, 3) := by decide +kernel
theorem dX0_search_75 : decode cX0_search 75 = .ok (.aload_n 0, 1) := by decide +kernel
theorem dX0_search_76 : decode cX0_search 76 = .ok (.iload_n 1, 1) := by decide +kernel
theorem dX0_search_77 : decode cX0_search 77 = .ok (.iconst 1, 1) := by decide +kernel
theorem dX0_search_78 : decode cX0_search 78 = .ok (.iadd, 1) := by decide +kernel
theorem dX0_search_79 : decode cX0_search 79 = .ok (.iconst 3, 1) := by decide +kernel
theorem dX0_search_80 : decode cX0_search 80 = .ok (.iload_n 2, 1) := by decide +kernel
theorem dX0_search_81 : decode cX0_search 81 = .ok (.imul, 1) := by decide +kernel
theorem dX0_search_82 : decode cX0_search 82 = .ok (.iload 4, 2) := by decide +kernel
theorem dX0_search_84 : decode cX0_search 84 = .ok (.iadd, 1) := by decide +kernel
theorem dX0_search_85 : decode cX0_search 85 = .ok (.iload 5, 2) := by decide +kernel
theorem dX0_search_87 : decode cX0_search 87 = .ok (.invokestatic 65, 3) := by decide +kernel
theorem dX0_search_90 : decode cX0_search 90 = .ok (.goto 34, 3) := by decide +kernel
theorem dX0_search_93 : decode cX0_search 93 = .ok (.aload_n 0, 1) := by decide +kernel
theorem dX0_search_94 : decode cX0_search 94 = .ok (.iload 7, 2) := by decide +kernel
theorem dX0_search_96 : decode cX0_search 96 = .ok (.invokevirtual 80, 3) := by decide +kernel
theorem dX0_search_99 : decode cX0_search 99 = .ok (.ifCond .eq 25, 3) := by decide +kernel
theorem dX0_search_102 : decode cX0_search 102 = .ok (.aload_n 0, 1) := by decide +kernel
theorem dX0_search_103 : decode cX0_search 103 = .ok (.iconst 3, 1) := by decide +kernel
theorem dX0_search_104 : decode cX0_search 104 = .ok (.iload_n 2, 1) := by decide +kernel
theorem dX0_search_105 : decode cX0_search 105 = .ok (.imul, 1) := by decide +kernel
theorem dX0_search_106 : decode cX0_search 106 = .ok (.iload 4, 2) := by decide +kernel
theorem dX0_search_108 : decode cX0_search 108 = .ok (.iadd, 1) := by decide +kernel
theorem dX0_search_109 : decode cX0_search 109 = .ok (.putfield 9, 3) := by decide +kernel
theorem dX0_search_112 : decode cX0_search 112 = .ok (.aload_n 0, 1) := by decide +kernel
theorem dX0_search_113 : decode cX0_search 113 = .ok (.iload 5, 2) := by decide +kernel
theorem dX0_search_115 : decode cX0_search 115 = .ok (.putfield 15, 3) := by decide +kernel
theorem dX0_search_118 : decode cX0_search 118 = .ok (.aload_n 0, 1) := by decide +kernel
theorem dX0_search_119 : decode cX0_search 119 = .ok (.iload 5, 2) := by decide +kernel
theorem dX0_search_121 : decode cX0_search 121 = .ok (.putfield 39, 3) := by decide +kernel
theorem dX0_search_124 : decode cX0_search 124 = .ok (.aload_n 0, 1) := by decide +kernel
theorem dX0_search_125 : decode cX0_search 125 = .ok (.iload 6, 2) := by decide +kernel
theorem dX0_search_127 : decode cX0_search 127 = .ok (.invokevirtual 84, 3) := by decide +kernel
theorem dX0_search_130 : decode cX0_search 130 = .ok (.iinc 4 1, 3) := by decide +kernel
theorem dX0_search_133 : decode cX0_search 133 = .ok (.goto (-121), 3) := by decide +kernel
theorem dX0_search_136 : decode cX0_search 136 = .ok (.return_, 1) := by decide +kernel
set_option maxRecDepth 20000 in
theorem ggX0_ringTillAgain_X7_step : GoodIn wsX0_ringTillAgain wsX7_step := goodIn_r _ [10, 11, 12, 13, 14, 15, 16, 17, 18, 19, 37, 38, 39, 40, 41, 42, 43, 44] (by decide +kernel) (by decide +kernel)
set_option maxRecDepth 20000 in
theorem gX0_ringTillAgain_X7_step : GoodIn wsX0_ringTillAgain (wsV RX0 88 RX7 yX7_step wsX7_step) := goodIn_app (goodIn_of _ (by decide +kernel)) ggX0_ringTillAgain_X7_step
set_option maxRecDepth 20000 in
theorem ggX0_ringTillAgain_X3_enter : GoodIn wsX0_ringTillAgain wsX3_enter := goodIn_r _ [24, 25, 26, 27, 23, 28, 29, 45] (by decide +kernel) (by decide +kernel)
set_option maxRecDepth 20000 in
theorem gX0_ringTillAgain_X3_enter : GoodIn wsX0_ringTillAgain (wsV RX0 61 RX3 yX3_enter wsX3_enter) := goodIn_app (goodIn_of _ (by decide +kernel)) ggX0_ringTillAgain_X3_enter
theorem dX0_ringTillAgain_0 : decode cX0_ringTillAgain 0 = .ok (.iconst 0, 1) := by decide +kernel
theorem dX0_ringTillAgain_1 : decode cX0_ringTillAgain 1 = .ok (.istore_n 2, 1) := by decide +kernel
theorem dX0_ringTillAgain_2 : decode cX0_ringTillAgain 2 = .ok (.iload_n 2, 1) := by decide +kernel
theorem dX0_ringTillAgain_3 : decode cX0_ringTillAgain 3 = .ok (.aload_n 0, 1) := by decide +kernel
theorem dX0_ringTillAgain_4 : decode cX0_ringTillAgain 4 = .ok (.getfield 21, 3) := by decide +kernel
theorem dX0_ringTillAgain_7 : decode cX0_ringTillAgain 7 = .ok (.getfield 54, 3) := by decide +kernel
theorem dX0_ringTillAgain_10 : decode cX0_ringTillAgain 10 = .ok (.if_icmp .ge 57, 3) := by decide +kernel
theorem dX0_ringTillAgain_13 : decode cX0_ringTillAgain 13 = .ok (.aload_n 0, 1) := by decide +kernel
theorem dX0_ringTillAgain_14 : decode cX0_ringTillAgain 14 = .ok (.getfield 21, 3) := by decide +kernel
theorem dX0_ringTillAgain_17 : decode cX0_ringTillAgain 17 = .ok (.iload_n 2, 1) := by decide +kernel
theorem dX0_ringTillAgain_18 : decode cX0_ringTillAgain 18 = .ok (.iload_n 1, 1) := by decide +kernel
theorem dX0_ringTillAgain_19 : decode cX0_ringTillAgain 19 = .ok (.invokevirtual 88, 3) := by decide +kernel
theorem dX0_ringTillAgain_22 : decode cX0_ringTillAgain 22 = .ok (.aload_n 0, 1) := by decide +kernel
theorem dX0_ringTillAgain_23 : decode cX0_ringTillAgain 23 = .ok (.getfield 28, 3) := by decide +kernel
theorem dX0_ringTillAgain_26 : decode cX0_ringTillAgain 26 = .ok (.aload_n 0, 1) := by decide +kernel
theorem dX0_ringTillAgain_27 : decode cX0_ringTillAgain 27 = .ok (.getfield 21, 3) := by decide +kernel
theorem dX0_ringTillAgain_30 : decode cX0_ringTillAgain 30 = .ok (.getfield 57, 3) := by decide +kernel
theorem dX0_ringTillAgain_33 : decode cX0_ringTillAgain 33 = .ok (.aload_n 0, 1) := by decide +kernel
theorem dX0_ringTillAgain_34 : decode cX0_ringTillAgain 34 = .ok (.getfield 21, 3) := by decide +kernel
theorem dX0_ringTillAgain_37 : decode cX0_ringTillAgain 37 = .ok (.getfield 73, 3) := by decide +kernel
theorem dX0_ringTillAgain_40 : decode cX0_ringTillAgain 40 = .ok (.invokevirtual 61, 3) := by decide +kernel
theorem dX0_ringTillAgain_43 : decode cX0_ringTillAgain 43 = .ok (.aload_n 0, 1) := by decide +kernel
theorem dX0_ringTillAgain_44 : decode cX0_ringTillAgain 44 = .ok (.getfield 21, 3) := by decide +kernel
theorem dX0_ringTillAgain_47 : decode cX0_ringTillAgain 47 = .ok (.getfield 73, 3) := by decide +kernel
theorem dX0_ringTillAgain_50 : decode cX0_ringTillAgain 50 = .ok (.if_icmp .eq 11, 3) := by decide +kernel
theorem dX0_ringTillAgain_53 : decode cX0_ringTillAgain 53 = .ok (.aload_n 0, 1) := by decide +kernel
theorem dX0_ringTillAgain_54 : decode cX0_ringTillAgain 54 = .ok (.getfield 21, 3) := by decide +kernel
theorem dX0_ringTillAgain_57 : decode cX0_ringTillAgain 57 = .ok (.getfield 73, 3) := by decide +kernel
theorem dX0_ringTillAgain_60 : decode cX0_ringTillAgain 60 = .ok (.ireturn, 1) := by decide +kernel
theorem dX0_ringTillAgain_61 : decode cX0_ringTillAgain 61 = .ok (.iinc 2 1, 3) := by decide +kernel
theorem dX0_ringTillAgain_64 : decode cX0_ringTillAgain 64 = .ok (.goto (-62), 3) := by decide +kernel
theorem dX0_ringTillAgain_67 : decode cX0_ringTillAgain 67 = .ok (.bipush (-5), 2) := by decide +kernel
theorem dX0_ringTillAgain_69 : decode cX0_ringTillAgain 69 = .ok (.ireturn, 1) := by decide +kernel
theorem dX0_isEnd_0 : decode cX0_isEnd 0 = .ok (.iload_n 1, 1) := by decide +kernel
theorem dX0_isEnd_1 : decode cX0_isEnd 1 = .ok (.aload_n 0, 1) := by decide +kernel
theorem dX0_isEnd_2 : decode cX0_isEnd 2 = .ok (.getfield 36, 3) := by decide +kernel
theorem dX0_isEnd_5 : decode cX0_isEnd 5 = .ok (.aload_n 0, 1) := by decide +kernel
theorem dX0_isEnd_6 : decode cX0_isEnd 6 = .ok (.getfield 21, 3) := by decide +kernel
theorem dX0_isEnd_9 : decode cX0_isEnd 9 = .ok (.getfield 54, 3) := by decide +kernel
theorem dX0_isEnd_12 : decode cX0_isEnd 12 = .ok (.imul, 1) := by decide +kernel
theorem dX0_isEnd_13 : decode cX0_isEnd 13 = .ok (.if_icmp .ne 28, 3) := by decide +kernel
theorem dX0_isEnd_16 : decode cX0_isEnd 16 = .ok (.aload_n 0, 1) := by decide +kernel
theorem dX0_isEnd_17 : decode cX0_isEnd 17 = .ok (.getfield 21, 3) := by decide +kernel
theorem dX0_isEnd_20 : decode cX0_isEnd 20 = .ok (.getfield 57, 3) := by decide +kernel
theorem dX0_isEnd_23 : decode cX0_isEnd 23 = .ok (.iload_n 1, 1) := by decide +kernel
theorem dX0_isEnd_24 : decode cX0_isEnd 24 = .ok (.iaload, 1) := by decide +kernel
theorem dX0_isEnd_25 : decode cX0_isEnd 25 = .ok (.aload_n 0, 1) := by decide +kernel
theorem dX0_isEnd_26 : decode cX0_isEnd 26 = .ok (.getfield 21, 3) := by decide +kernel
theorem dX0_isEnd_29 : decode cX0_isEnd 29 = .ok (.getfield 57, 3) := by decide +kernel
theorem dX0_isEnd_32 : decode cX0_isEnd 32 = .ok (.iconst 0, 1) := by decide +kernel
theorem dX0_isEnd_33 : decode cX0_isEnd 33 = .ok (.iaload, 1) := by decide +kernel
theorem dX0_isEnd_34 : decode cX0_isEnd 34 = .ok (.if_icmp .ne 7, 3) := by decide +kernel
theorem dX0_isEnd_37 : decode cX0_isEnd 37 = .ok (.iconst 1, 1) := by decide +kernel
theorem dX0_isEnd_38 : decode cX0_isEnd 38 = .ok (.goto 4, 3) := by decide +kernel
theorem dX0_isEnd_41 : decode cX0_isEnd 41 = .ok (.iconst 0, 1) := by decide +kernel
theorem dX0_isEnd_42 : decode cX0_isEnd 42 = .ok (.ireturn, 1) := by decide +kernel
set_option maxRecDepth 20000 in
theorem ggX0_backTo_X3_leave : GoodIn wsX0_backTo wsX3_leave := goodIn_r _ [9, 10, 11, 12, 8, 13, 14, 30] (by decide +kernel) (by decide +kernel)
set_option maxRecDepth 20000 in
theorem gX0_backTo_X3_leave : GoodIn wsX0_backTo (wsV RX0 69 RX3 yX3_leave wsX3_leave) := goodIn_app (goodIn_of _ (by decide +kernel)) ggX0_backTo_X3_leave
theorem dX0_backTo_0 : decode cX0_backTo 0 = .ok (.aload_n 0, 1) := by decide +kernel
theorem dX0_backTo_1 : decode cX0_backTo 1 = .ok (.getfield 21, 3) := by decide +kernel
theorem dX0_backTo_4 : decode cX0_backTo 4 = .ok (.getfield 73, 3) := by decide +kernel
theorem dX0_backTo_7 : decode cX0_backTo 7 = .ok (.istore_n 2, 1) := by decide +kernel
theorem dX0_backTo_8 : decode cX0_backTo 8 = .ok (.iload_n 2, 1) := by decide +kernel
theorem dX0_backTo_9 : decode cX0_backTo 9 = .ok (.iload_n 1, 1) := by decide +kernel
theorem dX0_backTo_10 : decode cX0_backTo 10 = .ok (.if_icmp .le 24, 3) := by decide +kernel
theorem dX0_backTo_13 : decode cX0_backTo 13 = .ok (.aload_n 0, 1) := by decide +kernel
theorem dX0_backTo_14 : decode cX0_backTo 14 = .ok (.getfield 28, 3) := by decide +kernel
theorem dX0_backTo_17 : decode cX0_backTo 17 = .ok (.aload_n 0, 1) := by decide +kernel
theorem dX0_backTo_18 : decode cX0_backTo 18 = .ok (.getfield 21, 3) := by decide +kernel
theorem dX0_backTo_21 : decode cX0_backTo 21 = .ok (.getfield 57, 3) := by decide +kernel
theorem dX0_backTo_24 : decode cX0_backTo 24 = .ok (.iload_n 2, 1) := by decide +kernel
theorem dX0_backTo_25 : decode cX0_backTo 25 = .ok (.invokevirtual 69, 3) := by decide +kernel
theorem dX0_backTo_28 : decode cX0_backTo 28 = .ok (.iinc 2 (-1), 3) := by decide +kernel
theorem dX0_backTo_31 : decode cX0_backTo 31 = .ok (.goto (-23), 3) := by decide +kernel
theorem dX0_backTo_34 : decode cX0_backTo 34 = .ok (.aload_n 0, 1) := by decide +kernel
theorem dX0_backTo_35 : decode cX0_backTo 35 = .ok (.getfield 21, 3) := by decide +kernel
theorem dX0_backTo_38 : decode cX0_backTo 38 = .ok (.iload_n 1, 1) := by decide +kernel
theorem dX0_backTo_39 : decode cX0_backTo 39 = .ok (.putfield 73, 3) := by decide +kernel
theorem dX0_backTo_42 : decode cX0_backTo 42 = .ok (.return_, 1) := by decide +kernel
theorem dX1_init_0 : decode cX1_init 0 = .ok (.aload_n 0, 1) := by decide +kernel
theorem dX1_init_1 : decode cX1_init 1 = .ok (.invokespecial 1, 3) := by decide +kernel
theorem dX1_init_4 : decode cX1_init 4 = .ok (.aload_n 0, 1) := by decide +kernel
theorem dX1_init_5 : decode cX1_init 5 = .ok (.iconst 0, 1) := by decide +kernel
theorem dX1_init_6 : decode cX1_init 6 = .ok (.putfield 7, 3) := by decide +kernel
theorem dX1_init_9 : decode cX1_init 9 = .ok (.iload_n 1, 1) := by decide +kernel
theorem dX1_init_10 : decode cX1_init 10 = .ok (.ifCond .ge 7, 3) := by decide +kernel
theorem dX1_init_13 : decode cX1_init 13 = .ok (.iconst 0, 1) := by decide +kernel
theorem dX1_init_14 : decode cX1_init 14 = .ok (.goto 4, 3) := by decide +kernel
theorem dX1_init_17 : decode cX1_init 17 = .ok (.iload_n 1, 1) := by decide +kernel
theorem dX1_init_18 : decode cX1_init 18 = .ok (.istore_n 2, 1) := by decide +kernel
theorem dX1_init_19 : decode cX1_init 19 = .ok (.aload_n 0, 1) := by decide +kernel
theorem dX1_init_20 : decode cX1_init 20 = .ok (.iload_n 2, 1) := by decide +kernel
theorem dX1_init_21 : decode cX1_init 21 = .ok (.newarray .int, 2) := by decide +kernel
theorem dX1_init_23 : decode cX1_init 23 = .ok (.putfield 13, 3) := by decide +kernel
theorem dX1_init_26 : decode cX1_init 26 = .ok (.aload_n 0, 1) := by decide +kernel
theorem dX1_init_27 : decode cX1_init 27 = .ok (.iload_n 2, 1) := by decide +kernel
theorem dX1_init_28 : decode cX1_init 28 = .ok (.newarray .int, 2) := by decide +kernel
theorem dX1_init_30 : decode cX1_init 30 = .ok (.putfield 17, 3) := by decide +kernel
theorem dX1_init_33 : decode cX1_init 33 = .ok (.aload_n 0, 1) := by decide +kernel
theorem dX1_init_34 : decode cX1_init 34 = .ok (.iload_n 2, 1) := by decide +kernel
theorem dX1_init_35 : decode cX1_init 35 = .ok (.newarray .int, 2) := by decide +kernel
theorem dX1_init_37 : decode cX1_init 37 = .ok (.putfield 20, 3) := by decide +kernel
theorem dX1_init_40 : decode cX1_init 40 = .ok (.return_, 1) := by decide +kernel
theorem dX1_append_0 : decode cX1_append 0 = .ok (.aload_n 0, 1) := by decide +kernel
theorem dX1_append_1 : decode cX1_append 1 = .ok (.getfield 7, 3) := by decide +kernel
theorem dX1_append_4 : decode cX1_append 4 = .ok (.ifCond .lt 15, 3) := by decide +kernel
theorem dX1_append_7 : decode cX1_append 7 = .ok (.aload_n 0, 1) := by decide +kernel
theorem dX1_append_8 : decode cX1_append 8 = .ok (.getfield 7, 3) := by decide +kernel
theorem dX1_append_11 : decode cX1_append 11 = .ok (.aload_n 0, 1) := by decide +kernel
theorem dX1_append_12 : decode cX1_append 12 = .ok (.getfield 13, 3) := by decide +kernel
theorem dX1_append_15 : decode cX1_append 15 = .ok (.arraylength, 1) := by decide +kernel
theorem dX1_append_16 : decode cX1_append 16 = .ok (.if_icmp .lt 5, 3) := by decide +kernel
theorem dX1_append_19 : decode cX1_append 19 = .ok (.iconst 0, 1) := by decide +kernel
theorem dX1_append_20 : decode cX1_append 20 = .ok (.ireturn, 1) := by decide +kernel
theorem dX1_append_21 : decode cX1_append 21 = .ok (.aload_n 0, 1) := by decide +kernel
theorem dX1_append_22 : decode cX1_append 22 = .ok (.getfield 13, 3) := by decide +kernel
theorem dX1_append_25 : decode cX1_append 25 = .ok (.aload_n 0, 1) := by decide +kernel
theorem dX1_append_26 : decode cX1_append 26 = .ok (.getfield 7, 3) := by decide +kernel
theorem dX1_append_29 : decode cX1_append 29 = .ok (.iload_n 1, 1) := by decide +kernel
theorem dX1_append_30 : decode cX1_append 30 = .ok (.iastore, 1) := by decide +kernel
theorem dX1_append_31 : decode cX1_append 31 = .ok (.aload_n 0, 1) := by decide +kernel
theorem dX1_append_32 : decode cX1_append 32 = .ok (.getfield 17, 3) := by decide +kernel
theorem dX1_append_35 : decode cX1_append 35 = .ok (.aload_n 0, 1) := by decide +kernel
theorem dX1_append_36 : decode cX1_append 36 = .ok (.getfield 7, 3) := by decide +kernel
theorem dX1_append_39 : decode cX1_append 39 = .ok (.iload_n 2, 1) := by decide +kernel
theorem dX1_append_40 : decode cX1_append 40 = .ok (.iastore, 1) := by decide +kernel
theorem dX1_append_41 : decode cX1_append 41 = .ok (.aload_n 0, 1) := by decide +kernel
theorem dX1_append_42 : decode cX1_append 42 = .ok (.getfield 20, 3) := by decide +kernel
theorem dX1_append_45 : decode cX1_append 45 = .ok (.aload_n 0, 1) := by decide +kernel
theorem dX1_append_46 : decode cX1_append 46 = .ok (.getfield 7, 3) := by decide +kernel
theorem dX1_append_49 : decode cX1_append 49 = .ok (.iload_n 3, 1) := by decide +kernel
theorem dX1_append_50 : decode cX1_append 50 = .ok (.iastore, 1) := by decide +kernel
theorem dX1_append_51 : decode cX1_append 51 = .ok (.aload_n 0, 1) := by decide +kernel
theorem dX1_append_52 : decode cX1_append 52 = .ok (.dup, 1) := by decide +kernel
theorem dX1_append_53 : decode cX1_append 53 = .ok (.getfield 7, 3) := by decide +kernel
theorem dX1_append_56 : decode cX1_append 56 = .ok (.iconst 1, 1) := by decide +kernel
theorem dX1_append_57 : decode cX1_append 57 = .ok (.iadd, 1) := by decide +kernel
theorem dX1_append_58 : decode cX1_append 58 = .ok (.putfield 7, 3) := by decide +kernel
theorem dX1_append_61 : decode cX1_append 61 = .ok (.iconst 1, 1) := by decide +kernel
theorem dX1_append_62 : decode cX1_append 62 = .ok (.ireturn, 1) := by decide +kernel
set_option maxRecDepth 20000 in
theorem ggX1_copyFrom_X1_append : GoodIn wsX1_copyFrom wsX1_append := goodIn_r _ [9, 1, 2, 3, 4, 10, 11, 12, 13] (by decide +kernel) (by decide +kernel)
set_option maxRecDepth 20000 in
theorem gX1_copyFrom_X1_append : GoodIn wsX1_copyFrom (wsV RX1 23 RX1 yX1_append wsX1_append) := goodIn_app (goodIn_of _ (by decide +kernel)) ggX1_copyFrom_X1_append
theorem dX1_copyFrom_0 : decode cX1_copyFrom 0 = .ok (.aload_n 0, 1) := by decide +kernel
theorem dX1_copyFrom_1 : decode cX1_copyFrom 1 = .ok (.iconst 0, 1) := by decide +kernel
theorem dX1_copyFrom_2 : decode cX1_copyFrom 2 = .ok (.putfield 7, 3) := by decide +kernel
theorem dX1_copyFrom_5 : decode cX1_copyFrom 5 = .ok (.iconst 0, 1) := by decide +kernel
theorem dX1_copyFrom_6 : decode cX1_copyFrom 6 = .ok (.istore_n 2, 1) := by decide +kernel
theorem dX1_copyFrom_7 : decode cX1_copyFrom 7 = .ok (.iload_n 2, 1) := by decide +kernel
theorem dX1_copyFrom_8 : decode cX1_copyFrom 8 = .ok (.aload_n 1, 1) := by decide +kernel
theorem dX1_copyFrom_9 : decode cX1_copyFrom 9 = .ok (.getfield 7, 3) := by decide +kernel
theorem dX1_copyFrom_12 : decode cX1_copyFrom 12 = .ok (.if_icmp .ge 32, 3) := by decide +kernel
theorem dX1_copyFrom_15 : decode cX1_copyFrom 15 = .ok (.aload_n 0, 1) := by decide +kernel
theorem dX1_copyFrom_16 : decode cX1_copyFrom 16 = .ok (.aload_n 1, 1) := by decide +kernel
theorem dX1_copyFrom_17 : decode cX1_copyFrom 17 = .ok (.getfield 13, 3) := by decide +kernel
theorem dX1_copyFrom_20 : decode cX1_copyFrom 20 = .ok (.iload_n 2, 1) := by decide +kernel
theorem dX1_copyFrom_21 : decode cX1_copyFrom 21 = .ok (.iaload, 1) := by decide +kernel
theorem dX1_copyFrom_22 : decode cX1_copyFrom 22 = .ok (.aload_n 1, 1) := by decide +kernel
theorem dX1_copyFrom_23 : decode cX1_copyFrom 23 = .ok (.getfield 17, 3) := by decide +kernel
theorem dX1_copyFrom_26 : decode cX1_copyFrom 26 = .ok (.iload_n 2, 1) := by decide +kernel
theorem dX1_copyFrom_27 : decode cX1_copyFrom 27 = .ok (.iaload, 1) := by decide +kernel
theorem dX1_copyFrom_28 : decode cX1_copyFrom 28 = .ok (.aload_n 1, 1) := by decide +kernel
theorem dX1_copyFrom_29 : decode cX1_copyFrom 29 = .ok (.getfield 20, 3) := by decide +kernel
theorem dX1_copyFrom_32 : decode cX1_copyFrom 32 = .ok (.iload_n 2, 1) := by decide +kernel
theorem dX1_copyFrom_33 : decode cX1_copyFrom 33 = .ok (.iaload, 1) := by decide +kernel
theorem dX1_copyFrom_34 : decode cX1_copyFrom 34 = .ok (.invokevirtual 23, 3) := by decide +kernel
theorem dX1_copyFrom_37 : decode cX1_copyFrom 37 = .ok (.pop, 1) := by decide +kernel
theorem dX1_copyFrom_38 : decode cX1_copyFrom 38 = .ok (.iinc 2 1, 3) := by decide +kernel
theorem dX1_copyFrom_41 : decode cX1_copyFrom 41 = .ok (.goto (-34), 3) := by decide +kernel
theorem dX1_copyFrom_44 : decode cX1_copyFrom 44 = .ok (.return_, 1) := by decide +kernel
theorem dX2_rounds_0 : decode cX2_rounds 0 = .ok (.iconst 0, 1) := by decide +kernel
theorem dX2_rounds_1 : decode cX2_rounds 1 = .ok (.istore_n 1, 1) := by decide +kernel
theorem dX2_rounds_2 : decode cX2_rounds 2 = .ok (.iconst 1, 1) := by decide +kernel
theorem dX2_rounds_3 : decode cX2_rounds 3 = .ok (.istore_n 2, 1) := by decide +kernel
theorem dX2_rounds_4 : decode cX2_rounds 4 = .ok (.iload_n 2, 1) := by decide +kernel
theorem dX2_rounds_5 : decode cX2_rounds 5 = .ok (.iload_n 0, 1) := by decide +kernel
theorem dX2_rounds_6 : decode cX2_rounds 6 = .ok (.if_icmp .gt 19, 3) := by decide +kernel
theorem dX2_rounds_9 : decode cX2_rounds 9 = .ok (.iload_n 1, 1) := by decide +kernel
theorem dX2_rounds_10 : decode cX2_rounds 10 = .ok (.iload_n 2, 1) := by decide +kernel
theorem dX2_rounds_11 : decode cX2_rounds 11 = .ok (.iconst 4, 1) := by decide +kernel
theorem dX2_rounds_12 : decode cX2_rounds 12 = .ok (.iload_n 2, 1) := by decide +kernel
theorem dX2_rounds_13 : decode cX2_rounds 13 = .ok (.iconst 1, 1) := by decide +kernel
theorem dX2_rounds_14 : decode cX2_rounds 14 = .ok (.isub, 1) := by decide +kernel
theorem dX2_rounds_15 : decode cX2_rounds 15 = .ok (.imul, 1) := by decide +kernel
theorem dX2_rounds_16 : decode cX2_rounds 16 = .ok (.ishl, 1) := by decide +kernel
theorem dX2_rounds_17 : decode cX2_rounds 17 = .ok (.ior, 1) := by decide +kernel
theorem dX2_rounds_18 : decode cX2_rounds 18 = .ok (.istore_n 1, 1) := by decide +kernel
theorem dX2_rounds_19 : decode cX2_rounds 19 = .ok (.iinc 2 1, 3) := by decide +kernel
theorem dX2_rounds_22 : decode cX2_rounds 22 = .ok (.goto (-18), 3) := by decide +kernel
theorem dX2_rounds_25 : decode cX2_rounds 25 = .ok (.iload_n 1, 1) := by decide +kernel
theorem dX2_rounds_26 : decode cX2_rounds 26 = .ok (.ireturn, 1) := by decide +kernel
theorem dX2_bellIn_0 : decode cX2_bellIn 0 = .ok (.iload_n 0, 1) := by decide +kernel
theorem dX2_bellIn_1 : decode cX2_bellIn 1 = .ok (.iconst 4, 1) := by decide +kernel
theorem dX2_bellIn_2 : decode cX2_bellIn 2 = .ok (.iload_n 1, 1) := by decide +kernel
theorem dX2_bellIn_3 : decode cX2_bellIn 3 = .ok (.iconst 1, 1) := by decide +kernel
theorem dX2_bellIn_4 : decode cX2_bellIn 4 = .ok (.isub, 1) := by decide +kernel
theorem dX2_bellIn_5 : decode cX2_bellIn 5 = .ok (.imul, 1) := by decide +kernel
theorem dX2_bellIn_6 : decode cX2_bellIn 6 = .ok (.iushr, 1) := by decide +kernel
theorem dX2_bellIn_7 : decode cX2_bellIn 7 = .ok (.bipush 15, 2) := by decide +kernel
theorem dX2_bellIn_9 : decode cX2_bellIn 9 = .ok (.iand, 1) := by decide +kernel
theorem dX2_bellIn_10 : decode cX2_bellIn 10 = .ok (.ireturn, 1) := by decide +kernel
set_option maxRecDepth 20000 in
theorem ggX2_placeOf_X2_bellIn : GoodIn wsX2_placeOf wsX2_bellIn := goodIn_r _ [4] (by decide +kernel) (by decide +kernel)
set_option maxRecDepth 20000 in
theorem gX2_placeOf_X2_bellIn : GoodIn wsX2_placeOf (va_wsS RX2 9 yX2_bellIn wsX2_bellIn) := goodIn_app (goodIn_of _ (by decide +kernel)) ggX2_placeOf_X2_bellIn
theorem dX2_placeOf_0 : decode cX2_placeOf 0 = .ok (.iconst 1, 1) := by decide +kernel
theorem dX2_placeOf_1 : decode cX2_placeOf 1 = .ok (.istore_n 2, 1) := by decide +kernel
theorem dX2_placeOf_2 : decode cX2_placeOf 2 = .ok (.iload_n 2, 1) := by decide +kernel
theorem dX2_placeOf_3 : decode cX2_placeOf 3 = .ok (.bipush 8, 2) := by decide +kernel
theorem dX2_placeOf_5 : decode cX2_placeOf 5 = .ok (.if_icmp .gt 20, 3) := by decide +kernel
theorem dX2_placeOf_8 : decode cX2_placeOf 8 = .ok (.iload_n 0, 1) := by decide +kernel
theorem dX2_placeOf_9 : decode cX2_placeOf 9 = .ok (.iload_n 2, 1) := by decide +kernel
theorem dX2_placeOf_10 : decode cX2_placeOf 10 = .ok (.invokestatic 9, 3) := by decide +kernel
theorem dX2_placeOf_13 : decode cX2_placeOf 13 = .ok (.iload_n 1, 1) := by decide +kernel
theorem dX2_placeOf_14 : decode cX2_placeOf 14 = .ok (.if_icmp .ne 5, 3) := by decide +kernel
theorem dX2_placeOf_17 : decode cX2_placeOf 17 = .ok (.iload_n 2, 1) := by decide +kernel
theorem dX2_placeOf_18 : decode cX2_placeOf 18 = .ok (.ireturn, 1) := by decide +kernel
theorem dX2_placeOf_19 : decode cX2_placeOf 19 = .ok (.iinc 2 1, 3) := by decide +kernel
theorem dX2_placeOf_22 : decode cX2_placeOf 22 = .ok (.goto (-20), 3) := by decide +kernel
theorem dX2_placeOf_25 : decode cX2_placeOf 25 = .ok (.iconst 0, 1) := by decide +kernel
theorem dX2_placeOf_26 : decode cX2_placeOf 26 = .ok (.ireturn, 1) := by decide +kernel
set_option maxRecDepth 20000 in
theorem ggX2_isRightAhead_X2_placeOf : GoodIn wsX2_isRightAhead wsX2_placeOf := goodIn_r _ [4, 5, 6, 3, 7] (by decide +kernel) (by decide +kernel)
set_option maxRecDepth 20000 in
theorem gX2_isRightAhead_X2_placeOf : GoodIn wsX2_isRightAhead (va_wsS RX2 15 yX2_placeOf wsX2_placeOf) := goodIn_app (goodIn_of _ (by decide +kernel)) ggX2_isRightAhead_X2_placeOf
theorem dX2_isRightAhead_0 : decode cX2_isRightAhead 0 = .ok (.iload_n 0, 1) := by decide +kernel
theorem dX2_isRightAhead_1 : decode cX2_isRightAhead 1 = .ok (.iload_n 1, 1) := by decide +kernel
theorem dX2_isRightAhead_2 : decode cX2_isRightAhead 2 = .ok (.invokestatic 15, 3) := by decide +kernel
theorem dX2_isRightAhead_5 : decode cX2_isRightAhead 5 = .ok (.iconst 1, 1) := by decide +kernel
theorem dX2_isRightAhead_6 : decode cX2_isRightAhead 6 = .ok (.iadd, 1) := by decide +kernel
theorem dX2_isRightAhead_7 : decode cX2_isRightAhead 7 = .ok (.iload_n 0, 1) := by decide +kernel
theorem dX2_isRightAhead_8 : decode cX2_isRightAhead 8 = .ok (.iload_n 2, 1) := by decide +kernel
theorem dX2_isRightAhead_9 : decode cX2_isRightAhead 9 = .ok (.invokestatic 15, 3) := by decide +kernel
theorem dX2_isRightAhead_12 : decode cX2_isRightAhead 12 = .ok (.if_icmp .ne 7, 3) := by decide +kernel
theorem dX2_isRightAhead_15 : decode cX2_isRightAhead 15 = .ok (.iconst 1, 1) := by decide +kernel
theorem dX2_isRightAhead_16 : decode cX2_isRightAhead 16 = .ok (.goto 4, 3) := by decide +kernel
theorem dX2_isRightAhead_19 : decode cX2_isRightAhead 19 = .ok (.iconst 0, 1) := by decide +kernel
theorem dX2_isRightAhead_20 : decode cX2_isRightAhead 20 = .ok (.ireturn, 1) := by decide +kernel
set_option maxRecDepth 20000 in
theorem ggX2_isGood_X2_pairs : GoodIn wsX2_isGood wsX2_pairs := goodIn_r _ [4, 5, 6, 3, 7] (by decide +kernel) (by decide +kernel)
set_option maxRecDepth 20000 in
theorem gX2_isGood_X2_pairs : GoodIn wsX2_isGood (va_wsS RX2 18 yX2_pairs wsX2_pairs) := goodIn_app (goodIn_of _ (by decide +kernel)) ggX2_isGood_X2_pairs
theorem dX2_isGood_0 : decode cX2_isGood 0 = .ok (.iload_n 0, 1) := by decide +kernel
theorem dX2_isGood_1 : decode cX2_isGood 1 = .ok (.iload_n 1, 1) := by decide +kernel
theorem dX2_isGood_2 : decode cX2_isGood 2 = .ok (.invokestatic 18, 3) := by decide +kernel
theorem dX2_isGood_5 : decode cX2_isGood 5 = .ok (.iconst (-1), 1) := by decide +kernel
theorem dX2_isGood_6 : decode cX2_isGood 6 = .ok (.if_icmp .eq 7, 3) := by decide +kernel
theorem dX2_isGood_9 : decode cX2_isGood 9 = .ok (.iconst 1, 1) := by decide +kernel
theorem dX2_isGood_10 : decode cX2_isGood 10 = .ok (.goto 4, 3) := by decide +kernel
theorem dX2_isGood_13 : decode cX2_isGood 13 = .ok (.iconst 0, 1) := by decide +kernel
theorem dX2_isGood_14 : decode cX2_isGood 14 = .ok (.ireturn, 1) := by decide +kernel
set_option maxRecDepth 20000 in
theorem ggX2_pairs_X2_isKept : GoodIn wsX2_pairs wsX2_isKept := goodIn_r _ [4] (by decide +kernel) (by decide +kernel)
set_option maxRecDepth 20000 in
theorem gX2_pairs_X2_isKept : GoodIn wsX2_pairs (va_wsS RX2 21 yX2_isKept wsX2_isKept) := goodIn_app (goodIn_of _ (by decide +kernel)) ggX2_pairs_X2_isKept
theorem dX2_pairs_0 : decode cX2_pairs 0 = .ok (.iload_n 1, 1) := by decide +kernel
theorem dX2_pairs_1 : decode cX2_pairs 1 = .ok (.ifCond .lt 9, 3) := by decide +kernel
theorem dX2_pairs_4 : decode cX2_pairs 4 = .ok (.iload_n 1, 1) := by decide +kernel
theorem dX2_pairs_5 : decode cX2_pairs 5 = .ok (.iload_n 0, 1) := by decide +kernel
theorem dX2_pairs_6 : decode cX2_pairs 6 = .ok (.ishr, 1) := by decide +kernel
theorem dX2_pairs_7 : decode cX2_pairs 7 = .ok (.ifCond .eq 5, 3) := by decide +kernel
theorem dX2_pairs_10 : decode cX2_pairs 10 = .ok (.iconst (-1), 1) := by decide +kernel
theorem dX2_pairs_11 : decode cX2_pairs 11 = .ok (.ireturn, 1) := by decide +kernel
theorem dX2_pairs_12 : decode cX2_pairs 12 = .ok (.iconst 0, 1) := by decide +kernel
theorem dX2_pairs_13 : decode cX2_pairs 13 = .ok (.istore_n 2, 1) := by decide +kernel
theorem dX2_pairs_14 : decode cX2_pairs 14 = .ok (.iconst 0, 1) := by decide +kernel
theorem dX2_pairs_15 : decode cX2_pairs 15 = .ok (.istore_n 3, 1) := by decide +kernel
theorem dX2_pairs_16 : decode cX2_pairs 16 = .ok (.iload_n 3, 1) := by decide +kernel
theorem dX2_pairs_17 : decode cX2_pairs 17 = .ok (.iload_n 0, 1) := by decide +kernel
theorem dX2_pairs_18 : decode cX2_pairs 18 = .ok (.if_icmp .ge 51, 3) := by decide +kernel
theorem dX2_pairs_21 : decode cX2_pairs 21 = .ok (.iload_n 1, 1) := by decide +kernel
theorem dX2_pairs_22 : decode cX2_pairs 22 = .ok (.iload_n 3, 1) := by decide +kernel
theorem dX2_pairs_23 : decode cX2_pairs 23 = .ok (.invokestatic 21, 3) := by decide +kernel
theorem dX2_pairs_26 : decode cX2_pairs 26 = .ok (.ifCond .eq 9, 3) := by decide +kernel
theorem dX2_pairs_29 : decode cX2_pairs 29 = .ok (.iinc 3 1, 3) := by decide +kernel
theorem dX2_pairs_32 : decode cX2_pairs 32 = .ok (.goto (-16), 3) := by decide +kernel
theorem dX2_pairs_35 : decode cX2_pairs 35 = .ok (.iload_n 3, 1) := by decide +kernel
theorem dX2_pairs_36 : decode cX2_pairs 36 = .ok (.iconst 1, 1) := by decide +kernel
theorem dX2_pairs_37 : decode cX2_pairs 37 = .ok (.iadd, 1) := by decide +kernel
theorem dX2_pairs_38 : decode cX2_pairs 38 = .ok (.iload_n 0, 1) := by decide +kernel
theorem dX2_pairs_39 : decode cX2_pairs 39 = .ok (.if_icmp .ge 13, 3) := by decide +kernel
theorem dX2_pairs_42 : decode cX2_pairs 42 = .ok (.iload_n 1, 1) := by decide +kernel
theorem dX2_pairs_43 : decode cX2_pairs 43 = .ok (.iload_n 3, 1) := by decide +kernel
theorem dX2_pairs_44 : decode cX2_pairs 44 = .ok (.iconst 1, 1) := by decide +kernel
theorem dX2_pairs_45 : decode cX2_pairs 45 = .ok (.iadd, 1) := by decide +kernel
theorem dX2_pairs_46 : decode cX2_pairs 46 = .ok (.invokestatic 21, 3) := by decide +kernel
theorem dX2_pairs_49 : decode cX2_pairs 49 = .ok (.ifCond .eq 5, 3) := by decide +kernel
theorem dX2_pairs_52 : decode cX2_pairs 52 = .ok (.iconst (-1), 1) := by decide +kernel
theorem dX2_pairs_53 : decode cX2_pairs 53 = .ok (.ireturn, 1) := by decide +kernel
theorem dX2_pairs_54 : decode cX2_pairs 54 = .ok (.iload_n 2, 1) := by decide +kernel
theorem dX2_pairs_55 : decode cX2_pairs 55 = .ok (.bipush 15, 2) := by decide +kernel
theorem dX2_pairs_57 : decode cX2_pairs 57 = .ok (.iconst 4, 1) := by decide +kernel
theorem dX2_pairs_58 : decode cX2_pairs 58 = .ok (.iload_n 3, 1) := by decide +kernel
theorem dX2_pairs_59 : decode cX2_pairs 59 = .ok (.imul, 1) := by decide +kernel
theorem dX2_pairs_60 : decode cX2_pairs 60 = .ok (.ishl, 1) := by decide +kernel
theorem dX2_pairs_61 : decode cX2_pairs 61 = .ok (.ior, 1) := by decide +kernel
theorem dX2_pairs_62 : decode cX2_pairs 62 = .ok (.istore_n 2, 1) := by decide +kernel
theorem dX2_pairs_63 : decode cX2_pairs 63 = .ok (.iinc 3 2, 3) := by decide +kernel
theorem dX2_pairs_66 : decode cX2_pairs 66 = .ok (.goto (-50), 3) := by decide +kernel
theorem dX2_pairs_69 : decode cX2_pairs 69 = .ok (.iload_n 2, 1) := by decide +kernel
theorem dX2_pairs_70 : decode cX2_pairs 70 = .ok (.ireturn, 1) := by decide +kernel
theorem dX2_isKept_0 : decode cX2_isKept 0 = .ok (.iload_n 0, 1) := by decide +kernel
theorem dX2_isKept_1 : decode cX2_isKept 1 = .ok (.iload_n 1, 1) := by decide +kernel
theorem dX2_isKept_2 : decode cX2_isKept 2 = .ok (.ishr, 1) := by decide +kernel
theorem dX2_isKept_3 : decode cX2_isKept 3 = .ok (.iconst 1, 1) := by decide +kernel
theorem dX2_isKept_4 : decode cX2_isKept 4 = .ok (.iand, 1) := by decide +kernel
theorem dX2_isKept_5 : decode cX2_isKept 5 = .ok (.ifCond .eq 7, 3) := by decide +kernel
theorem dX2_isKept_8 : decode cX2_isKept 8 = .ok (.iconst 1, 1) := by decide +kernel
theorem dX2_isKept_9 : decode cX2_isKept 9 = .ok (.goto 4, 3) := by decide +kernel
theorem dX2_isKept_12 : decode cX2_isKept 12 = .ok (.iconst 0, 1) := by decide +kernel
theorem dX2_isKept_13 : decode cX2_isKept 13 = .ok (.ireturn, 1) := by decide +kernel
theorem dX2_swapped_0 : decode cX2_swapped 0 = .ok (.iload_n 0, 1) := by decide +kernel
theorem dX2_swapped_1 : decode cX2_swapped 1 = .ok (.iload_n 1, 1) := by decide +kernel
theorem dX2_swapped_2 : decode cX2_swapped 2 = .ok (.iload_n 1, 1) := by decide +kernel
theorem dX2_swapped_3 : decode cX2_swapped 3 = .ok (.iconst 4, 1) := by decide +kernel
theorem dX2_swapped_4 : decode cX2_swapped 4 = .ok (.ishl, 1) := by decide +kernel
theorem dX2_swapped_5 : decode cX2_swapped 5 = .ok (.ior, 1) := by decide +kernel
theorem dX2_swapped_6 : decode cX2_swapped 6 = .ok (.iconst (-1), 1) := by decide +kernel
theorem dX2_swapped_7 : decode cX2_swapped 7 = .ok (.ixor, 1) := by decide +kernel
theorem dX2_swapped_8 : decode cX2_swapped 8 = .ok (.iand, 1) := by decide +kernel
theorem dX2_swapped_9 : decode cX2_swapped 9 = .ok (.istore_n 2, 1) := by decide +kernel
theorem dX2_swapped_10 : decode cX2_swapped 10 = .ok (.iload_n 2, 1) := by decide +kernel
theorem dX2_swapped_11 : decode cX2_swapped 11 = .ok (.iload_n 0, 1) := by decide +kernel
theorem dX2_swapped_12 : decode cX2_swapped 12 = .ok (.iload_n 1, 1) := by decide +kernel
theorem dX2_swapped_13 : decode cX2_swapped 13 = .ok (.iand, 1) := by decide +kernel
theorem dX2_swapped_14 : decode cX2_swapped 14 = .ok (.iconst 4, 1) := by decide +kernel
theorem dX2_swapped_15 : decode cX2_swapped 15 = .ok (.ishl, 1) := by decide +kernel
theorem dX2_swapped_16 : decode cX2_swapped 16 = .ok (.ior, 1) := by decide +kernel
theorem dX2_swapped_17 : decode cX2_swapped 17 = .ok (.iload_n 0, 1) := by decide +kernel
theorem dX2_swapped_18 : decode cX2_swapped 18 = .ok (.iconst 4, 1) := by decide +kernel
theorem dX2_swapped_19 : decode cX2_swapped 19 = .ok (.iushr, 1) := by decide +kernel
theorem dX2_swapped_20 : decode cX2_swapped 20 = .ok (.iload_n 1, 1) := by decide +kernel
theorem dX2_swapped_21 : decode cX2_swapped 21 = .ok (.iand, 1) := by decide +kernel
theorem dX2_swapped_22 : decode cX2_swapped 22 = .ok (.ior, 1) := by decide +kernel
theorem dX2_swapped_23 : decode cX2_swapped 23 = .ok (.ireturn, 1) := by decide +kernel
theorem dX3_init_0 : decode cX3_init 0 = .ok (.aload_n 0, 1) := by decide +kernel
theorem dX3_init_1 : decode cX3_init 1 = .ok (.invokespecial 3, 3) := by decide +kernel
theorem dX3_init_4 : decode cX3_init 4 = .ok (.aload_n 0, 1) := by decide +kernel
theorem dX3_init_5 : decode cX3_init 5 = .ok (.sipush 512, 3) := by decide +kernel
theorem dX3_init_8 : decode cX3_init 8 = .ok (.newarray .int, 2) := by decide +kernel
theorem dX3_init_10 : decode cX3_init 10 = .ok (.putfield 9, 3) := by decide +kernel
theorem dX3_init_13 : decode cX3_init 13 = .ok (.return_, 1) := by decide +kernel
set_option maxRecDepth 20000 in
theorem ggX3_enter_X3_start : GoodIn wsX3_enter wsX3_start := goodIn_r _ [5, 6] (by decide +kernel) (by decide +kernel)
set_option maxRecDepth 20000 in
theorem gX3_enter_X3_start : GoodIn wsX3_enter (va_wsS RX3 13 yX3_start wsX3_start) := goodIn_app (goodIn_of _ (by decide +kernel)) ggX3_enter_X3_start
theorem dX3_enter_0 : decode cX3_enter 0 = .ok (.aload_n 1, 1) := by decide +kernel
theorem dX3_enter_1 : decode cX3_enter 1 = .ok (.iload_n 2, 1) := by decide +kernel
theorem dX3_enter_2 : decode cX3_enter 2 = .ok (.iaload, 1) := by decide +kernel
theorem dX3_enter_3 : decode cX3_enter 3 = .ok (.invokestatic 13, 3) := by decide +kernel
theorem dX3_enter_6 : decode cX3_enter 6 = .ok (.istore_n 3, 1) := by decide +kernel
theorem dX3_enter_7 : decode cX3_enter 7 = .ok (.iconst 0, 1) := by decide +kernel
theorem dX3_enter_8 : decode cX3_enter 8 = .ok (.istore 4, 2) := by decide +kernel
theorem dX3_enter_10 : decode cX3_enter 10 = .ok (.iload 4, 2) := by decide +kernel
theorem dX3_enter_12 : decode cX3_enter 12 = .ok (.sipush 512, 3) := by decide +kernel
theorem dX3_enter_15 : decode cX3_enter 15 = .ok (.if_icmp .ge 60, 3) := by decide +kernel
theorem dX3_enter_18 : decode cX3_enter 18 = .ok (.iload_n 3, 1) := by decide +kernel
theorem dX3_enter_19 : decode cX3_enter 19 = .ok (.iload 4, 2) := by decide +kernel
theorem dX3_enter_21 : decode cX3_enter 21 = .ok (.iadd, 1) := by decide +kernel
theorem dX3_enter_22 : decode cX3_enter 22 = .ok (.sipush 511, 3) := by decide +kernel
theorem dX3_enter_25 : decode cX3_enter 25 = .ok (.iand, 1) := by decide +kernel
theorem dX3_enter_26 : decode cX3_enter 26 = .ok (.istore 5, 2) := by decide +kernel
theorem dX3_enter_28 : decode cX3_enter 28 = .ok (.aload_n 0, 1) := by decide +kernel
theorem dX3_enter_29 : decode cX3_enter 29 = .ok (.getfield 9, 3) := by decide +kernel
theorem dX3_enter_32 : decode cX3_enter 32 = .ok (.iload 5, 2) := by decide +kernel
theorem dX3_enter_34 : decode cX3_enter 34 = .ok (.iaload, 1) := by decide +kernel
theorem dX3_enter_35 : decode cX3_enter 35 = .ok (.iconst 1, 1) := by decide +kernel
theorem dX3_enter_36 : decode cX3_enter 36 = .ok (.isub, 1) := by decide +kernel
theorem dX3_enter_37 : decode cX3_enter 37 = .ok (.istore 6, 2) := by decide +kernel
theorem dX3_enter_39 : decode cX3_enter 39 = .ok (.iload 6, 2) := by decide +kernel
theorem dX3_enter_41 : decode cX3_enter 41 = .ok (.ifCond .ge 15, 3) := by decide +kernel
theorem dX3_enter_44 : decode cX3_enter 44 = .ok (.aload_n 0, 1) := by decide +kernel
theorem dX3_enter_45 : decode cX3_enter 45 = .ok (.getfield 9, 3) := by decide +kernel
theorem dX3_enter_48 : decode cX3_enter 48 = .ok (.iload 5, 2) := by decide +kernel
theorem dX3_enter_50 : decode cX3_enter 50 = .ok (.iload_n 2, 1) := by decide +kernel
theorem dX3_enter_51 : decode cX3_enter 51 = .ok (.iconst 1, 1) := by decide +kernel
theorem dX3_enter_52 : decode cX3_enter 52 = .ok (.iadd, 1) := by decide +kernel
theorem dX3_enter_53 : decode cX3_enter 53 = .ok (.iastore, 1) := by decide +kernel
theorem dX3_enter_54 : decode cX3_enter 54 = .ok (.iload_n 2, 1) := by decide +kernel
theorem dX3_enter_55 : decode cX3_enter 55 = .ok (.ireturn, 1) := by decide +kernel
theorem dX3_enter_56 : decode cX3_enter 56 = .ok (.aload_n 1, 1) := by decide +kernel
theorem dX3_enter_57 : decode cX3_enter 57 = .ok (.iload 6, 2) := by decide +kernel
theorem dX3_enter_59 : decode cX3_enter 59 = .ok (.iaload, 1) := by decide +kernel
theorem dX3_enter_60 : decode cX3_enter 60 = .ok (.aload_n 1, 1) := by decide +kernel
theorem dX3_enter_61 : decode cX3_enter 61 = .ok (.iload_n 2, 1) := by decide +kernel
theorem dX3_enter_62 : decode cX3_enter 62 = .ok (.iaload, 1) := by decide +kernel
theorem dX3_enter_63 : decode cX3_enter 63 = .ok (.if_icmp .ne 6, 3) := by decide +kernel
theorem dX3_enter_66 : decode cX3_enter 66 = .ok (.iload 6, 2) := by decide +kernel
theorem dX3_enter_68 : decode cX3_enter 68 = .ok (.ireturn, 1) := by decide +kernel
theorem dX3_enter_69 : decode cX3_enter 69 = .ok (.iinc 4 1, 3) := by decide +kernel
theorem dX3_enter_72 : decode cX3_enter 72 = .ok (.goto (-62), 3) := by decide +kernel
theorem dX3_enter_75 : decode cX3_enter 75 = .ok (.iload_n 2, 1) := by decide +kernel
theorem dX3_enter_76 : decode cX3_enter 76 = .ok (.ireturn, 1) := by decide +kernel
set_option maxRecDepth 20000 in
theorem ggX3_leave_X3_start : GoodIn wsX3_leave wsX3_start := goodIn_r _ [5, 6] (by decide +kernel) (by decide +kernel)
set_option maxRecDepth 20000 in
theorem gX3_leave_X3_start : GoodIn wsX3_leave (va_wsS RX3 13 yX3_start wsX3_start) := goodIn_app (goodIn_of _ (by decide +kernel)) ggX3_leave_X3_start
theorem dX3_leave_0 : decode cX3_leave 0 = .ok (.aload_n 1, 1) := by decide +kernel
theorem dX3_leave_1 : decode cX3_leave 1 = .ok (.iload_n 2, 1) := by decide +kernel
theorem dX3_leave_2 : decode cX3_leave 2 = .ok (.iaload, 1) := by decide +kernel
theorem dX3_leave_3 : decode cX3_leave 3 = .ok (.invokestatic 13, 3) := by decide +kernel
theorem dX3_leave_6 : decode cX3_leave 6 = .ok (.istore_n 3, 1) := by decide +kernel
theorem dX3_leave_7 : decode cX3_leave 7 = .ok (.iconst 0, 1) := by decide +kernel
theorem dX3_leave_8 : decode cX3_leave 8 = .ok (.istore 4, 2) := by decide +kernel
theorem dX3_leave_10 : decode cX3_leave 10 = .ok (.iload 4, 2) := by decide +kernel
theorem dX3_leave_12 : decode cX3_leave 12 = .ok (.sipush 512, 3) := by decide +kernel
theorem dX3_leave_15 : decode cX3_leave 15 = .ok (.if_icmp .ge 52, 3) := by decide +kernel
theorem dX3_leave_18 : decode cX3_leave 18 = .ok (.iload_n 3, 1) := by decide +kernel
theorem dX3_leave_19 : decode cX3_leave 19 = .ok (.iload 4, 2) := by decide +kernel
theorem dX3_leave_21 : decode cX3_leave 21 = .ok (.iadd, 1) := by decide +kernel
theorem dX3_leave_22 : decode cX3_leave 22 = .ok (.sipush 511, 3) := by decide +kernel
theorem dX3_leave_25 : decode cX3_leave 25 = .ok (.iand, 1) := by decide +kernel
theorem dX3_leave_26 : decode cX3_leave 26 = .ok (.istore 5, 2) := by decide +kernel
theorem dX3_leave_28 : decode cX3_leave 28 = .ok (.aload_n 0, 1) := by decide +kernel
theorem dX3_leave_29 : decode cX3_leave 29 = .ok (.getfield 9, 3) := by decide +kernel
theorem dX3_leave_32 : decode cX3_leave 32 = .ok (.iload 5, 2) := by decide +kernel
theorem dX3_leave_34 : decode cX3_leave 34 = .ok (.iaload, 1) := by decide +kernel
theorem dX3_leave_35 : decode cX3_leave 35 = .ok (.iload_n 2, 1) := by decide +kernel
theorem dX3_leave_36 : decode cX3_leave 36 = .ok (.iconst 1, 1) := by decide +kernel
theorem dX3_leave_37 : decode cX3_leave 37 = .ok (.iadd, 1) := by decide +kernel
theorem dX3_leave_38 : decode cX3_leave 38 = .ok (.if_icmp .ne 12, 3) := by decide +kernel
theorem dX3_leave_41 : decode cX3_leave 41 = .ok (.aload_n 0, 1) := by decide +kernel
theorem dX3_leave_42 : decode cX3_leave 42 = .ok (.getfield 9, 3) := by decide +kernel
theorem dX3_leave_45 : decode cX3_leave 45 = .ok (.iload 5, 2) := by decide +kernel
theorem dX3_leave_47 : decode cX3_leave 47 = .ok (.iconst 0, 1) := by decide +kernel
theorem dX3_leave_48 : decode cX3_leave 48 = .ok (.iastore, 1) := by decide +kernel
theorem dX3_leave_49 : decode cX3_leave 49 = .ok (.return_, 1) := by decide +kernel
theorem dX3_leave_50 : decode cX3_leave 50 = .ok (.aload_n 0, 1) := by decide +kernel
theorem dX3_leave_51 : decode cX3_leave 51 = .ok (.getfield 9, 3) := by decide +kernel
theorem dX3_leave_54 : decode cX3_leave 54 = .ok (.iload 5, 2) := by decide +kernel
theorem dX3_leave_56 : decode cX3_leave 56 = .ok (.iaload, 1) := by decide +kernel
theorem dX3_leave_57 : decode cX3_leave 57 = .ok (.ifCond .ne 4, 3) := by decide +kernel
theorem dX3_leave_60 : decode cX3_leave 60 = .ok (.return_, 1) := by decide +kernel
theorem dX3_leave_61 : decode cX3_leave 61 = .ok (.iinc 4 1, 3) := by decide +kernel
theorem dX3_leave_64 : decode cX3_leave 64 = .ok (.goto (-54), 3) := by decide +kernel
theorem dX3_leave_67 : decode cX3_leave 67 = .ok (.return_, 1) := by decide +kernel
theorem dX3_start_0 : decode cX3_start 0 = .ok (.iload_n 0, 1) := by decide +kernel
theorem dX3_start_1 : decode cX3_start 1 = .ok (.ldc 17, 2) := by decide +kernel
theorem dX3_start_3 : decode cX3_start 3 = .ok (.imul, 1) := by decide +kernel
theorem dX3_start_4 : decode cX3_start 4 = .ok (.bipush 23, 2) := by decide +kernel
theorem dX3_start_6 : decode cX3_start 6 = .ok (.iushr, 1) := by decide +kernel
theorem dX3_start_7 : decode cX3_start 7 = .ok (.ireturn, 1) := by decide +kernel
set_option maxRecDepth 20000 in
theorem ggX4_init_X1_init : GoodIn wsX4_init wsX1_init := goodIn_r _ [21, 22, 2, 3, 23, 5, 24, 25, 26, 38, 39, 40, 41] (by decide +kernel) (by decide +kernel)
set_option maxRecDepth 20000 in
theorem gX4_init_X1_init : GoodIn wsX4_init (wsX1_init) := ggX4_init_X1_init
theorem dX4_init_0 : decode cX4_init 0 = .ok (.aload_n 0, 1) := by decide +kernel
theorem dX4_init_1 : decode cX4_init 1 = .ok (.invokespecial 3, 3) := by decide +kernel
theorem dX4_init_4 : decode cX4_init 4 = .ok (.aload_n 0, 1) := by decide +kernel
theorem dX4_init_5 : decode cX4_init 5 = .ok (.bipush 6, 2) := by decide +kernel
theorem dX4_init_7 : decode cX4_init 7 = .ok (.putfield 9, 3) := by decide +kernel
theorem dX4_init_10 : decode cX4_init 10 = .ok (.aload_n 0, 1) := by decide +kernel
theorem dX4_init_11 : decode cX4_init 11 = .ok (.bipush 16, 2) := by decide +kernel
theorem dX4_init_13 : decode cX4_init 13 = .ok (.newarray .int, 2) := by decide +kernel
theorem dX4_init_15 : decode cX4_init 15 = .ok (.putfield 15, 3) := by decide +kernel
theorem dX4_init_18 : decode cX4_init 18 = .ok (.aload_n 0, 1) := by decide +kernel
theorem dX4_init_19 : decode cX4_init 19 = .ok (.iconst 0, 1) := by decide +kernel
theorem dX4_init_20 : decode cX4_init 20 = .ok (.putfield 19, 3) := by decide +kernel
theorem dX4_init_23 : decode cX4_init 23 = .ok (.aload_n 0, 1) := by decide +kernel
theorem dX4_init_24 : decode cX4_init 24 = .ok (.iconst (-1), 1) := by decide +kernel
theorem dX4_init_25 : decode cX4_init 25 = .ok (.putfield 22, 3) := by decide +kernel
theorem dX4_init_28 : decode cX4_init 28 = .ok (.aload_n 0, 1) := by decide +kernel
theorem dX4_init_29 : decode cX4_init 29 = .ok (.iconst (-1), 1) := by decide +kernel
theorem dX4_init_30 : decode cX4_init 30 = .ok (.putfield 25, 3) := by decide +kernel
theorem dX4_init_33 : decode cX4_init 33 = .ok (.aload_n 0, 1) := by decide +kernel
theorem dX4_init_34 : decode cX4_init 34 = .ok (.bipush 12, 2) := by decide +kernel
theorem dX4_init_36 : decode cX4_init 36 = .ok (.newarray .int, 2) := by decide +kernel
theorem dX4_init_38 : decode cX4_init 38 = .ok (.putfield 28, 3) := by decide +kernel
theorem dX4_init_41 : decode cX4_init 41 = .ok (.aload_n 0, 1) := by decide +kernel
theorem dX4_init_42 : decode cX4_init 42 = .ok (.iconst 1, 1) := by decide +kernel
theorem dX4_init_43 : decode cX4_init 43 = .ok (.putfield 31, 3) := by decide +kernel
theorem dX4_init_46 : decode cX4_init 46 = .ok (.aload_n 0, 1) := by decide +kernel
theorem dX4_init_47 : decode cX4_init 47 = .ok (.bipush 8, 2) := by decide +kernel
theorem dX4_init_49 : decode cX4_init 49 = .ok (.newarray .int, 2) := by decide +kernel
theorem dX4_init_51 : decode cX4_init 51 = .ok (.putfield 34, 3) := by decide +kernel
theorem dX4_init_54 : decode cX4_init 54 = .ok (.aload_n 0, 1) := by decide +kernel
theorem dX4_init_55 : decode cX4_init 55 = .ok (.new 37, 3) := by decide +kernel
theorem dX4_init_58 : decode cX4_init 58 = .ok (.dup, 1) := by decide +kernel
theorem dX4_init_59 : decode cX4_init 59 = .ok (.iconst 5, 1) := by decide +kernel
theorem dX4_init_60 : decode cX4_init 60 = .ok (.invokespecial 39, 3) := by decide +kernel
theorem dX4_init_63 : decode cX4_init 63 = .ok (.putfield 42, 3) := by decide +kernel
theorem dX4_init_66 : decode cX4_init 66 = .ok (.aload_n 0, 1) := by decide +kernel
theorem dX4_init_67 : decode cX4_init 67 = .ok (.new 37, 3) := by decide +kernel
theorem dX4_init_70 : decode cX4_init 70 = .ok (.dup, 1) := by decide +kernel
theorem dX4_init_71 : decode cX4_init 71 = .ok (.bipush 8, 2) := by decide +kernel
theorem dX4_init_73 : decode cX4_init 73 = .ok (.invokespecial 39, 3) := by decide +kernel
theorem dX4_init_76 : decode cX4_init 76 = .ok (.putfield 46, 3) := by decide +kernel
theorem dX4_init_79 : decode cX4_init 79 = .ok (.aload_n 0, 1) := by decide +kernel
theorem dX4_init_80 : decode cX4_init 80 = .ok (.new 37, 3) := by decide +kernel
theorem dX4_init_83 : decode cX4_init 83 = .ok (.dup, 1) := by decide +kernel
theorem dX4_init_84 : decode cX4_init 84 = .ok (.bipush 8, 2) := by decide +kernel
theorem dX4_init_86 : decode cX4_init 86 = .ok (.invokespecial 39, 3) := by decide +kernel
theorem dX4_init_89 : decode cX4_init 89 = .ok (.putfield 49, 3) := by decide +kernel
theorem dX4_init_92 : decode cX4_init 92 = .ok (.return_, 1) := by decide +kernel
theorem dX4_begin_0 : decode cX4_begin 0 = .ok (.aload_n 0, 1) := by decide +kernel
theorem dX4_begin_1 : decode cX4_begin 1 = .ok (.iload_n 1, 1) := by decide +kernel
theorem dX4_begin_2 : decode cX4_begin 2 = .ok (.putfield 9, 3) := by decide +kernel
theorem dX4_begin_5 : decode cX4_begin 5 = .ok (.aload_n 0, 1) := by decide +kernel
theorem dX4_begin_6 : decode cX4_begin 6 = .ok (.iconst 0, 1) := by decide +kernel
theorem dX4_begin_7 : decode cX4_begin 7 = .ok (.putfield 19, 3) := by decide +kernel
theorem dX4_begin_10 : decode cX4_begin 10 = .ok (.aload_n 0, 1) := by decide +kernel
theorem dX4_begin_11 : decode cX4_begin 11 = .ok (.iconst (-1), 1) := by decide +kernel
theorem dX4_begin_12 : decode cX4_begin 12 = .ok (.putfield 22, 3) := by decide +kernel
theorem dX4_begin_15 : decode cX4_begin 15 = .ok (.aload_n 0, 1) := by decide +kernel
theorem dX4_begin_16 : decode cX4_begin 16 = .ok (.iconst (-1), 1) := by decide +kernel
theorem dX4_begin_17 : decode cX4_begin 17 = .ok (.putfield 25, 3) := by decide +kernel
theorem dX4_begin_20 : decode cX4_begin 20 = .ok (.aload_n 0, 1) := by decide +kernel
theorem dX4_begin_21 : decode cX4_begin 21 = .ok (.iconst 1, 1) := by decide +kernel
theorem dX4_begin_22 : decode cX4_begin 22 = .ok (.putfield 31, 3) := by decide +kernel
theorem dX4_begin_25 : decode cX4_begin 25 = .ok (.iconst 0, 1) := by decide +kernel
theorem dX4_begin_26 : decode cX4_begin 26 = .ok (.istore_n 2, 1) := by decide +kernel
theorem dX4_begin_27 : decode cX4_begin 27 = .ok (.iload_n 2, 1) := by decide +kernel
theorem dX4_begin_28 : decode cX4_begin 28 = .ok (.bipush 12, 2) := by decide +kernel
theorem dX4_begin_30 : decode cX4_begin 30 = .ok (.if_icmp .ge 16, 3) := by decide +kernel
theorem dX4_begin_33 : decode cX4_begin 33 = .ok (.aload_n 0, 1) := by decide +kernel
theorem dX4_begin_34 : decode cX4_begin 34 = .ok (.getfield 28, 3) := by decide +kernel
theorem dX4_begin_37 : decode cX4_begin 37 = .ok (.iload_n 2, 1) := by decide +kernel
theorem dX4_begin_38 : decode cX4_begin 38 = .ok (.iconst 0, 1) := by decide +kernel
theorem dX4_begin_39 : decode cX4_begin 39 = .ok (.iastore, 1) := by decide +kernel
theorem dX4_begin_40 : decode cX4_begin 40 = .ok (.iinc 2 1, 3) := by decide +kernel
theorem dX4_begin_43 : decode cX4_begin 43 = .ok (.goto (-16), 3) := by decide +kernel
theorem dX4_begin_46 : decode cX4_begin 46 = .ok (.iconst 0, 1) := by decide +kernel
theorem dX4_begin_47 : decode cX4_begin 47 = .ok (.istore_n 2, 1) := by decide +kernel
theorem dX4_begin_48 : decode cX4_begin 48 = .ok (.iload_n 2, 1) := by decide +kernel
theorem dX4_begin_49 : decode cX4_begin 49 = .ok (.bipush 8, 2) := by decide +kernel
theorem dX4_begin_51 : decode cX4_begin 51 = .ok (.if_icmp .ge 16, 3) := by decide +kernel
theorem dX4_begin_54 : decode cX4_begin 54 = .ok (.aload_n 0, 1) := by decide +kernel
theorem dX4_begin_55 : decode cX4_begin 55 = .ok (.getfield 34, 3) := by decide +kernel
theorem dX4_begin_58 : decode cX4_begin 58 = .ok (.iload_n 2, 1) := by decide +kernel
theorem dX4_begin_59 : decode cX4_begin 59 = .ok (.iconst 0, 1) := by decide +kernel
theorem dX4_begin_60 : decode cX4_begin 60 = .ok (.iastore, 1) := by decide +kernel
theorem dX4_begin_61 : decode cX4_begin 61 = .ok (.iinc 2 1, 3) := by decide +kernel
theorem dX4_begin_64 : decode cX4_begin 64 = .ok (.goto (-16), 3) := by decide +kernel
theorem dX4_begin_67 : decode cX4_begin 67 = .ok (.aload_n 0, 1) := by decide +kernel
theorem dX4_begin_68 : decode cX4_begin 68 = .ok (.getfield 42, 3) := by decide +kernel
theorem dX4_begin_71 : decode cX4_begin 71 = .ok (.iconst 0, 1) := by decide +kernel
theorem dX4_begin_72 : decode cX4_begin 72 = .ok (.putfield 52, 3) := by decide +kernel
theorem dX4_begin_75 : decode cX4_begin 75 = .ok (.aload_n 0, 1) := by decide +kernel
theorem dX4_begin_76 : decode cX4_begin 76 = .ok (.getfield 46, 3) := by decide +kernel
theorem dX4_begin_79 : decode cX4_begin 79 = .ok (.iconst 0, 1) := by decide +kernel
theorem dX4_begin_80 : decode cX4_begin 80 = .ok (.putfield 52, 3) := by decide +kernel
theorem dX4_begin_83 : decode cX4_begin 83 = .ok (.aload_n 0, 1) := by decide +kernel
theorem dX4_begin_84 : decode cX4_begin 84 = .ok (.getfield 49, 3) := by decide +kernel
theorem dX4_begin_87 : decode cX4_begin 87 = .ok (.iconst 0, 1) := by decide +kernel
theorem dX4_begin_88 : decode cX4_begin 88 = .ok (.putfield 52, 3) := by decide +kernel
theorem dX4_begin_91 : decode cX4_begin 91 = .ok (.return_, 1) := by decide +kernel
set_option maxRecDepth 20000 in
theorem ggX4_copyFrom_X1_copyFrom : GoodIn wsX4_copyFrom wsX1_copyFrom := goodIn_r _ [20, 21, 22, 23, 24, 25, 26, 27, 19, 28, 40, 41, 42, 43] (by decide +kernel) (by decide +kernel)
set_option maxRecDepth 20000 in
theorem gX4_copyFrom_X1_copyFrom : GoodIn wsX4_copyFrom (wsV RX4 61 RX1 yX1_copyFrom wsX1_copyFrom) := goodIn_app (goodIn_of _ (by decide +kernel)) ggX4_copyFrom_X1_copyFrom
theorem dX4_copyFrom_0 : decode cX4_copyFrom 0 = .ok (.aload_n 0, 1) := by decide +kernel
theorem dX4_copyFrom_1 : decode cX4_copyFrom 1 = .ok (.aload_n 1, 1) := by decide +kernel
theorem dX4_copyFrom_2 : decode cX4_copyFrom 2 = .ok (.getfield 9, 3) := by decide +kernel
theorem dX4_copyFrom_5 : decode cX4_copyFrom 5 = .ok (.putfield 9, 3) := by decide +kernel
theorem dX4_copyFrom_8 : decode cX4_copyFrom 8 = .ok (.aload_n 0, 1) := by decide +kernel
theorem dX4_copyFrom_9 : decode cX4_copyFrom 9 = .ok (.aload_n 1, 1) := by decide +kernel
theorem dX4_copyFrom_10 : decode cX4_copyFrom 10 = .ok (.getfield 19, 3) := by decide +kernel
theorem dX4_copyFrom_13 : decode cX4_copyFrom 13 = .ok (.putfield 19, 3) := by decide +kernel
theorem dX4_copyFrom_16 : decode cX4_copyFrom 16 = .ok (.aload_n 0, 1) := by decide +kernel
theorem dX4_copyFrom_17 : decode cX4_copyFrom 17 = .ok (.aload_n 1, 1) := by decide +kernel
theorem dX4_copyFrom_18 : decode cX4_copyFrom 18 = .ok (.getfield 22, 3) := by decide +kernel
theorem dX4_copyFrom_21 : decode cX4_copyFrom 21 = .ok (.putfield 22, 3) := by decide +kernel
theorem dX4_copyFrom_24 : decode cX4_copyFrom 24 = .ok (.aload_n 0, 1) := by decide +kernel
theorem dX4_copyFrom_25 : decode cX4_copyFrom 25 = .ok (.aload_n 1, 1) := by decide +kernel
theorem dX4_copyFrom_26 : decode cX4_copyFrom 26 = .ok (.getfield 25, 3) := by decide +kernel
theorem dX4_copyFrom_29 : decode cX4_copyFrom 29 = .ok (.putfield 25, 3) := by decide +kernel
theorem dX4_copyFrom_32 : decode cX4_copyFrom 32 = .ok (.aload_n 0, 1) := by decide +kernel
theorem dX4_copyFrom_33 : decode cX4_copyFrom 33 = .ok (.aload_n 1, 1) := by decide +kernel
theorem dX4_copyFrom_34 : decode cX4_copyFrom 34 = .ok (.getfield 31, 3) := by decide +kernel
theorem dX4_copyFrom_37 : decode cX4_copyFrom 37 = .ok (.putfield 31, 3) := by decide +kernel
theorem dX4_copyFrom_40 : decode cX4_copyFrom 40 = .ok (.aload_n 1, 1) := by decide +kernel
theorem dX4_copyFrom_41 : decode cX4_copyFrom 41 = .ok (.getfield 15, 3) := by decide +kernel
theorem dX4_copyFrom_44 : decode cX4_copyFrom 44 = .ok (.iconst 0, 1) := by decide +kernel
theorem dX4_copyFrom_45 : decode cX4_copyFrom 45 = .ok (.aload_n 0, 1) := by decide +kernel
theorem dX4_copyFrom_46 : decode cX4_copyFrom 46 = .ok (.getfield 15, 3) := by decide +kernel
theorem dX4_copyFrom_49 : decode cX4_copyFrom 49 = .ok (.iconst 0, 1) := by decide +kernel
theorem dX4_copyFrom_50 : decode cX4_copyFrom 50 = .ok (.bipush 16, 2) := by decide +kernel
theorem dX4_copyFrom_52 : decode cX4_copyFrom 52 = .ok (.invokestatic 55, 3) := by decide +kernel
theorem dX4_copyFrom_55 : decode cX4_copyFrom 55 = .ok (.aload_n 1, 1) := by decide +kernel
theorem dX4_copyFrom_56 : decode cX4_copyFrom 56 = .ok (.getfield 28, 3) := by decide +kernel
theorem dX4_copyFrom_59 : decode cX4_copyFrom 59 = .ok (.iconst 0, 1) := by decide +kernel
theorem dX4_copyFrom_60 : decode cX4_copyFrom 60 = .ok (.aload_n 0, 1) := by decide +kernel
theorem dX4_copyFrom_61 : decode cX4_copyFrom 61 = .ok (.getfield 28, 3) := by decide +kernel
theorem dX4_copyFrom_64 : decode cX4_copyFrom 64 = .ok (.iconst 0, 1) := by decide +kernel
theorem dX4_copyFrom_65 : decode cX4_copyFrom 65 = .ok (.bipush 12, 2) := by decide +kernel
theorem dX4_copyFrom_67 : decode cX4_copyFrom 67 = .ok (.invokestatic 55, 3) := by decide +kernel
theorem dX4_copyFrom_70 : decode cX4_copyFrom 70 = .ok (.aload_n 1, 1) := by decide +kernel
theorem dX4_copyFrom_71 : decode cX4_copyFrom 71 = .ok (.getfield 34, 3) := by decide +kernel
theorem dX4_copyFrom_74 : decode cX4_copyFrom 74 = .ok (.iconst 0, 1) := by decide +kernel
theorem dX4_copyFrom_75 : decode cX4_copyFrom 75 = .ok (.aload_n 0, 1) := by decide +kernel
theorem dX4_copyFrom_76 : decode cX4_copyFrom 76 = .ok (.getfield 34, 3) := by decide +kernel
theorem dX4_copyFrom_79 : decode cX4_copyFrom 79 = .ok (.iconst 0, 1) := by decide +kernel
theorem dX4_copyFrom_80 : decode cX4_copyFrom 80 = .ok (.bipush 8, 2) := by decide +kernel
theorem dX4_copyFrom_82 : decode cX4_copyFrom 82 = .ok (.invokestatic 55, 3) := by decide +kernel
theorem dX4_copyFrom_85 : decode cX4_copyFrom 85 = .ok (.aload_n 0, 1) := by decide +kernel
theorem dX4_copyFrom_86 : decode cX4_copyFrom 86 = .ok (.getfield 42, 3) := by decide +kernel
theorem dX4_copyFrom_89 : decode cX4_copyFrom 89 = .ok (.aload_n 1, 1) := by decide +kernel
theorem dX4_copyFrom_90 : decode cX4_copyFrom 90 = .ok (.getfield 42, 3) := by decide +kernel
theorem dX4_copyFrom_93 : decode cX4_copyFrom 93 = .ok (.invokevirtual 61, 3) := by decide +kernel
theorem dX4_copyFrom_96 : decode cX4_copyFrom 96 = .ok (.aload_n 0, 1) := by decide +kernel
theorem dX4_copyFrom_97 : decode cX4_copyFrom 97 = .ok (.getfield 46, 3) := by decide +kernel
theorem dX4_copyFrom_100 : decode cX4_copyFrom 100 = .ok (.aload_n 1, 1) := by decide +kernel
theorem dX4_copyFrom_101 : decode cX4_copyFrom 101 = .ok (.getfield 46, 3) := by decide +kernel
theorem dX4_copyFrom_104 : decode cX4_copyFrom 104 = .ok (.invokevirtual 61, 3) := by decide +kernel
theorem dX4_copyFrom_107 : decode cX4_copyFrom 107 = .ok (.aload_n 0, 1) := by decide +kernel
theorem dX4_copyFrom_108 : decode cX4_copyFrom 108 = .ok (.getfield 49, 3) := by decide +kernel
theorem dX4_copyFrom_111 : decode cX4_copyFrom 111 = .ok (.aload_n 1, 1) := by decide +kernel
theorem dX4_copyFrom_112 : decode cX4_copyFrom 112 = .ok (.getfield 49, 3) := by decide +kernel
theorem dX4_copyFrom_115 : decode cX4_copyFrom 115 = .ok (.invokevirtual 61, 3) := by decide +kernel
theorem dX4_copyFrom_118 : decode cX4_copyFrom 118 = .ok (.return_, 1) := by decide +kernel
theorem dX4_calledChange_0 : decode cX4_calledChange 0 = .ok (.iload_n 1, 1) := by decide +kernel
theorem dX4_calledChange_1 : decode cX4_calledChange 1 = .ok (.lookupswitch 37 #[(1, 27), (2, 32)], 27) := by decide +kernel
theorem dX4_calledChange_28 : decode cX4_calledChange 28 = .ok (.aload_n 0, 1) := by decide +kernel
theorem dX4_calledChange_29 : decode cX4_calledChange 29 = .ok (.getfield 22, 3) := by decide +kernel
theorem dX4_calledChange_32 : decode cX4_calledChange 32 = .ok (.ireturn, 1) := by decide +kernel
theorem dX4_calledChange_33 : decode cX4_calledChange 33 = .ok (.aload_n 0, 1) := by decide +kernel
theorem dX4_calledChange_34 : decode cX4_calledChange 34 = .ok (.getfield 25, 3) := by decide +kernel
theorem dX4_calledChange_37 : decode cX4_calledChange 37 = .ok (.ireturn, 1) := by decide +kernel
theorem dX4_calledChange_38 : decode cX4_calledChange 38 = .ok (.iconst (-1), 1) := by decide +kernel
theorem dX4_calledChange_39 : decode cX4_calledChange 39 = .ok (.ireturn, 1) := by decide +kernel
theorem dX4_setCalledChange_0 : decode cX4_setCalledChange 0 = .ok (.iload_n 1, 1) := by decide +kernel
theorem dX4_setCalledChange_1 : decode cX4_setCalledChange 1 = .ok (.iconst 1, 1) := by decide +kernel
theorem dX4_setCalledChange_2 : decode cX4_setCalledChange 2 = .ok (.if_icmp .ne 11, 3) := by decide +kernel
theorem dX4_setCalledChange_5 : decode cX4_setCalledChange 5 = .ok (.aload_n 0, 1) := by decide +kernel
theorem dX4_setCalledChange_6 : decode cX4_setCalledChange 6 = .ok (.iload_n 2, 1) := by decide +kernel
theorem dX4_setCalledChange_7 : decode cX4_setCalledChange 7 = .ok (.putfield 22, 3) := by decide +kernel
theorem dX4_setCalledChange_10 : decode cX4_setCalledChange 10 = .ok (.goto 8, 3) := by decide +kernel
theorem dX4_setCalledChange_13 : decode cX4_setCalledChange 13 = .ok (.aload_n 0, 1) := by decide +kernel
theorem dX4_setCalledChange_14 : decode cX4_setCalledChange 14 = .ok (.iload_n 2, 1) := by decide +kernel
theorem dX4_setCalledChange_15 : decode cX4_setCalledChange 15 = .ok (.putfield 25, 3) := by decide +kernel
theorem dX4_setCalledChange_18 : decode cX4_setCalledChange 18 = .ok (.return_, 1) := by decide +kernel
set_option maxRecDepth 20000 in
theorem ggX4_isMusic_X2_rounds : GoodIn wsX4_isMusic wsX2_rounds := goodIn_r _ [6] (by decide +kernel) (by decide +kernel)
set_option maxRecDepth 20000 in
theorem gX4_isMusic_X2_rounds : GoodIn wsX4_isMusic (va_wsS RX4 65 yX2_rounds wsX2_rounds) := goodIn_app (goodIn_of _ (by decide +kernel)) ggX4_isMusic_X2_rounds
set_option maxRecDepth 20000 in
theorem ggX4_isMusic_X4_holdsPattern : GoodIn wsX4_isMusic wsX4_holdsPattern := goodIn_r _ [11, 1, 12, 13, 14, 5, 15, 23, 24, 25, 26, 27, 28, 29, 30, 31, 32, 33] (by decide +kernel) (by decide +kernel)
set_option maxRecDepth 20000 in
theorem gX4_isMusic_X4_holdsPattern : GoodIn wsX4_isMusic (wsV RX4 72 RX4 yX4_holdsPattern wsX4_holdsPattern) := goodIn_app (goodIn_of _ (by decide +kernel)) ggX4_isMusic_X4_holdsPattern
set_option maxRecDepth 20000 in
theorem ggX4_isMusic_X2_isRightAhead : GoodIn wsX4_isMusic wsX2_isRightAhead := goodIn_r _ [18, 19, 20, 5, 21, 22, 14, 15] (by decide +kernel) (by decide +kernel)
set_option maxRecDepth 20000 in
theorem gX4_isMusic_X2_isRightAhead : GoodIn wsX4_isMusic (va_wsS RX4 76 yX2_isRightAhead wsX2_isRightAhead) := goodIn_app (goodIn_of _ (by decide +kernel)) ggX4_isMusic_X2_isRightAhead
theorem dX4_isMusic_0 : decode cX4_isMusic 0 = .ok (.iconst 4, 1) := by decide +kernel
theorem dX4_isMusic_1 : decode cX4_isMusic 1 = .ok (.aload_n 0, 1) := by decide +kernel
theorem dX4_isMusic_2 : decode cX4_isMusic 2 = .ok (.getfield 9, 3) := by decide +kernel
theorem dX4_isMusic_5 : decode cX4_isMusic 5 = .ok (.iconst 4, 1) := by decide +kernel
theorem dX4_isMusic_6 : decode cX4_isMusic 6 = .ok (.isub, 1) := by decide +kernel
theorem dX4_isMusic_7 : decode cX4_isMusic 7 = .ok (.imul, 1) := by decide +kernel
theorem dX4_isMusic_8 : decode cX4_isMusic 8 = .ok (.istore_n 3, 1) := by decide +kernel
theorem dX4_isMusic_9 : decode cX4_isMusic 9 = .ok (.iload_n 2, 1) := by decide +kernel
theorem dX4_isMusic_10 : decode cX4_isMusic 10 = .ok (.tableswitch 70 0 2 #[26, 47, 64], 26) := by decide +kernel
theorem dX4_isMusic_36 : decode cX4_isMusic 36 = .ok (.iload_n 1, 1) := by decide +kernel
theorem dX4_isMusic_37 : decode cX4_isMusic 37 = .ok (.iload_n 3, 1) := by decide +kernel
theorem dX4_isMusic_38 : decode cX4_isMusic 38 = .ok (.iushr, 1) := by decide +kernel
theorem dX4_isMusic_39 : decode cX4_isMusic 39 = .ok (.aload_n 0, 1) := by decide +kernel
theorem dX4_isMusic_40 : decode cX4_isMusic 40 = .ok (.getfield 9, 3) := by decide +kernel
theorem dX4_isMusic_43 : decode cX4_isMusic 43 = .ok (.invokestatic 65, 3) := by decide +kernel
theorem dX4_isMusic_46 : decode cX4_isMusic 46 = .ok (.iload_n 3, 1) := by decide +kernel
theorem dX4_isMusic_47 : decode cX4_isMusic 47 = .ok (.iushr, 1) := by decide +kernel
theorem dX4_isMusic_48 : decode cX4_isMusic 48 = .ok (.if_icmp .ne 7, 3) := by decide +kernel
theorem dX4_isMusic_51 : decode cX4_isMusic 51 = .ok (.iconst 1, 1) := by decide +kernel
theorem dX4_isMusic_52 : decode cX4_isMusic 52 = .ok (.goto 4, 3) := by decide +kernel
theorem dX4_isMusic_55 : decode cX4_isMusic 55 = .ok (.iconst 0, 1) := by decide +kernel
theorem dX4_isMusic_56 : decode cX4_isMusic 56 = .ok (.ireturn, 1) := by decide +kernel
theorem dX4_isMusic_57 : decode cX4_isMusic 57 = .ok (.iload_n 1, 1) := by decide +kernel
theorem dX4_isMusic_58 : decode cX4_isMusic 58 = .ok (.ldc 71, 2) := by decide +kernel
theorem dX4_isMusic_60 : decode cX4_isMusic 60 = .ok (.iand, 1) := by decide +kernel
theorem dX4_isMusic_61 : decode cX4_isMusic 61 = .ok (.iconst 4, 1) := by decide +kernel
theorem dX4_isMusic_62 : decode cX4_isMusic 62 = .ok (.invokestatic 65, 3) := by decide +kernel
theorem dX4_isMusic_65 : decode cX4_isMusic 65 = .ok (.if_icmp .ne 7, 3) := by decide +kernel
theorem dX4_isMusic_68 : decode cX4_isMusic 68 = .ok (.iconst 1, 1) := by decide +kernel
theorem dX4_isMusic_69 : decode cX4_isMusic 69 = .ok (.goto 4, 3) := by decide +kernel
theorem dX4_isMusic_72 : decode cX4_isMusic 72 = .ok (.iconst 0, 1) := by decide +kernel
theorem dX4_isMusic_73 : decode cX4_isMusic 73 = .ok (.ireturn, 1) := by decide +kernel
theorem dX4_isMusic_74 : decode cX4_isMusic 74 = .ok (.aload_n 0, 1) := by decide +kernel
theorem dX4_isMusic_75 : decode cX4_isMusic 75 = .ok (.iload_n 1, 1) := by decide +kernel
theorem dX4_isMusic_76 : decode cX4_isMusic 76 = .ok (.invokevirtual 72, 3) := by decide +kernel
theorem dX4_isMusic_79 : decode cX4_isMusic 79 = .ok (.ireturn, 1) := by decide +kernel
theorem dX4_isMusic_80 : decode cX4_isMusic 80 = .ok (.iload_n 1, 1) := by decide +kernel
theorem dX4_isMusic_81 : decode cX4_isMusic 81 = .ok (.aload_n 0, 1) := by decide +kernel
theorem dX4_isMusic_82 : decode cX4_isMusic 82 = .ok (.getfield 9, 3) := by decide +kernel
theorem dX4_isMusic_85 : decode cX4_isMusic 85 = .ok (.iconst 1, 1) := by decide +kernel
theorem dX4_isMusic_86 : decode cX4_isMusic 86 = .ok (.isub, 1) := by decide +kernel
theorem dX4_isMusic_87 : decode cX4_isMusic 87 = .ok (.aload_n 0, 1) := by decide +kernel
theorem dX4_isMusic_88 : decode cX4_isMusic 88 = .ok (.getfield 9, 3) := by decide +kernel
theorem dX4_isMusic_91 : decode cX4_isMusic 91 = .ok (.invokestatic 76, 3) := by decide +kernel
theorem dX4_isMusic_94 : decode cX4_isMusic 94 = .ok (.ireturn, 1) := by decide +kernel
set_option maxRecDepth 20000 in
theorem ggX4_holdsPattern_X2_bellIn : GoodIn wsX4_holdsPattern wsX2_bellIn := goodIn_r _ [6] (by decide +kernel) (by decide +kernel)
set_option maxRecDepth 20000 in
theorem gX4_holdsPattern_X2_bellIn : GoodIn wsX4_holdsPattern (va_wsS RX4 80 yX2_bellIn wsX2_bellIn) := goodIn_app (goodIn_of _ (by decide +kernel)) ggX4_holdsPattern_X2_bellIn
theorem dX4_holdsPattern_0 : decode cX4_holdsPattern 0 = .ok (.iconst 1, 1) := by decide +kernel
theorem dX4_holdsPattern_1 : decode cX4_holdsPattern 1 = .ok (.istore_n 2, 1) := by decide +kernel
theorem dX4_holdsPattern_2 : decode cX4_holdsPattern 2 = .ok (.iload_n 2, 1) := by decide +kernel
theorem dX4_holdsPattern_3 : decode cX4_holdsPattern 3 = .ok (.aload_n 0, 1) := by decide +kernel
theorem dX4_holdsPattern_4 : decode cX4_holdsPattern 4 = .ok (.getfield 9, 3) := by decide +kernel
theorem dX4_holdsPattern_7 : decode cX4_holdsPattern 7 = .ok (.if_icmp .gt 33, 3) := by decide +kernel
theorem dX4_holdsPattern_10 : decode cX4_holdsPattern 10 = .ok (.aload_n 0, 1) := by decide +kernel
theorem dX4_holdsPattern_11 : decode cX4_holdsPattern 11 = .ok (.getfield 34, 3) := by decide +kernel
theorem dX4_holdsPattern_14 : decode cX4_holdsPattern 14 = .ok (.iload_n 2, 1) := by decide +kernel
theorem dX4_holdsPattern_15 : decode cX4_holdsPattern 15 = .ok (.iconst 1, 1) := by decide +kernel
theorem dX4_holdsPattern_16 : decode cX4_holdsPattern 16 = .ok (.isub, 1) := by decide +kernel
theorem dX4_holdsPattern_17 : decode cX4_holdsPattern 17 = .ok (.iaload, 1) := by decide +kernel
theorem dX4_holdsPattern_18 : decode cX4_holdsPattern 18 = .ok (.istore_n 3, 1) := by decide +kernel
theorem dX4_holdsPattern_19 : decode cX4_holdsPattern 19 = .ok (.iload_n 3, 1) := by decide +kernel
theorem dX4_holdsPattern_20 : decode cX4_holdsPattern 20 = .ok (.ifCond .eq 14, 3) := by decide +kernel
theorem dX4_holdsPattern_23 : decode cX4_holdsPattern 23 = .ok (.iload_n 3, 1) := by decide +kernel
theorem dX4_holdsPattern_24 : decode cX4_holdsPattern 24 = .ok (.iload_n 1, 1) := by decide +kernel
theorem dX4_holdsPattern_25 : decode cX4_holdsPattern 25 = .ok (.iload_n 2, 1) := by decide +kernel
theorem dX4_holdsPattern_26 : decode cX4_holdsPattern 26 = .ok (.invokestatic 80, 3) := by decide +kernel
theorem dX4_holdsPattern_29 : decode cX4_holdsPattern 29 = .ok (.if_icmp .eq 5, 3) := by decide +kernel
theorem dX4_holdsPattern_32 : decode cX4_holdsPattern 32 = .ok (.iconst 0, 1) := by decide +kernel
theorem dX4_holdsPattern_33 : decode cX4_holdsPattern 33 = .ok (.ireturn, 1) := by decide +kernel
theorem dX4_holdsPattern_34 : decode cX4_holdsPattern 34 = .ok (.iinc 2 1, 3) := by decide +kernel
theorem dX4_holdsPattern_37 : decode cX4_holdsPattern 37 = .ok (.goto (-35), 3) := by decide +kernel
theorem dX4_holdsPattern_40 : decode cX4_holdsPattern 40 = .ok (.iconst 1, 1) := by decide +kernel
theorem dX4_holdsPattern_41 : decode cX4_holdsPattern 41 = .ok (.ireturn, 1) := by decide +kernel
theorem dX4_happen_0 : decode cX4_happen 0 = .ok (.iconst 0, 1) := by decide +kernel
theorem dX4_happen_1 : decode cX4_happen 1 = .ok (.istore_n 1, 1) := by decide +kernel
theorem dX4_happen_2 : decode cX4_happen 2 = .ok (.iload_n 1, 1) := by decide +kernel
theorem dX4_happen_3 : decode cX4_happen 3 = .ok (.aload_n 0, 1) := by decide +kernel
theorem dX4_happen_4 : decode cX4_happen 4 = .ok (.getfield 46, 3) := by decide +kernel
theorem dX4_happen_7 : decode cX4_happen 7 = .ok (.getfield 52, 3) := by decide +kernel
theorem dX4_happen_10 : decode cX4_happen 10 = .ok (.if_icmp .ge 98, 3) := by decide +kernel
theorem dX4_happen_13 : decode cX4_happen 13 = .ok (.aload_n 0, 1) := by decide +kernel
theorem dX4_happen_14 : decode cX4_happen 14 = .ok (.getfield 46, 3) := by decide +kernel
theorem dX4_happen_17 : decode cX4_happen 17 = .ok (.getfield 84, 3) := by decide +kernel
theorem dX4_happen_20 : decode cX4_happen 20 = .ok (.iload_n 1, 1) := by decide +kernel
theorem dX4_happen_21 : decode cX4_happen 21 = .ok (.iaload, 1) := by decide +kernel
theorem dX4_happen_22 : decode cX4_happen 22 = .ok (.istore_n 2, 1) := by decide +kernel
theorem dX4_happen_23 : decode cX4_happen 23 = .ok (.aload_n 0, 1) := by decide +kernel
theorem dX4_happen_24 : decode cX4_happen 24 = .ok (.getfield 46, 3) := by decide +kernel
theorem dX4_happen_27 : decode cX4_happen 27 = .ok (.getfield 87, 3) := by decide +kernel
theorem dX4_happen_30 : decode cX4_happen 30 = .ok (.iload_n 1, 1) := by decide +kernel
theorem dX4_happen_31 : decode cX4_happen 31 = .ok (.iaload, 1) := by decide +kernel
theorem dX4_happen_32 : decode cX4_happen 32 = .ok (.tableswitch 65 0 2 #[28, 38, 48], 28) := by decide +kernel
theorem dX4_happen_60 : decode cX4_happen 60 = .ok (.aload_n 0, 1) := by decide +kernel
theorem dX4_happen_61 : decode cX4_happen 61 = .ok (.getfield 28, 3) := by decide +kernel
theorem dX4_happen_64 : decode cX4_happen 64 = .ok (.iload_n 2, 1) := by decide +kernel
theorem dX4_happen_65 : decode cX4_happen 65 = .ok (.iconst 0, 1) := by decide +kernel
theorem dX4_happen_66 : decode cX4_happen 66 = .ok (.iastore, 1) := by decide +kernel
theorem dX4_happen_67 : decode cX4_happen 67 = .ok (.goto 35, 3) := by decide +kernel
theorem dX4_happen_70 : decode cX4_happen 70 = .ok (.aload_n 0, 1) := by decide +kernel
theorem dX4_happen_71 : decode cX4_happen 71 = .ok (.getfield 28, 3) := by decide +kernel
theorem dX4_happen_74 : decode cX4_happen 74 = .ok (.iload_n 2, 1) := by decide +kernel
theorem dX4_happen_75 : decode cX4_happen 75 = .ok (.iconst 1, 1) := by decide +kernel
theorem dX4_happen_76 : decode cX4_happen 76 = .ok (.iastore, 1) := by decide +kernel
theorem dX4_happen_77 : decode cX4_happen 77 = .ok (.goto 25, 3) := by decide +kernel
theorem dX4_happen_80 : decode cX4_happen 80 = .ok (.aload_n 0, 1) := by decide +kernel
theorem dX4_happen_81 : decode cX4_happen 81 = .ok (.iconst 0, 1) := by decide +kernel
theorem dX4_happen_82 : decode cX4_happen 82 = .ok (.aload_n 0, 1) := by decide +kernel
theorem dX4_happen_83 : decode cX4_happen 83 = .ok (.getfield 19, 3) := by decide +kernel
theorem dX4_happen_86 : decode cX4_happen 86 = .ok (.iload_n 2, 1) := by decide +kernel
theorem dX4_happen_87 : decode cX4_happen 87 = .ok (.isub, 1) := by decide +kernel
theorem dX4_happen_88 : decode cX4_happen 88 = .ok (.invokestatic 90, 3) := by decide +kernel
theorem dX4_happen_91 : decode cX4_happen 91 = .ok (.putfield 19, 3) := by decide +kernel
theorem dX4_happen_94 : decode cX4_happen 94 = .ok (.goto 8, 3) := by decide +kernel
theorem dX4_happen_97 : decode cX4_happen 97 = .ok (.aload_n 0, 1) := by decide +kernel
theorem dX4_happen_98 : decode cX4_happen 98 = .ok (.iload_n 2, 1) := by decide +kernel
theorem dX4_happen_99 : decode cX4_happen 99 = .ok (.putfield 31, 3) := by decide +kernel
theorem dX4_happen_102 : decode cX4_happen 102 = .ok (.iinc 1 1, 3) := by decide +kernel
theorem dX4_happen_105 : decode cX4_happen 105 = .ok (.goto (-103), 3) := by decide +kernel
theorem dX4_happen_108 : decode cX4_happen 108 = .ok (.return_, 1) := by decide +kernel
theorem dX5_init_0 : decode cX5_init 0 = .ok (.aload_n 0, 1) := by decide +kernel
theorem dX5_init_1 : decode cX5_init 1 = .ok (.invokespecial 3, 3) := by decide +kernel
theorem dX5_init_4 : decode cX5_init 4 = .ok (.aload_n 0, 1) := by decide +kernel
theorem dX5_init_5 : decode cX5_init 5 = .ok (.iconst 0, 1) := by decide +kernel
theorem dX5_init_6 : decode cX5_init 6 = .ok (.putfield 9, 3) := by decide +kernel
theorem dX5_init_9 : decode cX5_init 9 = .ok (.aload_n 0, 1) := by decide +kernel
theorem dX5_init_10 : decode cX5_init 10 = .ok (.bipush 100, 2) := by decide +kernel
theorem dX5_init_12 : decode cX5_init 12 = .ok (.newarray .byte, 2) := by decide +kernel
theorem dX5_init_14 : decode cX5_init 14 = .ok (.putfield 15, 3) := by decide +kernel
theorem dX5_init_17 : decode cX5_init 17 = .ok (.aload_n 0, 1) := by decide +kernel
theorem dX5_init_18 : decode cX5_init 18 = .ok (.iconst 0, 1) := by decide +kernel
theorem dX5_init_19 : decode cX5_init 19 = .ok (.putfield 19, 3) := by decide +kernel
theorem dX5_init_22 : decode cX5_init 22 = .ok (.aload_n 0, 1) := by decide +kernel
theorem dX5_init_23 : decode cX5_init 23 = .ok (.bipush 10, 2) := by decide +kernel
theorem dX5_init_25 : decode cX5_init 25 = .ok (.newarray .int, 2) := by decide +kernel
theorem dX5_init_27 : decode cX5_init 27 = .ok (.putfield 22, 3) := by decide +kernel
theorem dX5_init_30 : decode cX5_init 30 = .ok (.aload_n 0, 1) := by decide +kernel
theorem dX5_init_31 : decode cX5_init 31 = .ok (.bipush 11, 2) := by decide +kernel
theorem dX5_init_33 : decode cX5_init 33 = .ok (.newarray .int, 2) := by decide +kernel
theorem dX5_init_35 : decode cX5_init 35 = .ok (.putfield 26, 3) := by decide +kernel
theorem dX5_init_38 : decode cX5_init 38 = .ok (.aload_n 0, 1) := by decide +kernel
theorem dX5_init_39 : decode cX5_init 39 = .ok (.iconst 0, 1) := by decide +kernel
theorem dX5_init_40 : decode cX5_init 40 = .ok (.putfield 29, 3) := by decide +kernel
theorem dX5_init_43 : decode cX5_init 43 = .ok (.aload_n 0, 1) := by decide +kernel
theorem dX5_init_44 : decode cX5_init 44 = .ok (.bipush 100, 2) := by decide +kernel
theorem dX5_init_46 : decode cX5_init 46 = .ok (.newarray .int, 2) := by decide +kernel
theorem dX5_init_48 : decode cX5_init 48 = .ok (.putfield 32, 3) := by decide +kernel
theorem dX5_init_51 : decode cX5_init 51 = .ok (.aload_n 0, 1) := by decide +kernel
theorem dX5_init_52 : decode cX5_init 52 = .ok (.iconst 0, 1) := by decide +kernel
theorem dX5_init_53 : decode cX5_init 53 = .ok (.putfield 35, 3) := by decide +kernel
theorem dX5_init_56 : decode cX5_init 56 = .ok (.return_, 1) := by decide +kernel
theorem dX5_append_0 : decode cX5_append 0 = .ok (.aload_n 0, 1) := by decide +kernel
theorem dX5_append_1 : decode cX5_append 1 = .ok (.getfield 9, 3) := by decide +kernel
theorem dX5_append_4 : decode cX5_append 4 = .ok (.bipush 100, 2) := by decide +kernel
theorem dX5_append_6 : decode cX5_append 6 = .ok (.if_icmp .lt 5, 3) := by decide +kernel
theorem dX5_append_9 : decode cX5_append 9 = .ok (.iconst 0, 1) := by decide +kernel
theorem dX5_append_10 : decode cX5_append 10 = .ok (.ireturn, 1) := by decide +kernel
theorem dX5_append_11 : decode cX5_append 11 = .ok (.aload_n 0, 1) := by decide +kernel
theorem dX5_append_12 : decode cX5_append 12 = .ok (.getfield 15, 3) := by decide +kernel
theorem dX5_append_15 : decode cX5_append 15 = .ok (.aload_n 0, 1) := by decide +kernel
theorem dX5_append_16 : decode cX5_append 16 = .ok (.getfield 9, 3) := by decide +kernel
theorem dX5_append_19 : decode cX5_append 19 = .ok (.iload_n 1, 1) := by decide +kernel
theorem dX5_append_20 : decode cX5_append 20 = .ok (.i2b, 1) := by decide +kernel
theorem dX5_append_21 : decode cX5_append 21 = .ok (.bastore, 1) := by decide +kernel
theorem dX5_append_22 : decode cX5_append 22 = .ok (.aload_n 0, 1) := by decide +kernel
theorem dX5_append_23 : decode cX5_append 23 = .ok (.dup, 1) := by decide +kernel
theorem dX5_append_24 : decode cX5_append 24 = .ok (.getfield 9, 3) := by decide +kernel
theorem dX5_append_27 : decode cX5_append 27 = .ok (.iconst 1, 1) := by decide +kernel
theorem dX5_append_28 : decode cX5_append 28 = .ok (.iadd, 1) := by decide +kernel
theorem dX5_append_29 : decode cX5_append 29 = .ok (.putfield 9, 3) := by decide +kernel
theorem dX5_append_32 : decode cX5_append 32 = .ok (.iconst 1, 1) := by decide +kernel
theorem dX5_append_33 : decode cX5_append 33 = .ok (.ireturn, 1) := by decide +kernel
set_option maxRecDepth 20000 in
theorem ggX5_parse_X5_next : GoodIn wsX5_parse wsX5_next := goodIn_r _ [10, 1, 11, 12, 44, 45, 46, 47, 48, 49, 50, 51] (by decide +kernel) (by decide +kernel)
set_option maxRecDepth 20000 in
theorem gX5_parse_X5_next : GoodIn wsX5_parse (wsV RX5 38 RX5 yX5_next wsX5_next) := goodIn_app (goodIn_of _ (by decide +kernel)) ggX5_parse_X5_next
set_option maxRecDepth 20000 in
theorem ggX5_parse_X5_parseClause : GoodIn wsX5_parse wsX5_parseClause := goodIn_r _ [16, 1, 6, 7, 8, 9, 10, 11, 12, 17, 18, 19, 20, 21, 22, 23, 24, 3, 25, 26, 27, 28, 29, 30, 31, 32, 33, 34, 35, 36, 37, 38, 39, 40, 41, 42, 43, 44, 45, 46, 47, 48, 49, 50, 51] (by decide +kernel) (by decide +kernel)
set_option maxRecDepth 20000 in
theorem gX5_parse_X5_parseClause : GoodIn wsX5_parse (wsV RX5 42 RX5 yX5_parseClause wsX5_parseClause) := goodIn_app (goodIn_of _ (by decide +kernel)) ggX5_parse_X5_parseClause
theorem dX5_parse_0 : decode cX5_parse 0 = .ok (.aload_n 0, 1) := by decide +kernel
theorem dX5_parse_1 : decode cX5_parse 1 = .ok (.iconst 0, 1) := by decide +kernel
theorem dX5_parse_2 : decode cX5_parse 2 = .ok (.putfield 19, 3) := by decide +kernel
theorem dX5_parse_5 : decode cX5_parse 5 = .ok (.aload_n 0, 1) := by decide +kernel
theorem dX5_parse_6 : decode cX5_parse 6 = .ok (.iconst 0, 1) := by decide +kernel
theorem dX5_parse_7 : decode cX5_parse 7 = .ok (.putfield 29, 3) := by decide +kernel
theorem dX5_parse_10 : decode cX5_parse 10 = .ok (.aload_n 0, 1) := by decide +kernel
theorem dX5_parse_11 : decode cX5_parse 11 = .ok (.iconst 0, 1) := by decide +kernel
theorem dX5_parse_12 : decode cX5_parse 12 = .ok (.putfield 35, 3) := by decide +kernel
theorem dX5_parse_15 : decode cX5_parse 15 = .ok (.iconst 0, 1) := by decide +kernel
theorem dX5_parse_16 : decode cX5_parse 16 = .ok (.istore_n 1, 1) := by decide +kernel
theorem dX5_parse_17 : decode cX5_parse 17 = .ok (.iload_n 1, 1) := by decide +kernel
theorem dX5_parse_18 : decode cX5_parse 18 = .ok (.bipush 10, 2) := by decide +kernel
theorem dX5_parse_20 : decode cX5_parse 20 = .ok (.if_icmp .ge 105, 3) := by decide +kernel
theorem dX5_parse_23 : decode cX5_parse 23 = .ok (.aload_n 0, 1) := by decide +kernel
theorem dX5_parse_24 : decode cX5_parse 24 = .ok (.getfield 26, 3) := by decide +kernel
theorem dX5_parse_27 : decode cX5_parse 27 = .ok (.iload_n 1, 1) := by decide +kernel
theorem dX5_parse_28 : decode cX5_parse 28 = .ok (.aload_n 0, 1) := by decide +kernel
theorem dX5_parse_29 : decode cX5_parse 29 = .ok (.getfield 35, 3) := by decide +kernel
theorem dX5_parse_32 : decode cX5_parse 32 = .ok (.iastore, 1) := by decide +kernel
theorem dX5_parse_33 : decode cX5_parse 33 = .ok (.aload_n 0, 1) := by decide +kernel
theorem dX5_parse_34 : decode cX5_parse 34 = .ok (.getfield 22, 3) := by decide +kernel
theorem dX5_parse_37 : decode cX5_parse 37 = .ok (.iload_n 1, 1) := by decide +kernel
theorem dX5_parse_38 : decode cX5_parse 38 = .ok (.aload_n 0, 1) := by decide +kernel
theorem dX5_parse_39 : decode cX5_parse 39 = .ok (.invokevirtual 38, 3) := by decide +kernel
theorem dX5_parse_42 : decode cX5_parse 42 = .ok (.iastore, 1) := by decide +kernel
theorem dX5_parse_43 : decode cX5_parse 43 = .ok (.aload_n 0, 1) := by decide +kernel
theorem dX5_parse_44 : decode cX5_parse 44 = .ok (.invokevirtual 42, 3) := by decide +kernel
theorem dX5_parse_47 : decode cX5_parse 47 = .ok (.ifCond .ne 8, 3) := by decide +kernel
theorem dX5_parse_50 : decode cX5_parse 50 = .ok (.aload_n 0, 1) := by decide +kernel
theorem dX5_parse_51 : decode cX5_parse 51 = .ok (.getfield 19, 3) := by decide +kernel
theorem dX5_parse_54 : decode cX5_parse 54 = .ok (.ireturn, 1) := by decide +kernel
theorem dX5_parse_55 : decode cX5_parse 55 = .ok (.aload_n 0, 1) := by decide +kernel
theorem dX5_parse_56 : decode cX5_parse 56 = .ok (.iload_n 1, 1) := by decide +kernel
theorem dX5_parse_57 : decode cX5_parse 57 = .ok (.iconst 1, 1) := by decide +kernel
theorem dX5_parse_58 : decode cX5_parse 58 = .ok (.iadd, 1) := by decide +kernel
theorem dX5_parse_59 : decode cX5_parse 59 = .ok (.putfield 29, 3) := by decide +kernel
theorem dX5_parse_62 : decode cX5_parse 62 = .ok (.aload_n 0, 1) := by decide +kernel
theorem dX5_parse_63 : decode cX5_parse 63 = .ok (.getfield 26, 3) := by decide +kernel
theorem dX5_parse_66 : decode cX5_parse 66 = .ok (.aload_n 0, 1) := by decide +kernel
theorem dX5_parse_67 : decode cX5_parse 67 = .ok (.getfield 29, 3) := by decide +kernel
theorem dX5_parse_70 : decode cX5_parse 70 = .ok (.aload_n 0, 1) := by decide +kernel
theorem dX5_parse_71 : decode cX5_parse 71 = .ok (.getfield 35, 3) := by decide +kernel
theorem dX5_parse_74 : decode cX5_parse 74 = .ok (.iastore, 1) := by decide +kernel
theorem dX5_parse_75 : decode cX5_parse 75 = .ok (.aload_n 0, 1) := by decide +kernel
theorem dX5_parse_76 : decode cX5_parse 76 = .ok (.invokevirtual 38, 3) := by decide +kernel
theorem dX5_parse_79 : decode cX5_parse 79 = .ok (.iconst (-1), 1) := by decide +kernel
theorem dX5_parse_80 : decode cX5_parse 80 = .ok (.if_icmp .ne 6, 3) := by decide +kernel
theorem dX5_parse_83 : decode cX5_parse 83 = .ok (.bipush (-5), 2) := by decide +kernel
theorem dX5_parse_85 : decode cX5_parse 85 = .ok (.ireturn, 1) := by decide +kernel
theorem dX5_parse_86 : decode cX5_parse 86 = .ok (.aload_n 0, 1) := by decide +kernel
theorem dX5_parse_87 : decode cX5_parse 87 = .ok (.invokevirtual 38, 3) := by decide +kernel
theorem dX5_parse_90 : decode cX5_parse 90 = .ok (.bipush 59, 2) := by decide +kernel
theorem dX5_parse_92 : decode cX5_parse 92 = .ok (.if_icmp .ne 12, 3) := by decide +kernel
theorem dX5_parse_95 : decode cX5_parse 95 = .ok (.aload_n 0, 1) := by decide +kernel
theorem dX5_parse_96 : decode cX5_parse 96 = .ok (.getfield 29, 3) := by decide +kernel
theorem dX5_parse_99 : decode cX5_parse 99 = .ok (.bipush 10, 2) := by decide +kernel
theorem dX5_parse_101 : decode cX5_parse 101 = .ok (.if_icmp .ne 8, 3) := by decide +kernel
theorem dX5_parse_104 : decode cX5_parse 104 = .ok (.aload_n 0, 1) := by decide +kernel
theorem dX5_parse_105 : decode cX5_parse 105 = .ok (.getfield 19, 3) := by decide +kernel
theorem dX5_parse_108 : decode cX5_parse 108 = .ok (.ireturn, 1) := by decide +kernel
theorem dX5_parse_109 : decode cX5_parse 109 = .ok (.aload_n 0, 1) := by decide +kernel
theorem dX5_parse_110 : decode cX5_parse 110 = .ok (.dup, 1) := by decide +kernel
theorem dX5_parse_111 : decode cX5_parse 111 = .ok (.getfield 19, 3) := by decide +kernel
theorem dX5_parse_114 : decode cX5_parse 114 = .ok (.iconst 1, 1) := by decide +kernel
theorem dX5_parse_115 : decode cX5_parse 115 = .ok (.iadd, 1) := by decide +kernel
theorem dX5_parse_116 : decode cX5_parse 116 = .ok (.putfield 19, 3) := by decide +kernel
theorem dX5_parse_119 : decode cX5_parse 119 = .ok (.iinc 1 1, 3) := by decide +kernel
theorem dX5_parse_122 : decode cX5_parse 122 = .ok (.goto (-105), 3) := by decide +kernel
theorem dX5_parse_125 : decode cX5_parse 125 = .ok (.aload_n 0, 1) := by decide +kernel
theorem dX5_parse_126 : decode cX5_parse 126 = .ok (.getfield 19, 3) := by decide +kernel
theorem dX5_parse_129 : decode cX5_parse 129 = .ok (.ireturn, 1) := by decide +kernel
theorem dX5_next_0 : decode cX5_next 0 = .ok (.aload_n 0, 1) := by decide +kernel
theorem dX5_next_1 : decode cX5_next 1 = .ok (.getfield 19, 3) := by decide +kernel
theorem dX5_next_4 : decode cX5_next 4 = .ok (.aload_n 0, 1) := by decide +kernel
theorem dX5_next_5 : decode cX5_next 5 = .ok (.getfield 9, 3) := by decide +kernel
theorem dX5_next_8 : decode cX5_next 8 = .ok (.if_icmp .ge 15, 3) := by decide +kernel
theorem dX5_next_11 : decode cX5_next 11 = .ok (.aload_n 0, 1) := by decide +kernel
theorem dX5_next_12 : decode cX5_next 12 = .ok (.getfield 15, 3) := by decide +kernel
theorem dX5_next_15 : decode cX5_next 15 = .ok (.aload_n 0, 1) := by decide +kernel
theorem dX5_next_16 : decode cX5_next 16 = .ok (.getfield 19, 3) := by decide +kernel
theorem dX5_next_19 : decode cX5_next 19 = .ok (.baload, 1) := by decide +kernel
theorem dX5_next_20 : decode cX5_next 20 = .ok (.goto 4, 3) := by decide +kernel
theorem dX5_next_23 : decode cX5_next 23 = .ok (.iconst (-1), 1) := by decide +kernel
theorem dX5_next_24 : decode cX5_next 24 = .ok (.ireturn, 1) := by decide +kernel
set_option maxRecDepth 20000 in
theorem ggX5_parseClause_X5_next : GoodIn wsX5_parseClause wsX5_next := goodIn_r _ [6, 1, 7, 8, 37, 38, 39, 40, 41, 42, 43, 44] (by decide +kernel) (by decide +kernel)
set_option maxRecDepth 20000 in
theorem gX5_parseClause_X5_next : GoodIn wsX5_parseClause (wsV RX5 38 RX5 yX5_next wsX5_next) := goodIn_app (goodIn_of _ (by decide +kernel)) ggX5_parseClause_X5_next
set_option maxRecDepth 20000 in
theorem ggX5_parseClause_X5_parseDigit : GoodIn wsX5_parseClause wsX5_parseDigit := goodIn_r _ [12, 1, 2, 3, 4, 5, 6, 7, 8, 13, 14, 15, 16, 17, 18, 37, 38, 39, 40, 41, 42, 43, 44] (by decide +kernel) (by decide +kernel)
set_option maxRecDepth 20000 in
theorem gX5_parseClause_X5_parseDigit : GoodIn wsX5_parseClause (wsV RX5 46 RX5 yX5_parseDigit wsX5_parseDigit) := goodIn_app (goodIn_of _ (by decide +kernel)) ggX5_parseClause_X5_parseDigit
set_option maxRecDepth 20000 in
theorem ggX5_parseClause_X5_parseWords : GoodIn wsX5_parseClause wsX5_parseWords := goodIn_r _ [22, 8, 1, 23, 24, 25, 5, 26, 2, 3, 4, 6, 7, 13, 14, 15, 16, 17, 18, 27, 28, 29, 37, 38, 39, 40, 41, 42, 43, 44] (by decide +kernel) (by decide +kernel)
set_option maxRecDepth 20000 in
theorem gX5_parseClause_X5_parseWords : GoodIn wsX5_parseClause (wsV RX5 49 RX5 yX5_parseWords wsX5_parseWords) := goodIn_app (goodIn_of _ (by decide +kernel)) ggX5_parseClause_X5_parseWords
set_option maxRecDepth 20000 in
theorem ggX5_parseClause_X5_parseWord : GoodIn wsX5_parseClause wsX5_parseWord := goodIn_r _ [26, 1, 2, 3, 4, 5, 6, 7, 8, 13, 14, 15, 16, 17, 18, 27, 28, 29, 37, 38, 39, 40, 41, 42, 43, 44] (by decide +kernel) (by decide +kernel)
set_option maxRecDepth 20000 in
theorem gX5_parseClause_X5_parseWord : GoodIn wsX5_parseClause (wsV RX5 52 RX5 yX5_parseWord wsX5_parseWord) := goodIn_app (goodIn_of _ (by decide +kernel)) ggX5_parseClause_X5_parseWord
set_option maxRecDepth 20000 in
theorem ggX5_parseClause_X5_parseCalls : GoodIn wsX5_parseClause wsX5_parseCalls := goodIn_r _ [33, 1, 2, 3, 4, 5, 6, 7, 8, 34, 35, 36, 13, 14, 15, 16, 17, 18, 37, 38, 39, 40, 41, 42, 43, 44] (by decide +kernel) (by decide +kernel)
set_option maxRecDepth 20000 in
theorem gX5_parseClause_X5_parseCalls : GoodIn wsX5_parseClause (wsV RX5 55 RX5 yX5_parseCalls wsX5_parseCalls) := goodIn_app (goodIn_of _ (by decide +kernel)) ggX5_parseClause_X5_parseCalls
theorem dX5_parseClause_0 : decode cX5_parseClause 0 = .ok (.aload_n 0, 1) := by decide +kernel
theorem dX5_parseClause_1 : decode cX5_parseClause 1 = .ok (.invokevirtual 38, 3) := by decide +kernel
theorem dX5_parseClause_4 : decode cX5_parseClause 4 = .ok (.istore_n 1, 1) := by decide +kernel
theorem dX5_parseClause_5 : decode cX5_parseClause 5 = .ok (.iload_n 1, 1) := by decide +kernel
theorem dX5_parseClause_6 : decode cX5_parseClause 6 = .ok (.lookupswitch 110 #[(98, 80), (99, 95), (109, 65), (110, 50), (115, 80)], 50) := by decide +kernel
theorem dX5_parseClause_56 : decode cX5_parseClause 56 = .ok (.aload_n 0, 1) := by decide +kernel
theorem dX5_parseClause_57 : decode cX5_parseClause 57 = .ok (.dup, 1) := by decide +kernel
theorem dX5_parseClause_58 : decode cX5_parseClause 58 = .ok (.getfield 19, 3) := by decide +kernel
theorem dX5_parseClause_61 : decode cX5_parseClause 61 = .ok (.iconst 1, 1) := by decide +kernel
theorem dX5_parseClause_62 : decode cX5_parseClause 62 = .ok (.iadd, 1) := by decide +kernel
theorem dX5_parseClause_63 : decode cX5_parseClause 63 = .ok (.putfield 19, 3) := by decide +kernel
theorem dX5_parseClause_66 : decode cX5_parseClause 66 = .ok (.aload_n 0, 1) := by decide +kernel
theorem dX5_parseClause_67 : decode cX5_parseClause 67 = .ok (.invokevirtual 46, 3) := by decide +kernel
theorem dX5_parseClause_70 : decode cX5_parseClause 70 = .ok (.ireturn, 1) := by decide +kernel
theorem dX5_parseClause_71 : decode cX5_parseClause 71 = .ok (.aload_n 0, 1) := by decide +kernel
theorem dX5_parseClause_72 : decode cX5_parseClause 72 = .ok (.dup, 1) := by decide +kernel
theorem dX5_parseClause_73 : decode cX5_parseClause 73 = .ok (.getfield 19, 3) := by decide +kernel
theorem dX5_parseClause_76 : decode cX5_parseClause 76 = .ok (.iconst 1, 1) := by decide +kernel
theorem dX5_parseClause_77 : decode cX5_parseClause 77 = .ok (.iadd, 1) := by decide +kernel
theorem dX5_parseClause_78 : decode cX5_parseClause 78 = .ok (.putfield 19, 3) := by decide +kernel
theorem dX5_parseClause_81 : decode cX5_parseClause 81 = .ok (.aload_n 0, 1) := by decide +kernel
theorem dX5_parseClause_82 : decode cX5_parseClause 82 = .ok (.invokevirtual 49, 3) := by decide +kernel
theorem dX5_parseClause_85 : decode cX5_parseClause 85 = .ok (.ireturn, 1) := by decide +kernel
theorem dX5_parseClause_86 : decode cX5_parseClause 86 = .ok (.aload_n 0, 1) := by decide +kernel
theorem dX5_parseClause_87 : decode cX5_parseClause 87 = .ok (.dup, 1) := by decide +kernel
theorem dX5_parseClause_88 : decode cX5_parseClause 88 = .ok (.getfield 19, 3) := by decide +kernel
theorem dX5_parseClause_91 : decode cX5_parseClause 91 = .ok (.iconst 1, 1) := by decide +kernel
theorem dX5_parseClause_92 : decode cX5_parseClause 92 = .ok (.iadd, 1) := by decide +kernel
theorem dX5_parseClause_93 : decode cX5_parseClause 93 = .ok (.putfield 19, 3) := by decide +kernel
theorem dX5_parseClause_96 : decode cX5_parseClause 96 = .ok (.aload_n 0, 1) := by decide +kernel
theorem dX5_parseClause_97 : decode cX5_parseClause 97 = .ok (.invokevirtual 52, 3) := by decide +kernel
theorem dX5_parseClause_100 : decode cX5_parseClause 100 = .ok (.ireturn, 1) := by decide +kernel
theorem dX5_parseClause_101 : decode cX5_parseClause 101 = .ok (.aload_n 0, 1) := by decide +kernel
theorem dX5_parseClause_102 : decode cX5_parseClause 102 = .ok (.dup, 1) := by decide +kernel
theorem dX5_parseClause_103 : decode cX5_parseClause 103 = .ok (.getfield 19, 3) := by decide +kernel
theorem dX5_parseClause_106 : decode cX5_parseClause 106 = .ok (.iconst 1, 1) := by decide +kernel
theorem dX5_parseClause_107 : decode cX5_parseClause 107 = .ok (.iadd, 1) := by decide +kernel
theorem dX5_parseClause_108 : decode cX5_parseClause 108 = .ok (.putfield 19, 3) := by decide +kernel
theorem dX5_parseClause_111 : decode cX5_parseClause 111 = .ok (.aload_n 0, 1) := by decide +kernel
theorem dX5_parseClause_112 : decode cX5_parseClause 112 = .ok (.invokevirtual 55, 3) := by decide +kernel
theorem dX5_parseClause_115 : decode cX5_parseClause 115 = .ok (.ireturn, 1) := by decide +kernel
theorem dX5_parseClause_116 : decode cX5_parseClause 116 = .ok (.iconst 0, 1) := by decide +kernel
theorem dX5_parseClause_117 : decode cX5_parseClause 117 = .ok (.ireturn, 1) := by decide +kernel
set_option maxRecDepth 20000 in
theorem ggX5_parseDigit_X5_next : GoodIn wsX5_parseDigit wsX5_next := goodIn_r _ [6, 1, 7, 8, 15, 16, 17, 18, 19, 20, 21, 22] (by decide +kernel) (by decide +kernel)
set_option maxRecDepth 20000 in
theorem gX5_parseDigit_X5_next : GoodIn wsX5_parseDigit (wsV RX5 38 RX5 yX5_next wsX5_next) := goodIn_app (goodIn_of _ (by decide +kernel)) ggX5_parseDigit_X5_next
set_option maxRecDepth 20000 in
theorem ggX5_parseDigit_X5_keep : GoodIn wsX5_parseDigit wsX5_keep := goodIn_r _ [12, 13, 14, 15, 16, 17, 18, 19, 20, 21, 22] (by decide +kernel) (by decide +kernel)
set_option maxRecDepth 20000 in
theorem gX5_parseDigit_X5_keep : GoodIn wsX5_parseDigit (wsV RX5 58 RX5 yX5_keep wsX5_keep) := goodIn_app (goodIn_of _ (by decide +kernel)) ggX5_parseDigit_X5_keep
theorem dX5_parseDigit_0 : decode cX5_parseDigit 0 = .ok (.aload_n 0, 1) := by decide +kernel
theorem dX5_parseDigit_1 : decode cX5_parseDigit 1 = .ok (.invokevirtual 38, 3) := by decide +kernel
theorem dX5_parseDigit_4 : decode cX5_parseDigit 4 = .ok (.istore_n 1, 1) := by decide +kernel
theorem dX5_parseDigit_5 : decode cX5_parseDigit 5 = .ok (.iload_n 1, 1) := by decide +kernel
theorem dX5_parseDigit_6 : decode cX5_parseDigit 6 = .ok (.bipush 48, 2) := by decide +kernel
theorem dX5_parseDigit_8 : decode cX5_parseDigit 8 = .ok (.if_icmp .lt 9, 3) := by decide +kernel
theorem dX5_parseDigit_11 : decode cX5_parseDigit 11 = .ok (.iload_n 1, 1) := by decide +kernel
theorem dX5_parseDigit_12 : decode cX5_parseDigit 12 = .ok (.bipush 57, 2) := by decide +kernel
theorem dX5_parseDigit_14 : decode cX5_parseDigit 14 = .ok (.if_icmp .le 5, 3) := by decide +kernel
theorem dX5_parseDigit_17 : decode cX5_parseDigit 17 = .ok (.iconst 0, 1) := by decide +kernel
theorem dX5_parseDigit_18 : decode cX5_parseDigit 18 = .ok (.ireturn, 1) := by decide +kernel
theorem dX5_parseDigit_19 : decode cX5_parseDigit 19 = .ok (.aload_n 0, 1) := by decide +kernel
theorem dX5_parseDigit_20 : decode cX5_parseDigit 20 = .ok (.dup, 1) := by decide +kernel
theorem dX5_parseDigit_21 : decode cX5_parseDigit 21 = .ok (.getfield 19, 3) := by decide +kernel
theorem dX5_parseDigit_24 : decode cX5_parseDigit 24 = .ok (.iconst 1, 1) := by decide +kernel
theorem dX5_parseDigit_25 : decode cX5_parseDigit 25 = .ok (.iadd, 1) := by decide +kernel
theorem dX5_parseDigit_26 : decode cX5_parseDigit 26 = .ok (.putfield 19, 3) := by decide +kernel
theorem dX5_parseDigit_29 : decode cX5_parseDigit 29 = .ok (.aload_n 0, 1) := by decide +kernel
theorem dX5_parseDigit_30 : decode cX5_parseDigit 30 = .ok (.iload_n 1, 1) := by decide +kernel
theorem dX5_parseDigit_31 : decode cX5_parseDigit 31 = .ok (.bipush 48, 2) := by decide +kernel
theorem dX5_parseDigit_33 : decode cX5_parseDigit 33 = .ok (.isub, 1) := by decide +kernel
theorem dX5_parseDigit_34 : decode cX5_parseDigit 34 = .ok (.invokevirtual 58, 3) := by decide +kernel
theorem dX5_parseDigit_37 : decode cX5_parseDigit 37 = .ok (.iconst 1, 1) := by decide +kernel
theorem dX5_parseDigit_38 : decode cX5_parseDigit 38 = .ok (.ireturn, 1) := by decide +kernel
set_option maxRecDepth 20000 in
theorem ggX5_parseWords_X5_parseWord : GoodIn wsX5_parseWords wsX5_parseWord := goodIn_r _ [7, 2, 8, 9, 10, 6, 11, 12, 1, 13, 14, 15, 16, 17, 18, 19, 20, 21, 22, 23, 24, 25, 26, 27, 28, 29] (by decide +kernel) (by decide +kernel)
set_option maxRecDepth 20000 in
theorem gX5_parseWords_X5_parseWord : GoodIn wsX5_parseWords (wsV RX5 52 RX5 yX5_parseWord wsX5_parseWord) := goodIn_app (goodIn_of _ (by decide +kernel)) ggX5_parseWords_X5_parseWord
set_option maxRecDepth 20000 in
theorem ggX5_parseWords_X5_next : GoodIn wsX5_parseWords wsX5_next := goodIn_r _ [11, 2, 12, 1, 22, 23, 24, 25, 26, 27, 28, 29] (by decide +kernel) (by decide +kernel)
set_option maxRecDepth 20000 in
theorem gX5_parseWords_X5_next : GoodIn wsX5_parseWords (wsV RX5 38 RX5 yX5_next wsX5_next) := goodIn_app (goodIn_of _ (by decide +kernel)) ggX5_parseWords_X5_next
set_option maxRecDepth 20000 in
theorem ggX5_parseWords_X5_isPlaceSign : GoodIn wsX5_parseWords wsX5_isPlaceSign := goodIn_r _ [21] (by decide +kernel) (by decide +kernel)
set_option maxRecDepth 20000 in
theorem gX5_parseWords_X5_isPlaceSign : GoodIn wsX5_parseWords (va_wsS RX5 62 yX5_isPlaceSign wsX5_isPlaceSign) := goodIn_app (goodIn_of _ (by decide +kernel)) ggX5_parseWords_X5_isPlaceSign
theorem dX5_parseWords_0 : decode cX5_parseWords 0 = .ok (.aload_n 0, 1) := by decide +kernel
theorem dX5_parseWords_1 : decode cX5_parseWords 1 = .ok (.invokevirtual 52, 3) := by decide +kernel
theorem dX5_parseWords_4 : decode cX5_parseWords 4 = .ok (.ifCond .ne 5, 3) := by decide +kernel
theorem dX5_parseWords_7 : decode cX5_parseWords 7 = .ok (.iconst 0, 1) := by decide +kernel
theorem dX5_parseWords_8 : decode cX5_parseWords 8 = .ok (.ireturn, 1) := by decide +kernel
theorem dX5_parseWords_9 : decode cX5_parseWords 9 = .ok (.iconst 1, 1) := by decide +kernel
theorem dX5_parseWords_10 : decode cX5_parseWords 10 = .ok (.istore_n 1, 1) := by decide +kernel
theorem dX5_parseWords_11 : decode cX5_parseWords 11 = .ok (.iload_n 1, 1) := by decide +kernel
theorem dX5_parseWords_12 : decode cX5_parseWords 12 = .ok (.bipush 16, 2) := by decide +kernel
theorem dX5_parseWords_14 : decode cX5_parseWords 14 = .ok (.if_icmp .ge 96, 3) := by decide +kernel
theorem dX5_parseWords_17 : decode cX5_parseWords 17 = .ok (.aload_n 0, 1) := by decide +kernel
theorem dX5_parseWords_18 : decode cX5_parseWords 18 = .ok (.getfield 15, 3) := by decide +kernel
theorem dX5_parseWords_21 : decode cX5_parseWords 21 = .ok (.aload_n 0, 1) := by decide +kernel
theorem dX5_parseWords_22 : decode cX5_parseWords 22 = .ok (.getfield 19, 3) := by decide +kernel
theorem dX5_parseWords_25 : decode cX5_parseWords 25 = .ok (.iconst 1, 1) := by decide +kernel
theorem dX5_parseWords_26 : decode cX5_parseWords 26 = .ok (.isub, 1) := by decide +kernel
theorem dX5_parseWords_27 : decode cX5_parseWords 27 = .ok (.baload, 1) := by decide +kernel
theorem dX5_parseWords_28 : decode cX5_parseWords 28 = .ok (.bipush 120, 2) := by decide +kernel
theorem dX5_parseWords_30 : decode cX5_parseWords 30 = .ok (.if_icmp .ne 7, 3) := by decide +kernel
theorem dX5_parseWords_33 : decode cX5_parseWords 33 = .ok (.iconst 1, 1) := by decide +kernel
theorem dX5_parseWords_34 : decode cX5_parseWords 34 = .ok (.goto 4, 3) := by decide +kernel
theorem dX5_parseWords_37 : decode cX5_parseWords 37 = .ok (.iconst 0, 1) := by decide +kernel
theorem dX5_parseWords_38 : decode cX5_parseWords 38 = .ok (.istore_n 2, 1) := by decide +kernel
theorem dX5_parseWords_39 : decode cX5_parseWords 39 = .ok (.aload_n 0, 1) := by decide +kernel
theorem dX5_parseWords_40 : decode cX5_parseWords 40 = .ok (.invokevirtual 38, 3) := by decide +kernel
theorem dX5_parseWords_43 : decode cX5_parseWords 43 = .ok (.bipush 46, 2) := by decide +kernel
theorem dX5_parseWords_45 : decode cX5_parseWords 45 = .ok (.if_icmp .ne 29, 3) := by decide +kernel
theorem dX5_parseWords_48 : decode cX5_parseWords 48 = .ok (.iload_n 2, 1) := by decide +kernel
theorem dX5_parseWords_49 : decode cX5_parseWords 49 = .ok (.ifCond .ne 25, 3) := by decide +kernel
theorem dX5_parseWords_52 : decode cX5_parseWords 52 = .ok (.aload_n 0, 1) := by decide +kernel
theorem dX5_parseWords_53 : decode cX5_parseWords 53 = .ok (.dup, 1) := by decide +kernel
theorem dX5_parseWords_54 : decode cX5_parseWords 54 = .ok (.getfield 19, 3) := by decide +kernel
theorem dX5_parseWords_57 : decode cX5_parseWords 57 = .ok (.iconst 1, 1) := by decide +kernel
theorem dX5_parseWords_58 : decode cX5_parseWords 58 = .ok (.iadd, 1) := by decide +kernel
theorem dX5_parseWords_59 : decode cX5_parseWords 59 = .ok (.putfield 19, 3) := by decide +kernel
theorem dX5_parseWords_62 : decode cX5_parseWords 62 = .ok (.aload_n 0, 1) := by decide +kernel
theorem dX5_parseWords_63 : decode cX5_parseWords 63 = .ok (.invokevirtual 38, 3) := by decide +kernel
theorem dX5_parseWords_66 : decode cX5_parseWords 66 = .ok (.invokestatic 62, 3) := by decide +kernel
theorem dX5_parseWords_69 : decode cX5_parseWords 69 = .ok (.ifCond .ne 30, 3) := by decide +kernel
theorem dX5_parseWords_72 : decode cX5_parseWords 72 = .ok (.iconst 0, 1) := by decide +kernel
theorem dX5_parseWords_73 : decode cX5_parseWords 73 = .ok (.ireturn, 1) := by decide +kernel
theorem dX5_parseWords_74 : decode cX5_parseWords 74 = .ok (.aload_n 0, 1) := by decide +kernel
theorem dX5_parseWords_75 : decode cX5_parseWords 75 = .ok (.invokevirtual 38, 3) := by decide +kernel
theorem dX5_parseWords_78 : decode cX5_parseWords 78 = .ok (.bipush 120, 2) := by decide +kernel
theorem dX5_parseWords_80 : decode cX5_parseWords 80 = .ok (.if_icmp .eq 19, 3) := by decide +kernel
theorem dX5_parseWords_83 : decode cX5_parseWords 83 = .ok (.iload_n 2, 1) := by decide +kernel
theorem dX5_parseWords_84 : decode cX5_parseWords 84 = .ok (.ifCond .eq 13, 3) := by decide +kernel
theorem dX5_parseWords_87 : decode cX5_parseWords 87 = .ok (.aload_n 0, 1) := by decide +kernel
theorem dX5_parseWords_88 : decode cX5_parseWords 88 = .ok (.invokevirtual 38, 3) := by decide +kernel
theorem dX5_parseWords_91 : decode cX5_parseWords 91 = .ok (.invokestatic 62, 3) := by decide +kernel
theorem dX5_parseWords_94 : decode cX5_parseWords 94 = .ok (.ifCond .ne 5, 3) := by decide +kernel
theorem dX5_parseWords_97 : decode cX5_parseWords 97 = .ok (.iconst 1, 1) := by decide +kernel
theorem dX5_parseWords_98 : decode cX5_parseWords 98 = .ok (.ireturn, 1) := by decide +kernel
theorem dX5_parseWords_99 : decode cX5_parseWords 99 = .ok (.aload_n 0, 1) := by decide +kernel
theorem dX5_parseWords_100 : decode cX5_parseWords 100 = .ok (.invokevirtual 52, 3) := by decide +kernel
theorem dX5_parseWords_103 : decode cX5_parseWords 103 = .ok (.pop, 1) := by decide +kernel
theorem dX5_parseWords_104 : decode cX5_parseWords 104 = .ok (.iinc 1 1, 3) := by decide +kernel
theorem dX5_parseWords_107 : decode cX5_parseWords 107 = .ok (.goto (-96), 3) := by decide +kernel
theorem dX5_parseWords_110 : decode cX5_parseWords 110 = .ok (.iconst 1, 1) := by decide +kernel
theorem dX5_parseWords_111 : decode cX5_parseWords 111 = .ok (.ireturn, 1) := by decide +kernel
set_option maxRecDepth 20000 in
theorem ggX5_parseWord_X5_next : GoodIn wsX5_parseWord wsX5_next := goodIn_r _ [6, 1, 7, 8, 18, 19, 20, 21, 22, 23, 24, 25] (by decide +kernel) (by decide +kernel)
set_option maxRecDepth 20000 in
theorem gX5_parseWord_X5_next : GoodIn wsX5_parseWord (wsV RX5 38 RX5 yX5_next wsX5_next) := goodIn_app (goodIn_of _ (by decide +kernel)) ggX5_parseWord_X5_next
set_option maxRecDepth 20000 in
theorem ggX5_parseWord_X5_keep : GoodIn wsX5_parseWord wsX5_keep := goodIn_r _ [12, 13, 14, 18, 19, 20, 21, 22, 23, 24, 25] (by decide +kernel) (by decide +kernel)
set_option maxRecDepth 20000 in
theorem gX5_parseWord_X5_keep : GoodIn wsX5_parseWord (wsV RX5 58 RX5 yX5_keep wsX5_keep) := goodIn_app (goodIn_of _ (by decide +kernel)) ggX5_parseWord_X5_keep
set_option maxRecDepth 20000 in
theorem ggX5_parseWord_X5_isPlaceSign : GoodIn wsX5_parseWord wsX5_isPlaceSign := goodIn_r _ [17] (by decide +kernel) (by decide +kernel)
set_option maxRecDepth 20000 in
theorem gX5_parseWord_X5_isPlaceSign : GoodIn wsX5_parseWord (va_wsS RX5 62 yX5_isPlaceSign wsX5_isPlaceSign) := goodIn_app (goodIn_of _ (by decide +kernel)) ggX5_parseWord_X5_isPlaceSign
theorem dX5_parseWord_0 : decode cX5_parseWord 0 = .ok (.aload_n 0, 1) := by decide +kernel
theorem dX5_parseWord_1 : decode cX5_parseWord 1 = .ok (.invokevirtual 38, 3) := by decide +kernel
theorem dX5_parseWord_4 : decode cX5_parseWord 4 = .ok (.bipush 120, 2) := by decide +kernel
theorem dX5_parseWord_6 : decode cX5_parseWord 6 = .ok (.if_icmp .ne 20, 3) := by decide +kernel
theorem dX5_parseWord_9 : decode cX5_parseWord 9 = .ok (.aload_n 0, 1) := by decide +kernel
theorem dX5_parseWord_10 : decode cX5_parseWord 10 = .ok (.dup, 1) := by decide +kernel
theorem dX5_parseWord_11 : decode cX5_parseWord 11 = .ok (.getfield 19, 3) := by decide +kernel
theorem dX5_parseWord_14 : decode cX5_parseWord 14 = .ok (.iconst 1, 1) := by decide +kernel
theorem dX5_parseWord_15 : decode cX5_parseWord 15 = .ok (.iadd, 1) := by decide +kernel
theorem dX5_parseWord_16 : decode cX5_parseWord 16 = .ok (.putfield 19, 3) := by decide +kernel
theorem dX5_parseWord_19 : decode cX5_parseWord 19 = .ok (.aload_n 0, 1) := by decide +kernel
theorem dX5_parseWord_20 : decode cX5_parseWord 20 = .ok (.iconst 0, 1) := by decide +kernel
theorem dX5_parseWord_21 : decode cX5_parseWord 21 = .ok (.invokevirtual 58, 3) := by decide +kernel
theorem dX5_parseWord_24 : decode cX5_parseWord 24 = .ok (.iconst 1, 1) := by decide +kernel
theorem dX5_parseWord_25 : decode cX5_parseWord 25 = .ok (.ireturn, 1) := by decide +kernel
theorem dX5_parseWord_26 : decode cX5_parseWord 26 = .ok (.iconst 0, 1) := by decide +kernel
theorem dX5_parseWord_27 : decode cX5_parseWord 27 = .ok (.istore_n 1, 1) := by decide +kernel
theorem dX5_parseWord_28 : decode cX5_parseWord 28 = .ok (.iconst 0, 1) := by decide +kernel
theorem dX5_parseWord_29 : decode cX5_parseWord 29 = .ok (.istore_n 2, 1) := by decide +kernel
theorem dX5_parseWord_30 : decode cX5_parseWord 30 = .ok (.iload_n 2, 1) := by decide +kernel
theorem dX5_parseWord_31 : decode cX5_parseWord 31 = .ok (.bipush 8, 2) := by decide +kernel
theorem dX5_parseWord_33 : decode cX5_parseWord 33 = .ok (.if_icmp .ge 41, 3) := by decide +kernel
theorem dX5_parseWord_36 : decode cX5_parseWord 36 = .ok (.aload_n 0, 1) := by decide +kernel
theorem dX5_parseWord_37 : decode cX5_parseWord 37 = .ok (.invokevirtual 38, 3) := by decide +kernel
theorem dX5_parseWord_40 : decode cX5_parseWord 40 = .ok (.invokestatic 62, 3) := by decide +kernel
theorem dX5_parseWord_43 : decode cX5_parseWord 43 = .ok (.ifCond .eq 31, 3) := by decide +kernel
theorem dX5_parseWord_46 : decode cX5_parseWord 46 = .ok (.iload_n 1, 1) := by decide +kernel
theorem dX5_parseWord_47 : decode cX5_parseWord 47 = .ok (.iconst 1, 1) := by decide +kernel
theorem dX5_parseWord_48 : decode cX5_parseWord 48 = .ok (.aload_n 0, 1) := by decide +kernel
theorem dX5_parseWord_49 : decode cX5_parseWord 49 = .ok (.invokevirtual 38, 3) := by decide +kernel
theorem dX5_parseWord_52 : decode cX5_parseWord 52 = .ok (.bipush 49, 2) := by decide +kernel
theorem dX5_parseWord_54 : decode cX5_parseWord 54 = .ok (.isub, 1) := by decide +kernel
theorem dX5_parseWord_55 : decode cX5_parseWord 55 = .ok (.ishl, 1) := by decide +kernel
theorem dX5_parseWord_56 : decode cX5_parseWord 56 = .ok (.ior, 1) := by decide +kernel
theorem dX5_parseWord_57 : decode cX5_parseWord 57 = .ok (.istore_n 1, 1) := by decide +kernel
theorem dX5_parseWord_58 : decode cX5_parseWord 58 = .ok (.aload_n 0, 1) := by decide +kernel
theorem dX5_parseWord_59 : decode cX5_parseWord 59 = .ok (.dup, 1) := by decide +kernel
theorem dX5_parseWord_60 : decode cX5_parseWord 60 = .ok (.getfield 19, 3) := by decide +kernel
theorem dX5_parseWord_63 : decode cX5_parseWord 63 = .ok (.iconst 1, 1) := by decide +kernel
theorem dX5_parseWord_64 : decode cX5_parseWord 64 = .ok (.iadd, 1) := by decide +kernel
theorem dX5_parseWord_65 : decode cX5_parseWord 65 = .ok (.putfield 19, 3) := by decide +kernel
theorem dX5_parseWord_68 : decode cX5_parseWord 68 = .ok (.iinc 2 1, 3) := by decide +kernel
theorem dX5_parseWord_71 : decode cX5_parseWord 71 = .ok (.goto (-41), 3) := by decide +kernel
theorem dX5_parseWord_74 : decode cX5_parseWord 74 = .ok (.iload_n 2, 1) := by decide +kernel
theorem dX5_parseWord_75 : decode cX5_parseWord 75 = .ok (.ifCond .ne 5, 3) := by decide +kernel
theorem dX5_parseWord_78 : decode cX5_parseWord 78 = .ok (.iconst 0, 1) := by decide +kernel
theorem dX5_parseWord_79 : decode cX5_parseWord 79 = .ok (.ireturn, 1) := by decide +kernel
theorem dX5_parseWord_80 : decode cX5_parseWord 80 = .ok (.aload_n 0, 1) := by decide +kernel
theorem dX5_parseWord_81 : decode cX5_parseWord 81 = .ok (.iload_n 1, 1) := by decide +kernel
theorem dX5_parseWord_82 : decode cX5_parseWord 82 = .ok (.invokevirtual 58, 3) := by decide +kernel
theorem dX5_parseWord_85 : decode cX5_parseWord 85 = .ok (.iconst 1, 1) := by decide +kernel
theorem dX5_parseWord_86 : decode cX5_parseWord 86 = .ok (.ireturn, 1) := by decide +kernel
set_option maxRecDepth 20000 in
theorem ggX5_parseCalls_X5_next : GoodIn wsX5_parseCalls wsX5_next := goodIn_r _ [6, 1, 7, 8, 18, 19, 20, 21, 22, 23, 24, 25] (by decide +kernel) (by decide +kernel)
set_option maxRecDepth 20000 in
theorem gX5_parseCalls_X5_next : GoodIn wsX5_parseCalls (wsV RX5 38 RX5 yX5_next wsX5_next) := goodIn_app (goodIn_of _ (by decide +kernel)) ggX5_parseCalls_X5_next
set_option maxRecDepth 20000 in
theorem ggX5_parseCalls_X5_callOf : GoodIn wsX5_parseCalls wsX5_callOf := goodIn_r _ [11] (by decide +kernel) (by decide +kernel)
set_option maxRecDepth 20000 in
theorem gX5_parseCalls_X5_callOf : GoodIn wsX5_parseCalls (va_wsS RX5 66 yX5_callOf wsX5_callOf) := goodIn_app (goodIn_of _ (by decide +kernel)) ggX5_parseCalls_X5_callOf
set_option maxRecDepth 20000 in
theorem ggX5_parseCalls_X5_keep : GoodIn wsX5_parseCalls wsX5_keep := goodIn_r _ [15, 16, 17, 18, 19, 20, 21, 22, 23, 24, 25] (by decide +kernel) (by decide +kernel)
set_option maxRecDepth 20000 in
theorem gX5_parseCalls_X5_keep : GoodIn wsX5_parseCalls (wsV RX5 58 RX5 yX5_keep wsX5_keep) := goodIn_app (goodIn_of _ (by decide +kernel)) ggX5_parseCalls_X5_keep
theorem dX5_parseCalls_0 : decode cX5_parseCalls 0 = .ok (.iconst 0, 1) := by decide +kernel
theorem dX5_parseCalls_1 : decode cX5_parseCalls 1 = .ok (.istore_n 1, 1) := by decide +kernel
theorem dX5_parseCalls_2 : decode cX5_parseCalls 2 = .ok (.iload_n 1, 1) := by decide +kernel
theorem dX5_parseCalls_3 : decode cX5_parseCalls 3 = .ok (.bipush 12, 2) := by decide +kernel
theorem dX5_parseCalls_5 : decode cX5_parseCalls 5 = .ok (.if_icmp .ge 41, 3) := by decide +kernel
theorem dX5_parseCalls_8 : decode cX5_parseCalls 8 = .ok (.aload_n 0, 1) := by decide +kernel
theorem dX5_parseCalls_9 : decode cX5_parseCalls 9 = .ok (.invokevirtual 38, 3) := by decide +kernel
theorem dX5_parseCalls_12 : decode cX5_parseCalls 12 = .ok (.invokestatic 66, 3) := by decide +kernel
theorem dX5_parseCalls_15 : decode cX5_parseCalls 15 = .ok (.iconst (-1), 1) := by decide +kernel
theorem dX5_parseCalls_16 : decode cX5_parseCalls 16 = .ok (.if_icmp .eq 30, 3) := by decide +kernel
theorem dX5_parseCalls_19 : decode cX5_parseCalls 19 = .ok (.aload_n 0, 1) := by decide +kernel
theorem dX5_parseCalls_20 : decode cX5_parseCalls 20 = .ok (.aload_n 0, 1) := by decide +kernel
theorem dX5_parseCalls_21 : decode cX5_parseCalls 21 = .ok (.invokevirtual 38, 3) := by decide +kernel
theorem dX5_parseCalls_24 : decode cX5_parseCalls 24 = .ok (.invokestatic 66, 3) := by decide +kernel
theorem dX5_parseCalls_27 : decode cX5_parseCalls 27 = .ok (.invokevirtual 58, 3) := by decide +kernel
theorem dX5_parseCalls_30 : decode cX5_parseCalls 30 = .ok (.aload_n 0, 1) := by decide +kernel
theorem dX5_parseCalls_31 : decode cX5_parseCalls 31 = .ok (.dup, 1) := by decide +kernel
theorem dX5_parseCalls_32 : decode cX5_parseCalls 32 = .ok (.getfield 19, 3) := by decide +kernel
theorem dX5_parseCalls_35 : decode cX5_parseCalls 35 = .ok (.iconst 1, 1) := by decide +kernel
theorem dX5_parseCalls_36 : decode cX5_parseCalls 36 = .ok (.iadd, 1) := by decide +kernel
theorem dX5_parseCalls_37 : decode cX5_parseCalls 37 = .ok (.putfield 19, 3) := by decide +kernel
theorem dX5_parseCalls_40 : decode cX5_parseCalls 40 = .ok (.iinc 1 1, 3) := by decide +kernel
theorem dX5_parseCalls_43 : decode cX5_parseCalls 43 = .ok (.goto (-41), 3) := by decide +kernel
theorem dX5_parseCalls_46 : decode cX5_parseCalls 46 = .ok (.iload_n 1, 1) := by decide +kernel
theorem dX5_parseCalls_47 : decode cX5_parseCalls 47 = .ok (.ifCond .le 7, 3) := by decide +kernel
theorem dX5_parseCalls_50 : decode cX5_parseCalls 50 = .ok (.iconst 1, 1) := by decide +kernel
theorem dX5_parseCalls_51 : decode cX5_parseCalls 51 = .ok (.goto 4, 3) := by decide +kernel
theorem dX5_parseCalls_54 : decode cX5_parseCalls 54 = .ok (.iconst 0, 1) := by decide +kernel
theorem dX5_parseCalls_55 : decode cX5_parseCalls 55 = .ok (.ireturn, 1) := by decide +kernel
theorem dX5_isPlaceSign_0 : decode cX5_isPlaceSign 0 = .ok (.iload_n 0, 1) := by decide +kernel
theorem dX5_isPlaceSign_1 : decode cX5_isPlaceSign 1 = .ok (.bipush 49, 2) := by decide +kernel
theorem dX5_isPlaceSign_3 : decode cX5_isPlaceSign 3 = .ok (.if_icmp .lt 13, 3) := by decide +kernel
theorem dX5_isPlaceSign_6 : decode cX5_isPlaceSign 6 = .ok (.iload_n 0, 1) := by decide +kernel
theorem dX5_isPlaceSign_7 : decode cX5_isPlaceSign 7 = .ok (.bipush 56, 2) := by decide +kernel
theorem dX5_isPlaceSign_9 : decode cX5_isPlaceSign 9 = .ok (.if_icmp .gt 7, 3) := by decide +kernel
theorem dX5_isPlaceSign_12 : decode cX5_isPlaceSign 12 = .ok (.iconst 1, 1) := by decide +kernel
theorem dX5_isPlaceSign_13 : decode cX5_isPlaceSign 13 = .ok (.goto 4, 3) := by decide +kernel
theorem dX5_isPlaceSign_16 : decode cX5_isPlaceSign 16 = .ok (.iconst 0, 1) := by decide +kernel
theorem dX5_isPlaceSign_17 : decode cX5_isPlaceSign 17 = .ok (.ireturn, 1) := by decide +kernel
theorem dX5_callOf_0 : decode cX5_callOf 0 = .ok (.iload_n 0, 1) := by decide +kernel
theorem dX5_callOf_1 : decode cX5_callOf 1 = .ok (.lookupswitch 41 #[(98, 37), (112, 35), (115, 39)], 35) := by decide +kernel
theorem dX5_callOf_36 : decode cX5_callOf 36 = .ok (.iconst 0, 1) := by decide +kernel
theorem dX5_callOf_37 : decode cX5_callOf 37 = .ok (.ireturn, 1) := by decide +kernel
theorem dX5_callOf_38 : decode cX5_callOf 38 = .ok (.iconst 1, 1) := by decide +kernel
theorem dX5_callOf_39 : decode cX5_callOf 39 = .ok (.ireturn, 1) := by decide +kernel
theorem dX5_callOf_40 : decode cX5_callOf 40 = .ok (.iconst 2, 1) := by decide +kernel
theorem dX5_callOf_41 : decode cX5_callOf 41 = .ok (.ireturn, 1) := by decide +kernel
theorem dX5_callOf_42 : decode cX5_callOf 42 = .ok (.iconst (-1), 1) := by decide +kernel
theorem dX5_callOf_43 : decode cX5_callOf 43 = .ok (.ireturn, 1) := by decide +kernel
theorem dX5_keep_0 : decode cX5_keep 0 = .ok (.aload_n 0, 1) := by decide +kernel
theorem dX5_keep_1 : decode cX5_keep 1 = .ok (.getfield 35, 3) := by decide +kernel
theorem dX5_keep_4 : decode cX5_keep 4 = .ok (.bipush 100, 2) := by decide +kernel
theorem dX5_keep_6 : decode cX5_keep 6 = .ok (.if_icmp .ge 23, 3) := by decide +kernel
theorem dX5_keep_9 : decode cX5_keep 9 = .ok (.aload_n 0, 1) := by decide +kernel
theorem dX5_keep_10 : decode cX5_keep 10 = .ok (.getfield 32, 3) := by decide +kernel
theorem dX5_keep_13 : decode cX5_keep 13 = .ok (.aload_n 0, 1) := by decide +kernel
theorem dX5_keep_14 : decode cX5_keep 14 = .ok (.getfield 35, 3) := by decide +kernel
theorem dX5_keep_17 : decode cX5_keep 17 = .ok (.iload_n 1, 1) := by decide +kernel
theorem dX5_keep_18 : decode cX5_keep 18 = .ok (.iastore, 1) := by decide +kernel
theorem dX5_keep_19 : decode cX5_keep 19 = .ok (.aload_n 0, 1) := by decide +kernel
theorem dX5_keep_20 : decode cX5_keep 20 = .ok (.dup, 1) := by decide +kernel
theorem dX5_keep_21 : decode cX5_keep 21 = .ok (.getfield 35, 3) := by decide +kernel
theorem dX5_keep_24 : decode cX5_keep 24 = .ok (.iconst 1, 1) := by decide +kernel
theorem dX5_keep_25 : decode cX5_keep 25 = .ok (.iadd, 1) := by decide +kernel
theorem dX5_keep_26 : decode cX5_keep 26 = .ok (.putfield 35, 3) := by decide +kernel
theorem dX5_keep_29 : decode cX5_keep 29 = .ok (.return_, 1) := by decide +kernel
set_option maxRecDepth 20000 in
theorem ggX5_perform_X5_performClause : GoodIn wsX5_perform wsX5_performClause := goodIn_r _ [8, 9, 10, 11, 7, 12, 13, 14, 15, 16, 17, 18, 19, 20, 21, 22, 23, 24, 25, 26, 27, 28, 29, 30, 31, 32, 33, 34, 35, 36, 37, 38, 39, 40, 41, 42, 43, 44, 45, 46, 47, 48, 49, 50, 51, 52, 53, 54, 55, 56, 57, 58, 59, 60, 61, 62, 63, 64, 65, 66, 67, 68, 69, 70, 71, 72, 73, 74, 75, 76, 77, 78, 79, 80, 81] (by decide +kernel) (by decide +kernel)
set_option maxRecDepth 20000 in
theorem gX5_perform_X5_performClause : GoodIn wsX5_perform (wsV RX5 70 RX5 yX5_performClause wsX5_performClause) := goodIn_app (goodIn_of _ (by decide +kernel)) ggX5_perform_X5_performClause
theorem dX5_perform_0 : decode cX5_perform 0 = .ok (.iconst 0, 1) := by decide +kernel
theorem dX5_perform_1 : decode cX5_perform 1 = .ok (.istore_n 2, 1) := by decide +kernel
theorem dX5_perform_2 : decode cX5_perform 2 = .ok (.iconst 0, 1) := by decide +kernel
theorem dX5_perform_3 : decode cX5_perform 3 = .ok (.istore_n 3, 1) := by decide +kernel
theorem dX5_perform_4 : decode cX5_perform 4 = .ok (.iload_n 3, 1) := by decide +kernel
theorem dX5_perform_5 : decode cX5_perform 5 = .ok (.aload_n 0, 1) := by decide +kernel
theorem dX5_perform_6 : decode cX5_perform 6 = .ok (.getfield 29, 3) := by decide +kernel
theorem dX5_perform_9 : decode cX5_perform 9 = .ok (.if_icmp .ge 40, 3) := by decide +kernel
theorem dX5_perform_12 : decode cX5_perform 12 = .ok (.aload_n 0, 1) := by decide +kernel
theorem dX5_perform_13 : decode cX5_perform 13 = .ok (.aload_n 1, 1) := by decide +kernel
theorem dX5_perform_14 : decode cX5_perform 14 = .ok (.aload_n 0, 1) := by decide +kernel
theorem dX5_perform_15 : decode cX5_perform 15 = .ok (.getfield 22, 3) := by decide +kernel
theorem dX5_perform_18 : decode cX5_perform 18 = .ok (.iload_n 3, 1) := by decide +kernel
theorem dX5_perform_19 : decode cX5_perform 19 = .ok (.iaload, 1) := by decide +kernel
theorem dX5_perform_20 : decode cX5_perform 20 = .ok (.aload_n 0, 1) := by decide +kernel
theorem dX5_perform_21 : decode cX5_perform 21 = .ok (.getfield 26, 3) := by decide +kernel
theorem dX5_perform_24 : decode cX5_perform 24 = .ok (.iload_n 3, 1) := by decide +kernel
theorem dX5_perform_25 : decode cX5_perform 25 = .ok (.iaload, 1) := by decide +kernel
theorem dX5_perform_26 : decode cX5_perform 26 = .ok (.aload_n 0, 1) := by decide +kernel
theorem dX5_perform_27 : decode cX5_perform 27 = .ok (.getfield 26, 3) := by decide +kernel
theorem dX5_perform_30 : decode cX5_perform 30 = .ok (.iload_n 3, 1) := by decide +kernel
theorem dX5_perform_31 : decode cX5_perform 31 = .ok (.iconst 1, 1) := by decide +kernel
theorem dX5_perform_32 : decode cX5_perform 32 = .ok (.iadd, 1) := by decide +kernel
theorem dX5_perform_33 : decode cX5_perform 33 = .ok (.iaload, 1) := by decide +kernel
theorem dX5_perform_34 : decode cX5_perform 34 = .ok (.invokevirtual 70, 3) := by decide +kernel
theorem dX5_perform_37 : decode cX5_perform 37 = .ok (.ifCond .eq 6, 3) := by decide +kernel
theorem dX5_perform_40 : decode cX5_perform 40 = .ok (.iinc 2 1, 3) := by decide +kernel
theorem dX5_perform_43 : decode cX5_perform 43 = .ok (.iinc 3 1, 3) := by decide +kernel
theorem dX5_perform_46 : decode cX5_perform 46 = .ok (.goto (-42), 3) := by decide +kernel
theorem dX5_perform_49 : decode cX5_perform 49 = .ok (.iload_n 2, 1) := by decide +kernel
theorem dX5_perform_50 : decode cX5_perform 50 = .ok (.ireturn, 1) := by decide +kernel
set_option maxRecDepth 20000 in
theorem ggX5_performClause_X5_beginBells : GoodIn wsX5_performClause wsX5_beginBells := goodIn_r _ [5, 6, 7, 8, 9, 10, 11, 12, 13, 14, 15, 16, 17, 18, 19, 20, 21, 60, 61, 62, 63, 64, 65, 66, 67, 68, 69, 70, 71, 72, 73, 74] (by decide +kernel) (by decide +kernel)
set_option maxRecDepth 20000 in
theorem gX5_performClause_X5_beginBells : GoodIn wsX5_performClause (va_wsS RX5 74 yX5_beginBells wsX5_beginBells) := goodIn_app (goodIn_of _ (by decide +kernel)) ggX5_performClause_X5_beginBells
set_option maxRecDepth 20000 in
theorem ggX5_performClause_X5_setMethod : GoodIn wsX5_performClause wsX5_setMethod := goodIn_r _ [25, 26, 1, 27, 28, 29, 30, 31, 32, 33, 34, 35, 36, 37, 38, 60, 61, 62, 63, 64, 65, 66, 67, 68, 69, 70, 52, 53, 54, 55, 56, 57, 58, 59] (by decide +kernel) (by decide +kernel)
set_option maxRecDepth 20000 in
theorem gX5_performClause_X5_setMethod : GoodIn wsX5_performClause (wsV RX5 78 RX5 yX5_setMethod wsX5_setMethod) := goodIn_app (goodIn_of _ (by decide +kernel)) ggX5_performClause_X5_setMethod
set_option maxRecDepth 20000 in
theorem ggX5_performClause_X5_setCall : GoodIn wsX5_performClause wsX5_setCall := goodIn_r _ [41, 26, 29, 30, 31, 32, 33, 34, 35, 36, 37, 38, 42, 43, 44, 9, 45, 13, 14, 60, 61, 62, 63, 64, 65, 66, 67, 68, 69, 70] (by decide +kernel) (by decide +kernel)
set_option maxRecDepth 20000 in
theorem gX5_performClause_X5_setCall : GoodIn wsX5_performClause (va_wsS RX5 82 yX5_setCall wsX5_setCall) := goodIn_app (goodIn_of _ (by decide +kernel)) ggX5_performClause_X5_setCall
set_option maxRecDepth 20000 in
theorem ggX5_performClause_X5_setLeads : GoodIn wsX5_performClause wsX5_setLeads := goodIn_r _ [49, 50, 51, 1, 60, 61, 62, 63, 64, 65, 66, 67, 68, 69, 70, 52, 53, 54, 55, 56, 57, 58, 59] (by decide +kernel) (by decide +kernel)
set_option maxRecDepth 20000 in
theorem gX5_performClause_X5_setLeads : GoodIn wsX5_performClause (wsV RX5 85 RX5 yX5_setLeads wsX5_setLeads) := goodIn_app (goodIn_of _ (by decide +kernel)) ggX5_performClause_X5_setLeads
theorem dX5_performClause_0 : decode cX5_performClause 0 = .ok (.iload_n 2, 1) := by decide +kernel
theorem dX5_performClause_1 : decode cX5_performClause 1 = .ok (.lookupswitch 87 #[(98, 63), (109, 54), (110, 43), (115, 75)], 43) := by decide +kernel
theorem dX5_performClause_44 : decode cX5_performClause 44 = .ok (.aload_n 1, 1) := by decide +kernel
theorem dX5_performClause_45 : decode cX5_performClause 45 = .ok (.aload_n 0, 1) := by decide +kernel
theorem dX5_performClause_46 : decode cX5_performClause 46 = .ok (.getfield 32, 3) := by decide +kernel
theorem dX5_performClause_49 : decode cX5_performClause 49 = .ok (.iload_n 3, 1) := by decide +kernel
theorem dX5_performClause_50 : decode cX5_performClause 50 = .ok (.iaload, 1) := by decide +kernel
theorem dX5_performClause_51 : decode cX5_performClause 51 = .ok (.invokestatic 74, 3) := by decide +kernel
theorem dX5_performClause_54 : decode cX5_performClause 54 = .ok (.ireturn, 1) := by decide +kernel
theorem dX5_performClause_55 : decode cX5_performClause 55 = .ok (.aload_n 0, 1) := by decide +kernel
theorem dX5_performClause_56 : decode cX5_performClause 56 = .ok (.aload_n 1, 1) := by decide +kernel
theorem dX5_performClause_57 : decode cX5_performClause 57 = .ok (.iload_n 3, 1) := by decide +kernel
theorem dX5_performClause_58 : decode cX5_performClause 58 = .ok (.iload 4, 2) := by decide +kernel
theorem dX5_performClause_60 : decode cX5_performClause 60 = .ok (.invokevirtual 78, 3) := by decide +kernel
theorem dX5_performClause_63 : decode cX5_performClause 63 = .ok (.ireturn, 1) := by decide +kernel
theorem dX5_performClause_64 : decode cX5_performClause 64 = .ok (.aload_n 1, 1) := by decide +kernel
theorem dX5_performClause_65 : decode cX5_performClause 65 = .ok (.iconst 1, 1) := by decide +kernel
theorem dX5_performClause_66 : decode cX5_performClause 66 = .ok (.aload_n 0, 1) := by decide +kernel
theorem dX5_performClause_67 : decode cX5_performClause 67 = .ok (.getfield 32, 3) := by decide +kernel
theorem dX5_performClause_70 : decode cX5_performClause 70 = .ok (.iload_n 3, 1) := by decide +kernel
theorem dX5_performClause_71 : decode cX5_performClause 71 = .ok (.iaload, 1) := by decide +kernel
theorem dX5_performClause_72 : decode cX5_performClause 72 = .ok (.invokestatic 82, 3) := by decide +kernel
theorem dX5_performClause_75 : decode cX5_performClause 75 = .ok (.ireturn, 1) := by decide +kernel
theorem dX5_performClause_76 : decode cX5_performClause 76 = .ok (.aload_n 1, 1) := by decide +kernel
theorem dX5_performClause_77 : decode cX5_performClause 77 = .ok (.iconst 2, 1) := by decide +kernel
theorem dX5_performClause_78 : decode cX5_performClause 78 = .ok (.aload_n 0, 1) := by decide +kernel
theorem dX5_performClause_79 : decode cX5_performClause 79 = .ok (.getfield 32, 3) := by decide +kernel
theorem dX5_performClause_82 : decode cX5_performClause 82 = .ok (.iload_n 3, 1) := by decide +kernel
theorem dX5_performClause_83 : decode cX5_performClause 83 = .ok (.iaload, 1) := by decide +kernel
theorem dX5_performClause_84 : decode cX5_performClause 84 = .ok (.invokestatic 82, 3) := by decide +kernel
theorem dX5_performClause_87 : decode cX5_performClause 87 = .ok (.ireturn, 1) := by decide +kernel
theorem dX5_performClause_88 : decode cX5_performClause 88 = .ok (.aload_n 0, 1) := by decide +kernel
theorem dX5_performClause_89 : decode cX5_performClause 89 = .ok (.aload_n 1, 1) := by decide +kernel
theorem dX5_performClause_90 : decode cX5_performClause 90 = .ok (.iload_n 3, 1) := by decide +kernel
theorem dX5_performClause_91 : decode cX5_performClause 91 = .ok (.iload 4, 2) := by decide +kernel
theorem dX5_performClause_93 : decode cX5_performClause 93 = .ok (.invokevirtual 85, 3) := by decide +kernel
theorem dX5_performClause_96 : decode cX5_performClause 96 = .ok (.ireturn, 1) := by decide +kernel
set_option maxRecDepth 20000 in
theorem ggX5_beginBells_X4_begin : GoodIn wsX5_beginBells wsX4_begin := goodIn_r _ [5, 6, 7, 8, 9, 10, 11, 12, 13, 14, 15, 16, 17, 18, 19, 20, 21, 22, 23, 24, 25, 26, 27, 28, 29, 30, 31] (by decide +kernel) (by decide +kernel)
set_option maxRecDepth 20000 in
theorem gX5_beginBells_X4_begin : GoodIn wsX5_beginBells (wsV RX5 88 RX4 yX4_begin wsX4_begin) := goodIn_app (goodIn_of _ (by decide +kernel)) ggX5_beginBells_X4_begin
theorem dX5_beginBells_0 : decode cX5_beginBells 0 = .ok (.iload_n 1, 1) := by decide +kernel
theorem dX5_beginBells_1 : decode cX5_beginBells 1 = .ok (.iconst 4, 1) := by decide +kernel
theorem dX5_beginBells_2 : decode cX5_beginBells 2 = .ok (.if_icmp .lt 9, 3) := by decide +kernel
theorem dX5_beginBells_5 : decode cX5_beginBells 5 = .ok (.iload_n 1, 1) := by decide +kernel
