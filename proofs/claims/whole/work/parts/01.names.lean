/-! ===== BEGIN words of one list among another's, by their places ===== -/
theorem goodIn_r {big : List Cond} (ws : List Cond) (ps : List Nat) (hp : ws = ps.filterMap (fun i => big[i]?)) (h : ws.all goodWord = true) : GoodIn big ws := by
  intro w hw
  have h1 := List.all_eq_true.mp h w hw
  rw [hp] at hw
  obtain ⟨i, -, hi⟩ := List.mem_filterMap.mp hw
  have hm : w ∈ big := by first | exact List.mem_of_getElem? hi | exact List.getElem?_mem hi
  exact ⟨hm, good_of_word h1⟩
theorem goodIn_app {big a b : List Cond} (ha : GoodIn big a) (hb : GoodIn big b) : GoodIn big (a ++ b) := fun w h => (List.mem_append.mp h).elim (ha w) (hb w)
theorem goodIn_ca {big a b : List Cond} {c : Cond} (ha : GoodIn big (c :: a)) (hb : GoodIn big b) : GoodIn big (c :: (a ++ b)) := fun w h => (List.mem_cons.mp h).elim (fun e => ha w (List.mem_cons.mpr (Or.inl e))) (fun h => (List.mem_append.mp h).elim (fun h => ha w (List.mem_cons.mpr (Or.inr h))) (hb w))
theorem goodIn_sub {big ws : List Cond} (hm : ∀ w ∈ ws, w ∈ big) (h : ws.all goodWord = true) : GoodIn big ws := fun w hw => ⟨hm w hw, good_of_word (List.all_eq_true.mp h w hw)⟩
/-! ===== END ===== -/

/-! ===== BEGIN printed: names, fields, word lists, decode rows ===== -/
def RX0 : String := "WhosePage$Day"
def TX0 : u_T := fun k => match k with
  | 0 => ("WhosePage$Day", "press", "LWhosePage$Press;", true)
  | 1 => ("WhosePage$Day", "tray", "LWhosePage$Tray;", true)
  | 2 => ("WhosePage$Day", "outSheets", "[I", true)
  | 3 => ("WhosePage$Day", "outMinutes", "[I", true)
  | 4 => ("WhosePage$Day", "outs", "I", false)
  | 5 => ("WhosePage$Day", "firstOut", "[I", true)
  | _ => ("WhosePage$Day", "holders", "[I", true)
def tyX0 : Nat → FieldType := fun k => match k with
  | 0 => .object "WhosePage$Press"
  | 1 => .object "WhosePage$Tray"
  | 2 => .array .int
  | 3 => .array .int
  | 4 => .int
  | 5 => .array .int
  | _ => .array .int
abbrev wsX00 : List Cond := u_ws RX0 TX0 7
theorem nmX0 : ∀ a, a < 7 → ∀ b, b < 7 → a ≠ b → (TX0 a).2.1 ≠ (TX0 b).2.1 := by decide +kernel
theorem tyX0_ok : ∀ k, k < 7 → parseFieldDescriptor (TX0 k).2.2.1 = some (tyX0 k) := by decide +kernel
abbrev cX0_init : ByteArray := prog_2_method_1_code
def yX0_init : MethodName := ⟨RX0, "<init>", "()V"⟩
abbrev cX0_begin : ByteArray := prog_2_method_2_code
def yX0_begin : MethodName := ⟨RX0, "begin", "(LWhosePage$Plan;)V"⟩
abbrev cX0_passWhole : ByteArray := prog_2_method_3_code
def yX0_passWhole : MethodName := ⟨RX0, "passWhole", "(LWhosePage$Plan;)V"⟩
abbrev cX0_passThrough : ByteArray := prog_2_method_4_code
def yX0_passThrough : MethodName := ⟨RX0, "passThrough", "(LWhosePage$Plan;I)V"⟩
abbrev cX0_passMinute : ByteArray := prog_2_method_5_code
def yX0_passMinute : MethodName := ⟨RX0, "passMinute", "(LWhosePage$Plan;I)V"⟩
abbrev cX0_noteOut : ByteArray := prog_2_method_6_code
def yX0_noteOut : MethodName := ⟨RX0, "noteOut", "(II)V"⟩
abbrev cX0_sheetOut : ByteArray := prog_2_method_7_code
def yX0_sheetOut : MethodName := ⟨RX0, "sheetOut", "(I)I"⟩
abbrev cX0_minuteOut : ByteArray := prog_2_method_8_code
def yX0_minuteOut : MethodName := ⟨RX0, "minuteOut", "(I)I"⟩
abbrev cX0_holderOf : ByteArray := prog_2_method_9_code
def yX0_holderOf : MethodName := ⟨RX0, "holderOf", "(I)I"⟩
abbrev cX0_heldBy : ByteArray := prog_2_method_10_code
def yX0_heldBy : MethodName := ⟨RX0, "heldBy", "(LWhosePage$Plan;IZ)I"⟩
abbrev cX0_othersWith : ByteArray := prog_2_method_11_code
def yX0_othersWith : MethodName := ⟨RX0, "othersWith", "(LWhosePage$Plan;I)I"⟩
abbrev cX0_lastFirstOut : ByteArray := prog_2_method_12_code
def yX0_lastFirstOut : MethodName := ⟨RX0, "lastFirstOut", "(LWhosePage$Plan;I)I"⟩
def RX1 : String := "WhosePage$Plan"
def TX1 : u_T := fun k => match k with
  | 0 => ("WhosePage$Plan", "jobOwner", "[I", true)
  | 1 => ("WhosePage$Plan", "jobSheets", "[I", true)
  | 2 => ("WhosePage$Plan", "jobSent", "[I", true)
  | 3 => ("WhosePage$Plan", "takerKind", "[I", true)
  | 4 => ("WhosePage$Plan", "takerOwner", "[I", true)
  | 5 => ("WhosePage$Plan", "takerFigure", "[I", true)
  | 6 => ("WhosePage$Plan", "takerMinute", "[I", true)
  | 7 => ("WhosePage$Plan", "jobs", "I", false)
  | 8 => ("WhosePage$Plan", "takers", "I", false)
  | 9 => ("WhosePage$Plan", "kind", "I", false)
  | _ => ("WhosePage$Plan", "stop", "I", false)
def tyX1 : Nat → FieldType := fun k => match k with
  | 0 => .array .int
  | 1 => .array .int
  | 2 => .array .int
  | 3 => .array .int
  | 4 => .array .int
  | 5 => .array .int
  | 6 => .array .int
  | 7 => .int
  | 8 => .int
  | 9 => .int
  | _ => .int
abbrev wsX10 : List Cond := u_ws RX1 TX1 11
theorem nmX1 : ∀ a, a < 11 → ∀ b, b < 11 → a ≠ b → (TX1 a).2.1 ≠ (TX1 b).2.1 := by decide +kernel
theorem tyX1_ok : ∀ k, k < 11 → parseFieldDescriptor (TX1 k).2.2.1 = some (tyX1 k) := by decide +kernel
abbrev cX1_init : ByteArray := prog_3_method_1_code
def yX1_init : MethodName := ⟨RX1, "<init>", "()V"⟩
abbrev cX1_hasJob : ByteArray := prog_3_method_2_code
def yX1_hasJob : MethodName := ⟨RX1, "hasJob", "(I)Z"⟩
abbrev cX1_hasTaker : ByteArray := prog_3_method_3_code
def yX1_hasTaker : MethodName := ⟨RX1, "hasTaker", "(I)Z"⟩
abbrev cX1_hasSheet : ByteArray := prog_3_method_4_code
def yX1_hasSheet : MethodName := ⟨RX1, "hasSheet", "(I)Z"⟩
abbrev cX1_isOf : ByteArray := prog_3_method_5_code
def yX1_isOf : MethodName := ⟨RX1, "isOf", "(II)Z"⟩
abbrev cX1_addJob : ByteArray := prog_3_method_6_code
def yX1_addJob : MethodName := ⟨RX1, "addJob", "(III)Z"⟩
abbrev cX1_addTaker : ByteArray := prog_3_method_7_code
def yX1_addTaker : MethodName := ⟨RX1, "addTaker", "(IIII)Z"⟩
abbrev cX1_setMachine : ByteArray := prog_3_method_8_code
def yX1_setMachine : MethodName := ⟨RX1, "setMachine", "(II)V"⟩
abbrev cX1_allSheets : ByteArray := prog_3_method_9_code
def yX1_allSheets : MethodName := ⟨RX1, "allSheets", "()I"⟩
abbrev cX1_sheetsOf : ByteArray := prog_3_method_10_code
def yX1_sheetsOf : MethodName := ⟨RX1, "sheetsOf", "(I)I"⟩
abbrev cX1_jobsOf : ByteArray := prog_3_method_11_code
def yX1_jobsOf : MethodName := ⟨RX1, "jobsOf", "(I)I"⟩
abbrev cX1_copyFrom : ByteArray := prog_3_method_12_code
def yX1_copyFrom : MethodName := ⟨RX1, "copyFrom", "(LWhosePage$Plan;)V"⟩
def RX2 : String := "WhosePage$Press"
def TX2 : u_T := fun k => match k with
  | 0 => ("WhosePage$Press", "left", "[I", true)
  | 1 => ("WhosePage$Press", "leftInAll", "I", false)
  | 2 => ("WhosePage$Press", "latest", "I", false)
  | 3 => ("WhosePage$Press", "sinceAgain", "I", false)
  | _ => ("WhosePage$Press", "mixed", "I", false)
def tyX2 : Nat → FieldType := fun k => match k with
  | 0 => .array .int
  | 1 => .int
  | 2 => .int
  | 3 => .int
  | _ => .int
abbrev wsX20 : List Cond := u_ws RX2 TX2 5
theorem nmX2 : ∀ a, a < 5 → ∀ b, b < 5 → a ≠ b → (TX2 a).2.1 ≠ (TX2 b).2.1 := by decide +kernel
theorem tyX2_ok : ∀ k, k < 5 → parseFieldDescriptor (TX2 k).2.2.1 = some (tyX2 k) := by decide +kernel
abbrev cX2_init : ByteArray := prog_4_method_1_code
def yX2_init : MethodName := ⟨RX2, "<init>", "()V"⟩
abbrev cX2_begin : ByteArray := prog_4_method_2_code
def yX2_begin : MethodName := ⟨RX2, "begin", "(LWhosePage$Plan;)V"⟩
abbrev cX2_putOut : ByteArray := prog_4_method_3_code
def yX2_putOut : MethodName := ⟨RX2, "putOut", "(LWhosePage$Plan;I)I"⟩
abbrev cX2_mixedIn : ByteArray := prog_4_method_4_code
def yX2_mixedIn : MethodName := ⟨RX2, "mixedIn", "(LWhosePage$Plan;)I"⟩
abbrev cX2_chosenJob : ByteArray := prog_4_method_5_code
def yX2_chosenJob : MethodName := ⟨RX2, "chosenJob", "(LWhosePage$Plan;I)I"⟩
abbrev cX2_isAhead : ByteArray := prog_4_method_6_code
def yX2_isAhead : MethodName := ⟨RX2, "isAhead", "(LWhosePage$Plan;II)Z"⟩
abbrev cX2_turnsUntil : ByteArray := prog_4_method_7_code
def yX2_turnsUntil : MethodName := ⟨RX2, "turnsUntil", "(I)I"⟩
def RX3 : String := "WhosePage$Row"
def TX3 : u_T := fun k => match k with
  | 0 => ("WhosePage$Row", "numbers", "[I", true)
  | 1 => ("WhosePage$Row", "many", "I", false)
  | 2 => ("WhosePage$Row", "ways", "[I", true)
  | 3 => ("WhosePage$Row", "longest", "[I", true)
  | _ => ("WhosePage$Row", "firstPlace", "[I", true)
def tyX3 : Nat → FieldType := fun k => match k with
  | 0 => .array .int
  | 1 => .int
  | 2 => .array .int
  | 3 => .array .int
  | _ => .array .int
abbrev wsX30 : List Cond := u_ws RX3 TX3 5
theorem nmX3 : ∀ a, a < 5 → ∀ b, b < 5 → a ≠ b → (TX3 a).2.1 ≠ (TX3 b).2.1 := by decide +kernel
theorem tyX3_ok : ∀ k, k < 5 → parseFieldDescriptor (TX3 k).2.2.1 = some (tyX3 k) := by decide +kernel
abbrev cX3_init : ByteArray := prog_5_method_1_code
def yX3_init : MethodName := ⟨RX3, "<init>", "()V"⟩
abbrev cX3_add : ByteArray := prog_5_method_2_code
def yX3_add : MethodName := ⟨RX3, "add", "(I)I"⟩
abbrev cX3_clear : ByteArray := prog_5_method_3_code
def yX3_clear : MethodName := ⟨RX3, "clear", "()V"⟩
abbrev cX3_waysOfThree : ByteArray := prog_5_method_4_code
def yX3_waysOfThree : MethodName := ⟨RX3, "waysOfThree", "(III)I"⟩
abbrev cX3_waysTo : ByteArray := prog_5_method_5_code
def yX3_waysTo : MethodName := ⟨RX3, "waysTo", "(III)I"⟩
abbrev cX3_at : ByteArray := prog_5_method_6_code
def yX3_at : MethodName := ⟨RX3, "at", "(III)I"⟩
abbrev cX3_fewestParts : ByteArray := prog_5_method_7_code
def yX3_fewestParts : MethodName := ⟨RX3, "fewestParts", "()I"⟩
abbrev cX3_numbersLacking : ByteArray := prog_5_method_8_code
def yX3_numbersLacking : MethodName := ⟨RX3, "numbersLacking", "(II)I"⟩
abbrev cX3_fewestLaps : ByteArray := prog_5_method_9_code
def yX3_fewestLaps : MethodName := ⟨RX3, "fewestLaps", "(I)I"⟩
abbrev cX3_runsBySize : ByteArray := prog_5_method_10_code
def yX3_runsBySize : MethodName := ⟨RX3, "runsBySize", "()I"⟩
def RX4 : String := "WhosePage$Text"
def TX4 : u_T := fun k => match k with
  | 0 => ("WhosePage$Text", "letters", "[I", true)
  | 1 => ("WhosePage$Text", "many", "I", false)
  | 2 => ("WhosePage$Text", "place", "I", false)
  | 3 => ("WhosePage$Text", "head", "I", false)
  | 4 => ("WhosePage$Text", "kind", "I", false)
  | 5 => ("WhosePage$Text", "owner", "I", false)
  | 6 => ("WhosePage$Text", "figure", "I", false)
  | _ => ("WhosePage$Text", "minute", "I", false)
def tyX4 : Nat → FieldType := fun k => match k with
  | 0 => .array .int
  | 1 => .int
  | 2 => .int
  | 3 => .int
  | 4 => .int
  | 5 => .int
  | 6 => .int
  | _ => .int
abbrev wsX40 : List Cond := u_ws RX4 TX4 8
theorem nmX4 : ∀ a, a < 8 → ∀ b, b < 8 → a ≠ b → (TX4 a).2.1 ≠ (TX4 b).2.1 := by decide +kernel
theorem tyX4_ok : ∀ k, k < 8 → parseFieldDescriptor (TX4 k).2.2.1 = some (tyX4 k) := by decide +kernel
abbrev cX4_init : ByteArray := prog_6_method_1_code
def yX4_init : MethodName := ⟨RX4, "<init>", "()V"⟩
abbrev cX4_add : ByteArray := prog_6_method_2_code
def yX4_add : MethodName := ⟨RX4, "add", "(I)I"⟩
abbrev cX4_clear : ByteArray := prog_6_method_3_code
def yX4_clear : MethodName := ⟨RX4, "clear", "()V"⟩
abbrev cX4_wrongPlace : ByteArray := prog_6_method_4_code
def yX4_wrongPlace : MethodName := ⟨RX4, "wrongPlace", "()I"⟩
abbrev cX4_readStatement : ByteArray := prog_6_method_5_code
def yX4_readStatement : MethodName := ⟨RX4, "readStatement", "()Z"⟩
abbrev cX4_tellTo : ByteArray := prog_6_method_6_code
def yX4_tellTo : MethodName := ⟨RX4, "tellTo", "(LWhosePage$Plan;)Z"⟩
abbrev cX4_readOwnerFigureMinute : ByteArray := prog_6_method_7_code
def yX4_readOwnerFigureMinute : MethodName := ⟨RX4, "readOwnerFigureMinute", "()Z"⟩
abbrev cX4_readKind : ByteArray := prog_6_method_8_code
def yX4_readKind : MethodName := ⟨RX4, "readKind", "(Ljava/lang/String;)Z"⟩
abbrev cX4_readFigure : ByteArray := prog_6_method_9_code
def yX4_readFigure : MethodName := ⟨RX4, "readFigure", "()Z"⟩
abbrev cX4_readMinute : ByteArray := prog_6_method_10_code
def yX4_readMinute : MethodName := ⟨RX4, "readMinute", "()Z"⟩
abbrev cX4_readDigit : ByteArray := prog_6_method_11_code
def yX4_readDigit : MethodName := ⟨RX4, "readDigit", "()I"⟩
abbrev cX4_readSign : ByteArray := prog_6_method_12_code
def yX4_readSign : MethodName := ⟨RX4, "readSign", "(C)Z"⟩
def RX5 : String := "WhosePage$Tray"
def TX5 : u_T := fun k => match k with
  | 0 => ("WhosePage$Tray", "sheets", "[I", true)
  | 1 => ("WhosePage$Tray", "numbersLying", "[I", true)
  | _ => ("WhosePage$Tray", "many", "I", false)
def tyX5 : Nat → FieldType := fun k => match k with
  | 0 => .array .int
  | 1 => .array .int
  | _ => .int
abbrev wsX50 : List Cond := u_ws RX5 TX5 3
theorem nmX5 : ∀ a, a < 3 → ∀ b, b < 3 → a ≠ b → (TX5 a).2.1 ≠ (TX5 b).2.1 := by decide +kernel
theorem tyX5_ok : ∀ k, k < 3 → parseFieldDescriptor (TX5 k).2.2.1 = some (tyX5 k) := by decide +kernel
abbrev cX5_init : ByteArray := prog_7_method_1_code
def yX5_init : MethodName := ⟨RX5, "<init>", "()V"⟩
abbrev cX5_putUpon : ByteArray := prog_7_method_2_code
def yX5_putUpon : MethodName := ⟨RX5, "putUpon", "(I)V"⟩
abbrev cX5_putBeneath : ByteArray := prog_7_method_3_code
def yX5_putBeneath : MethodName := ⟨RX5, "putBeneath", "(I)V"⟩
abbrev cX5_fromTop : ByteArray := prog_7_method_4_code
def yX5_fromTop : MethodName := ⟨RX5, "fromTop", "(I)I"⟩
abbrev cX5_looksAs : ByteArray := prog_7_method_5_code
def yX5_looksAs : MethodName := ⟨RX5, "looksAs", "(LWhosePage$Row;)Z"⟩
abbrev cX5_giveTo : ByteArray := prog_7_method_6_code
def yX5_giveTo : MethodName := ⟨RX5, "giveTo", "(LWhosePage$Plan;I[I)V"⟩
abbrev cX5_jobsWanted : ByteArray := prog_7_method_7_code
def yX5_jobsWanted : MethodName := ⟨RX5, "jobsWanted", "(LWhosePage$Plan;II)I"⟩
abbrev cX5_wholeJobs : ByteArray := prog_7_method_8_code
def yX5_wholeJobs : MethodName := ⟨RX5, "wholeJobs", "(LWhosePage$Plan;)I"⟩
def RX6 : String := "WhosePage"
def TX6 : u_T := fun k => match k with
  | 0 => ("WhosePage", "plan", "LWhosePage$Plan;", true)
  | 1 => ("WhosePage", "kept", "LWhosePage$Plan;", true)
  | 2 => ("WhosePage", "draft", "LWhosePage$Plan;", true)
  | 3 => ("WhosePage", "text", "LWhosePage$Text;", true)
  | 4 => ("WhosePage", "press", "LWhosePage$Press;", true)
  | 5 => ("WhosePage", "day", "LWhosePage$Day;", true)
  | 6 => ("WhosePage", "told", "LWhosePage$Row;", true)
  | 7 => ("WhosePage", "refusals", "[I", true)
  | _ => ("WhosePage", "imageTaken", "Z", false)
def tyX6 : Nat → FieldType := fun k => match k with
  | 0 => .object "WhosePage$Plan"
  | 1 => .object "WhosePage$Plan"
  | 2 => .object "WhosePage$Plan"
  | 3 => .object "WhosePage$Text"
  | 4 => .object "WhosePage$Press"
  | 5 => .object "WhosePage$Day"
  | 6 => .object "WhosePage$Row"
  | 7 => .array .int
  | _ => .boolean
abbrev wsX60 : List Cond := u_ws RX6 TX6 9
theorem nmX6 : ∀ a, a < 9 → ∀ b, b < 9 → a ≠ b → (TX6 a).2.1 ≠ (TX6 b).2.1 := by decide +kernel
theorem tyX6_ok : ∀ k, k < 9 → parseFieldDescriptor (TX6 k).2.2.1 = some (tyX6 k) := by decide +kernel
abbrev cX6_init : ByteArray := prog_1_method_1_code
def yX6_init : MethodName := ⟨RX6, "<init>", "()V"⟩
abbrev cX6_letter : ByteArray := prog_1_method_2_code
def yX6_letter : MethodName := ⟨RX6, "letter", "(I)I"⟩
abbrev cX6_floor : ByteArray := prog_1_method_3_code
def yX6_floor : MethodName := ⟨RX6, "floor", "()I"⟩
abbrev cX6_job : ByteArray := prog_1_method_4_code
def yX6_job : MethodName := ⟨RX6, "job", "(II)I"⟩
abbrev cX6_taker : ByteArray := prog_1_method_5_code
def yX6_taker : MethodName := ⟨RX6, "taker", "(II)I"⟩
abbrev cX6_sent : ByteArray := prog_1_method_6_code
def yX6_sent : MethodName := ⟨RX6, "sent", "(II)I"⟩
abbrev cX6_machine : ByteArray := prog_1_method_7_code
def yX6_machine : MethodName := ⟨RX6, "machine", "(II)I"⟩
abbrev cX6_comes : ByteArray := prog_1_method_8_code
def yX6_comes : MethodName := ⟨RX6, "comes", "(II)I"⟩
abbrev cX6_out : ByteArray := prog_1_method_9_code
def yX6_out : MethodName := ⟨RX6, "out", "(II)I"⟩
abbrev cX6_outMany : ByteArray := prog_1_method_10_code
def yX6_outMany : MethodName := ⟨RX6, "outMany", "()I"⟩
abbrev cX6_lies : ByteArray := prog_1_method_11_code
def yX6_lies : MethodName := ⟨RX6, "lies", "(II)I"⟩
abbrev cX6_held : ByteArray := prog_1_method_12_code
def yX6_held : MethodName := ⟨RX6, "held", "(II)I"⟩
abbrev cX6_who : ByteArray := prog_1_method_13_code
def yX6_who : MethodName := ⟨RX6, "who", "(I)I"⟩
abbrev cX6_missing : ByteArray := prog_1_method_14_code
def yX6_missing : MethodName := ⟨RX6, "missing", "(I)I"⟩
abbrev cX6_ask : ByteArray := prog_1_method_15_code
def yX6_ask : MethodName := ⟨RX6, "ask", "(I)I"⟩
abbrev cX6_ready : ByteArray := prog_1_method_16_code
def yX6_ready : MethodName := ⟨RX6, "ready", "(I)I"⟩
abbrev cX6_mixed : ByteArray := prog_1_method_17_code
def yX6_mixed : MethodName := ⟨RX6, "mixed", "()I"⟩
abbrev cX6_byKind : ByteArray := prog_1_method_18_code
def yX6_byKind : MethodName := ⟨RX6, "byKind", "()I"⟩
abbrev cX6_send : ByteArray := prog_1_method_19_code
def yX6_send : MethodName := ⟨RX6, "send", "(II)I"⟩
abbrev cX6_two : ByteArray := prog_1_method_20_code
def yX6_two : MethodName := ⟨RX6, "two", "(II)I"⟩
abbrev cX6_three : ByteArray := prog_1_method_21_code
def yX6_three : MethodName := ⟨RX6, "three", "(III)I"⟩
abbrev cX6_parts : ByteArray := prog_1_method_22_code
def yX6_parts : MethodName := ⟨RX6, "parts", "()I"⟩
abbrev cX6_lacks : ByteArray := prog_1_method_23_code
def yX6_lacks : MethodName := ⟨RX6, "lacks", "(I)I"⟩
abbrev cX6_laps : ByteArray := prog_1_method_24_code
def yX6_laps : MethodName := ⟨RX6, "laps", "(I)I"⟩
abbrev cX6_waits : ByteArray := prog_1_method_25_code
def yX6_waits : MethodName := ⟨RX6, "waits", "(III)I"⟩
abbrev cX6_vain : ByteArray := prog_1_method_26_code
def yX6_vain : MethodName := ⟨RX6, "vain", "(III)I"⟩
abbrev cX6_seen : ByteArray := prog_1_method_27_code
def yX6_seen : MethodName := ⟨RX6, "seen", "(I)I"⟩
abbrev cX6_row : ByteArray := prog_1_method_28_code
def yX6_row : MethodName := ⟨RX6, "row", "(I)I"⟩
abbrev cX6_judge : ByteArray := prog_1_method_29_code
def yX6_judge : MethodName := ⟨RX6, "judge", "()I"⟩
abbrev cX6_lots : ByteArray := prog_1_method_30_code
def yX6_lots : MethodName := ⟨RX6, "lots", "(II)I"⟩
abbrev cX6_image : ByteArray := prog_1_method_31_code
def yX6_image : MethodName := ⟨RX6, "image", "()I"⟩
abbrev cX6_on : ByteArray := prog_1_method_32_code
def yX6_on : MethodName := ⟨RX6, "on", "()I"⟩
abbrev cX6_count : ByteArray := prog_1_method_33_code
def yX6_count : MethodName := ⟨RX6, "count", "(I)I"⟩
abbrev cX6_refusalsCounted : ByteArray := prog_1_method_34_code
def yX6_refusalsCounted : MethodName := ⟨RX6, "refusalsCounted", "(I)I"⟩
abbrev cX6_refuse : ByteArray := prog_1_method_35_code
def yX6_refuse : MethodName := ⟨RX6, "refuse", "(I)I"⟩
abbrev cX6_tellStatements : ByteArray := prog_1_method_36_code
def yX6_tellStatements : MethodName := ⟨RX6, "tellStatements", "()I"⟩
abbrev cX6_readyMinute : ByteArray := prog_1_method_37_code
def yX6_readyMinute : MethodName := ⟨RX6, "readyMinute", "(I)I"⟩
abbrev cX6_areTwoJobs : ByteArray := prog_1_method_38_code
def yX6_areTwoJobs : MethodName := ⟨RX6, "areTwoJobs", "(II)Z"⟩
abbrev cX6_isOwner : ByteArray := prog_1_method_39_code
def yX6_isOwner : MethodName := ⟨RX6, "isOwner", "(I)Z"⟩
abbrev cX6_isZeroOrOne : ByteArray := prog_1_method_40_code
def yX6_isZeroOrOne : MethodName := ⟨RX6, "isZeroOrOne", "(I)Z"⟩
abbrev cX6_hasBit : ByteArray := prog_1_method_41_code
def yX6_hasBit : MethodName := ⟨RX6, "hasBit", "(II)Z"⟩
abbrev cX6_bitsUpTo : ByteArray := prog_1_method_42_code
def yX6_bitsUpTo : MethodName := ⟨RX6, "bitsUpTo", "(I)I"⟩
def RX7 : String := "WhosePageModel"
def TX7 : u_T := fun k => match k with
  | 0 => ("WhosePageModel", "refused", "[I", true)
  | 1 => ("WhosePageModel", "now", "[I", true)
  | 2 => ("WhosePageModel", "then", "[I", true)
  | 3 => ("WhosePageModel", "kept", "Z", false)
  | 4 => ("WhosePageModel", "tape", "[I", true)
  | 5 => ("WhosePageModel", "taped", "I", false)
  | 6 => ("WhosePageModel", "at", "I", false)
  | 7 => ("WhosePageModel", "well", "Z", false)
  | 8 => ("WhosePageModel", "begins", "[C", true)
  | 9 => ("WhosePageModel", "machines", "[C", true)
  | 10 => ("WhosePageModel", "takers", "[C", true)
  | 11 => ("WhosePageModel", "sort", "I", false)
  | 12 => ("WhosePageModel", "field", "[I", true)
  | 13 => ("WhosePageModel", "left", "[I", true)
  | 14 => ("WhosePageModel", "out", "[I", true)
  | 15 => ("WhosePageModel", "outAt", "[I", true)
  | 16 => ("WhosePageModel", "outs", "I", false)
  | 17 => ("WhosePageModel", "tray", "[I", true)
  | 18 => ("WhosePageModel", "lying", "I", false)
  | 19 => ("WhosePageModel", "holder", "[I", true)
  | 20 => ("WhosePageModel", "whole", "[Z", true)
  | 21 => ("WhosePageModel", "line", "[I", true)
  | 22 => ("WhosePageModel", "lined", "I", false)
  | _ => ("WhosePageModel", "ways", "[I", true)
def tyX7 : Nat → FieldType := fun k => match k with
  | 0 => .array .int
  | 1 => .array .int
  | 2 => .array .int
  | 3 => .boolean
  | 4 => .array .int
  | 5 => .int
  | 6 => .int
  | 7 => .boolean
  | 8 => .array .char
  | 9 => .array .char
  | 10 => .array .char
  | 11 => .int
  | 12 => .array .int
  | 13 => .array .int
  | 14 => .array .int
  | 15 => .array .int
  | 16 => .int
  | 17 => .array .int
  | 18 => .int
  | 19 => .array .int
  | 20 => .array .boolean
  | 21 => .array .int
  | 22 => .int
  | _ => .array .int
abbrev wsX70 : List Cond := u_ws RX7 TX7 24
theorem nmX7 : ∀ a, a < 24 → ∀ b, b < 24 → a ≠ b → (TX7 a).2.1 ≠ (TX7 b).2.1 := by decide +kernel
theorem tyX7_ok : ∀ k, k < 24 → parseFieldDescriptor (TX7 k).2.2.1 = some (tyX7 k) := by decide +kernel
abbrev cX7_no : ByteArray := prog_9_method_1_code
def yX7_no : MethodName := ⟨RX7, "no", "(I)I"⟩
abbrev cX7_init : ByteArray := prog_9_method_2_code
def yX7_init : MethodName := ⟨RX7, "<init>", "()V"⟩
abbrev cX7_image : ByteArray := prog_9_method_3_code
def yX7_image : MethodName := ⟨RX7, "image", "()I"⟩
abbrev cX7_on : ByteArray := prog_9_method_4_code
def yX7_on : MethodName := ⟨RX7, "on", "()I"⟩
abbrev cX7_letter : ByteArray := prog_9_method_5_code
def yX7_letter : MethodName := ⟨RX7, "letter", "(I)I"⟩
abbrev cX7_expect : ByteArray := prog_9_method_6_code
def yX7_expect : MethodName := ⟨RX7, "expect", "(C)V"⟩
abbrev cX7_oneOf : ByteArray := prog_9_method_7_code
def yX7_oneOf : MethodName := ⟨RX7, "oneOf", "([C)I"⟩
abbrev cX7_figures : ByteArray := prog_9_method_8_code
def yX7_figures : MethodName := ⟨RX7, "figures", "(I)I"⟩
abbrev cX7_statement : ByteArray := prog_9_method_9_code
def yX7_statement : MethodName := ⟨RX7, "statement", "()V"⟩
abbrev cX7_isAsItMustBe : ByteArray := prog_9_method_10_code
def yX7_isAsItMustBe : MethodName := ⟨RX7, "isAsItMustBe", "(II)Z"⟩
abbrev cX7_come : ByteArray := prog_9_method_11_code
def yX7_come : MethodName := ⟨RX7, "come", "()V"⟩
abbrev cX7_read : ByteArray := prog_9_method_12_code
def yX7_read : MethodName := ⟨RX7, "read", "()I"⟩
abbrev cX7_floor : ByteArray := prog_9_method_13_code
def yX7_floor : MethodName := ⟨RX7, "floor", "()I"⟩
abbrev cX7_waits : ByteArray := prog_9_method_14_code
def yX7_waits : MethodName := ⟨RX7, "waits", "(II)Z"⟩
abbrev cX7_ahead : ByteArray := prog_9_method_15_code
def yX7_ahead : MethodName := ⟨RX7, "ahead", "(III)Z"⟩
abbrev cX7_chosen : ByteArray := prog_9_method_16_code
def yX7_chosen : MethodName := ⟨RX7, "chosen", "(III)I"⟩
abbrev cX7_put : ByteArray := prog_9_method_17_code
def yX7_put : MethodName := ⟨RX7, "put", "(II)V"⟩
abbrev cX7_isWhole : ByteArray := prog_9_method_18_code
def yX7_isWhole : MethodName := ⟨RX7, "isWhole", "(I)Z"⟩
abbrev cX7_takesSome : ByteArray := prog_9_method_19_code
def yX7_takesSome : MethodName := ⟨RX7, "takesSome", "(I)Z"⟩
abbrev cX7_take : ByteArray := prog_9_method_20_code
def yX7_take : MethodName := ⟨RX7, "take", "(I)V"⟩
abbrev cX7_goTo : ByteArray := prog_9_method_21_code
def yX7_goTo : MethodName := ⟨RX7, "goTo", "(I)V"⟩
abbrev cX7_mixing : ByteArray := prog_9_method_22_code
def yX7_mixing : MethodName := ⟨RX7, "mixing", "()I"⟩
abbrev cX7_isNoOwner : ByteArray := prog_9_method_23_code
def yX7_isNoOwner : MethodName := ⟨RX7, "isNoOwner", "(I)Z"⟩
abbrev cX7_isNoJob : ByteArray := prog_9_method_24_code
def yX7_isNoJob : MethodName := ⟨RX7, "isNoJob", "(I)Z"⟩
abbrev cX7_isNoTaker : ByteArray := prog_9_method_25_code
def yX7_isNoTaker : MethodName := ⟨RX7, "isNoTaker", "(I)Z"⟩
abbrev cX7_job : ByteArray := prog_9_method_26_code
def yX7_job : MethodName := ⟨RX7, "job", "(II)I"⟩
abbrev cX7_taker : ByteArray := prog_9_method_27_code
def yX7_taker : MethodName := ⟨RX7, "taker", "(II)I"⟩
abbrev cX7_change : ByteArray := prog_9_method_28_code
def yX7_change : MethodName := ⟨RX7, "change", "(III)I"⟩
abbrev cX7_sent : ByteArray := prog_9_method_29_code
def yX7_sent : MethodName := ⟨RX7, "sent", "(II)I"⟩
abbrev cX7_machine : ByteArray := prog_9_method_30_code
def yX7_machine : MethodName := ⟨RX7, "machine", "(II)I"⟩
abbrev cX7_comes : ByteArray := prog_9_method_31_code
def yX7_comes : MethodName := ⟨RX7, "comes", "(II)I"⟩
abbrev cX7_out : ByteArray := prog_9_method_32_code
def yX7_out : MethodName := ⟨RX7, "out", "(II)I"⟩
abbrev cX7_outMany : ByteArray := prog_9_method_33_code
def yX7_outMany : MethodName := ⟨RX7, "outMany", "()I"⟩
abbrev cX7_lies : ByteArray := prog_9_method_34_code
def yX7_lies : MethodName := ⟨RX7, "lies", "(II)I"⟩
abbrev cX7_has : ByteArray := prog_9_method_35_code
def yX7_has : MethodName := ⟨RX7, "has", "(IZ)I"⟩
abbrev cX7_held : ByteArray := prog_9_method_36_code
def yX7_held : MethodName := ⟨RX7, "held", "(II)I"⟩
abbrev cX7_who : ByteArray := prog_9_method_37_code
def yX7_who : MethodName := ⟨RX7, "who", "(I)I"⟩
abbrev cX7_missing : ByteArray := prog_9_method_38_code
def yX7_missing : MethodName := ⟨RX7, "missing", "(I)I"⟩
abbrev cX7_ask : ByteArray := prog_9_method_39_code
def yX7_ask : MethodName := ⟨RX7, "ask", "(I)I"⟩
abbrev cX7_when : ByteArray := prog_9_method_40_code
def yX7_when : MethodName := ⟨RX7, "when", "(I)I"⟩
abbrev cX7_ready : ByteArray := prog_9_method_41_code
def yX7_ready : MethodName := ⟨RX7, "ready", "(I)I"⟩
abbrev cX7_mixed : ByteArray := prog_9_method_42_code
def yX7_mixed : MethodName := ⟨RX7, "mixed", "()I"⟩
abbrev cX7_byKind : ByteArray := prog_9_method_43_code
def yX7_byKind : MethodName := ⟨RX7, "byKind", "()I"⟩
abbrev cX7_send : ByteArray := prog_9_method_44_code
def yX7_send : MethodName := ⟨RX7, "send", "(II)I"⟩
abbrev cX7_together : ByteArray := prog_9_method_45_code
def yX7_together : MethodName := ⟨RX7, "together", "(III)I"⟩
abbrev cX7_two : ByteArray := prog_9_method_46_code
def yX7_two : MethodName := ⟨RX7, "two", "(II)I"⟩
abbrev cX7_three : ByteArray := prog_9_method_47_code
def yX7_three : MethodName := ⟨RX7, "three", "(III)I"⟩
abbrev cX7_parts : ByteArray := prog_9_method_48_code
def yX7_parts : MethodName := ⟨RX7, "parts", "()I"⟩
abbrev cX7_lacks : ByteArray := prog_9_method_49_code
def yX7_lacks : MethodName := ⟨RX7, "lacks", "(I)I"⟩
abbrev cX7_firstPlace : ByteArray := prog_9_method_50_code
def yX7_firstPlace : MethodName := ⟨RX7, "firstPlace", "(I)I"⟩
abbrev cX7_laps : ByteArray := prog_9_method_51_code
def yX7_laps : MethodName := ⟨RX7, "laps", "(I)I"⟩
abbrev cX7_waits_ : ByteArray := prog_9_method_52_code
def yX7_waits_ : MethodName := ⟨RX7, "waits", "(III)I"⟩
abbrev cX7_vain : ByteArray := prog_9_method_53_code
def yX7_vain : MethodName := ⟨RX7, "vain", "(III)I"⟩
abbrev cX7_seen : ByteArray := prog_9_method_54_code
def yX7_seen : MethodName := ⟨RX7, "seen", "(I)I"⟩
abbrev cX7_row : ByteArray := prog_9_method_55_code
def yX7_row : MethodName := ⟨RX7, "row", "(I)I"⟩
abbrev cX7_judge : ByteArray := prog_9_method_56_code
def yX7_judge : MethodName := ⟨RX7, "judge", "()I"⟩
abbrev cX7_lots : ByteArray := prog_9_method_57_code
def yX7_lots : MethodName := ⟨RX7, "lots", "(II)I"⟩
abbrev cX7_count : ByteArray := prog_9_method_58_code
def yX7_count : MethodName := ⟨RX7, "count", "(I)I"⟩
def RJx145de : String := "java/io/Serializable"
def TJx145de : u_T := fun k => match k with
  | _ => ("", "", "", false)
def tyJx145de : Nat → FieldType := fun k => match k with
  | _ => .int
abbrev wsJx145de0 : List Cond := u_ws RJx145de TJx145de 0
theorem nmJx145de : ∀ a, a < 0 → ∀ b, b < 0 → a ≠ b → (TJx145de a).2.1 ≠ (TJx145de b).2.1 := by decide +kernel
theorem tyJx145de_ok : ∀ k, k < 0 → parseFieldDescriptor (TJx145de k).2.2.1 = some (tyJx145de k) := by decide +kernel
def RJx9f9b0 : String := "java/lang/CharSequence"
def TJx9f9b0 : u_T := fun k => match k with
  | _ => ("", "", "", false)
def tyJx9f9b0 : Nat → FieldType := fun k => match k with
  | _ => .int
abbrev wsJx9f9b00 : List Cond := u_ws RJx9f9b0 TJx9f9b0 0
theorem nmJx9f9b0 : ∀ a, a < 0 → ∀ b, b < 0 → a ≠ b → (TJx9f9b0 a).2.1 ≠ (TJx9f9b0 b).2.1 := by decide +kernel
theorem tyJx9f9b0_ok : ∀ k, k < 0 → parseFieldDescriptor (TJx9f9b0 k).2.2.1 = some (tyJx9f9b0 k) := by decide +kernel
def RJ11 : String := "java/lang/Character"
def TJ11 : u_T := fun k => match k with
  | _ => ("", "", "", false)
def tyJ11 : Nat → FieldType := fun k => match k with
  | _ => .int
abbrev wsJ110 : List Cond := u_ws RJ11 TJ11 0
theorem nmJ11 : ∀ a, a < 0 → ∀ b, b < 0 → a ≠ b → (TJ11 a).2.1 ≠ (TJ11 b).2.1 := by decide +kernel
theorem tyJ11_ok : ∀ k, k < 0 → parseFieldDescriptor (TJ11 k).2.2.1 = some (tyJ11 k) := by decide +kernel
abbrev cJ11_isValidCodePoint_9a6ad : ByteArray := prog_10_method_11_code
def yJ11_isValidCodePoint_9a6ad : MethodName := ⟨RJ11, "isValidCodePoint", "(I)Z"⟩
abbrev cJ11_highSurrogate_5068e : ByteArray := prog_10_method_28_code
def yJ11_highSurrogate_5068e : MethodName := ⟨RJ11, "highSurrogate", "(I)C"⟩
abbrev cJ11_lowSurrogate_5068e : ByteArray := prog_10_method_29_code
def yJ11_lowSurrogate_5068e : MethodName := ⟨RJ11, "lowSurrogate", "(I)C"⟩
def RJxb160c : String := "java/lang/Comparable"
def TJxb160c : u_T := fun k => match k with
  | _ => ("", "", "", false)
def tyJxb160c : Nat → FieldType := fun k => match k with
  | _ => .int
abbrev wsJxb160c0 : List Cond := u_ws RJxb160c TJxb160c 0
theorem nmJxb160c : ∀ a, a < 0 → ∀ b, b < 0 → a ≠ b → (TJxb160c a).2.1 ≠ (TJxb160c b).2.1 := by decide +kernel
theorem tyJxb160c_ok : ∀ k, k < 0 → parseFieldDescriptor (TJxb160c k).2.2.1 = some (tyJxb160c k) := by decide +kernel
def RJ9 : String := "java/lang/Math"
def TJ9 : u_T := fun k => match k with
  | _ => ("", "", "", false)
def tyJ9 : Nat → FieldType := fun k => match k with
  | _ => .int
abbrev wsJ90 : List Cond := u_ws RJ9 TJ9 0
theorem nmJ9 : ∀ a, a < 0 → ∀ b, b < 0 → a ≠ b → (TJ9 a).2.1 ≠ (TJ9 b).2.1 := by decide +kernel
theorem tyJ9_ok : ∀ k, k < 0 → parseFieldDescriptor (TJ9 k).2.2.1 = some (tyJ9 k) := by decide +kernel
abbrev cJ9_floorMod_7cf53 : ByteArray := prog_11_method_50_code
def yJ9_floorMod_7cf53 : MethodName := ⟨RJ9, "floorMod", "(II)I"⟩
abbrev cJ9_max_7cf53 : ByteArray := prog_11_method_65_code
def yJ9_max_7cf53 : MethodName := ⟨RJ9, "max", "(II)I"⟩
abbrev cJ9_min_7cf53 : ByteArray := prog_11_method_69_code
def yJ9_min_7cf53 : MethodName := ⟨RJ9, "min", "(II)I"⟩
def RJ0 : String := "java/lang/String"
def TJ0 : u_T := fun k => match k with
  | _ => ("", "", "", false)
def tyJ0 : Nat → FieldType := fun k => match k with
  | _ => .int
abbrev wsJ00 : List Cond := u_ws RJ0 TJ0 0
theorem nmJ0 : ∀ a, a < 0 → ∀ b, b < 0 → a ≠ b → (TJ0 a).2.1 ≠ (TJ0 b).2.1 := by decide +kernel
theorem tyJ0_ok : ∀ k, k < 0 → parseFieldDescriptor (TJ0 k).2.2.1 = some (tyJ0 k) := by decide +kernel
abbrev cJ0_length_8abf5 : ByteArray := prog_12_method_54_code
def yJ0_length_8abf5 : MethodName := ⟨RJ0, "length", "()I"⟩
abbrev cJ0_indexOf_0f7a4 : ByteArray := prog_12_method_79_code
def yJ0_indexOf_0f7a4 : MethodName := ⟨RJ0, "indexOf", "(I)I"⟩
abbrev cJ0_indexOf_7cf53 : ByteArray := prog_12_method_80_code
def yJ0_indexOf_7cf53 : MethodName := ⟨RJ0, "indexOf", "(II)I"⟩
abbrev cJ0_coder_7d493 : ByteArray := prog_12_method_152_code
def yJ0_coder_7d493 : MethodName := ⟨RJ0, "coder", "()B"⟩
abbrev cJ0_isLatin1_aae02 : ByteArray := prog_12_method_154_code
def yJ0_isLatin1_aae02 : MethodName := ⟨RJ0, "isLatin1", "()Z"⟩
abbrev cJ0_checkBoundsBeginEnd_23922 : ByteArray := prog_12_method_158_code
def yJ0_checkBoundsBeginEnd_23922 : MethodName := ⟨RJ0, "checkBoundsBeginEnd", "(III)V"⟩
def RJ1 : String := "java/lang/StringLatin1"
def TJ1 : u_T := fun k => match k with
  | _ => ("", "", "", false)
def tyJ1 : Nat → FieldType := fun k => match k with
  | _ => .int
abbrev wsJ10 : List Cond := u_ws RJ1 TJ1 0
theorem nmJ1 : ∀ a, a < 0 → ∀ b, b < 0 → a ≠ b → (TJ1 a).2.1 ≠ (TJ1 b).2.1 := by decide +kernel
theorem tyJ1_ok : ∀ k, k < 0 → parseFieldDescriptor (TJ1 k).2.2.1 = some (tyJ1 k) := by decide +kernel
abbrev cJ1_canEncode_9a6ad : ByteArray := prog_13_method_4_code
def yJ1_canEncode_9a6ad : MethodName := ⟨RJ1, "canEncode", "(I)Z"⟩
abbrev cJ1_indexOf_4cfef : ByteArray := prog_13_method_22_code
def yJ1_indexOf_4cfef : MethodName := ⟨RJ1, "indexOf", "([BIII)I"⟩
abbrev cJ1_indexOfChar_4cfef : ByteArray := prog_13_method_23_code
def yJ1_indexOfChar_4cfef : MethodName := ⟨RJ1, "indexOfChar", "([BIII)I"⟩
def RJ2 : String := "java/lang/StringUTF16"
def TJ2 : u_T := fun k => match k with
  | _ => ("", "", "", false)
def tyJ2 : Nat → FieldType := fun k => match k with
  | _ => .int
abbrev wsJ20 : List Cond := u_ws RJ2 TJ2 0
theorem nmJ2 : ∀ a, a < 0 → ∀ b, b < 0 → a ≠ b → (TJ2 a).2.1 ≠ (TJ2 b).2.1 := by decide +kernel
theorem tyJ2_ok : ∀ k, k < 0 → parseFieldDescriptor (TJ2 k).2.2.1 = some (tyJ2 k) := by decide +kernel
abbrev cJ2_getChar_3b067 : ByteArray := prog_14_method_5_code
def yJ2_getChar_3b067 : MethodName := ⟨RJ2, "getChar", "([BI)C"⟩
abbrev cJ2_length_9d52b : ByteArray := prog_14_method_6_code
def yJ2_length_9d52b : MethodName := ⟨RJ2, "length", "([B)I"⟩
abbrev cJ2_indexOf_4cfef : ByteArray := prog_14_method_40_code
def yJ2_indexOf_4cfef : MethodName := ⟨RJ2, "indexOf", "([BIII)I"⟩
abbrev cJ2_indexOfChar_4cfef : ByteArray := prog_14_method_47_code
def yJ2_indexOfChar_4cfef : MethodName := ⟨RJ2, "indexOfChar", "([BIII)I"⟩
abbrev cJ2_indexOfCharUnsafe_4cfef : ByteArray := prog_14_method_48_code
def yJ2_indexOfCharUnsafe_4cfef : MethodName := ⟨RJ2, "indexOfCharUnsafe", "([BIII)I"⟩
abbrev cJ2_indexOfSupplementary_4cfef : ByteArray := prog_14_method_49_code
def yJ2_indexOfSupplementary_4cfef : MethodName := ⟨RJ2, "indexOfSupplementary", "([BIII)I"⟩
abbrev cJ2_checkBoundsBeginEnd_d044e : ByteArray := prog_14_method_93_code
def yJ2_checkBoundsBeginEnd_d044e : MethodName := ⟨RJ2, "checkBoundsBeginEnd", "(II[B)V"⟩
def RJ10 : String := "java/lang/System"
def TJ10 : u_T := fun k => match k with
  | _ => ("", "", "", false)
def tyJ10 : Nat → FieldType := fun k => match k with
  | _ => .int
abbrev wsJ100 : List Cond := u_ws RJ10 TJ10 0
theorem nmJ10 : ∀ a, a < 0 → ∀ b, b < 0 → a ≠ b → (TJ10 a).2.1 ≠ (TJ10 b).2.1 := by decide +kernel
theorem tyJ10_ok : ∀ k, k < 0 → parseFieldDescriptor (TJ10 k).2.2.1 = some (tyJ10 k) := by decide +kernel
def RJxfd54e : String := "java/lang/constant/Constable"
def TJxfd54e : u_T := fun k => match k with
  | _ => ("", "", "", false)
def tyJxfd54e : Nat → FieldType := fun k => match k with
  | _ => .int
abbrev wsJxfd54e0 : List Cond := u_ws RJxfd54e TJxfd54e 0
theorem nmJxfd54e : ∀ a, a < 0 → ∀ b, b < 0 → a ≠ b → (TJxfd54e a).2.1 ≠ (TJxfd54e b).2.1 := by decide +kernel
theorem tyJxfd54e_ok : ∀ k, k < 0 → parseFieldDescriptor (TJxfd54e k).2.2.1 = some (tyJxfd54e k) := by decide +kernel
def RJx3cf43 : String := "java/lang/constant/ConstantDesc"
def TJx3cf43 : u_T := fun k => match k with
  | _ => ("", "", "", false)
def tyJx3cf43 : Nat → FieldType := fun k => match k with
  | _ => .int
abbrev wsJx3cf430 : List Cond := u_ws RJx3cf43 TJx3cf43 0
theorem nmJx3cf43 : ∀ a, a < 0 → ∀ b, b < 0 → a ≠ b → (TJx3cf43 a).2.1 ≠ (TJx3cf43 b).2.1 := by decide +kernel
theorem tyJx3cf43_ok : ∀ k, k < 0 → parseFieldDescriptor (TJx3cf43 k).2.2.1 = some (tyJx3cf43 k) := by decide +kernel
def RJ7 : String := "java/util/Arrays"
def TJ7 : u_T := fun k => match k with
  | _ => ("", "", "", false)
def tyJ7 : Nat → FieldType := fun k => match k with
  | _ => .int
abbrev wsJ70 : List Cond := u_ws RJ7 TJ7 0
theorem nmJ7 : ∀ a, a < 0 → ∀ b, b < 0 → a ≠ b → (TJ7 a).2.1 ≠ (TJ7 b).2.1 := by decide +kernel
theorem tyJ7_ok : ∀ k, k < 0 → parseFieldDescriptor (TJ7 k).2.2.1 = some (tyJ7 k) := by decide +kernel
abbrev cJ7_fill_53178 : ByteArray := prog_16_method_103_code
def yJ7_fill_53178 : MethodName := ⟨RJ7, "fill", "([II)V"⟩
def RJ3 : String := "jdk/internal/util/Preconditions"
def TJ3 : u_T := fun k => match k with
  | _ => ("", "", "", false)
def tyJ3 : Nat → FieldType := fun k => match k with
  | _ => .int
abbrev wsJ30 : List Cond := u_ws RJ3 TJ3 0
theorem nmJ3 : ∀ a, a < 0 → ∀ b, b < 0 → a ≠ b → (TJ3 a).2.1 ≠ (TJ3 b).2.1 := by decide +kernel
theorem tyJ3_ok : ∀ k, k < 0 → parseFieldDescriptor (TJ3 k).2.2.1 = some (tyJ3 k) := by decide +kernel
abbrev cJ3_checkFromToIndex_8c36e : ByteArray := prog_17_method_12_code
def yJ3_checkFromToIndex_8c36e : MethodName := ⟨RJ3, "checkFromToIndex", "(IIILjava/util/function/BiFunction;)I"⟩
def RL : String := "WhosePageLaw"
abbrev cL_law : ByteArray := code
def yL_law : MethodName := ⟨RL, "law", "([I)Z"⟩
def wsL_law_r1 : List Cond := [Cond.classLink RL 7 RX6, Cond.instantiable RX6 9, Cond.initialized RX6, Cond.classLink RL 10 RX7, Cond.instantiable RX7 24, Cond.initialized RX7, Cond.methodLink RL 9 yX6_init, Cond.instanceMethod yX6_init, Cond.code yX6_init cX6_init 1 none, Cond.methodLink RX6 3 objectInit, Cond.instanceMethod objectInit, Cond.code objectInit ⟨#[0xb1]⟩ 1 none, Cond.classLink RX6 9 RX1, Cond.instantiable RX1 11, Cond.initialized RX1, Cond.fieldLink RX6 12 "WhosePage" "plan" "LWhosePage$Plan;", Cond.fieldLink RX6 16 "WhosePage" "kept" "LWhosePage$Plan;", Cond.fieldLink RX6 19 "WhosePage" "draft" "LWhosePage$Plan;", Cond.classLink RX6 22 RX4, Cond.instantiable RX4 8, Cond.initialized RX4, Cond.fieldLink RX6 25 "WhosePage" "text" "LWhosePage$Text;", Cond.classLink RX6 29 RX2, Cond.instantiable RX2 5]
def wsL_law_r2 : List Cond := [Cond.initialized RX2, Cond.fieldLink RX6 32 "WhosePage" "press" "LWhosePage$Press;", Cond.classLink RX6 36 RX0, Cond.instantiable RX0 7, Cond.initialized RX0, Cond.fieldLink RX6 39 "WhosePage" "day" "LWhosePage$Day;", Cond.classLink RX6 43 RX3, Cond.instantiable RX3 5, Cond.initialized RX3, Cond.fieldLink RX6 46 "WhosePage" "told" "LWhosePage$Row;", Cond.arrayClass .int, Cond.fieldLink RX6 50 "WhosePage" "refusals" "[I", Cond.fieldLink RX6 54 "WhosePage" "imageTaken" "Z", Cond.instanceMethod yX1_init, Cond.code yX1_init cX1_init 1 none, Cond.methodLink RX1 3 objectInit, Cond.fieldLink RX1 9 "WhosePage$Plan" "jobOwner" "[I", Cond.fieldLink RX1 15 "WhosePage$Plan" "jobSheets" "[I", Cond.fieldLink RX1 18 "WhosePage$Plan" "jobSent" "[I", Cond.fieldLink RX1 21 "WhosePage$Plan" "takerKind" "[I", Cond.fieldLink RX1 24 "WhosePage$Plan" "takerOwner" "[I", Cond.fieldLink RX1 27 "WhosePage$Plan" "takerFigure" "[I", Cond.fieldLink RX1 30 "WhosePage$Plan" "takerMinute" "[I", Cond.fieldLink RX1 33 "WhosePage$Plan" "jobs" "I"]
def wsL_law_r3 : List Cond := [Cond.fieldLink RX1 37 "WhosePage$Plan" "takers" "I", Cond.fieldLink RX1 40 "WhosePage$Plan" "kind" "I", Cond.fieldLink RX1 43 "WhosePage$Plan" "stop" "I", Cond.instanceMethod yX4_init, Cond.code yX4_init cX4_init 1 none, Cond.methodLink RX4 3 objectInit, Cond.fieldLink RX4 9 "WhosePage$Text" "letters" "[I", Cond.fieldLink RX4 15 "WhosePage$Text" "many" "I", Cond.fieldLink RX4 19 "WhosePage$Text" "place" "I", Cond.fieldLink RX4 22 "WhosePage$Text" "head" "I", Cond.fieldLink RX4 25 "WhosePage$Text" "kind" "I", Cond.fieldLink RX4 28 "WhosePage$Text" "owner" "I", Cond.fieldLink RX4 31 "WhosePage$Text" "figure" "I", Cond.fieldLink RX4 34 "WhosePage$Text" "minute" "I", Cond.instanceMethod yX2_init, Cond.code yX2_init cX2_init 1 none, Cond.methodLink RX2 3 objectInit, Cond.fieldLink RX2 9 "WhosePage$Press" "left" "[I", Cond.fieldLink RX2 15 "WhosePage$Press" "leftInAll" "I", Cond.fieldLink RX2 19 "WhosePage$Press" "latest" "I", Cond.fieldLink RX2 22 "WhosePage$Press" "sinceAgain" "I", Cond.fieldLink RX2 25 "WhosePage$Press" "mixed" "I", Cond.instanceMethod yX0_init, Cond.code yX0_init cX0_init 1 none]
def wsL_law_r4 : List Cond := [Cond.methodLink RX0 3 objectInit, Cond.classLink RX0 9 RX2, Cond.fieldLink RX0 12 "WhosePage$Day" "press" "LWhosePage$Press;", Cond.classLink RX0 18 RX5, Cond.instantiable RX5 3, Cond.initialized RX5, Cond.fieldLink RX0 21 "WhosePage$Day" "tray" "LWhosePage$Tray;", Cond.fieldLink RX0 25 "WhosePage$Day" "outSheets" "[I", Cond.fieldLink RX0 29 "WhosePage$Day" "outMinutes" "[I", Cond.fieldLink RX0 32 "WhosePage$Day" "outs" "I", Cond.fieldLink RX0 36 "WhosePage$Day" "firstOut" "[I", Cond.fieldLink RX0 39 "WhosePage$Day" "holders" "[I", Cond.instanceMethod yX5_init, Cond.code yX5_init cX5_init 1 none, Cond.methodLink RX5 3 objectInit, Cond.fieldLink RX5 9 "WhosePage$Tray" "sheets" "[I", Cond.fieldLink RX5 15 "WhosePage$Tray" "numbersLying" "[I", Cond.fieldLink RX5 18 "WhosePage$Tray" "many" "I", Cond.instanceMethod yX3_init, Cond.code yX3_init cX3_init 1 none, Cond.methodLink RX3 3 objectInit, Cond.fieldLink RX3 9 "WhosePage$Row" "numbers" "[I", Cond.fieldLink RX3 15 "WhosePage$Row" "many" "I", Cond.fieldLink RX3 19 "WhosePage$Row" "ways" "[I"]
def wsL_law_r5 : List Cond := [Cond.fieldLink RX3 22 "WhosePage$Row" "longest" "[I", Cond.fieldLink RX3 25 "WhosePage$Row" "firstPlace" "[I", Cond.methodLink RL 12 yX7_init, Cond.instanceMethod yX7_init, Cond.code yX7_init cX7_init 1 none, Cond.methodLink RX7 7 objectInit, Cond.fieldLink RX7 1 "WhosePageModel" "refused" "[I", Cond.fieldLink RX7 13 "WhosePageModel" "now" "[I", Cond.fieldLink RX7 16 "WhosePageModel" "then" "[I", Cond.fieldLink RX7 19 "WhosePageModel" "tape" "[I", Cond.arrayClass .char, Cond.fieldLink RX7 22 "WhosePageModel" "begins" "[C", Cond.fieldLink RX7 26 "WhosePageModel" "machines" "[C", Cond.fieldLink RX7 29 "WhosePageModel" "takers" "[C", Cond.fieldLink RX7 32 "WhosePageModel" "field" "[I", Cond.fieldLink RX7 35 "WhosePageModel" "left" "[I", Cond.fieldLink RX7 38 "WhosePageModel" "out" "[I", Cond.fieldLink RX7 41 "WhosePageModel" "outAt" "[I", Cond.fieldLink RX7 44 "WhosePageModel" "tray" "[I", Cond.fieldLink RX7 47 "WhosePageModel" "holder" "[I", Cond.arrayClass .boolean, Cond.fieldLink RX7 50 "WhosePageModel" "whole" "[Z", Cond.fieldLink RX7 54 "WhosePageModel" "line" "[I", Cond.fieldLink RX7 57 "WhosePageModel" "ways" "[I"]
def wsL_law_r6 : List Cond := [Cond.methodLink RL 13 yX6_letter, Cond.instanceMethod yX6_letter, Cond.selects RX6 yX6_letter yX6_letter, Cond.code yX6_letter cX6_letter 2 (some .int), Cond.fieldLink RX6 62 "WhosePage$Text" "many" "I", Cond.methodLink RX6 58 yX6_refuse, Cond.instanceMethod yX6_refuse, Cond.selects RX6 yX6_refuse yX6_refuse, Cond.code yX6_refuse cX6_refuse 3 (some .int), Cond.methodLink RX6 66 yX4_add, Cond.instanceMethod yX4_add, Cond.selects RX4 yX4_add yX4_add, Cond.code yX4_add cX4_add 2 (some .int), Cond.methodLink RL 17 yX7_letter, Cond.instanceMethod yX7_letter, Cond.selects RX7 yX7_letter yX7_letter, Cond.code yX7_letter cX7_letter 2 (some .int), Cond.fieldLink RX7 68 "WhosePageModel" "taped" "I", Cond.methodLink RX7 64 yX7_no, Cond.instanceMethod yX7_no, Cond.selects RX7 yX7_no yX7_no, Cond.code yX7_no cX7_no 2 (some .int), Cond.methodLink RL 18 yX6_floor, Cond.instanceMethod yX6_floor]
def wsL_law_r7 : List Cond := [Cond.selects RX6 yX6_floor yX6_floor, Cond.code yX6_floor cX6_floor 3 (some .int), Cond.methodLink RX6 69 yX4_wrongPlace, Cond.instanceMethod yX4_wrongPlace, Cond.selects RX4 yX4_wrongPlace yX4_wrongPlace, Cond.code yX4_wrongPlace cX4_wrongPlace 2 (some .int), Cond.methodLink RX4 37 yX4_readStatement, Cond.instanceMethod yX4_readStatement, Cond.selects RX4 yX4_readStatement yX4_readStatement, Cond.code yX4_readStatement cX4_readStatement 1 (some .boolean), Cond.methodLink RX4 41 yX4_readOwnerFigureMinute, Cond.instanceMethod yX4_readOwnerFigureMinute, Cond.selects RX4 yX4_readOwnerFigureMinute yX4_readOwnerFigureMinute, Cond.code yX4_readOwnerFigureMinute cX4_readOwnerFigureMinute 1 (some .boolean), Cond.methodLink RX4 73 yX4_readDigit, Cond.instanceMethod yX4_readDigit, Cond.selects RX4 yX4_readDigit yX4_readDigit, Cond.code yX4_readDigit cX4_readDigit 2 (some .int), Cond.methodLink RX4 50 yX4_readFigure, Cond.instanceMethod yX4_readFigure, Cond.selects RX4 yX4_readFigure yX4_readFigure, Cond.code yX4_readFigure cX4_readFigure 1 (some .boolean), Cond.methodLink RX4 53 yX4_readSign, Cond.instanceMethod yX4_readSign]
def wsL_law_r8 : List Cond := [Cond.selects RX4 yX4_readSign yX4_readSign, Cond.code yX4_readSign cX4_readSign 2 (some .boolean), Cond.methodLink RX4 77 yX4_readMinute, Cond.instanceMethod yX4_readMinute, Cond.selects RX4 yX4_readMinute yX4_readMinute, Cond.code yX4_readMinute cX4_readMinute 2 (some .boolean), Cond.methodLink RX4 46 yX4_readKind, Cond.instanceMethod yX4_readKind, Cond.selects RX4 yX4_readKind yX4_readKind, Cond.code yX4_readKind cX4_readKind 2 (some .boolean), Cond.methodLink RX4 80 yJ0_indexOf_0f7a4, Cond.instanceMethod yJ0_indexOf_0f7a4, Cond.selects RJ0 yJ0_indexOf_0f7a4 yJ0_indexOf_0f7a4, Cond.initialized RJ0, Cond.code yJ0_indexOf_0f7a4 cJ0_indexOf_0f7a4 2 (some .int), Cond.methodLink RJ0 633 yJ0_indexOf_7cf53, Cond.instanceMethod yJ0_indexOf_7cf53, Cond.selects RJ0 yJ0_indexOf_7cf53 yJ0_indexOf_7cf53, Cond.code yJ0_indexOf_7cf53 cJ0_indexOf_7cf53 3 (some .int), Cond.fieldLink RJ0 9 "java/lang/String" "value" "[B", Cond.methodLink RJ0 492 yJ0_isLatin1_aae02, Cond.instanceMethod yJ0_isLatin1_aae02, Cond.selects RJ0 yJ0_isLatin1_aae02 yJ0_isLatin1_aae02, Cond.code yJ0_isLatin1_aae02 cJ0_isLatin1_aae02 1 (some .boolean)]
def wsL_law_r9 : List Cond := [Cond.fieldLink RJ0 38 "java/lang/String" "COMPACT_STRINGS" "Z", Cond.fieldLink RJ0 15 "java/lang/String" "coder" "B", Cond.methodLink RJ0 505 yJ0_length_8abf5, Cond.instanceMethod yJ0_length_8abf5, Cond.selects RJ0 yJ0_length_8abf5 yJ0_length_8abf5, Cond.code yJ0_length_8abf5 cJ0_length_8abf5 1 (some .int), Cond.methodLink RJ0 335 yJ0_coder_7d493, Cond.instanceMethod yJ0_coder_7d493, Cond.selects RJ0 yJ0_coder_7d493 yJ0_coder_7d493, Cond.code yJ0_coder_7d493 cJ0_coder_7d493 1 (some .byte), Cond.methodLink RJ0 637 yJ1_indexOf_4cfef, Cond.static yJ1_indexOf_4cfef, Cond.initialized RJ1, Cond.code yJ1_indexOf_4cfef cJ1_indexOf_4cfef 4 (some .int), Cond.methodLink RJ1 92 Lib.Math.max.name, Cond.static Lib.Math.max.name, Cond.initialized "java/lang/Math", Cond.code Lib.Math.max.name Lib.Math.max.code 2 (some .int), Cond.methodLink RJ1 38 Lib.Math.min.name, Cond.static Lib.Math.min.name, Cond.code Lib.Math.min.name Lib.Math.min.code 2 (some .int), Cond.methodLink RJ1 88 yJ1_canEncode_9a6ad, Cond.static yJ1_canEncode_9a6ad, Cond.code yJ1_canEncode_9a6ad cJ1_canEncode_9a6ad 1 (some .boolean)]
def wsL_law_r10 : List Cond := [Cond.methodLink RJ1 95 yJ1_indexOfChar_4cfef, Cond.static yJ1_indexOfChar_4cfef, Cond.code yJ1_indexOfChar_4cfef cJ1_indexOfChar_4cfef 6 (some .int), Cond.methodLink RJ0 640 yJ2_indexOf_4cfef, Cond.static yJ2_indexOf_4cfef, Cond.initialized RJ2, Cond.code yJ2_indexOf_4cfef cJ2_indexOf_4cfef 4 (some .int), Cond.methodLink RJ2 224 Lib.Math.max.name, Cond.methodLink RJ2 183 Lib.Math.min.name, Cond.constant RJ2 227 (65536), Cond.methodLink RJ2 228 yJ2_indexOfChar_4cfef, Cond.static yJ2_indexOfChar_4cfef, Cond.code yJ2_indexOfChar_4cfef cJ2_indexOfChar_4cfef 4 (some .int), Cond.methodLink RJ2 96 yJ2_checkBoundsBeginEnd_d044e, Cond.static yJ2_checkBoundsBeginEnd_d044e, Cond.code yJ2_checkBoundsBeginEnd_d044e cJ2_checkBoundsBeginEnd_d044e 3 none, Cond.methodLink RJ2 48 yJ2_length_9d52b, Cond.static yJ2_length_9d52b, Cond.code yJ2_length_9d52b cJ2_length_9d52b 1 (some .int), Cond.methodLink RJ2 241 yJ0_checkBoundsBeginEnd_23922, Cond.static yJ0_checkBoundsBeginEnd_23922, Cond.code yJ0_checkBoundsBeginEnd_23922 cJ0_checkBoundsBeginEnd_23922 3 none, Cond.fieldLink RJ0 1053 "jdk/internal/util/Preconditions" "SIOOBE_FORMATTER" "Ljava/util/function/BiFunction;", Cond.methodLink RJ0 1062 yJ3_checkFromToIndex_8c36e]
def wsL_law_r11 : List Cond := [Cond.static yJ3_checkFromToIndex_8c36e, Cond.initialized RJ3, Cond.code yJ3_checkFromToIndex_8c36e cJ3_checkFromToIndex_8c36e 4 (some .int), Cond.methodLink RJ2 244 yJ2_indexOfCharUnsafe_4cfef, Cond.static yJ2_indexOfCharUnsafe_4cfef, Cond.code yJ2_indexOfCharUnsafe_4cfef cJ2_indexOfCharUnsafe_4cfef 5 (some .int), Cond.methodLink RJ2 71 yJ2_getChar_3b067, Cond.static yJ2_getChar_3b067, Cond.code yJ2_getChar_3b067 cJ2_getChar_3b067 2 (some .char), Cond.fieldLink RJ2 44 "java/lang/StringUTF16" "$assertionsDisabled" "Z", Cond.fieldLink RJ2 59 "java/lang/StringUTF16" "HI_BYTE_SHIFT" "I", Cond.fieldLink RJ2 63 "java/lang/StringUTF16" "LO_BYTE_SHIFT" "I", Cond.methodLink RJ2 232 yJ2_indexOfSupplementary_4cfef, Cond.static yJ2_indexOfSupplementary_4cfef, Cond.code yJ2_indexOfSupplementary_4cfef cJ2_indexOfSupplementary_4cfef 7 (some .int), Cond.methodLink RJ2 164 yJ11_isValidCodePoint_9a6ad, Cond.static yJ11_isValidCodePoint_9a6ad, Cond.initialized RJ11, Cond.code yJ11_isValidCodePoint_9a6ad cJ11_isValidCodePoint_9a6ad 2 (some .boolean), Cond.methodLink RJ2 157 yJ11_highSurrogate_5068e, Cond.static yJ11_highSurrogate_5068e, Cond.code yJ11_highSurrogate_5068e cJ11_highSurrogate_5068e 1 (some .char), Cond.constant RJ11 110 (55232), Cond.methodLink RJ2 161 yJ11_lowSurrogate_5068e]
def wsL_law_r12 : List Cond := [Cond.static yJ11_lowSurrogate_5068e, Cond.code yJ11_lowSurrogate_5068e cJ11_lowSurrogate_5068e 1 (some .char), Cond.constant RJ11 76 (56320), Cond.methodLink RX6 73 yX6_tellStatements, Cond.instanceMethod yX6_tellStatements, Cond.selects RX6 yX6_tellStatements yX6_tellStatements, Cond.code yX6_tellStatements cX6_tellStatements 3 (some .int), Cond.fieldLink RX6 240 "WhosePage$Text" "place" "I", Cond.methodLink RX6 181 yX1_copyFrom, Cond.instanceMethod yX1_copyFrom, Cond.selects RX1 yX1_copyFrom yX1_copyFrom, Cond.code yX1_copyFrom cX1_copyFrom 2 none, Cond.methodLink RX1 56 arraycopyName, Cond.native arraycopyName, Cond.static arraycopyName, Cond.initialized "java/lang/System", Cond.methodLink RX6 243 yX4_readStatement, Cond.methodLink RX6 247 yX4_tellTo, Cond.instanceMethod yX4_tellTo, Cond.selects RX4 yX4_tellTo yX4_tellTo, Cond.code yX4_tellTo cX4_tellTo 2 (some .boolean), Cond.methodLink RX4 59 yX1_addJob, Cond.instanceMethod yX1_addJob, Cond.selects RX1 yX1_addJob yX1_addJob]
def wsL_law_r13 : List Cond := [Cond.code yX1_addJob cX1_addJob 5 (some .boolean), Cond.static yX6_isOwner, Cond.code yX6_isOwner cX6_isOwner 1 (some .boolean), Cond.methodLink RX4 65 yX1_addTaker, Cond.instanceMethod yX1_addTaker, Cond.selects RX1 yX1_addTaker yX1_addTaker, Cond.code yX1_addTaker cX1_addTaker 6 (some .boolean), Cond.methodLink RX4 69 yX1_setMachine, Cond.instanceMethod yX1_setMachine, Cond.selects RX1 yX1_setMachine yX1_setMachine, Cond.code yX1_setMachine cX1_setMachine 3 none, Cond.methodLink RX6 76 yX4_clear, Cond.instanceMethod yX4_clear, Cond.selects RX4 yX4_clear yX4_clear, Cond.code yX4_clear cX4_clear 1 none, Cond.methodLink RL 22 yX7_floor, Cond.instanceMethod yX7_floor, Cond.selects RX7 yX7_floor yX7_floor, Cond.code yX7_floor cX7_floor 2 (some .int), Cond.methodLink RX7 102 yX7_read, Cond.instanceMethod yX7_read, Cond.selects RX7 yX7_read yX7_read, Cond.code yX7_read cX7_read 5 (some .int), Cond.fieldLink RX7 75 "WhosePageModel" "at" "I"]
def wsL_law_r14 : List Cond := [Cond.fieldLink RX7 72 "WhosePageModel" "well" "Z", Cond.fieldLink RX7 82 "WhosePageModel" "sort" "I", Cond.methodLink RX7 92 yX7_statement, Cond.instanceMethod yX7_statement, Cond.selects RX7 yX7_statement yX7_statement, Cond.code yX7_statement cX7_statement 1 none, Cond.methodLink RX7 78 yX7_oneOf, Cond.instanceMethod yX7_oneOf, Cond.selects RX7 yX7_oneOf yX7_oneOf, Cond.code yX7_oneOf cX7_oneOf 3 (some .int), Cond.methodLink RX7 85 yX7_figures, Cond.instanceMethod yX7_figures, Cond.selects RX7 yX7_figures yX7_figures, Cond.code yX7_figures cX7_figures 4 (some .int), Cond.methodLink RX7 88 yX7_expect, Cond.instanceMethod yX7_expect, Cond.selects RX7 yX7_expect yX7_expect, Cond.code yX7_expect cX7_expect 2 none, Cond.methodLink RX7 95 yX7_isAsItMustBe, Cond.instanceMethod yX7_isAsItMustBe, Cond.selects RX7 yX7_isAsItMustBe yX7_isAsItMustBe, Cond.code yX7_isAsItMustBe cX7_isAsItMustBe 3 (some .boolean), Cond.methodLink RX7 99 yX7_come, Cond.instanceMethod yX7_come]
def wsL_law_r15 : List Cond := [Cond.selects RX7 yX7_come yX7_come, Cond.code yX7_come cX7_come 1 none, Cond.methodLink RL 23 yX6_job, Cond.instanceMethod yX6_job, Cond.selects RX6 yX6_job yX6_job, Cond.code yX6_job cX6_job 3 (some .int), Cond.fieldLink RX6 83 "WhosePage$Plan" "jobOwner" "[I", Cond.fieldLink RX6 86 "WhosePage$Plan" "jobSheets" "[I", Cond.fieldLink RX6 89 "WhosePage$Plan" "jobSent" "[I", Cond.methodLink RX6 79 yX1_hasJob, Cond.instanceMethod yX1_hasJob, Cond.selects RX1 yX1_hasJob yX1_hasJob, Cond.code yX1_hasJob cX1_hasJob 2 (some .boolean), Cond.methodLink RL 27 yX7_job, Cond.instanceMethod yX7_job, Cond.selects RX7 yX7_job yX7_job, Cond.code yX7_job cX7_job 3 (some .int), Cond.methodLink RX7 138 yX7_isNoJob, Cond.instanceMethod yX7_isNoJob, Cond.selects RX7 yX7_isNoJob yX7_isNoJob, Cond.code yX7_isNoJob cX7_isNoJob 2 (some .boolean), Cond.methodLink RL 28 yX6_taker, Cond.instanceMethod yX6_taker, Cond.selects RX6 yX6_taker yX6_taker]
def wsL_law_r16 : List Cond := [Cond.code yX6_taker cX6_taker 3 (some .int), Cond.fieldLink RX6 95 "WhosePage$Plan" "takerKind" "[I", Cond.fieldLink RX6 98 "WhosePage$Plan" "takerOwner" "[I", Cond.fieldLink RX6 101 "WhosePage$Plan" "takerFigure" "[I", Cond.fieldLink RX6 104 "WhosePage$Plan" "takerMinute" "[I", Cond.methodLink RX6 92 yX1_hasTaker, Cond.instanceMethod yX1_hasTaker, Cond.selects RX1 yX1_hasTaker yX1_hasTaker, Cond.code yX1_hasTaker cX1_hasTaker 2 (some .boolean), Cond.methodLink RL 31 yX7_taker, Cond.instanceMethod yX7_taker, Cond.selects RX7 yX7_taker yX7_taker, Cond.code yX7_taker cX7_taker 3 (some .int), Cond.methodLink RX7 141 yX7_isNoTaker, Cond.instanceMethod yX7_isNoTaker, Cond.selects RX7 yX7_isNoTaker yX7_isNoTaker, Cond.code yX7_isNoTaker cX7_isNoTaker 2 (some .boolean), Cond.methodLink RL 32 yX6_sent, Cond.instanceMethod yX6_sent, Cond.selects RX6 yX6_sent yX6_sent, Cond.code yX6_sent cX6_sent 4 (some .int), Cond.methodLink RL 35 yX7_sent, Cond.instanceMethod yX7_sent, Cond.selects RX7 yX7_sent yX7_sent]
def wsL_law_r17 : List Cond := [Cond.code yX7_sent cX7_sent 3 (some .int), Cond.methodLink RX7 144 yX7_change, Cond.instanceMethod yX7_change, Cond.selects RX7 yX7_change yX7_change, Cond.code yX7_change cX7_change 5 (some .int), Cond.methodLink RL 36 yX6_machine, Cond.instanceMethod yX6_machine, Cond.selects RX6 yX6_machine yX6_machine, Cond.code yX6_machine cX6_machine 4 (some .int), Cond.fieldLink RX6 114 "WhosePage$Plan" "kind" "I", Cond.fieldLink RX6 117 "WhosePage$Plan" "stop" "I", Cond.methodLink RX6 109 yJ0_length_8abf5, Cond.methodLink RX6 120 yX1_setMachine, Cond.methodLink RL 39 yX7_machine, Cond.instanceMethod yX7_machine, Cond.selects RX7 yX7_machine yX7_machine, Cond.code yX7_machine cX7_machine 5 (some .int), Cond.methodLink RL 40 yX6_comes, Cond.instanceMethod yX6_comes, Cond.selects RX6 yX6_comes yX6_comes, Cond.code yX6_comes cX6_comes 4 (some .int), Cond.methodLink RL 43 yX7_comes, Cond.instanceMethod yX7_comes, Cond.selects RX7 yX7_comes yX7_comes]
def wsL_law_r18 : List Cond := [Cond.code yX7_comes cX7_comes 3 (some .int), Cond.methodLink RL 44 yX6_out, Cond.instanceMethod yX6_out, Cond.selects RX6 yX6_out yX6_out, Cond.code yX6_out cX6_out 3 (some .int), Cond.methodLink RX6 124 yX6_isZeroOrOne, Cond.static yX6_isZeroOrOne, Cond.code yX6_isZeroOrOne cX6_isZeroOrOne 1 (some .boolean), Cond.methodLink RX6 127 yX0_passWhole, Cond.instanceMethod yX0_passWhole, Cond.selects RX0 yX0_passWhole yX0_passWhole, Cond.code yX0_passWhole cX0_passWhole 2 none, Cond.methodLink RX0 55 yX0_passThrough, Cond.instanceMethod yX0_passThrough, Cond.selects RX0 yX0_passThrough yX0_passThrough, Cond.code yX0_passThrough cX0_passThrough 4 none, Cond.methodLink RX0 59 yX0_begin, Cond.instanceMethod yX0_begin, Cond.selects RX0 yX0_begin yX0_begin, Cond.code yX0_begin cX0_begin 2 none, Cond.fieldLink RX0 46 "WhosePage$Tray" "many" "I", Cond.methodLink RX0 42 yX2_begin, Cond.instanceMethod yX2_begin, Cond.selects RX2 yX2_begin yX2_begin]
def wsL_law_r19 : List Cond := [Cond.code yX2_begin cX2_begin 3 none, Cond.fieldLink RX2 28 "WhosePage$Plan" "jobs" "I", Cond.fieldLink RX2 33 "WhosePage$Plan" "jobSheets" "[I", Cond.methodLink RX2 36 yX1_allSheets, Cond.instanceMethod yX1_allSheets, Cond.selects RX1 yX1_allSheets yX1_allSheets, Cond.code yX1_allSheets cX1_allSheets 3 (some .int), Cond.methodLink RX0 49 yJ7_fill_53178, Cond.static yJ7_fill_53178, Cond.initialized RJ7, Cond.code yJ7_fill_53178 cJ7_fill_53178 4 none, Cond.methodLink RX0 60 yX0_passMinute, Cond.instanceMethod yX0_passMinute, Cond.selects RX0 yX0_passMinute yX0_passMinute, Cond.code yX0_passMinute cX0_passMinute 5 none, Cond.fieldLink RX0 77 "WhosePage$Plan" "kind" "I", Cond.fieldLink RX0 87 "WhosePage$Plan" "takers" "I", Cond.fieldLink RX0 90 "WhosePage$Plan" "takerMinute" "[I", Cond.methodLink RX0 63 yX2_putOut, Cond.instanceMethod yX2_putOut, Cond.selects RX2 yX2_putOut yX2_putOut, Cond.code yX2_putOut cX2_putOut 4 (some .int), Cond.fieldLink RX2 40 "WhosePage$Plan" "kind" "I", Cond.fieldLink RX2 43 "WhosePage$Plan" "stop" "I"]
def wsL_law_r20 : List Cond := [Cond.methodLink RX2 46 yX2_chosenJob, Cond.instanceMethod yX2_chosenJob, Cond.selects RX2 yX2_chosenJob yX2_chosenJob, Cond.code yX2_chosenJob cX2_chosenJob 6 (some .int), Cond.fieldLink RX2 57 "WhosePage$Plan" "jobSent" "[I", Cond.methodLink RX2 60 yX2_isAhead, Cond.instanceMethod yX2_isAhead, Cond.selects RX2 yX2_isAhead yX2_isAhead, Cond.code yX2_isAhead cX2_isAhead 5 (some .boolean), Cond.fieldLink RX2 68 "WhosePage$Plan" "jobOwner" "[I", Cond.methodLink RX2 64 yX2_turnsUntil, Cond.instanceMethod yX2_turnsUntil, Cond.selects RX2 yX2_turnsUntil yX2_turnsUntil, Cond.code yX2_turnsUntil cX2_turnsUntil 2 (some .int), Cond.methodLink RX2 71 yJ9_floorMod_7cf53, Cond.static yJ9_floorMod_7cf53, Cond.initialized RJ9, Cond.code yJ9_floorMod_7cf53 cJ9_floorMod_7cf53 3 (some .int), Cond.methodLink RX0 67 yX1_hasSheet, Cond.instanceMethod yX1_hasSheet, Cond.selects RX1 yX1_hasSheet yX1_hasSheet, Cond.code yX1_hasSheet cX1_hasSheet 3 (some .boolean), Cond.methodLink RX1 46 yX1_hasJob, Cond.methodLink RX0 73 yX0_noteOut]
def wsL_law_r21 : List Cond := [Cond.instanceMethod yX0_noteOut, Cond.selects RX0 yX0_noteOut yX0_noteOut, Cond.code yX0_noteOut cX0_noteOut 3 none, Cond.methodLink RX0 80 yX5_putBeneath, Cond.instanceMethod yX5_putBeneath, Cond.selects RX5 yX5_putBeneath yX5_putBeneath, Cond.code yX5_putBeneath cX5_putBeneath 2 none, Cond.methodLink RX5 22 arraycopyName, Cond.methodLink RX0 84 yX5_putUpon, Cond.instanceMethod yX5_putUpon, Cond.selects RX5 yX5_putUpon yX5_putUpon, Cond.code yX5_putUpon cX5_putUpon 2 none, Cond.methodLink RX0 93 yX5_giveTo, Cond.instanceMethod yX5_giveTo, Cond.selects RX5 yX5_giveTo yX5_giveTo, Cond.code yX5_giveTo cX5_giveTo 13 none, Cond.fieldLink RX5 38 "WhosePage$Plan" "takerKind" "[I", Cond.fieldLink RX5 43 "WhosePage$Plan" "takerOwner" "[I", Cond.fieldLink RX5 46 "WhosePage$Plan" "takerFigure" "[I", Cond.methodLink RX5 49 yX5_jobsWanted, Cond.instanceMethod yX5_jobsWanted, Cond.selects RX5 yX5_jobsWanted yX5_jobsWanted, Cond.code yX5_jobsWanted cX5_jobsWanted 5 (some .int), Cond.methodLink RX5 57 yX1_jobsOf]
def wsL_law_r22 : List Cond := [Cond.instanceMethod yX1_jobsOf, Cond.selects RX1 yX1_jobsOf yX1_jobsOf, Cond.code yX1_jobsOf cX1_jobsOf 4 (some .int), Cond.methodLink RX5 60 yX5_wholeJobs, Cond.instanceMethod yX5_wholeJobs, Cond.selects RX5 yX5_wholeJobs yX5_wholeJobs, Cond.code yX5_wholeJobs cX5_wholeJobs 4 (some .int), Cond.fieldLink RX5 70 "WhosePage$Plan" "jobs" "I", Cond.fieldLink RX5 73 "WhosePage$Plan" "jobSheets" "[I", Cond.methodLink RX5 64 yJ7_fill_53178, Cond.static yX6_bitsUpTo, Cond.code yX6_bitsUpTo cX6_bitsUpTo 1 (some .int), Cond.static yX6_hasBit, Cond.code yX6_hasBit cX6_hasBit 2 (some .boolean), Cond.methodLink RX6 131 yX0_sheetOut, Cond.instanceMethod yX0_sheetOut, Cond.selects RX0 yX0_sheetOut yX0_sheetOut, Cond.code yX0_sheetOut cX0_sheetOut 2 (some .int), Cond.methodLink RX6 134 yX0_minuteOut, Cond.instanceMethod yX0_minuteOut, Cond.selects RX0 yX0_minuteOut yX0_minuteOut, Cond.code yX0_minuteOut cX0_minuteOut 2 (some .int), Cond.methodLink RL 47 yX7_out, Cond.instanceMethod yX7_out]
def wsL_law_r23 : List Cond := [Cond.selects RX7 yX7_out yX7_out, Cond.code yX7_out cX7_out 3 (some .int), Cond.fieldLink RX7 113 "WhosePageModel" "outs" "I", Cond.methodLink RX7 147 yX7_goTo, Cond.instanceMethod yX7_goTo, Cond.selects RX7 yX7_goTo yX7_goTo, Cond.code yX7_goTo cX7_goTo 7 none, Cond.fieldLink RX7 116 "WhosePageModel" "lying" "I", Cond.methodLink RX7 126 yX7_put, Cond.instanceMethod yX7_put, Cond.selects RX7 yX7_put yX7_put, Cond.code yX7_put cX7_put 4 none, Cond.methodLink RX7 130 yX7_chosen, Cond.instanceMethod yX7_chosen, Cond.selects RX7 yX7_chosen yX7_chosen, Cond.code yX7_chosen cX7_chosen 7 (some .int), Cond.methodLink RX7 106 yX7_waits, Cond.instanceMethod yX7_waits, Cond.selects RX7 yX7_waits yX7_waits, Cond.code yX7_waits cX7_waits 3 (some .boolean), Cond.methodLink RX7 109 yX7_ahead, Cond.instanceMethod yX7_ahead, Cond.selects RX7 yX7_ahead yX7_ahead, Cond.code yX7_ahead cX7_ahead 4 (some .boolean)]
def wsL_law_r24 : List Cond := [Cond.methodLink RX7 134 yX7_take, Cond.instanceMethod yX7_take, Cond.selects RX7 yX7_take yX7_take, Cond.code yX7_take cX7_take 12 none, Cond.methodLink RX7 123 yX7_takesSome, Cond.instanceMethod yX7_takesSome, Cond.selects RX7 yX7_takesSome yX7_takesSome, Cond.code yX7_takesSome cX7_takesSome 3 (some .boolean), Cond.methodLink RX7 119 yX7_isWhole, Cond.instanceMethod yX7_isWhole, Cond.selects RX7 yX7_isWhole yX7_isWhole, Cond.code yX7_isWhole cX7_isWhole 4 (some .boolean), Cond.methodLink RL 48 yX6_outMany, Cond.instanceMethod yX6_outMany, Cond.selects RX6 yX6_outMany yX6_outMany, Cond.code yX6_outMany cX6_outMany 1 (some .int), Cond.fieldLink RX6 137 "WhosePage$Day" "outs" "I", Cond.methodLink RL 51 yX7_outMany, Cond.instanceMethod yX7_outMany, Cond.selects RX7 yX7_outMany yX7_outMany, Cond.code yX7_outMany cX7_outMany 1 (some .int), Cond.methodLink RL 52 yX6_lies, Cond.instanceMethod yX6_lies, Cond.selects RX6 yX6_lies yX6_lies]
def wsL_law_r25 : List Cond := [Cond.code yX6_lies cX6_lies 3 (some .int), Cond.fieldLink RX6 144 "WhosePage$Day" "tray" "LWhosePage$Tray;", Cond.fieldLink RX6 148 "WhosePage$Tray" "many" "I", Cond.methodLink RX6 140 yX0_passThrough, Cond.methodLink RX6 151 yX5_fromTop, Cond.instanceMethod yX5_fromTop, Cond.selects RX5 yX5_fromTop yX5_fromTop, Cond.code yX5_fromTop cX5_fromTop 2 (some .int), Cond.methodLink RL 55 yX7_lies, Cond.instanceMethod yX7_lies, Cond.selects RX7 yX7_lies yX7_lies, Cond.code yX7_lies cX7_lies 3 (some .int), Cond.methodLink RL 56 yX6_held, Cond.instanceMethod yX6_held, Cond.selects RX6 yX6_held yX6_held, Cond.code yX6_held cX6_held 3 (some .int), Cond.methodLink RX6 154 yX6_isOwner, Cond.methodLink RX6 157 yX0_heldBy, Cond.instanceMethod yX0_heldBy, Cond.selects RX0 yX0_heldBy yX0_heldBy, Cond.code yX0_heldBy cX0_heldBy 6 (some .int), Cond.methodLink RX0 97 yX1_isOf, Cond.instanceMethod yX1_isOf, Cond.selects RX1 yX1_isOf yX1_isOf]
def wsL_law_r26 : List Cond := [Cond.code yX1_isOf cX1_isOf 3 (some .boolean), Cond.methodLink RX1 50 yX1_hasSheet, Cond.methodLink RL 59 yX7_held, Cond.instanceMethod yX7_held, Cond.selects RX7 yX7_held yX7_held, Cond.code yX7_held cX7_held 3 (some .int), Cond.methodLink RX7 150 yX7_isNoOwner, Cond.instanceMethod yX7_isNoOwner, Cond.selects RX7 yX7_isNoOwner yX7_isNoOwner, Cond.code yX7_isNoOwner cX7_isNoOwner 2 (some .boolean), Cond.methodLink RX7 153 yX7_has, Cond.instanceMethod yX7_has, Cond.selects RX7 yX7_has yX7_has, Cond.code yX7_has cX7_has 5 (some .int), Cond.methodLink RL 60 yX6_who, Cond.instanceMethod yX6_who, Cond.selects RX6 yX6_who yX6_who, Cond.code yX6_who cX6_who 2 (some .int), Cond.methodLink RX6 161 yX1_hasSheet, Cond.methodLink RX6 164 yX0_holderOf, Cond.instanceMethod yX0_holderOf, Cond.selects RX0 yX0_holderOf yX0_holderOf, Cond.code yX0_holderOf cX0_holderOf 2 (some .int), Cond.methodLink RL 63 yX7_who]
def wsL_law_r27 : List Cond := [Cond.instanceMethod yX7_who, Cond.selects RX7 yX7_who yX7_who, Cond.code yX7_who cX7_who 2 (some .int), Cond.methodLink RL 64 yX6_missing, Cond.instanceMethod yX6_missing, Cond.selects RX6 yX6_missing yX6_missing, Cond.code yX6_missing cX6_missing 2 (some .int), Cond.methodLink RX6 167 yX1_sheetsOf, Cond.instanceMethod yX1_sheetsOf, Cond.selects RX1 yX1_sheetsOf yX1_sheetsOf, Cond.code yX1_sheetsOf cX1_sheetsOf 4 (some .int), Cond.methodLink RL 67 yX7_missing, Cond.instanceMethod yX7_missing, Cond.selects RX7 yX7_missing yX7_missing, Cond.code yX7_missing cX7_missing 4 (some .int), Cond.methodLink RL 68 yX6_ask, Cond.instanceMethod yX6_ask, Cond.selects RX6 yX6_ask yX6_ask, Cond.code yX6_ask cX6_ask 2 (some .int), Cond.methodLink RX6 170 yX0_othersWith, Cond.instanceMethod yX0_othersWith, Cond.selects RX0 yX0_othersWith yX0_othersWith, Cond.code yX0_othersWith cX0_othersWith 6 (some .int), Cond.methodLink RL 71 yX7_ask]
def wsL_law_r28 : List Cond := [Cond.instanceMethod yX7_ask, Cond.selects RX7 yX7_ask yX7_ask, Cond.code yX7_ask cX7_ask 4 (some .int), Cond.methodLink RL 72 yX6_ready, Cond.instanceMethod yX6_ready, Cond.selects RX6 yX6_ready yX6_ready, Cond.code yX6_ready cX6_ready 2 (some .int), Cond.methodLink RX6 174 yX6_readyMinute, Cond.instanceMethod yX6_readyMinute, Cond.selects RX6 yX6_readyMinute yX6_readyMinute, Cond.code yX6_readyMinute cX6_readyMinute 2 (some .int), Cond.methodLink RX6 251 yX0_lastFirstOut, Cond.instanceMethod yX0_lastFirstOut, Cond.selects RX0 yX0_lastFirstOut yX0_lastFirstOut, Cond.code yX0_lastFirstOut cX0_lastFirstOut 5 (some .int), Cond.methodLink RX0 101 Lib.Math.max.name, Cond.methodLink RL 75 yX7_ready, Cond.instanceMethod yX7_ready, Cond.selects RX7 yX7_ready yX7_ready, Cond.code yX7_ready cX7_ready 2 (some .int), Cond.methodLink RX7 157 yX7_when, Cond.instanceMethod yX7_when, Cond.selects RX7 yX7_when yX7_when, Cond.code yX7_when cX7_when 7 (some .int)]
def wsL_law_r29 : List Cond := [Cond.methodLink RL 76 yX6_mixed, Cond.instanceMethod yX6_mixed, Cond.selects RX6 yX6_mixed yX6_mixed, Cond.code yX6_mixed cX6_mixed 1 (some .int), Cond.methodLink RX6 177 yX2_mixedIn, Cond.instanceMethod yX2_mixedIn, Cond.selects RX2 yX2_mixedIn yX2_mixedIn, Cond.code yX2_mixedIn cX2_mixedIn 3 (some .int), Cond.methodLink RX2 50 yX2_begin, Cond.methodLink RX2 54 yX2_putOut, Cond.methodLink RL 79 yX7_mixed, Cond.instanceMethod yX7_mixed, Cond.selects RX7 yX7_mixed yX7_mixed, Cond.code yX7_mixed cX7_mixed 1 (some .int), Cond.methodLink RX7 160 yX7_mixing, Cond.instanceMethod yX7_mixing, Cond.selects RX7 yX7_mixing yX7_mixing, Cond.code yX7_mixing cX7_mixing 3 (some .int), Cond.methodLink RL 80 yX6_byKind, Cond.instanceMethod yX6_byKind, Cond.selects RX6 yX6_byKind yX6_byKind, Cond.code yX6_byKind cX6_byKind 5 (some .int), Cond.constant RX6 186 (2147483647), Cond.methodLink RL 83 yX7_byKind]
def wsL_law_r30 : List Cond := [Cond.instanceMethod yX7_byKind, Cond.selects RX7 yX7_byKind yX7_byKind, Cond.code yX7_byKind cX7_byKind 6 (some .int), Cond.methodLink RX7 163 yX7_mixed, Cond.methodLink RL 84 yX6_send, Cond.instanceMethod yX6_send, Cond.selects RX6 yX6_send yX6_send, Cond.code yX6_send cX6_send 7 (some .int), Cond.methodLink RL 87 yX7_send, Cond.instanceMethod yX7_send, Cond.selects RX7 yX7_send yX7_send, Cond.code yX7_send cX7_send 8 (some .int), Cond.methodLink RL 88 yX6_two, Cond.instanceMethod yX6_two, Cond.selects RX6 yX6_two yX6_two, Cond.code yX6_two cX6_two 3 (some .int), Cond.methodLink RX6 187 yX6_areTwoJobs, Cond.instanceMethod yX6_areTwoJobs, Cond.selects RX6 yX6_areTwoJobs yX6_areTwoJobs, Cond.code yX6_areTwoJobs cX6_areTwoJobs 3 (some .boolean), Cond.methodLink RX6 191 yX3_waysOfThree, Cond.instanceMethod yX3_waysOfThree, Cond.selects RX3 yX3_waysOfThree yX3_waysOfThree, Cond.code yX3_waysOfThree cX3_waysOfThree 7 (some .int)]
def wsL_law_r31 : List Cond := [Cond.methodLink RX3 28 yX3_at, Cond.static yX3_at, Cond.code yX3_at cX3_at 3 (some .int), Cond.methodLink RX3 32 yX3_waysTo, Cond.instanceMethod yX3_waysTo, Cond.selects RX3 yX3_waysTo yX3_waysTo, Cond.code yX3_waysTo cX3_waysTo 7 (some .int), Cond.methodLink RL 91 yX7_two, Cond.instanceMethod yX7_two, Cond.selects RX7 yX7_two yX7_two, Cond.code yX7_two cX7_two 3 (some .int), Cond.methodLink RX7 169 yX7_together, Cond.instanceMethod yX7_together, Cond.selects RX7 yX7_together yX7_together, Cond.code yX7_together cX7_together 9 (some .int), Cond.fieldLink RX7 166 "WhosePageModel" "lined" "I", Cond.methodLink RL 92 yX6_three, Cond.instanceMethod yX6_three, Cond.selects RX6 yX6_three yX6_three, Cond.code yX6_three cX6_three 4 (some .int), Cond.methodLink RL 96 yX7_three, Cond.instanceMethod yX7_three, Cond.selects RX7 yX7_three yX7_three, Cond.code yX7_three cX7_three 4 (some .int)]
def wsL_law_r32 : List Cond := [Cond.methodLink RL 97 yX6_parts, Cond.instanceMethod yX6_parts, Cond.selects RX6 yX6_parts yX6_parts, Cond.code yX6_parts cX6_parts 1 (some .int), Cond.methodLink RX6 195 yX3_fewestParts, Cond.instanceMethod yX3_fewestParts, Cond.selects RX3 yX3_fewestParts yX3_fewestParts, Cond.code yX3_fewestParts cX3_fewestParts 6 (some .int), Cond.methodLink RX3 41 Lib.Math.max.name, Cond.methodLink RX3 35 yJ7_fill_53178, Cond.methodLink RL 100 yX7_parts, Cond.instanceMethod yX7_parts, Cond.selects RX7 yX7_parts yX7_parts, Cond.code yX7_parts cX7_parts 5 (some .int), Cond.methodLink RX7 172 Lib.Math.max.name, Cond.methodLink RL 101 yX6_lacks, Cond.instanceMethod yX6_lacks, Cond.selects RX6 yX6_lacks yX6_lacks, Cond.code yX6_lacks cX6_lacks 2 (some .int), Cond.methodLink RX6 198 yX3_numbersLacking, Cond.instanceMethod yX3_numbersLacking, Cond.selects RX3 yX3_numbersLacking yX3_numbersLacking, Cond.code yX3_numbersLacking cX3_numbersLacking 5 (some .int), Cond.methodLink RL 104 yX7_lacks]
def wsL_law_r33 : List Cond := [Cond.instanceMethod yX7_lacks, Cond.selects RX7 yX7_lacks yX7_lacks, Cond.code yX7_lacks cX7_lacks 4 (some .int), Cond.methodLink RL 105 yX6_laps, Cond.instanceMethod yX6_laps, Cond.selects RX6 yX6_laps yX6_laps, Cond.code yX6_laps cX6_laps 2 (some .int), Cond.methodLink RX6 202 yX3_fewestLaps, Cond.instanceMethod yX3_fewestLaps, Cond.selects RX3 yX3_fewestLaps yX3_fewestLaps, Cond.code yX3_fewestLaps cX3_fewestLaps 5 (some .int), Cond.methodLink RX3 51 yX3_runsBySize, Cond.instanceMethod yX3_runsBySize, Cond.selects RX3 yX3_runsBySize yX3_runsBySize, Cond.code yX3_runsBySize cX3_runsBySize 4 (some .int), Cond.methodLink RL 108 yX7_laps, Cond.instanceMethod yX7_laps, Cond.selects RX7 yX7_laps yX7_laps, Cond.code yX7_laps cX7_laps 6 (some .int), Cond.methodLink RX7 178 yX7_firstPlace, Cond.instanceMethod yX7_firstPlace, Cond.selects RX7 yX7_firstPlace yX7_firstPlace, Cond.code yX7_firstPlace cX7_firstPlace 3 (some .int), Cond.methodLink RL 109 yX6_waits]
def wsL_law_r34 : List Cond := [Cond.instanceMethod yX6_waits, Cond.selects RX6 yX6_waits yX6_waits, Cond.code yX6_waits cX6_waits 5 (some .int), Cond.methodLink RX6 205 Lib.Math.max.name, Cond.methodLink RL 112 yX7_waits_, Cond.instanceMethod yX7_waits_, Cond.selects RX7 yX7_waits_ yX7_waits_, Cond.code yX7_waits_ cX7_waits_ 5 (some .int), Cond.methodLink RL 113 yX6_vain, Cond.instanceMethod yX6_vain, Cond.selects RX6 yX6_vain yX6_vain, Cond.code yX6_vain cX6_vain 7 (some .int), Cond.methodLink RL 116 yX7_vain, Cond.instanceMethod yX7_vain, Cond.selects RX7 yX7_vain yX7_vain, Cond.code yX7_vain cX7_vain 7 (some .int), Cond.methodLink RL 117 yX6_seen, Cond.instanceMethod yX6_seen, Cond.selects RX6 yX6_seen yX6_seen, Cond.code yX6_seen cX6_seen 5 (some .int), Cond.methodLink RX6 210 yX0_begin, Cond.methodLink RX6 213 yX0_passMinute, Cond.methodLink RX6 216 yX5_looksAs, Cond.instanceMethod yX5_looksAs]
def wsL_law_r35 : List Cond := [Cond.selects RX5 yX5_looksAs yX5_looksAs, Cond.code yX5_looksAs cX5_looksAs 3 (some .boolean), Cond.fieldLink RX5 28 "WhosePage$Row" "many" "I", Cond.fieldLink RX5 35 "WhosePage$Row" "numbers" "[I", Cond.methodLink RX5 31 yX5_fromTop, Cond.methodLink RL 120 yX7_seen, Cond.instanceMethod yX7_seen, Cond.selects RX7 yX7_seen yX7_seen, Cond.code yX7_seen cX7_seen 7 (some .int), Cond.methodLink RL 121 yX6_row, Cond.instanceMethod yX6_row, Cond.selects RX6 yX6_row yX6_row, Cond.code yX6_row cX6_row 2 (some .int), Cond.fieldLink RX6 220 "WhosePage$Row" "many" "I", Cond.methodLink RX6 221 yX3_add, Cond.instanceMethod yX3_add, Cond.selects RX3 yX3_add yX3_add, Cond.code yX3_add cX3_add 2 (some .int), Cond.methodLink RL 124 yX7_row, Cond.instanceMethod yX7_row, Cond.selects RX7 yX7_row yX7_row, Cond.code yX7_row cX7_row 2 (some .int), Cond.methodLink RL 125 yX6_judge, Cond.instanceMethod yX6_judge]
def wsL_law_r36 : List Cond := [Cond.selects RX6 yX6_judge yX6_judge, Cond.code yX6_judge cX6_judge 3 (some .int), Cond.fieldLink RX6 222 "WhosePage$Row" "numbers" "[I", Cond.methodLink RX6 225 yX3_clear, Cond.instanceMethod yX3_clear, Cond.selects RX3 yX3_clear yX3_clear, Cond.code yX3_clear cX3_clear 1 none, Cond.methodLink RL 128 yX7_judge, Cond.instanceMethod yX7_judge, Cond.selects RX7 yX7_judge yX7_judge, Cond.code yX7_judge cX7_judge 3 (some .int), Cond.methodLink RL 129 yX6_lots, Cond.instanceMethod yX6_lots, Cond.selects RX6 yX6_lots yX6_lots, Cond.code yX6_lots cX6_lots 7 (some .int), Cond.fieldLink RX6 226 "WhosePage$Plan" "jobs" "I", Cond.constant RX6 229 (1664525), Cond.constant RX6 230 (1013904223), Cond.methodLink RL 132 yX7_lots, Cond.instanceMethod yX7_lots, Cond.selects RX7 yX7_lots yX7_lots, Cond.code yX7_lots cX7_lots 8 (some .int), Cond.constant RX7 181 (1664525), Cond.constant RX7 182 (1013904223)]
def wsL_law_r37 : List Cond := [Cond.constant RX7 183 (2147483647), Cond.methodLink RL 133 yX6_image, Cond.instanceMethod yX6_image, Cond.selects RX6 yX6_image yX6_image, Cond.code yX6_image cX6_image 1 (some .int), Cond.methodLink RL 136 yX7_image, Cond.instanceMethod yX7_image, Cond.selects RX7 yX7_image yX7_image, Cond.code yX7_image cX7_image 2 (some .int), Cond.fieldLink RX7 60 "WhosePageModel" "kept" "Z", Cond.methodLink RL 137 yX6_on, Cond.instanceMethod yX6_on, Cond.selects RX6 yX6_on yX6_on, Cond.code yX6_on cX6_on 1 (some .int), Cond.methodLink RL 140 yX7_on, Cond.instanceMethod yX7_on, Cond.selects RX7 yX7_on yX7_on, Cond.code yX7_on cX7_on 2 (some .int), Cond.methodLink RL 141 yX6_count, Cond.instanceMethod yX6_count, Cond.selects RX6 yX6_count yX6_count, Cond.code yX6_count cX6_count 2 (some .int), Cond.fieldLink RX6 234 "WhosePage$Plan" "takers" "I", Cond.methodLink RX6 231 yX1_allSheets]
def wsL_law_r38 : List Cond := [Cond.methodLink RX6 237 yX6_refusalsCounted, Cond.instanceMethod yX6_refusalsCounted, Cond.selects RX6 yX6_refusalsCounted yX6_refusalsCounted, Cond.code yX6_refusalsCounted cX6_refusalsCounted 2 (some .int), Cond.methodLink RL 144 yX7_count, Cond.instanceMethod yX7_count, Cond.selects RX7 yX7_count yX7_count, Cond.code yX7_count cX7_count 4 (some .int)]
def wsL_law : List Cond := (wsL_law_r1 ++ (wsL_law_r2 ++ (wsL_law_r3 ++ (wsL_law_r4 ++ (wsL_law_r5 ++ (wsL_law_r6 ++ (wsL_law_r7 ++ (wsL_law_r8 ++ (wsL_law_r9 ++ (wsL_law_r10 ++ (wsL_law_r11 ++ (wsL_law_r12 ++ (wsL_law_r13 ++ (wsL_law_r14 ++ (wsL_law_r15 ++ (wsL_law_r16 ++ (wsL_law_r17 ++ (wsL_law_r18 ++ (wsL_law_r19 ++ (wsL_law_r20 ++ (wsL_law_r21 ++ (wsL_law_r22 ++ (wsL_law_r23 ++ (wsL_law_r24 ++ (wsL_law_r25 ++ (wsL_law_r26 ++ (wsL_law_r27 ++ (wsL_law_r28 ++ (wsL_law_r29 ++ (wsL_law_r30 ++ (wsL_law_r31 ++ (wsL_law_r32 ++ (wsL_law_r33 ++ (wsL_law_r34 ++ (wsL_law_r35 ++ (wsL_law_r36 ++ (wsL_law_r37 ++ wsL_law_r38))))))))))))))))))))))))))))))))))))) ++ wsX60 ++ wsX70 ++ wsX10 ++ wsX40 ++ wsX20 ++ wsX00 ++ wsX30 ++ wsX50 ++ ([] : List Cond)
set_option maxRecDepth 20000 in
theorem wsL_law_in : ∀ w ∈ wsL_law, w ∈ lw_tbl := fun w h => (goodIn_p wsL_law [65, 68, 73, 139, 172, 194, 202, 244, 800, 297, 301, 305, 892, 888, 309, 313, 317, 321, 325, 329, 333, 337, 342, 346, 350, 354, 360, 364, 367, 373, 376, 370, 379, 382, 388, 391, 394, 397, 402, 405, 408, 417, 420, 423, 427, 433, 437, 445, 449, 452, 456, 460, 464, 896, 900, 904, 908, 912, 916, 920, 924, 469, 473, 928, 932, 477, 481, 936, 940, 485, 944, 948, 489, 952, 496, 956, 500, 503, 507, 511, 515, 519, 523, 526, 530, 534, 538, 542, 546, 549, 553, 558, 562, 567, 571, 575, 579, 583, 587, 590, 594, 598, 960, 964, 968, 972, 976, 980, 984, 988, 992, 602, 996, 606, 611, 1000, 615, 620, 624, 1004, 1008, 1012, 629, 634, 1016, 638, 642, 1020, 646, 650, 1024, 654, 658, 662, 1028, 1032, 667, 671, 1036, 1040, 677, 1044, 682, 1049, 686, 690, 694, 697, 701, 1053, 1057, 705, 1061, 709, 713, 1065, 719, 723, 1070, 728, 732, 736, 1074, 1078, 740, 1082, 745, 1086, 749, 755, 1090, 760, 764, 1094, 768, 772, 1098, 776, 1102, 782, 880, 786, 884, 790, 795, 1109] (by decide +kernel) (by decide +kernel) w h).1
theorem inlX0 : ∀ w ∈ wsX00, w ∈ wsL_law := fun _ h => List.mem_append_left _ (List.mem_append_left _ (List.mem_append_left _ (List.mem_append_right _ h)))
theorem inX0 : ∀ w ∈ wsX00, w ∈ lw_tbl := fun w h => wsL_law_in w (inlX0 w h)
theorem inlX1 : ∀ w ∈ wsX10, w ∈ wsL_law := fun _ h => List.mem_append_left _ (List.mem_append_left _ (List.mem_append_left _ (List.mem_append_left _ (List.mem_append_left _ (List.mem_append_left _ (List.mem_append_right _ h))))))
theorem inX1 : ∀ w ∈ wsX10, w ∈ lw_tbl := fun w h => wsL_law_in w (inlX1 w h)
theorem inlX2 : ∀ w ∈ wsX20, w ∈ wsL_law := fun _ h => List.mem_append_left _ (List.mem_append_left _ (List.mem_append_left _ (List.mem_append_left _ (List.mem_append_right _ h))))
theorem inX2 : ∀ w ∈ wsX20, w ∈ lw_tbl := fun w h => wsL_law_in w (inlX2 w h)
theorem inlX3 : ∀ w ∈ wsX30, w ∈ wsL_law := fun _ h => List.mem_append_left _ (List.mem_append_left _ (List.mem_append_right _ h))
theorem inX3 : ∀ w ∈ wsX30, w ∈ lw_tbl := fun w h => wsL_law_in w (inlX3 w h)
theorem inlX4 : ∀ w ∈ wsX40, w ∈ wsL_law := fun _ h => List.mem_append_left _ (List.mem_append_left _ (List.mem_append_left _ (List.mem_append_left _ (List.mem_append_left _ (List.mem_append_right _ h)))))
theorem inX4 : ∀ w ∈ wsX40, w ∈ lw_tbl := fun w h => wsL_law_in w (inlX4 w h)
theorem inlX5 : ∀ w ∈ wsX50, w ∈ wsL_law := fun _ h => List.mem_append_left _ (List.mem_append_right _ h)
theorem inX5 : ∀ w ∈ wsX50, w ∈ lw_tbl := fun w h => wsL_law_in w (inlX5 w h)
theorem inlX6 : ∀ w ∈ wsX60, w ∈ wsL_law := fun _ h => List.mem_append_left _ (List.mem_append_left _ (List.mem_append_left _ (List.mem_append_left _ (List.mem_append_left _ (List.mem_append_left _ (List.mem_append_left _ (List.mem_append_left _ (List.mem_append_right _ h))))))))
theorem inX6 : ∀ w ∈ wsX60, w ∈ lw_tbl := fun w h => wsL_law_in w (inlX6 w h)
theorem inlX7 : ∀ w ∈ wsX70, w ∈ wsL_law := fun _ h => List.mem_append_left _ (List.mem_append_left _ (List.mem_append_left _ (List.mem_append_left _ (List.mem_append_left _ (List.mem_append_left _ (List.mem_append_left _ (List.mem_append_right _ h)))))))
theorem inX7 : ∀ w ∈ wsX70, w ∈ lw_tbl := fun w h => wsL_law_in w (inlX7 w h)
theorem inJx145de : ∀ w ∈ wsJx145de0, w ∈ lw_tbl := by decide +kernel
theorem inJx9f9b0 : ∀ w ∈ wsJx9f9b00, w ∈ lw_tbl := by decide +kernel
theorem inJ11 : ∀ w ∈ wsJ110, w ∈ lw_tbl := by decide +kernel
theorem inJxb160c : ∀ w ∈ wsJxb160c0, w ∈ lw_tbl := by decide +kernel
theorem inJ9 : ∀ w ∈ wsJ90, w ∈ lw_tbl := by decide +kernel
theorem inJ0 : ∀ w ∈ wsJ00, w ∈ lw_tbl := by decide +kernel
theorem inJ1 : ∀ w ∈ wsJ10, w ∈ lw_tbl := by decide +kernel
theorem inJ2 : ∀ w ∈ wsJ20, w ∈ lw_tbl := by decide +kernel
theorem inJ10 : ∀ w ∈ wsJ100, w ∈ lw_tbl := by decide +kernel
theorem inJxfd54e : ∀ w ∈ wsJxfd54e0, w ∈ lw_tbl := by decide +kernel
theorem inJx3cf43 : ∀ w ∈ wsJx3cf430, w ∈ lw_tbl := by decide +kernel
theorem inJ7 : ∀ w ∈ wsJ70, w ∈ lw_tbl := by decide +kernel
theorem inJ3 : ∀ w ∈ wsJ30, w ∈ lw_tbl := by decide +kernel
abbrev vwCl : List vw_C := [(RX0, TX0, 7), (RX1, TX1, 11), (RX2, TX2, 5), (RX3, TX3, 5), (RX4, TX4, 8), (RX5, TX5, 3), (RX6, TX6, 9), (RX7, TX7, 24)]
