/-! ===== BEGIN words of one list among another's, by their places ===== -/
theorem goodIn_r {big : List Cond} (ws : List Cond) (ps : List Nat) (hp : ws = ps.filterMap (fun i => big[i]?)) (h : ws.all goodWord = true) : GoodIn big ws := by
  intro w hw
  have h1 := List.all_eq_true.mp h w hw
  rw [hp] at hw
  obtain ⟨i, -, hi⟩ := List.mem_filterMap.mp hw
  have hm : w ∈ big := by first | exact List.mem_of_getElem? hi | exact List.getElem?_mem hi
  exact ⟨hm, good_of_word h1⟩
theorem goodIn_app {big a b : List Cond} (ha : GoodIn big a) (hb : GoodIn big b) : GoodIn big (a ++ b) := fun w h => (List.mem_append.mp h).elim (ha w) (hb w)
theorem goodIn_ca {big a b : List Cond} {c : Cond} (ha : GoodIn big (c :: a)) (hb : GoodIn big b) : GoodIn big (c :: (a ++ b)) := fun w h => (List.mem_cons.mp h).elim (fun e => ha w (List.mem_cons.mpr (Or.inl e))) (fun h => (List.mem_append.mp h).elim (fun h => ha w (List.mem_cons.mpr (Or.inr h))) (hb w))
theorem goodIn_sub {big ws : List Cond} (hm : ∀ w ∈ ws, w ∈ big) (h : ws.all goodWord = true) : GoodIn big ws := fun w hw => ⟨hm w hw, good_of_word (List.all_eq_true.mp h w hw)⟩
/-! ===== END ===== -/

/-! ===== BEGIN printed: names, fields, word lists, decode rows ===== -/
def RX0 : String := "WhosePage$Day"
def TX0 : u_T := fun k => match k with
  | 0 => ("WhosePage$Day", "press", "LWhosePage$Press;", true)
  | 1 => ("WhosePage$Day", "tray", "LWhosePage$Tray;", true)
  | 2 => ("WhosePage$Day", "outSheets", "[I", true)
  | 3 => ("WhosePage$Day", "outMinutes", "[I", true)
  | 4 => ("WhosePage$Day", "outs", "I", false)
  | 5 => ("WhosePage$Day", "firstOut", "[I", true)
  | _ => ("WhosePage$Day", "holders", "[I", true)
def tyX0 : Nat → FieldType := fun k => match k with
  | 0 => .object "WhosePage$Press"
  | 1 => .object "WhosePage$Tray"
  | 2 => .array .int
  | 3 => .array .int
  | 4 => .int
  | 5 => .array .int
  | _ => .array .int
theorem nmX0 : ∀ a, a < 7 → ∀ b, b < 7 → a ≠ b → (TX0 a).2.1 ≠ (TX0 b).2.1 := by decide +kernel
theorem tyX0_ok : ∀ k, k < 7 → parseFieldDescriptor (TX0 k).2.2.1 = some (tyX0 k) := by decide +kernel
abbrev cX0_init : ByteArray := prog_2_method_1_code
def yX0_init : MethodName := ⟨RX0, "<init>", "()V"⟩
abbrev cX0_begin : ByteArray := prog_2_method_2_code
def yX0_begin : MethodName := ⟨RX0, "begin", "(LWhosePage$Plan;)V"⟩
abbrev cX0_passThrough : ByteArray := prog_2_method_3_code
def yX0_passThrough : MethodName := ⟨RX0, "passThrough", "(LWhosePage$Plan;I)V"⟩
abbrev cX0_passMinute : ByteArray := prog_2_method_4_code
def yX0_passMinute : MethodName := ⟨RX0, "passMinute", "(LWhosePage$Plan;I)V"⟩
abbrev cX0_noteOut : ByteArray := prog_2_method_5_code
def yX0_noteOut : MethodName := ⟨RX0, "noteOut", "(II)V"⟩
abbrev cX0_sheetOut : ByteArray := prog_2_method_6_code
def yX0_sheetOut : MethodName := ⟨RX0, "sheetOut", "(I)I"⟩
abbrev cX0_minuteOut : ByteArray := prog_2_method_7_code
def yX0_minuteOut : MethodName := ⟨RX0, "minuteOut", "(I)I"⟩
abbrev cX0_holderOf : ByteArray := prog_2_method_8_code
def yX0_holderOf : MethodName := ⟨RX0, "holderOf", "(I)I"⟩
abbrev cX0_heldBy : ByteArray := prog_2_method_9_code
def yX0_heldBy : MethodName := ⟨RX0, "heldBy", "(LWhosePage$Plan;IZ)I"⟩
abbrev cX0_othersWith : ByteArray := prog_2_method_10_code
def yX0_othersWith : MethodName := ⟨RX0, "othersWith", "(LWhosePage$Plan;I)I"⟩
abbrev cX0_lastFirstOut : ByteArray := prog_2_method_11_code
def yX0_lastFirstOut : MethodName := ⟨RX0, "lastFirstOut", "(LWhosePage$Plan;I)I"⟩
def RX1 : String := "WhosePage$Plan"
def TX1 : u_T := fun k => match k with
  | 0 => ("WhosePage$Plan", "jobOwner", "[I", true)
  | 1 => ("WhosePage$Plan", "jobSheets", "[I", true)
  | 2 => ("WhosePage$Plan", "jobSent", "[I", true)
  | 3 => ("WhosePage$Plan", "takerKind", "[I", true)
  | 4 => ("WhosePage$Plan", "takerOwner", "[I", true)
  | 5 => ("WhosePage$Plan", "takerFigure", "[I", true)
  | 6 => ("WhosePage$Plan", "takerMinute", "[I", true)
  | 7 => ("WhosePage$Plan", "jobs", "I", false)
  | 8 => ("WhosePage$Plan", "takers", "I", false)
  | 9 => ("WhosePage$Plan", "kind", "I", false)
  | _ => ("WhosePage$Plan", "stop", "I", false)
def tyX1 : Nat → FieldType := fun k => match k with
  | 0 => .array .int
  | 1 => .array .int
  | 2 => .array .int
  | 3 => .array .int
  | 4 => .array .int
  | 5 => .array .int
  | 6 => .array .int
  | 7 => .int
  | 8 => .int
  | 9 => .int
  | _ => .int
theorem nmX1 : ∀ a, a < 11 → ∀ b, b < 11 → a ≠ b → (TX1 a).2.1 ≠ (TX1 b).2.1 := by decide +kernel
theorem tyX1_ok : ∀ k, k < 11 → parseFieldDescriptor (TX1 k).2.2.1 = some (tyX1 k) := by decide +kernel
abbrev cX1_init : ByteArray := prog_3_method_1_code
def yX1_init : MethodName := ⟨RX1, "<init>", "()V"⟩
abbrev cX1_hasJob : ByteArray := prog_3_method_2_code
def yX1_hasJob : MethodName := ⟨RX1, "hasJob", "(I)Z"⟩
abbrev cX1_hasTaker : ByteArray := prog_3_method_3_code
def yX1_hasTaker : MethodName := ⟨RX1, "hasTaker", "(I)Z"⟩
abbrev cX1_hasSheet : ByteArray := prog_3_method_4_code
def yX1_hasSheet : MethodName := ⟨RX1, "hasSheet", "(I)Z"⟩
abbrev cX1_isOf : ByteArray := prog_3_method_5_code
def yX1_isOf : MethodName := ⟨RX1, "isOf", "(II)Z"⟩
abbrev cX1_addJob : ByteArray := prog_3_method_6_code
def yX1_addJob : MethodName := ⟨RX1, "addJob", "(III)Z"⟩
abbrev cX1_addTaker : ByteArray := prog_3_method_7_code
def yX1_addTaker : MethodName := ⟨RX1, "addTaker", "(IIII)Z"⟩
abbrev cX1_setMachine : ByteArray := prog_3_method_8_code
def yX1_setMachine : MethodName := ⟨RX1, "setMachine", "(II)V"⟩
abbrev cX1_allSheets : ByteArray := prog_3_method_9_code
def yX1_allSheets : MethodName := ⟨RX1, "allSheets", "()I"⟩
abbrev cX1_sheetsOf : ByteArray := prog_3_method_10_code
def yX1_sheetsOf : MethodName := ⟨RX1, "sheetsOf", "(I)I"⟩
abbrev cX1_jobsOf : ByteArray := prog_3_method_11_code
def yX1_jobsOf : MethodName := ⟨RX1, "jobsOf", "(I)I"⟩
abbrev cX1_copyFrom : ByteArray := prog_3_method_12_code
def yX1_copyFrom : MethodName := ⟨RX1, "copyFrom", "(LWhosePage$Plan;)V"⟩
def RX2 : String := "WhosePage$Press"
def TX2 : u_T := fun k => match k with
  | 0 => ("WhosePage$Press", "left", "[I", true)
  | 1 => ("WhosePage$Press", "leftInAll", "I", false)
  | 2 => ("WhosePage$Press", "latest", "I", false)
  | 3 => ("WhosePage$Press", "sinceAgain", "I", false)
  | _ => ("WhosePage$Press", "mixed", "I", false)
def tyX2 : Nat → FieldType := fun k => match k with
  | 0 => .array .int
  | 1 => .int
  | 2 => .int
  | 3 => .int
  | _ => .int
theorem nmX2 : ∀ a, a < 5 → ∀ b, b < 5 → a ≠ b → (TX2 a).2.1 ≠ (TX2 b).2.1 := by decide +kernel
theorem tyX2_ok : ∀ k, k < 5 → parseFieldDescriptor (TX2 k).2.2.1 = some (tyX2 k) := by decide +kernel
abbrev cX2_init : ByteArray := prog_4_method_1_code
def yX2_init : MethodName := ⟨RX2, "<init>", "()V"⟩
abbrev cX2_begin : ByteArray := prog_4_method_2_code
def yX2_begin : MethodName := ⟨RX2, "begin", "(LWhosePage$Plan;)V"⟩
abbrev cX2_putOut : ByteArray := prog_4_method_3_code
def yX2_putOut : MethodName := ⟨RX2, "putOut", "(LWhosePage$Plan;I)I"⟩
abbrev cX2_mixedIn : ByteArray := prog_4_method_4_code
def yX2_mixedIn : MethodName := ⟨RX2, "mixedIn", "(LWhosePage$Plan;)I"⟩
abbrev cX2_chosenJob : ByteArray := prog_4_method_5_code
def yX2_chosenJob : MethodName := ⟨RX2, "chosenJob", "(LWhosePage$Plan;I)I"⟩
abbrev cX2_isAhead : ByteArray := prog_4_method_6_code
def yX2_isAhead : MethodName := ⟨RX2, "isAhead", "(LWhosePage$Plan;II)Z"⟩
abbrev cX2_turnsUntil : ByteArray := prog_4_method_7_code
def yX2_turnsUntil : MethodName := ⟨RX2, "turnsUntil", "(I)I"⟩
def RX3 : String := "WhosePage$Row"
def TX3 : u_T := fun k => match k with
  | 0 => ("WhosePage$Row", "numbers", "[I", true)
  | 1 => ("WhosePage$Row", "many", "I", false)
  | 2 => ("WhosePage$Row", "ways", "[I", true)
  | 3 => ("WhosePage$Row", "longest", "[I", true)
  | _ => ("WhosePage$Row", "firstPlace", "[I", true)
def tyX3 : Nat → FieldType := fun k => match k with
  | 0 => .array .int
  | 1 => .int
  | 2 => .array .int
  | 3 => .array .int
  | _ => .array .int
theorem nmX3 : ∀ a, a < 5 → ∀ b, b < 5 → a ≠ b → (TX3 a).2.1 ≠ (TX3 b).2.1 := by decide +kernel
theorem tyX3_ok : ∀ k, k < 5 → parseFieldDescriptor (TX3 k).2.2.1 = some (tyX3 k) := by decide +kernel
abbrev cX3_init : ByteArray := prog_5_method_1_code
def yX3_init : MethodName := ⟨RX3, "<init>", "()V"⟩
abbrev cX3_add : ByteArray := prog_5_method_2_code
def yX3_add : MethodName := ⟨RX3, "add", "(I)I"⟩
abbrev cX3_clear : ByteArray := prog_5_method_3_code
def yX3_clear : MethodName := ⟨RX3, "clear", "()V"⟩
abbrev cX3_waysOfThree : ByteArray := prog_5_method_4_code
def yX3_waysOfThree : MethodName := ⟨RX3, "waysOfThree", "(III)I"⟩
abbrev cX3_waysTo : ByteArray := prog_5_method_5_code
def yX3_waysTo : MethodName := ⟨RX3, "waysTo", "(III)I"⟩
abbrev cX3_at : ByteArray := prog_5_method_6_code
def yX3_at : MethodName := ⟨RX3, "at", "(III)I"⟩
abbrev cX3_fewestParts : ByteArray := prog_5_method_7_code
def yX3_fewestParts : MethodName := ⟨RX3, "fewestParts", "()I"⟩
abbrev cX3_numbersLacking : ByteArray := prog_5_method_8_code
def yX3_numbersLacking : MethodName := ⟨RX3, "numbersLacking", "(II)I"⟩
abbrev cX3_fewestLaps : ByteArray := prog_5_method_9_code
def yX3_fewestLaps : MethodName := ⟨RX3, "fewestLaps", "(I)I"⟩
abbrev cX3_runsBySize : ByteArray := prog_5_method_10_code
def yX3_runsBySize : MethodName := ⟨RX3, "runsBySize", "()I"⟩
def RX4 : String := "WhosePage$Text"
def TX4 : u_T := fun k => match k with
  | 0 => ("WhosePage$Text", "letters", "[I", true)
  | 1 => ("WhosePage$Text", "many", "I", false)
  | 2 => ("WhosePage$Text", "place", "I", false)
  | 3 => ("WhosePage$Text", "head", "I", false)
  | 4 => ("WhosePage$Text", "kind", "I", false)
  | 5 => ("WhosePage$Text", "owner", "I", false)
  | 6 => ("WhosePage$Text", "figure", "I", false)
  | _ => ("WhosePage$Text", "minute", "I", false)
def tyX4 : Nat → FieldType := fun k => match k with
  | 0 => .array .int
  | 1 => .int
  | 2 => .int
  | 3 => .int
  | 4 => .int
  | 5 => .int
  | 6 => .int
  | _ => .int
theorem nmX4 : ∀ a, a < 8 → ∀ b, b < 8 → a ≠ b → (TX4 a).2.1 ≠ (TX4 b).2.1 := by decide +kernel
theorem tyX4_ok : ∀ k, k < 8 → parseFieldDescriptor (TX4 k).2.2.1 = some (tyX4 k) := by decide +kernel
abbrev cX4_init : ByteArray := prog_6_method_1_code
def yX4_init : MethodName := ⟨RX4, "<init>", "()V"⟩
abbrev cX4_add : ByteArray := prog_6_method_2_code
def yX4_add : MethodName := ⟨RX4, "add", "(I)I"⟩
abbrev cX4_clear : ByteArray := prog_6_method_3_code
def yX4_clear : MethodName := ⟨RX4, "clear", "()V"⟩
abbrev cX4_wrongPlace : ByteArray := prog_6_method_4_code
def yX4_wrongPlace : MethodName := ⟨RX4, "wrongPlace", "()I"⟩
abbrev cX4_readStatement : ByteArray := prog_6_method_5_code
def yX4_readStatement : MethodName := ⟨RX4, "readStatement", "()Z"⟩
abbrev cX4_tellTo : ByteArray := prog_6_method_6_code
def yX4_tellTo : MethodName := ⟨RX4, "tellTo", "(LWhosePage$Plan;)Z"⟩
abbrev cX4_readOwnerFigureMinute : ByteArray := prog_6_method_7_code
def yX4_readOwnerFigureMinute : MethodName := ⟨RX4, "readOwnerFigureMinute", "()Z"⟩
abbrev cX4_readKind : ByteArray := prog_6_method_8_code
def yX4_readKind : MethodName := ⟨RX4, "readKind", "(Ljava/lang/String;)Z"⟩
abbrev cX4_readFigure : ByteArray := prog_6_method_9_code
def yX4_readFigure : MethodName := ⟨RX4, "readFigure", "()Z"⟩
abbrev cX4_readMinute : ByteArray := prog_6_method_10_code
def yX4_readMinute : MethodName := ⟨RX4, "readMinute", "()Z"⟩
abbrev cX4_readDigit : ByteArray := prog_6_method_11_code
def yX4_readDigit : MethodName := ⟨RX4, "readDigit", "()I"⟩
abbrev cX4_readSign : ByteArray := prog_6_method_12_code
def yX4_readSign : MethodName := ⟨RX4, "readSign", "(C)Z"⟩
def RX5 : String := "WhosePage$Tray"
def TX5 : u_T := fun k => match k with
  | 0 => ("WhosePage$Tray", "sheets", "[I", true)
  | 1 => ("WhosePage$Tray", "numbersLying", "[I", true)
  | _ => ("WhosePage$Tray", "many", "I", false)
def tyX5 : Nat → FieldType := fun k => match k with
  | 0 => .array .int
  | 1 => .array .int
  | _ => .int
theorem nmX5 : ∀ a, a < 3 → ∀ b, b < 3 → a ≠ b → (TX5 a).2.1 ≠ (TX5 b).2.1 := by decide +kernel
theorem tyX5_ok : ∀ k, k < 3 → parseFieldDescriptor (TX5 k).2.2.1 = some (tyX5 k) := by decide +kernel
abbrev cX5_init : ByteArray := prog_7_method_1_code
def yX5_init : MethodName := ⟨RX5, "<init>", "()V"⟩
abbrev cX5_putUpon : ByteArray := prog_7_method_2_code
def yX5_putUpon : MethodName := ⟨RX5, "putUpon", "(I)V"⟩
abbrev cX5_putBeneath : ByteArray := prog_7_method_3_code
def yX5_putBeneath : MethodName := ⟨RX5, "putBeneath", "(I)V"⟩
abbrev cX5_fromTop : ByteArray := prog_7_method_4_code
def yX5_fromTop : MethodName := ⟨RX5, "fromTop", "(I)I"⟩
abbrev cX5_looksAs : ByteArray := prog_7_method_5_code
def yX5_looksAs : MethodName := ⟨RX5, "looksAs", "(LWhosePage$Row;)Z"⟩
abbrev cX5_giveTo : ByteArray := prog_7_method_6_code
def yX5_giveTo : MethodName := ⟨RX5, "giveTo", "(LWhosePage$Plan;I[I)V"⟩
abbrev cX5_jobsWanted : ByteArray := prog_7_method_7_code
def yX5_jobsWanted : MethodName := ⟨RX5, "jobsWanted", "(LWhosePage$Plan;II)I"⟩
abbrev cX5_wholeJobs : ByteArray := prog_7_method_8_code
def yX5_wholeJobs : MethodName := ⟨RX5, "wholeJobs", "(LWhosePage$Plan;)I"⟩
def RX6 : String := "WhosePage"
def TX6 : u_T := fun k => match k with
  | 0 => ("WhosePage", "plan", "LWhosePage$Plan;", true)
  | 1 => ("WhosePage", "kept", "LWhosePage$Plan;", true)
  | 2 => ("WhosePage", "draft", "LWhosePage$Plan;", true)
  | 3 => ("WhosePage", "text", "LWhosePage$Text;", true)
  | 4 => ("WhosePage", "press", "LWhosePage$Press;", true)
  | 5 => ("WhosePage", "day", "LWhosePage$Day;", true)
  | 6 => ("WhosePage", "told", "LWhosePage$Row;", true)
  | 7 => ("WhosePage", "refusals", "[I", true)
  | _ => ("WhosePage", "imageTaken", "Z", false)
def tyX6 : Nat → FieldType := fun k => match k with
  | 0 => .object "WhosePage$Plan"
  | 1 => .object "WhosePage$Plan"
  | 2 => .object "WhosePage$Plan"
  | 3 => .object "WhosePage$Text"
  | 4 => .object "WhosePage$Press"
  | 5 => .object "WhosePage$Day"
  | 6 => .object "WhosePage$Row"
  | 7 => .array .int
  | _ => .boolean
theorem nmX6 : ∀ a, a < 9 → ∀ b, b < 9 → a ≠ b → (TX6 a).2.1 ≠ (TX6 b).2.1 := by decide +kernel
theorem tyX6_ok : ∀ k, k < 9 → parseFieldDescriptor (TX6 k).2.2.1 = some (tyX6 k) := by decide +kernel
abbrev cX6_init : ByteArray := prog_1_method_1_code
def yX6_init : MethodName := ⟨RX6, "<init>", "()V"⟩
abbrev cX6_letter : ByteArray := prog_1_method_2_code
def yX6_letter : MethodName := ⟨RX6, "letter", "(I)I"⟩
abbrev cX6_floor : ByteArray := prog_1_method_3_code
def yX6_floor : MethodName := ⟨RX6, "floor", "()I"⟩
abbrev cX6_job : ByteArray := prog_1_method_4_code
def yX6_job : MethodName := ⟨RX6, "job", "(II)I"⟩
abbrev cX6_taker : ByteArray := prog_1_method_5_code
def yX6_taker : MethodName := ⟨RX6, "taker", "(II)I"⟩
abbrev cX6_sent : ByteArray := prog_1_method_6_code
def yX6_sent : MethodName := ⟨RX6, "sent", "(II)I"⟩
abbrev cX6_machine : ByteArray := prog_1_method_7_code
def yX6_machine : MethodName := ⟨RX6, "machine", "(II)I"⟩
abbrev cX6_comes : ByteArray := prog_1_method_8_code
def yX6_comes : MethodName := ⟨RX6, "comes", "(II)I"⟩
abbrev cX6_out : ByteArray := prog_1_method_9_code
def yX6_out : MethodName := ⟨RX6, "out", "(II)I"⟩
abbrev cX6_outMany : ByteArray := prog_1_method_10_code
def yX6_outMany : MethodName := ⟨RX6, "outMany", "()I"⟩
abbrev cX6_lies : ByteArray := prog_1_method_11_code
def yX6_lies : MethodName := ⟨RX6, "lies", "(II)I"⟩
abbrev cX6_held : ByteArray := prog_1_method_12_code
def yX6_held : MethodName := ⟨RX6, "held", "(II)I"⟩
abbrev cX6_who : ByteArray := prog_1_method_13_code
def yX6_who : MethodName := ⟨RX6, "who", "(I)I"⟩
abbrev cX6_missing : ByteArray := prog_1_method_14_code
def yX6_missing : MethodName := ⟨RX6, "missing", "(I)I"⟩
abbrev cX6_ask : ByteArray := prog_1_method_15_code
def yX6_ask : MethodName := ⟨RX6, "ask", "(I)I"⟩
abbrev cX6_ready : ByteArray := prog_1_method_16_code
def yX6_ready : MethodName := ⟨RX6, "ready", "(I)I"⟩
abbrev cX6_mixed : ByteArray := prog_1_method_17_code
def yX6_mixed : MethodName := ⟨RX6, "mixed", "()I"⟩
abbrev cX6_byKind : ByteArray := prog_1_method_18_code
def yX6_byKind : MethodName := ⟨RX6, "byKind", "()I"⟩
abbrev cX6_send : ByteArray := prog_1_method_19_code
def yX6_send : MethodName := ⟨RX6, "send", "(II)I"⟩
abbrev cX6_two : ByteArray := prog_1_method_20_code
def yX6_two : MethodName := ⟨RX6, "two", "(II)I"⟩
abbrev cX6_three : ByteArray := prog_1_method_21_code
def yX6_three : MethodName := ⟨RX6, "three", "(III)I"⟩
abbrev cX6_parts : ByteArray := prog_1_method_22_code
def yX6_parts : MethodName := ⟨RX6, "parts", "()I"⟩
abbrev cX6_lacks : ByteArray := prog_1_method_23_code
def yX6_lacks : MethodName := ⟨RX6, "lacks", "(I)I"⟩
abbrev cX6_laps : ByteArray := prog_1_method_24_code
def yX6_laps : MethodName := ⟨RX6, "laps", "(I)I"⟩
abbrev cX6_waits : ByteArray := prog_1_method_25_code
def yX6_waits : MethodName := ⟨RX6, "waits", "(III)I"⟩
abbrev cX6_vain : ByteArray := prog_1_method_26_code
def yX6_vain : MethodName := ⟨RX6, "vain", "(III)I"⟩
abbrev cX6_seen : ByteArray := prog_1_method_27_code
def yX6_seen : MethodName := ⟨RX6, "seen", "(I)I"⟩
abbrev cX6_row : ByteArray := prog_1_method_28_code
def yX6_row : MethodName := ⟨RX6, "row", "(I)I"⟩
abbrev cX6_judge : ByteArray := prog_1_method_29_code
def yX6_judge : MethodName := ⟨RX6, "judge", "()I"⟩
abbrev cX6_lots : ByteArray := prog_1_method_30_code
def yX6_lots : MethodName := ⟨RX6, "lots", "(II)I"⟩
abbrev cX6_image : ByteArray := prog_1_method_31_code
def yX6_image : MethodName := ⟨RX6, "image", "()I"⟩
abbrev cX6_on : ByteArray := prog_1_method_32_code
def yX6_on : MethodName := ⟨RX6, "on", "()I"⟩
abbrev cX6_count : ByteArray := prog_1_method_33_code
def yX6_count : MethodName := ⟨RX6, "count", "(I)I"⟩
abbrev cX6_refusalsCounted : ByteArray := prog_1_method_34_code
def yX6_refusalsCounted : MethodName := ⟨RX6, "refusalsCounted", "(I)I"⟩
abbrev cX6_refuse : ByteArray := prog_1_method_35_code
def yX6_refuse : MethodName := ⟨RX6, "refuse", "(I)I"⟩
abbrev cX6_tellStatements : ByteArray := prog_1_method_36_code
def yX6_tellStatements : MethodName := ⟨RX6, "tellStatements", "()I"⟩
abbrev cX6_areTwoJobs : ByteArray := prog_1_method_37_code
def yX6_areTwoJobs : MethodName := ⟨RX6, "areTwoJobs", "(II)Z"⟩
abbrev cX6_isOwner : ByteArray := prog_1_method_38_code
def yX6_isOwner : MethodName := ⟨RX6, "isOwner", "(I)Z"⟩
abbrev cX6_isZeroOrOne : ByteArray := prog_1_method_39_code
def yX6_isZeroOrOne : MethodName := ⟨RX6, "isZeroOrOne", "(I)Z"⟩
abbrev cX6_hasBit : ByteArray := prog_1_method_40_code
def yX6_hasBit : MethodName := ⟨RX6, "hasBit", "(II)Z"⟩
abbrev cX6_bitsUpTo : ByteArray := prog_1_method_41_code
def yX6_bitsUpTo : MethodName := ⟨RX6, "bitsUpTo", "(I)I"⟩
def RX7 : String := "WhosePageModel"
def TX7 : u_T := fun k => match k with
  | 0 => ("WhosePageModel", "refused", "[I", true)
  | 1 => ("WhosePageModel", "now", "[I", true)
  | 2 => ("WhosePageModel", "then", "[I", true)
  | 3 => ("WhosePageModel", "kept", "Z", false)
  | 4 => ("WhosePageModel", "tape", "[I", true)
  | 5 => ("WhosePageModel", "taped", "I", false)
  | 6 => ("WhosePageModel", "at", "I", false)
  | 7 => ("WhosePageModel", "well", "Z", false)
  | 8 => ("WhosePageModel", "begins", "[C", true)
  | 9 => ("WhosePageModel", "machines", "[C", true)
  | 10 => ("WhosePageModel", "takers", "[C", true)
  | 11 => ("WhosePageModel", "sort", "I", false)
  | 12 => ("WhosePageModel", "field", "[I", true)
  | 13 => ("WhosePageModel", "left", "[I", true)
  | 14 => ("WhosePageModel", "out", "[I", true)
  | 15 => ("WhosePageModel", "outAt", "[I", true)
  | 16 => ("WhosePageModel", "outs", "I", false)
  | 17 => ("WhosePageModel", "tray", "[I", true)
  | 18 => ("WhosePageModel", "lying", "I", false)
  | 19 => ("WhosePageModel", "holder", "[I", true)
  | 20 => ("WhosePageModel", "whole", "[Z", true)
  | 21 => ("WhosePageModel", "line", "[I", true)
  | 22 => ("WhosePageModel", "lined", "I", false)
  | _ => ("WhosePageModel", "ways", "[I", true)
def tyX7 : Nat → FieldType := fun k => match k with
  | 0 => .array .int
  | 1 => .array .int
  | 2 => .array .int
  | 3 => .boolean
  | 4 => .array .int
  | 5 => .int
  | 6 => .int
  | 7 => .boolean
  | 8 => .array .char
  | 9 => .array .char
  | 10 => .array .char
  | 11 => .int
  | 12 => .array .int
  | 13 => .array .int
  | 14 => .array .int
  | 15 => .array .int
  | 16 => .int
  | 17 => .array .int
  | 18 => .int
  | 19 => .array .int
  | 20 => .array .boolean
  | 21 => .array .int
  | 22 => .int
  | _ => .array .int
theorem nmX7 : ∀ a, a < 24 → ∀ b, b < 24 → a ≠ b → (TX7 a).2.1 ≠ (TX7 b).2.1 := by decide +kernel
theorem tyX7_ok : ∀ k, k < 24 → parseFieldDescriptor (TX7 k).2.2.1 = some (tyX7 k) := by decide +kernel
abbrev cX7_no : ByteArray := prog_9_method_1_code
def yX7_no : MethodName := ⟨RX7, "no", "(I)I"⟩
abbrev cX7_init : ByteArray := prog_9_method_2_code
def yX7_init : MethodName := ⟨RX7, "<init>", "()V"⟩
abbrev cX7_image : ByteArray := prog_9_method_3_code
def yX7_image : MethodName := ⟨RX7, "image", "()I"⟩
abbrev cX7_on : ByteArray := prog_9_method_4_code
def yX7_on : MethodName := ⟨RX7, "on", "()I"⟩
abbrev cX7_letter : ByteArray := prog_9_method_5_code
def yX7_letter : MethodName := ⟨RX7, "letter", "(I)I"⟩
abbrev cX7_expect : ByteArray := prog_9_method_6_code
def yX7_expect : MethodName := ⟨RX7, "expect", "(C)V"⟩
abbrev cX7_oneOf : ByteArray := prog_9_method_7_code
def yX7_oneOf : MethodName := ⟨RX7, "oneOf", "([C)I"⟩
abbrev cX7_figures : ByteArray := prog_9_method_8_code
def yX7_figures : MethodName := ⟨RX7, "figures", "(I)I"⟩
abbrev cX7_statement : ByteArray := prog_9_method_9_code
def yX7_statement : MethodName := ⟨RX7, "statement", "()V"⟩
abbrev cX7_isAsItMustBe : ByteArray := prog_9_method_10_code
def yX7_isAsItMustBe : MethodName := ⟨RX7, "isAsItMustBe", "(II)Z"⟩
abbrev cX7_come : ByteArray := prog_9_method_11_code
def yX7_come : MethodName := ⟨RX7, "come", "()V"⟩
abbrev cX7_read : ByteArray := prog_9_method_12_code
def yX7_read : MethodName := ⟨RX7, "read", "()I"⟩
abbrev cX7_floor : ByteArray := prog_9_method_13_code
def yX7_floor : MethodName := ⟨RX7, "floor", "()I"⟩
abbrev cX7_waits : ByteArray := prog_9_method_14_code
def yX7_waits : MethodName := ⟨RX7, "waits", "(II)Z"⟩
abbrev cX7_ahead : ByteArray := prog_9_method_15_code
def yX7_ahead : MethodName := ⟨RX7, "ahead", "(III)Z"⟩
abbrev cX7_chosen : ByteArray := prog_9_method_16_code
def yX7_chosen : MethodName := ⟨RX7, "chosen", "(III)I"⟩
abbrev cX7_put : ByteArray := prog_9_method_17_code
def yX7_put : MethodName := ⟨RX7, "put", "(II)V"⟩
abbrev cX7_isWhole : ByteArray := prog_9_method_18_code
def yX7_isWhole : MethodName := ⟨RX7, "isWhole", "(I)Z"⟩
abbrev cX7_takesSome : ByteArray := prog_9_method_19_code
def yX7_takesSome : MethodName := ⟨RX7, "takesSome", "(I)Z"⟩
abbrev cX7_take : ByteArray := prog_9_method_20_code
def yX7_take : MethodName := ⟨RX7, "take", "(I)V"⟩
abbrev cX7_goTo : ByteArray := prog_9_method_21_code
def yX7_goTo : MethodName := ⟨RX7, "goTo", "(I)V"⟩
abbrev cX7_mixing : ByteArray := prog_9_method_22_code
def yX7_mixing : MethodName := ⟨RX7, "mixing", "()I"⟩
abbrev cX7_isNoOwner : ByteArray := prog_9_method_23_code
def yX7_isNoOwner : MethodName := ⟨RX7, "isNoOwner", "(I)Z"⟩
abbrev cX7_isNoJob : ByteArray := prog_9_method_24_code
def yX7_isNoJob : MethodName := ⟨RX7, "isNoJob", "(I)Z"⟩
abbrev cX7_isNoTaker : ByteArray := prog_9_method_25_code
def yX7_isNoTaker : MethodName := ⟨RX7, "isNoTaker", "(I)Z"⟩
abbrev cX7_job : ByteArray := prog_9_method_26_code
def yX7_job : MethodName := ⟨RX7, "job", "(II)I"⟩
abbrev cX7_taker : ByteArray := prog_9_method_27_code
def yX7_taker : MethodName := ⟨RX7, "taker", "(II)I"⟩
abbrev cX7_change : ByteArray := prog_9_method_28_code
def yX7_change : MethodName := ⟨RX7, "change", "(III)I"⟩
abbrev cX7_sent : ByteArray := prog_9_method_29_code
def yX7_sent : MethodName := ⟨RX7, "sent", "(II)I"⟩
abbrev cX7_machine : ByteArray := prog_9_method_30_code
def yX7_machine : MethodName := ⟨RX7, "machine", "(II)I"⟩
abbrev cX7_comes : ByteArray := prog_9_method_31_code
def yX7_comes : MethodName := ⟨RX7, "comes", "(II)I"⟩
abbrev cX7_out : ByteArray := prog_9_method_32_code
def yX7_out : MethodName := ⟨RX7, "out", "(II)I"⟩
abbrev cX7_outMany : ByteArray := prog_9_method_33_code
def yX7_outMany : MethodName := ⟨RX7, "outMany", "()I"⟩
abbrev cX7_lies : ByteArray := prog_9_method_34_code
def yX7_lies : MethodName := ⟨RX7, "lies", "(II)I"⟩
abbrev cX7_has : ByteArray := prog_9_method_35_code
def yX7_has : MethodName := ⟨RX7, "has", "(IZ)I"⟩
abbrev cX7_held : ByteArray := prog_9_method_36_code
def yX7_held : MethodName := ⟨RX7, "held", "(II)I"⟩
abbrev cX7_who : ByteArray := prog_9_method_37_code
def yX7_who : MethodName := ⟨RX7, "who", "(I)I"⟩
abbrev cX7_missing : ByteArray := prog_9_method_38_code
def yX7_missing : MethodName := ⟨RX7, "missing", "(I)I"⟩
abbrev cX7_ask : ByteArray := prog_9_method_39_code
def yX7_ask : MethodName := ⟨RX7, "ask", "(I)I"⟩
abbrev cX7_when : ByteArray := prog_9_method_40_code
def yX7_when : MethodName := ⟨RX7, "when", "(I)I"⟩
abbrev cX7_ready : ByteArray := prog_9_method_41_code
def yX7_ready : MethodName := ⟨RX7, "ready", "(I)I"⟩
abbrev cX7_mixed : ByteArray := prog_9_method_42_code
def yX7_mixed : MethodName := ⟨RX7, "mixed", "()I"⟩
abbrev cX7_byKind : ByteArray := prog_9_method_43_code
def yX7_byKind : MethodName := ⟨RX7, "byKind", "()I"⟩
abbrev cX7_send : ByteArray := prog_9_method_44_code
def yX7_send : MethodName := ⟨RX7, "send", "(II)I"⟩
abbrev cX7_together : ByteArray := prog_9_method_45_code
def yX7_together : MethodName := ⟨RX7, "together", "(III)I"⟩
abbrev cX7_two : ByteArray := prog_9_method_46_code
def yX7_two : MethodName := ⟨RX7, "two", "(II)I"⟩
abbrev cX7_three : ByteArray := prog_9_method_47_code
def yX7_three : MethodName := ⟨RX7, "three", "(III)I"⟩
abbrev cX7_parts : ByteArray := prog_9_method_48_code
def yX7_parts : MethodName := ⟨RX7, "parts", "()I"⟩
abbrev cX7_lacks : ByteArray := prog_9_method_49_code
def yX7_lacks : MethodName := ⟨RX7, "lacks", "(I)I"⟩
abbrev cX7_firstPlace : ByteArray := prog_9_method_50_code
def yX7_firstPlace : MethodName := ⟨RX7, "firstPlace", "(I)I"⟩
abbrev cX7_laps : ByteArray := prog_9_method_51_code
def yX7_laps : MethodName := ⟨RX7, "laps", "(I)I"⟩
abbrev cX7_waits_ : ByteArray := prog_9_method_52_code
def yX7_waits_ : MethodName := ⟨RX7, "waits", "(III)I"⟩
abbrev cX7_vain : ByteArray := prog_9_method_53_code
def yX7_vain : MethodName := ⟨RX7, "vain", "(III)I"⟩
abbrev cX7_seen : ByteArray := prog_9_method_54_code
def yX7_seen : MethodName := ⟨RX7, "seen", "(I)I"⟩
abbrev cX7_row : ByteArray := prog_9_method_55_code
def yX7_row : MethodName := ⟨RX7, "row", "(I)I"⟩
abbrev cX7_judge : ByteArray := prog_9_method_56_code
def yX7_judge : MethodName := ⟨RX7, "judge", "()I"⟩
abbrev cX7_lots : ByteArray := prog_9_method_57_code
def yX7_lots : MethodName := ⟨RX7, "lots", "(II)I"⟩
abbrev cX7_count : ByteArray := prog_9_method_58_code
def yX7_count : MethodName := ⟨RX7, "count", "(I)I"⟩
def RJx145de : String := "java/io/Serializable"
def TJx145de : u_T := fun k => match k with
  | _ => ("", "", "", false)
def tyJx145de : Nat → FieldType := fun k => match k with
  | _ => .int
theorem nmJx145de : ∀ a, a < 0 → ∀ b, b < 0 → a ≠ b → (TJx145de a).2.1 ≠ (TJx145de b).2.1 := by decide +kernel
theorem tyJx145de_ok : ∀ k, k < 0 → parseFieldDescriptor (TJx145de k).2.2.1 = some (tyJx145de k) := by decide +kernel
def RJx9f9b0 : String := "java/lang/CharSequence"
def TJx9f9b0 : u_T := fun k => match k with
  | _ => ("", "", "", false)
def tyJx9f9b0 : Nat → FieldType := fun k => match k with
  | _ => .int
theorem nmJx9f9b0 : ∀ a, a < 0 → ∀ b, b < 0 → a ≠ b → (TJx9f9b0 a).2.1 ≠ (TJx9f9b0 b).2.1 := by decide +kernel
theorem tyJx9f9b0_ok : ∀ k, k < 0 → parseFieldDescriptor (TJx9f9b0 k).2.2.1 = some (tyJx9f9b0 k) := by decide +kernel
def RJ11 : String := "java/lang/Character"
def TJ11 : u_T := fun k => match k with
  | _ => ("", "", "", false)
def tyJ11 : Nat → FieldType := fun k => match k with
  | _ => .int
theorem nmJ11 : ∀ a, a < 0 → ∀ b, b < 0 → a ≠ b → (TJ11 a).2.1 ≠ (TJ11 b).2.1 := by decide +kernel
theorem tyJ11_ok : ∀ k, k < 0 → parseFieldDescriptor (TJ11 k).2.2.1 = some (tyJ11 k) := by decide +kernel
abbrev cJ11_isValidCodePoint_9a6ad : ByteArray := prog_10_method_11_code
def yJ11_isValidCodePoint_9a6ad : MethodName := ⟨RJ11, "isValidCodePoint", "(I)Z"⟩
abbrev cJ11_highSurrogate_5068e : ByteArray := prog_10_method_28_code
def yJ11_highSurrogate_5068e : MethodName := ⟨RJ11, "highSurrogate", "(I)C"⟩
abbrev cJ11_lowSurrogate_5068e : ByteArray := prog_10_method_29_code
def yJ11_lowSurrogate_5068e : MethodName := ⟨RJ11, "lowSurrogate", "(I)C"⟩
def RJxb160c : String := "java/lang/Comparable"
def TJxb160c : u_T := fun k => match k with
  | _ => ("", "", "", false)
def tyJxb160c : Nat → FieldType := fun k => match k with
  | _ => .int
theorem nmJxb160c : ∀ a, a < 0 → ∀ b, b < 0 → a ≠ b → (TJxb160c a).2.1 ≠ (TJxb160c b).2.1 := by decide +kernel
theorem tyJxb160c_ok : ∀ k, k < 0 → parseFieldDescriptor (TJxb160c k).2.2.1 = some (tyJxb160c k) := by decide +kernel
def RJ9 : String := "java/lang/Math"
def TJ9 : u_T := fun k => match k with
  | _ => ("", "", "", false)
def tyJ9 : Nat → FieldType := fun k => match k with
  | _ => .int
theorem nmJ9 : ∀ a, a < 0 → ∀ b, b < 0 → a ≠ b → (TJ9 a).2.1 ≠ (TJ9 b).2.1 := by decide +kernel
theorem tyJ9_ok : ∀ k, k < 0 → parseFieldDescriptor (TJ9 k).2.2.1 = some (tyJ9 k) := by decide +kernel
abbrev cJ9_max_7cf53 : ByteArray := prog_11_method_65_code
def yJ9_max_7cf53 : MethodName := ⟨RJ9, "max", "(II)I"⟩
abbrev cJ9_min_7cf53 : ByteArray := prog_11_method_69_code
def yJ9_min_7cf53 : MethodName := ⟨RJ9, "min", "(II)I"⟩
def RJ0 : String := "java/lang/String"
def TJ0 : u_T := fun k => match k with
  | _ => ("", "", "", false)
def tyJ0 : Nat → FieldType := fun k => match k with
  | _ => .int
theorem nmJ0 : ∀ a, a < 0 → ∀ b, b < 0 → a ≠ b → (TJ0 a).2.1 ≠ (TJ0 b).2.1 := by decide +kernel
theorem tyJ0_ok : ∀ k, k < 0 → parseFieldDescriptor (TJ0 k).2.2.1 = some (tyJ0 k) := by decide +kernel
abbrev cJ0_length_8abf5 : ByteArray := prog_12_method_54_code
def yJ0_length_8abf5 : MethodName := ⟨RJ0, "length", "()I"⟩
abbrev cJ0_indexOf_0f7a4 : ByteArray := prog_12_method_79_code
def yJ0_indexOf_0f7a4 : MethodName := ⟨RJ0, "indexOf", "(I)I"⟩
abbrev cJ0_indexOf_7cf53 : ByteArray := prog_12_method_80_code
def yJ0_indexOf_7cf53 : MethodName := ⟨RJ0, "indexOf", "(II)I"⟩
abbrev cJ0_coder_7d493 : ByteArray := prog_12_method_152_code
def yJ0_coder_7d493 : MethodName := ⟨RJ0, "coder", "()B"⟩
abbrev cJ0_isLatin1_aae02 : ByteArray := prog_12_method_154_code
def yJ0_isLatin1_aae02 : MethodName := ⟨RJ0, "isLatin1", "()Z"⟩
abbrev cJ0_checkBoundsBeginEnd_23922 : ByteArray := prog_12_method_158_code
def yJ0_checkBoundsBeginEnd_23922 : MethodName := ⟨RJ0, "checkBoundsBeginEnd", "(III)V"⟩
def RJ1 : String := "java/lang/StringLatin1"
def TJ1 : u_T := fun k => match k with
  | _ => ("", "", "", false)
def tyJ1 : Nat → FieldType := fun k => match k with
  | _ => .int
theorem nmJ1 : ∀ a, a < 0 → ∀ b, b < 0 → a ≠ b → (TJ1 a).2.1 ≠ (TJ1 b).2.1 := by decide +kernel
theorem tyJ1_ok : ∀ k, k < 0 → parseFieldDescriptor (TJ1 k).2.2.1 = some (tyJ1 k) := by decide +kernel
abbrev cJ1_canEncode_9a6ad : ByteArray := prog_13_method_4_code
def yJ1_canEncode_9a6ad : MethodName := ⟨RJ1, "canEncode", "(I)Z"⟩
abbrev cJ1_indexOf_4cfef : ByteArray := prog_13_method_22_code
def yJ1_indexOf_4cfef : MethodName := ⟨RJ1, "indexOf", "([BIII)I"⟩
abbrev cJ1_indexOfChar_4cfef : ByteArray := prog_13_method_23_code
def yJ1_indexOfChar_4cfef : MethodName := ⟨RJ1, "indexOfChar", "([BIII)I"⟩
def RJ2 : String := "java/lang/StringUTF16"
def TJ2 : u_T := fun k => match k with
  | _ => ("", "", "", false)
def tyJ2 : Nat → FieldType := fun k => match k with
  | _ => .int
theorem nmJ2 : ∀ a, a < 0 → ∀ b, b < 0 → a ≠ b → (TJ2 a).2.1 ≠ (TJ2 b).2.1 := by decide +kernel
theorem tyJ2_ok : ∀ k, k < 0 → parseFieldDescriptor (TJ2 k).2.2.1 = some (tyJ2 k) := by decide +kernel
abbrev cJ2_getChar_3b067 : ByteArray := prog_14_method_5_code
def yJ2_getChar_3b067 : MethodName := ⟨RJ2, "getChar", "([BI)C"⟩
abbrev cJ2_length_9d52b : ByteArray := prog_14_method_6_code
def yJ2_length_9d52b : MethodName := ⟨RJ2, "length", "([B)I"⟩
abbrev cJ2_indexOf_4cfef : ByteArray := prog_14_method_40_code
def yJ2_indexOf_4cfef : MethodName := ⟨RJ2, "indexOf", "([BIII)I"⟩
abbrev cJ2_indexOfChar_4cfef : ByteArray := prog_14_method_47_code
def yJ2_indexOfChar_4cfef : MethodName := ⟨RJ2, "indexOfChar", "([BIII)I"⟩
abbrev cJ2_indexOfCharUnsafe_4cfef : ByteArray := prog_14_method_48_code
def yJ2_indexOfCharUnsafe_4cfef : MethodName := ⟨RJ2, "indexOfCharUnsafe", "([BIII)I"⟩
abbrev cJ2_indexOfSupplementary_4cfef : ByteArray := prog_14_method_49_code
def yJ2_indexOfSupplementary_4cfef : MethodName := ⟨RJ2, "indexOfSupplementary", "([BIII)I"⟩
abbrev cJ2_checkBoundsBeginEnd_d044e : ByteArray := prog_14_method_93_code
def yJ2_checkBoundsBeginEnd_d044e : MethodName := ⟨RJ2, "checkBoundsBeginEnd", "(II[B)V"⟩
def RJ10 : String := "java/lang/System"
def TJ10 : u_T := fun k => match k with
  | _ => ("", "", "", false)
def tyJ10 : Nat → FieldType := fun k => match k with
  | _ => .int
theorem nmJ10 : ∀ a, a < 0 → ∀ b, b < 0 → a ≠ b → (TJ10 a).2.1 ≠ (TJ10 b).2.1 := by decide +kernel
theorem tyJ10_ok : ∀ k, k < 0 → parseFieldDescriptor (TJ10 k).2.2.1 = some (tyJ10 k) := by decide +kernel
def RJxfd54e : String := "java/lang/constant/Constable"
def TJxfd54e : u_T := fun k => match k with
  | _ => ("", "", "", false)
def tyJxfd54e : Nat → FieldType := fun k => match k with
  | _ => .int
theorem nmJxfd54e : ∀ a, a < 0 → ∀ b, b < 0 → a ≠ b → (TJxfd54e a).2.1 ≠ (TJxfd54e b).2.1 := by decide +kernel
theorem tyJxfd54e_ok : ∀ k, k < 0 → parseFieldDescriptor (TJxfd54e k).2.2.1 = some (tyJxfd54e k) := by decide +kernel
def RJx3cf43 : String := "java/lang/constant/ConstantDesc"
def TJx3cf43 : u_T := fun k => match k with
  | _ => ("", "", "", false)
def tyJx3cf43 : Nat → FieldType := fun k => match k with
  | _ => .int
theorem nmJx3cf43 : ∀ a, a < 0 → ∀ b, b < 0 → a ≠ b → (TJx3cf43 a).2.1 ≠ (TJx3cf43 b).2.1 := by decide +kernel
theorem tyJx3cf43_ok : ∀ k, k < 0 → parseFieldDescriptor (TJx3cf43 k).2.2.1 = some (tyJx3cf43 k) := by decide +kernel
def RJ7 : String := "java/util/Arrays"
def TJ7 : u_T := fun k => match k with
  | _ => ("", "", "", false)
def tyJ7 : Nat → FieldType := fun k => match k with
  | _ => .int
theorem nmJ7 : ∀ a, a < 0 → ∀ b, b < 0 → a ≠ b → (TJ7 a).2.1 ≠ (TJ7 b).2.1 := by decide +kernel
theorem tyJ7_ok : ∀ k, k < 0 → parseFieldDescriptor (TJ7 k).2.2.1 = some (tyJ7 k) := by decide +kernel
abbrev cJ7_fill_53178 : ByteArray := prog_16_method_103_code
def yJ7_fill_53178 : MethodName := ⟨RJ7, "fill", "([II)V"⟩
def RJ3 : String := "jdk/internal/util/Preconditions"
def TJ3 : u_T := fun k => match k with
  | _ => ("", "", "", false)
def tyJ3 : Nat → FieldType := fun k => match k with
  | _ => .int
theorem nmJ3 : ∀ a, a < 0 → ∀ b, b < 0 → a ≠ b → (TJ3 a).2.1 ≠ (TJ3 b).2.1 := by decide +kernel
theorem tyJ3_ok : ∀ k, k < 0 → parseFieldDescriptor (TJ3 k).2.2.1 = some (tyJ3 k) := by decide +kernel
abbrev cJ3_checkFromToIndex_8c36e : ByteArray := prog_17_method_12_code
def yJ3_checkFromToIndex_8c36e : MethodName := ⟨RJ3, "checkFromToIndex", "(IIILjava/util/function/BiFunction;)I"⟩
def RL : String := "WhosePageLaw"
abbrev cL_law : ByteArray := code
def yL_law : MethodName := ⟨RL, "law", "([I)Z"⟩
abbrev vwCl : List vw_C := [(RX0, TX0, 7), (RX1, TX1, 11), (RX2, TX2, 5), (RX3, TX3, 5), (RX4, TX4, 8), (RX5, TX5, 3), (RX6, TX6, 9), (RX7, TX7, 24)]
