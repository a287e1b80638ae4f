set_option maxRecDepth 20000 in
theorem jf_J0_38 : Cond.fieldLink RJ0 38 "java/lang/String" "COMPACT_STRINGS" "Z" ∈ AW := aw2 (i := 71) rfl rfl
set_option maxRecDepth 20000 in
theorem jf_J0_1053 : Cond.fieldLink RJ0 1053 "jdk/internal/util/Preconditions" "SIOOBE_FORMATTER" "Ljava/util/function/BiFunction;" ∈ AW := aw2 (i := 114) rfl rfl
set_option maxRecDepth 20000 in
theorem jf_J2_44 : Cond.fieldLink RJ2 44 "java/lang/StringUTF16" "$assertionsDisabled" "Z" ∈ AW := aw2 (i := 125) rfl rfl
set_option maxRecDepth 20000 in
theorem jf_J2_59 : Cond.fieldLink RJ2 59 "java/lang/StringUTF16" "HI_BYTE_SHIFT" "I" ∈ AW := aw2 (i := 127) rfl rfl
set_option maxRecDepth 20000 in
theorem jf_J2_63 : Cond.fieldLink RJ2 63 "java/lang/StringUTF16" "LO_BYTE_SHIFT" "I" ∈ AW := aw2 (i := 129) rfl rfl
set_option maxRecDepth 20000 in
theorem jf_J0_15 : Cond.fieldLink RJ0 15 "java/lang/String" "coder" "B" ∈ AW := aw5 (i := 94) rfl rfl
set_option maxRecDepth 20000 in
theorem jf_J0_9 : Cond.fieldLink RJ0 9 "java/lang/String" "value" "[B" ∈ AW := aw5 (i := 95) rfl rfl
