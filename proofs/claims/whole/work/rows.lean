section
-- ===== PART A: goes FIRST, ahead of the names: the tables' words, and 'selects' of the private methods out of them =====
/-- a private method of a class that the tables say can be made, by its rows of tables_1 -/
def lw_okq (q : MethodName × Nat) : Prop := (q.1.cls ≠ "java/lang/invoke/MethodHandle" ∧ q.1.cls ≠ "java/lang/invoke/VarHandle") ∧ Cond.instantiable q.1.cls q.2 ∈ tables_1 ∧ Cond.privateMethod q.1 ∈ tables_1 ∧ Cond.instanceMethod q.1 ∈ tables_1
theorem lw_p0 : lw_okq (⟨"WhosePage", "refuse", "(I)I"⟩, 9) := ⟨⟨by decide +kernel, by decide +kernel⟩, List.mem_of_getElem? (i := 18) (by decide +kernel), List.mem_of_getElem? (i := 255) (by decide +kernel), List.mem_of_getElem? (i := 256) (by decide +kernel)⟩
theorem lw_p1 : lw_okq (⟨"WhosePage$Text", "readOwnerFigureMinute", "()Z"⟩, 8) := ⟨⟨by decide +kernel, by decide +kernel⟩, List.mem_of_getElem? (i := 92) (by decide +kernel), List.mem_of_getElem? (i := 275) (by decide +kernel), List.mem_of_getElem? (i := 276) (by decide +kernel)⟩
theorem lw_p2 : lw_okq (⟨"WhosePage$Text", "readDigit", "()I"⟩, 8) := ⟨⟨by decide +kernel, by decide +kernel⟩, List.mem_of_getElem? (i := 92) (by decide +kernel), List.mem_of_getElem? (i := 279) (by decide +kernel), List.mem_of_getElem? (i := 280) (by decide +kernel)⟩
theorem lw_p3 : lw_okq (⟨"WhosePage$Text", "readFigure", "()Z"⟩, 8) := ⟨⟨by decide +kernel, by decide +kernel⟩, List.mem_of_getElem? (i := 92) (by decide +kernel), List.mem_of_getElem? (i := 283) (by decide +kernel), List.mem_of_getElem? (i := 284) (by decide +kernel)⟩
theorem lw_p4 : lw_okq (⟨"WhosePage$Text", "readSign", "(C)Z"⟩, 8) := ⟨⟨by decide +kernel, by decide +kernel⟩, List.mem_of_getElem? (i := 92) (by decide +kernel), List.mem_of_getElem? (i := 287) (by decide +kernel), List.mem_of_getElem? (i := 288) (by decide +kernel)⟩
theorem lw_p5 : lw_okq (⟨"WhosePage$Text", "readMinute", "()Z"⟩, 8) := ⟨⟨by decide +kernel, by decide +kernel⟩, List.mem_of_getElem? (i := 92) (by decide +kernel), List.mem_of_getElem? (i := 291) (by decide +kernel), List.mem_of_getElem? (i := 292) (by decide +kernel)⟩
theorem lw_p6 : lw_okq (⟨"WhosePage$Text", "readKind", "(Ljava/lang/String;)Z"⟩, 8) := ⟨⟨by decide +kernel, by decide +kernel⟩, List.mem_of_getElem? (i := 92) (by decide +kernel), List.mem_of_getElem? (i := 296) (by decide +kernel), List.mem_of_getElem? (i := 297) (by decide +kernel)⟩
theorem lw_p7 : lw_okq (⟨"WhosePage", "tellStatements", "()I"⟩, 9) := ⟨⟨by decide +kernel, by decide +kernel⟩, List.mem_of_getElem? (i := 18) (by decide +kernel), List.mem_of_getElem? (i := 387) (by decide +kernel), List.mem_of_getElem? (i := 388) (by decide +kernel)⟩
theorem lw_p8 : lw_okq (⟨"WhosePage$Press", "chosenJob", "(LWhosePage$Plan;I)I"⟩, 5) := ⟨⟨by decide +kernel, by decide +kernel⟩, List.mem_of_getElem? (i := 125) (by decide +kernel), List.mem_of_getElem? (i := 492) (by decide +kernel), List.mem_of_getElem? (i := 493) (by decide +kernel)⟩
theorem lw_p9 : lw_okq (⟨"WhosePage$Press", "isAhead", "(LWhosePage$Plan;II)Z"⟩, 5) := ⟨⟨by decide +kernel, by decide +kernel⟩, List.mem_of_getElem? (i := 125) (by decide +kernel), List.mem_of_getElem? (i := 496) (by decide +kernel), List.mem_of_getElem? (i := 497) (by decide +kernel)⟩
theorem lw_p10 : lw_okq (⟨"WhosePage$Press", "turnsUntil", "(I)I"⟩, 5) := ⟨⟨by decide +kernel, by decide +kernel⟩, List.mem_of_getElem? (i := 125) (by decide +kernel), List.mem_of_getElem? (i := 500) (by decide +kernel), List.mem_of_getElem? (i := 501) (by decide +kernel)⟩
theorem lw_p11 : lw_okq (⟨"WhosePage$Day", "noteOut", "(II)V"⟩, 7) := ⟨⟨by decide +kernel, by decide +kernel⟩, List.mem_of_getElem? (i := 147) (by decide +kernel), List.mem_of_getElem? (i := 512) (by decide +kernel), List.mem_of_getElem? (i := 513) (by decide +kernel)⟩
theorem lw_p12 : lw_okq (⟨"WhosePage$Tray", "jobsWanted", "(LWhosePage$Plan;II)I"⟩, 3) := ⟨⟨by decide +kernel, by decide +kernel⟩, List.mem_of_getElem? (i := 155) (by decide +kernel), List.mem_of_getElem? (i := 529) (by decide +kernel), List.mem_of_getElem? (i := 530) (by decide +kernel)⟩
theorem lw_p13 : lw_okq (⟨"WhosePage$Tray", "wholeJobs", "(LWhosePage$Plan;)I"⟩, 3) := ⟨⟨by decide +kernel, by decide +kernel⟩, List.mem_of_getElem? (i := 155) (by decide +kernel), List.mem_of_getElem? (i := 537) (by decide +kernel), List.mem_of_getElem? (i := 538) (by decide +kernel)⟩
theorem lw_p14 : lw_okq (⟨"WhosePage", "readyMinute", "(I)I"⟩, 9) := ⟨⟨by decide +kernel, by decide +kernel⟩, List.mem_of_getElem? (i := 18) (by decide +kernel), List.mem_of_getElem? (i := 612) (by decide +kernel), List.mem_of_getElem? (i := 613) (by decide +kernel)⟩
theorem lw_p15 : lw_okq (⟨"WhosePage", "areTwoJobs", "(II)Z"⟩, 9) := ⟨⟨by decide +kernel, by decide +kernel⟩, List.mem_of_getElem? (i := 18) (by decide +kernel), List.mem_of_getElem? (i := 644) (by decide +kernel), List.mem_of_getElem? (i := 645) (by decide +kernel)⟩
def lw_privs_1 : List (MethodName × Nat) := [(⟨"WhosePage", "refuse", "(I)I"⟩, 9), (⟨"WhosePage$Text", "readOwnerFigureMinute", "()Z"⟩, 8), (⟨"WhosePage$Text", "readDigit", "()I"⟩, 8), (⟨"WhosePage$Text", "readFigure", "()Z"⟩, 8), (⟨"WhosePage$Text", "readSign", "(C)Z"⟩, 8), (⟨"WhosePage$Text", "readMinute", "()Z"⟩, 8), (⟨"WhosePage$Text", "readKind", "(Ljava/lang/String;)Z"⟩, 8), (⟨"WhosePage", "tellStatements", "()I"⟩, 9), (⟨"WhosePage$Press", "chosenJob", "(LWhosePage$Plan;I)I"⟩, 5), (⟨"WhosePage$Press", "isAhead", "(LWhosePage$Plan;II)Z"⟩, 5), (⟨"WhosePage$Press", "turnsUntil", "(I)I"⟩, 5), (⟨"WhosePage$Day", "noteOut", "(II)V"⟩, 7), (⟨"WhosePage$Tray", "jobsWanted", "(LWhosePage$Plan;II)I"⟩, 3), (⟨"WhosePage$Tray", "wholeJobs", "(LWhosePage$Plan;)I"⟩, 3), (⟨"WhosePage", "readyMinute", "(I)I"⟩, 9), (⟨"WhosePage", "areTwoJobs", "(II)Z"⟩, 9)]
theorem lw_r1 : ∀ q ∈ lw_privs_1, lw_okq q := List.forall_mem_cons.mpr ⟨lw_p0, List.forall_mem_cons.mpr ⟨lw_p1, List.forall_mem_cons.mpr ⟨lw_p2, List.forall_mem_cons.mpr ⟨lw_p3, List.forall_mem_cons.mpr ⟨lw_p4, List.forall_mem_cons.mpr ⟨lw_p5, List.forall_mem_cons.mpr ⟨lw_p6, List.forall_mem_cons.mpr ⟨lw_p7, List.forall_mem_cons.mpr ⟨lw_p8, List.forall_mem_cons.mpr ⟨lw_p9, List.forall_mem_cons.mpr ⟨lw_p10, List.forall_mem_cons.mpr ⟨lw_p11, List.forall_mem_cons.mpr ⟨lw_p12, List.forall_mem_cons.mpr ⟨lw_p13, List.forall_mem_cons.mpr ⟨lw_p14, List.forall_mem_cons.mpr ⟨lw_p15, fun _ h => absurd h List.not_mem_nil⟩⟩⟩⟩⟩⟩⟩⟩⟩⟩⟩⟩⟩⟩⟩⟩
theorem lw_p16 : lw_okq (⟨"WhosePage$Row", "waysTo", "(III)I"⟩, 5) := ⟨⟨by decide +kernel, by decide +kernel⟩, List.mem_of_getElem? (i := 197) (by decide +kernel), List.mem_of_getElem? (i := 655) (by decide +kernel), List.mem_of_getElem? (i := 656) (by decide +kernel)⟩
theorem lw_p17 : lw_okq (⟨"WhosePage$Row", "runsBySize", "()I"⟩, 5) := ⟨⟨by decide +kernel, by decide +kernel⟩, List.mem_of_getElem? (i := 197) (by decide +kernel), List.mem_of_getElem? (i := 690) (by decide +kernel), List.mem_of_getElem? (i := 691) (by decide +kernel)⟩
theorem lw_p18 : lw_okq (⟨"WhosePage", "refusalsCounted", "(I)I"⟩, 9) := ⟨⟨by decide +kernel, by decide +kernel⟩, List.mem_of_getElem? (i := 18) (by decide +kernel), List.mem_of_getElem? (i := 749) (by decide +kernel), List.mem_of_getElem? (i := 750) (by decide +kernel)⟩
theorem lw_p19 : lw_okq (⟨"WhosePageModel", "no", "(I)I"⟩, 24) := ⟨⟨by decide +kernel, by decide +kernel⟩, List.mem_of_getElem? (i := 753) (by decide +kernel), List.mem_of_getElem? (i := 842) (by decide +kernel), List.mem_of_getElem? (i := 843) (by decide +kernel)⟩
theorem lw_p20 : lw_okq (⟨"WhosePageModel", "read", "()I"⟩, 24) := ⟨⟨by decide +kernel, by decide +kernel⟩, List.mem_of_getElem? (i := 753) (by decide +kernel), List.mem_of_getElem? (i := 854) (by decide +kernel), List.mem_of_getElem? (i := 855) (by decide +kernel)⟩
theorem lw_p21 : lw_okq (⟨"WhosePageModel", "statement", "()V"⟩, 24) := ⟨⟨by decide +kernel, by decide +kernel⟩, List.mem_of_getElem? (i := 753) (by decide +kernel), List.mem_of_getElem? (i := 858) (by decide +kernel), List.mem_of_getElem? (i := 859) (by decide +kernel)⟩
theorem lw_p22 : lw_okq (⟨"WhosePageModel", "oneOf", "([C)I"⟩, 24) := ⟨⟨by decide +kernel, by decide +kernel⟩, List.mem_of_getElem? (i := 753) (by decide +kernel), List.mem_of_getElem? (i := 862) (by decide +kernel), List.mem_of_getElem? (i := 863) (by decide +kernel)⟩
theorem lw_p23 : lw_okq (⟨"WhosePageModel", "figures", "(I)I"⟩, 24) := ⟨⟨by decide +kernel, by decide +kernel⟩, List.mem_of_getElem? (i := 753) (by decide +kernel), List.mem_of_getElem? (i := 866) (by decide +kernel), List.mem_of_getElem? (i := 867) (by decide +kernel)⟩
theorem lw_p24 : lw_okq (⟨"WhosePageModel", "expect", "(C)V"⟩, 24) := ⟨⟨by decide +kernel, by decide +kernel⟩, List.mem_of_getElem? (i := 753) (by decide +kernel), List.mem_of_getElem? (i := 870) (by decide +kernel), List.mem_of_getElem? (i := 871) (by decide +kernel)⟩
theorem lw_p25 : lw_okq (⟨"WhosePageModel", "isAsItMustBe", "(II)Z"⟩, 24) := ⟨⟨by decide +kernel, by decide +kernel⟩, List.mem_of_getElem? (i := 753) (by decide +kernel), List.mem_of_getElem? (i := 874) (by decide +kernel), List.mem_of_getElem? (i := 875) (by decide +kernel)⟩
theorem lw_p26 : lw_okq (⟨"WhosePageModel", "come", "()V"⟩, 24) := ⟨⟨by decide +kernel, by decide +kernel⟩, List.mem_of_getElem? (i := 753) (by decide +kernel), List.mem_of_getElem? (i := 878) (by decide +kernel), List.mem_of_getElem? (i := 879) (by decide +kernel)⟩
theorem lw_p27 : lw_okq (⟨"WhosePageModel", "isNoJob", "(I)Z"⟩, 24) := ⟨⟨by decide +kernel, by decide +kernel⟩, List.mem_of_getElem? (i := 753) (by decide +kernel), List.mem_of_getElem? (i := 886) (by decide +kernel), List.mem_of_getElem? (i := 887) (by decide +kernel)⟩
theorem lw_p28 : lw_okq (⟨"WhosePageModel", "isNoTaker", "(I)Z"⟩, 24) := ⟨⟨by decide +kernel, by decide +kernel⟩, List.mem_of_getElem? (i := 753) (by decide +kernel), List.mem_of_getElem? (i := 894) (by decide +kernel), List.mem_of_getElem? (i := 895) (by decide +kernel)⟩
theorem lw_p29 : lw_okq (⟨"WhosePageModel", "change", "(III)I"⟩, 24) := ⟨⟨by decide +kernel, by decide +kernel⟩, List.mem_of_getElem? (i := 753) (by decide +kernel), List.mem_of_getElem? (i := 902) (by decide +kernel), List.mem_of_getElem? (i := 903) (by decide +kernel)⟩
theorem lw_p30 : lw_okq (⟨"WhosePageModel", "goTo", "(I)V"⟩, 24) := ⟨⟨by decide +kernel, by decide +kernel⟩, List.mem_of_getElem? (i := 753) (by decide +kernel), List.mem_of_getElem? (i := 918) (by decide +kernel), List.mem_of_getElem? (i := 919) (by decide +kernel)⟩
theorem lw_p31 : lw_okq (⟨"WhosePageModel", "put", "(II)V"⟩, 24) := ⟨⟨by decide +kernel, by decide +kernel⟩, List.mem_of_getElem? (i := 753) (by decide +kernel), List.mem_of_getElem? (i := 922) (by decide +kernel), List.mem_of_getElem? (i := 923) (by decide +kernel)⟩
def lw_privs_2 : List (MethodName × Nat) := [(⟨"WhosePage$Row", "waysTo", "(III)I"⟩, 5), (⟨"WhosePage$Row", "runsBySize", "()I"⟩, 5), (⟨"WhosePage", "refusalsCounted", "(I)I"⟩, 9), (⟨"WhosePageModel", "no", "(I)I"⟩, 24), (⟨"WhosePageModel", "read", "()I"⟩, 24), (⟨"WhosePageModel", "statement", "()V"⟩, 24), (⟨"WhosePageModel", "oneOf", "([C)I"⟩, 24), (⟨"WhosePageModel", "figures", "(I)I"⟩, 24), (⟨"WhosePageModel", "expect", "(C)V"⟩, 24), (⟨"WhosePageModel", "isAsItMustBe", "(II)Z"⟩, 24), (⟨"WhosePageModel", "come", "()V"⟩, 24), (⟨"WhosePageModel", "isNoJob", "(I)Z"⟩, 24), (⟨"WhosePageModel", "isNoTaker", "(I)Z"⟩, 24), (⟨"WhosePageModel", "change", "(III)I"⟩, 24), (⟨"WhosePageModel", "goTo", "(I)V"⟩, 24), (⟨"WhosePageModel", "put", "(II)V"⟩, 24)]
theorem lw_r2 : ∀ q ∈ lw_privs_2, lw_okq q := List.forall_mem_cons.mpr ⟨lw_p16, List.forall_mem_cons.mpr ⟨lw_p17, List.forall_mem_cons.mpr ⟨lw_p18, List.forall_mem_cons.mpr ⟨lw_p19, List.forall_mem_cons.mpr ⟨lw_p20, List.forall_mem_cons.mpr ⟨lw_p21, List.forall_mem_cons.mpr ⟨lw_p22, List.forall_mem_cons.mpr ⟨lw_p23, List.forall_mem_cons.mpr ⟨lw_p24, List.forall_mem_cons.mpr ⟨lw_p25, List.forall_mem_cons.mpr ⟨lw_p26, List.forall_mem_cons.mpr ⟨lw_p27, List.forall_mem_cons.mpr ⟨lw_p28, List.forall_mem_cons.mpr ⟨lw_p29, List.forall_mem_cons.mpr ⟨lw_p30, List.forall_mem_cons.mpr ⟨lw_p31, fun _ h => absurd h List.not_mem_nil⟩⟩⟩⟩⟩⟩⟩⟩⟩⟩⟩⟩⟩⟩⟩⟩
theorem lw_p32 : lw_okq (⟨"WhosePageModel", "chosen", "(III)I"⟩, 24) := ⟨⟨by decide +kernel, by decide +kernel⟩, List.mem_of_getElem? (i := 753) (by decide +kernel), List.mem_of_getElem? (i := 926) (by decide +kernel), List.mem_of_getElem? (i := 927) (by decide +kernel)⟩
theorem lw_p33 : lw_okq (⟨"WhosePageModel", "waits", "(II)Z"⟩, 24) := ⟨⟨by decide +kernel, by decide +kernel⟩, List.mem_of_getElem? (i := 753) (by decide +kernel), List.mem_of_getElem? (i := 930) (by decide +kernel), List.mem_of_getElem? (i := 931) (by decide +kernel)⟩
theorem lw_p34 : lw_okq (⟨"WhosePageModel", "ahead", "(III)Z"⟩, 24) := ⟨⟨by decide +kernel, by decide +kernel⟩, List.mem_of_getElem? (i := 753) (by decide +kernel), List.mem_of_getElem? (i := 934) (by decide +kernel), List.mem_of_getElem? (i := 935) (by decide +kernel)⟩
theorem lw_p35 : lw_okq (⟨"WhosePageModel", "take", "(I)V"⟩, 24) := ⟨⟨by decide +kernel, by decide +kernel⟩, List.mem_of_getElem? (i := 753) (by decide +kernel), List.mem_of_getElem? (i := 938) (by decide +kernel), List.mem_of_getElem? (i := 939) (by decide +kernel)⟩
theorem lw_p36 : lw_okq (⟨"WhosePageModel", "takesSome", "(I)Z"⟩, 24) := ⟨⟨by decide +kernel, by decide +kernel⟩, List.mem_of_getElem? (i := 753) (by decide +kernel), List.mem_of_getElem? (i := 942) (by decide +kernel), List.mem_of_getElem? (i := 943) (by decide +kernel)⟩
theorem lw_p37 : lw_okq (⟨"WhosePageModel", "isWhole", "(I)Z"⟩, 24) := ⟨⟨by decide +kernel, by decide +kernel⟩, List.mem_of_getElem? (i := 753) (by decide +kernel), List.mem_of_getElem? (i := 946) (by decide +kernel), List.mem_of_getElem? (i := 947) (by decide +kernel)⟩
theorem lw_p38 : lw_okq (⟨"WhosePageModel", "isNoOwner", "(I)Z"⟩, 24) := ⟨⟨by decide +kernel, by decide +kernel⟩, List.mem_of_getElem? (i := 753) (by decide +kernel), List.mem_of_getElem? (i := 962) (by decide +kernel), List.mem_of_getElem? (i := 963) (by decide +kernel)⟩
theorem lw_p39 : lw_okq (⟨"WhosePageModel", "has", "(IZ)I"⟩, 24) := ⟨⟨by decide +kernel, by decide +kernel⟩, List.mem_of_getElem? (i := 753) (by decide +kernel), List.mem_of_getElem? (i := 966) (by decide +kernel), List.mem_of_getElem? (i := 967) (by decide +kernel)⟩
theorem lw_p40 : lw_okq (⟨"WhosePageModel", "when", "(I)I"⟩, 24) := ⟨⟨by decide +kernel, by decide +kernel⟩, List.mem_of_getElem? (i := 753) (by decide +kernel), List.mem_of_getElem? (i := 986) (by decide +kernel), List.mem_of_getElem? (i := 987) (by decide +kernel)⟩
theorem lw_p41 : lw_okq (⟨"WhosePageModel", "mixing", "()I"⟩, 24) := ⟨⟨by decide +kernel, by decide +kernel⟩, List.mem_of_getElem? (i := 753) (by decide +kernel), List.mem_of_getElem? (i := 994) (by decide +kernel), List.mem_of_getElem? (i := 995) (by decide +kernel)⟩
theorem lw_p42 : lw_okq (⟨"WhosePageModel", "together", "(III)I"⟩, 24) := ⟨⟨by decide +kernel, by decide +kernel⟩, List.mem_of_getElem? (i := 753) (by decide +kernel), List.mem_of_getElem? (i := 1011) (by decide +kernel), List.mem_of_getElem? (i := 1012) (by decide +kernel)⟩
theorem lw_p43 : lw_okq (⟨"WhosePageModel", "firstPlace", "(I)I"⟩, 24) := ⟨⟨by decide +kernel, by decide +kernel⟩, List.mem_of_getElem? (i := 753) (by decide +kernel), List.mem_of_getElem? (i := 1032) (by decide +kernel), List.mem_of_getElem? (i := 1033) (by decide +kernel)⟩
def lw_privs_3 : List (MethodName × Nat) := [(⟨"WhosePageModel", "chosen", "(III)I"⟩, 24), (⟨"WhosePageModel", "waits", "(II)Z"⟩, 24), (⟨"WhosePageModel", "ahead", "(III)Z"⟩, 24), (⟨"WhosePageModel", "take", "(I)V"⟩, 24), (⟨"WhosePageModel", "takesSome", "(I)Z"⟩, 24), (⟨"WhosePageModel", "isWhole", "(I)Z"⟩, 24), (⟨"WhosePageModel", "isNoOwner", "(I)Z"⟩, 24), (⟨"WhosePageModel", "has", "(IZ)I"⟩, 24), (⟨"WhosePageModel", "when", "(I)I"⟩, 24), (⟨"WhosePageModel", "mixing", "()I"⟩, 24), (⟨"WhosePageModel", "together", "(III)I"⟩, 24), (⟨"WhosePageModel", "firstPlace", "(I)I"⟩, 24)]
theorem lw_r3 : ∀ q ∈ lw_privs_3, lw_okq q := List.forall_mem_cons.mpr ⟨lw_p32, List.forall_mem_cons.mpr ⟨lw_p33, List.forall_mem_cons.mpr ⟨lw_p34, List.forall_mem_cons.mpr ⟨lw_p35, List.forall_mem_cons.mpr ⟨lw_p36, List.forall_mem_cons.mpr ⟨lw_p37, List.forall_mem_cons.mpr ⟨lw_p38, List.forall_mem_cons.mpr ⟨lw_p39, List.forall_mem_cons.mpr ⟨lw_p40, List.forall_mem_cons.mpr ⟨lw_p41, List.forall_mem_cons.mpr ⟨lw_p42, List.forall_mem_cons.mpr ⟨lw_p43, fun _ h => absurd h List.not_mem_nil⟩⟩⟩⟩⟩⟩⟩⟩⟩⟩⟩⟩
def lw_privs : List (MethodName × Nat) := lw_privs_1 ++ (lw_privs_2 ++ (lw_privs_3))
def lw_tbl : List Cond := k2_sels lw_privs ++ tables_1
theorem lw_privs_ok : ∀ q ∈ lw_privs, lw_okq q := by
  show ∀ q ∈ lw_privs_1 ++ (lw_privs_2 ++ (lw_privs_3)), lw_okq q
  exact List.forall_mem_append.mpr ⟨lw_r1, List.forall_mem_append.mpr ⟨lw_r2, lw_r3⟩⟩
end
section
/-! ===== BEGIN words of one list among another's, by their places ===== -/
theorem goodIn_r {big : List Cond} (ws : List Cond) (ps : List Nat) (hp : ws = ps.filterMap (fun i => big[i]?)) (h : ws.all goodWord = true) : GoodIn big ws := by
  intro w hw
  have h1 := List.all_eq_true.mp h w hw
  rw [hp] at hw
  obtain ⟨i, -, hi⟩ := List.mem_filterMap.mp hw
  have hm : w ∈ big := by first | exact List.mem_of_getElem? hi | exact List.getElem?_mem hi
  exact ⟨hm, good_of_word h1⟩
theorem goodIn_app {big a b : List Cond} (ha : GoodIn big a) (hb : GoodIn big b) : GoodIn big (a ++ b) := fun w h => (List.mem_append.mp h).elim (ha w) (hb w)
theorem goodIn_ca {big a b : List Cond} {c : Cond} (ha : GoodIn big (c :: a)) (hb : GoodIn big b) : GoodIn big (c :: (a ++ b)) := fun w h => (List.mem_cons.mp h).elim (fun e => ha w (List.mem_cons.mpr (Or.inl e))) (fun h => (List.mem_append.mp h).elim (fun h => ha w (List.mem_cons.mpr (Or.inr h))) (hb w))
theorem goodIn_sub {big ws : List Cond} (hm : ∀ w ∈ ws, w ∈ big) (h : ws.all goodWord = true) : GoodIn big ws := fun w hw => ⟨hm w hw, good_of_word (List.all_eq_true.mp h w hw)⟩
/-! ===== END ===== -/

/-! ===== BEGIN printed: names, fields, word lists, decode rows ===== -/
def RX0 : String := "WhosePage$Day"
def TX0 : u_T := fun k => match k with
  | 0 => ("WhosePage$Day", "press", "LWhosePage$Press;", true)
  | 1 => ("WhosePage$Day", "tray", "LWhosePage$Tray;", true)
  | 2 => ("WhosePage$Day", "outSheets", "[I", true)
  | 3 => ("WhosePage$Day", "outMinutes", "[I", true)
  | 4 => ("WhosePage$Day", "outs", "I", false)
  | 5 => ("WhosePage$Day", "firstOut", "[I", true)
  | _ => ("WhosePage$Day", "holders", "[I", true)
def tyX0 : Nat → FieldType := fun k => match k with
  | 0 => .object "WhosePage$Press"
  | 1 => .object "WhosePage$Tray"
  | 2 => .array .int
  | 3 => .array .int
  | 4 => .int
  | 5 => .array .int
  | _ => .array .int
theorem nmX0 : ∀ a, a < 7 → ∀ b, b < 7 → a ≠ b → (TX0 a).2.1 ≠ (TX0 b).2.1 := by decide +kernel
theorem tyX0_ok : ∀ k, k < 7 → parseFieldDescriptor (TX0 k).2.2.1 = some (tyX0 k) := by decide +kernel
abbrev cX0_init : ByteArray := prog_2_method_1_code
def yX0_init : MethodName := ⟨RX0, "<init>", "()V"⟩
abbrev cX0_begin : ByteArray := prog_2_method_2_code
def yX0_begin : MethodName := ⟨RX0, "begin", "(LWhosePage$Plan;)V"⟩
abbrev cX0_passWhole : ByteArray := prog_2_method_3_code
def yX0_passWhole : MethodName := ⟨RX0, "passWhole", "(LWhosePage$Plan;)V"⟩
abbrev cX0_passThrough : ByteArray := prog_2_method_4_code
def yX0_passThrough : MethodName := ⟨RX0, "passThrough", "(LWhosePage$Plan;I)V"⟩
abbrev cX0_passMinute : ByteArray := prog_2_method_5_code
def yX0_passMinute : MethodName := ⟨RX0, "passMinute", "(LWhosePage$Plan;I)V"⟩
abbrev cX0_noteOut : ByteArray := prog_2_method_6_code
def yX0_noteOut : MethodName := ⟨RX0, "noteOut", "(II)V"⟩
abbrev cX0_sheetOut : ByteArray := prog_2_method_7_code
def yX0_sheetOut : MethodName := ⟨RX0, "sheetOut", "(I)I"⟩
abbrev cX0_minuteOut : ByteArray := prog_2_method_8_code
def yX0_minuteOut : MethodName := ⟨RX0, "minuteOut", "(I)I"⟩
abbrev cX0_holderOf : ByteArray := prog_2_method_9_code
def yX0_holderOf : MethodName := ⟨RX0, "holderOf", "(I)I"⟩
abbrev cX0_heldBy : ByteArray := prog_2_method_10_code
def yX0_heldBy : MethodName := ⟨RX0, "heldBy", "(LWhosePage$Plan;IZ)I"⟩
abbrev cX0_othersWith : ByteArray := prog_2_method_11_code
def yX0_othersWith : MethodName := ⟨RX0, "othersWith", "(LWhosePage$Plan;I)I"⟩
abbrev cX0_lastFirstOut : ByteArray := prog_2_method_12_code
def yX0_lastFirstOut : MethodName := ⟨RX0, "lastFirstOut", "(LWhosePage$Plan;I)I"⟩
def RX1 : String := "WhosePage$Plan"
def TX1 : u_T := fun k => match k with
  | 0 => ("WhosePage$Plan", "jobOwner", "[I", true)
  | 1 => ("WhosePage$Plan", "jobSheets", "[I", true)
  | 2 => ("WhosePage$Plan", "jobSent", "[I", true)
  | 3 => ("WhosePage$Plan", "takerKind", "[I", true)
  | 4 => ("WhosePage$Plan", "takerOwner", "[I", true)
  | 5 => ("WhosePage$Plan", "takerFigure", "[I", true)
  | 6 => ("WhosePage$Plan", "takerMinute", "[I", true)
  | 7 => ("WhosePage$Plan", "jobs", "I", false)
  | 8 => ("WhosePage$Plan", "takers", "I", false)
  | 9 => ("WhosePage$Plan", "kind", "I", false)
  | _ => ("WhosePage$Plan", "stop", "I", false)
def tyX1 : Nat → FieldType := fun k => match k with
  | 0 => .array .int
  | 1 => .array .int
  | 2 => .array .int
  | 3 => .array .int
  | 4 => .array .int
  | 5 => .array .int
  | 6 => .array .int
  | 7 => .int
  | 8 => .int
  | 9 => .int
  | _ => .int
theorem nmX1 : ∀ a, a < 11 → ∀ b, b < 11 → a ≠ b → (TX1 a).2.1 ≠ (TX1 b).2.1 := by decide +kernel
theorem tyX1_ok : ∀ k, k < 11 → parseFieldDescriptor (TX1 k).2.2.1 = some (tyX1 k) := by decide +kernel
abbrev cX1_init : ByteArray := prog_3_method_1_code
def yX1_init : MethodName := ⟨RX1, "<init>", "()V"⟩
abbrev cX1_hasJob : ByteArray := prog_3_method_2_code
def yX1_hasJob : MethodName := ⟨RX1, "hasJob", "(I)Z"⟩
abbrev cX1_hasTaker : ByteArray := prog_3_method_3_code
def yX1_hasTaker : MethodName := ⟨RX1, "hasTaker", "(I)Z"⟩
abbrev cX1_hasSheet : ByteArray := prog_3_method_4_code
def yX1_hasSheet : MethodName := ⟨RX1, "hasSheet", "(I)Z"⟩
abbrev cX1_isOf : ByteArray := prog_3_method_5_code
def yX1_isOf : MethodName := ⟨RX1, "isOf", "(II)Z"⟩
abbrev cX1_addJob : ByteArray := prog_3_method_6_code
def yX1_addJob : MethodName := ⟨RX1, "addJob", "(III)Z"⟩
abbrev cX1_addTaker : ByteArray := prog_3_method_7_code
def yX1_addTaker : MethodName := ⟨RX1, "addTaker", "(IIII)Z"⟩
abbrev cX1_setMachine : ByteArray := prog_3_method_8_code
def yX1_setMachine : MethodName := ⟨RX1, "setMachine", "(II)V"⟩
abbrev cX1_allSheets : ByteArray := prog_3_method_9_code
def yX1_allSheets : MethodName := ⟨RX1, "allSheets", "()I"⟩
abbrev cX1_sheetsOf : ByteArray := prog_3_method_10_code
def yX1_sheetsOf : MethodName := ⟨RX1, "sheetsOf", "(I)I"⟩
abbrev cX1_jobsOf : ByteArray := prog_3_method_11_code
def yX1_jobsOf : MethodName := ⟨RX1, "jobsOf", "(I)I"⟩
abbrev cX1_copyFrom : ByteArray := prog_3_method_12_code
def yX1_copyFrom : MethodName := ⟨RX1, "copyFrom", "(LWhosePage$Plan;)V"⟩
def RX2 : String := "WhosePage$Press"
def TX2 : u_T := fun k => match k with
  | 0 => ("WhosePage$Press", "left", "[I", true)
  | 1 => ("WhosePage$Press", "leftInAll", "I", false)
  | 2 => ("WhosePage$Press", "latest", "I", false)
  | 3 => ("WhosePage$Press", "sinceAgain", "I", false)
  | _ => ("WhosePage$Press", "mixed", "I", false)
def tyX2 : Nat → FieldType := fun k => match k with
  | 0 => .array .int
  | 1 => .int
  | 2 => .int
  | 3 => .int
  | _ => .int
theorem nmX2 : ∀ a, a < 5 → ∀ b, b < 5 → a ≠ b → (TX2 a).2.1 ≠ (TX2 b).2.1 := by decide +kernel
theorem tyX2_ok : ∀ k, k < 5 → parseFieldDescriptor (TX2 k).2.2.1 = some (tyX2 k) := by decide +kernel
abbrev cX2_init : ByteArray := prog_4_method_1_code
def yX2_init : MethodName := ⟨RX2, "<init>", "()V"⟩
abbrev cX2_begin : ByteArray := prog_4_method_2_code
def yX2_begin : MethodName := ⟨RX2, "begin", "(LWhosePage$Plan;)V"⟩
abbrev cX2_putOut : ByteArray := prog_4_method_3_code
def yX2_putOut : MethodName := ⟨RX2, "putOut", "(LWhosePage$Plan;I)I"⟩
abbrev cX2_mixedIn : ByteArray := prog_4_method_4_code
def yX2_mixedIn : MethodName := ⟨RX2, "mixedIn", "(LWhosePage$Plan;)I"⟩
abbrev cX2_chosenJob : ByteArray := prog_4_method_5_code
def yX2_chosenJob : MethodName := ⟨RX2, "chosenJob", "(LWhosePage$Plan;I)I"⟩
abbrev cX2_isAhead : ByteArray := prog_4_method_6_code
def yX2_isAhead : MethodName := ⟨RX2, "isAhead", "(LWhosePage$Plan;II)Z"⟩
abbrev cX2_turnsUntil : ByteArray := prog_4_method_7_code
def yX2_turnsUntil : MethodName := ⟨RX2, "turnsUntil", "(I)I"⟩
def RX3 : String := "WhosePage$Row"
def TX3 : u_T := fun k => match k with
  | 0 => ("WhosePage$Row", "numbers", "[I", true)
  | 1 => ("WhosePage$Row", "many", "I", false)
  | 2 => ("WhosePage$Row", "ways", "[I", true)
  | 3 => ("WhosePage$Row", "longest", "[I", true)
  | _ => ("WhosePage$Row", "firstPlace", "[I", true)
def tyX3 : Nat → FieldType := fun k => match k with
  | 0 => .array .int
  | 1 => .int
  | 2 => .array .int
  | 3 => .array .int
  | _ => .array .int
theorem nmX3 : ∀ a, a < 5 → ∀ b, b < 5 → a ≠ b → (TX3 a).2.1 ≠ (TX3 b).2.1 := by decide +kernel
theorem tyX3_ok : ∀ k, k < 5 → parseFieldDescriptor (TX3 k).2.2.1 = some (tyX3 k) := by decide +kernel
abbrev cX3_init : ByteArray := prog_5_method_1_code
def yX3_init : MethodName := ⟨RX3, "<init>", "()V"⟩
abbrev cX3_add : ByteArray := prog_5_method_2_code
def yX3_add : MethodName := ⟨RX3, "add", "(I)I"⟩
abbrev cX3_clear : ByteArray := prog_5_method_3_code
def yX3_clear : MethodName := ⟨RX3, "clear", "()V"⟩
abbrev cX3_waysOfThree : ByteArray := prog_5_method_4_code
def yX3_waysOfThree : MethodName := ⟨RX3, "waysOfThree", "(III)I"⟩
abbrev cX3_waysTo : ByteArray := prog_5_method_5_code
def yX3_waysTo : MethodName := ⟨RX3, "waysTo", "(III)I"⟩
abbrev cX3_at : ByteArray := prog_5_method_6_code
def yX3_at : MethodName := ⟨RX3, "at", "(III)I"⟩
abbrev cX3_fewestParts : ByteArray := prog_5_method_7_code
def yX3_fewestParts : MethodName := ⟨RX3, "fewestParts", "()I"⟩
abbrev cX3_numbersLacking : ByteArray := prog_5_method_8_code
def yX3_numbersLacking : MethodName := ⟨RX3, "numbersLacking", "(II)I"⟩
abbrev cX3_fewestLaps : ByteArray := prog_5_method_9_code
def yX3_fewestLaps : MethodName := ⟨RX3, "fewestLaps", "(I)I"⟩
abbrev cX3_runsBySize : ByteArray := prog_5_method_10_code
def yX3_runsBySize : MethodName := ⟨RX3, "runsBySize", "()I"⟩
def RX4 : String := "WhosePage$Text"
def TX4 : u_T := fun k => match k with
  | 0 => ("WhosePage$Text", "letters", "[I", true)
  | 1 => ("WhosePage$Text", "many", "I", false)
  | 2 => ("WhosePage$Text", "place", "I", false)
  | 3 => ("WhosePage$Text", "head", "I", false)
  | 4 => ("WhosePage$Text", "kind", "I", false)
  | 5 => ("WhosePage$Text", "owner", "I", false)
  | 6 => ("WhosePage$Text", "figure", "I", false)
  | _ => ("WhosePage$Text", "minute", "I", false)
def tyX4 : Nat → FieldType := fun k => match k with
  | 0 => .array .int
  | 1 => .int
  | 2 => .int
  | 3 => .int
  | 4 => .int
  | 5 => .int
  | 6 => .int
  | _ => .int
theorem nmX4 : ∀ a, a < 8 → ∀ b, b < 8 → a ≠ b → (TX4 a).2.1 ≠ (TX4 b).2.1 := by decide +kernel
theorem tyX4_ok : ∀ k, k < 8 → parseFieldDescriptor (TX4 k).2.2.1 = some (tyX4 k) := by decide +kernel
abbrev cX4_init : ByteArray := prog_6_method_1_code
def yX4_init : MethodName := ⟨RX4, "<init>", "()V"⟩
abbrev cX4_add : ByteArray := prog_6_method_2_code
def yX4_add : MethodName := ⟨RX4, "add", "(I)I"⟩
abbrev cX4_clear : ByteArray := prog_6_method_3_code
def yX4_clear : MethodName := ⟨RX4, "clear", "()V"⟩
abbrev cX4_wrongPlace : ByteArray := prog_6_method_4_code
def yX4_wrongPlace : MethodName := ⟨RX4, "wrongPlace", "()I"⟩
abbrev cX4_readStatement : ByteArray := prog_6_method_5_code
def yX4_readStatement : MethodName := ⟨RX4, "readStatement", "()Z"⟩
abbrev cX4_tellTo : ByteArray := prog_6_method_6_code
def yX4_tellTo : MethodName := ⟨RX4, "tellTo", "(LWhosePage$Plan;)Z"⟩
abbrev cX4_readOwnerFigureMinute : ByteArray := prog_6_method_7_code
def yX4_readOwnerFigureMinute : MethodName := ⟨RX4, "readOwnerFigureMinute", "()Z"⟩
abbrev cX4_readKind : ByteArray := prog_6_method_8_code
def yX4_readKind : MethodName := ⟨RX4, "readKind", "(Ljava/lang/String;)Z"⟩
abbrev cX4_readFigure : ByteArray := prog_6_method_9_code
def yX4_readFigure : MethodName := ⟨RX4, "readFigure", "()Z"⟩
abbrev cX4_readMinute : ByteArray := prog_6_method_10_code
def yX4_readMinute : MethodName := ⟨RX4, "readMinute", "()Z"⟩
abbrev cX4_readDigit : ByteArray := prog_6_method_11_code
def yX4_readDigit : MethodName := ⟨RX4, "readDigit", "()I"⟩
abbrev cX4_readSign : ByteArray := prog_6_method_12_code
def yX4_readSign : MethodName := ⟨RX4, "readSign", "(C)Z"⟩
def RX5 : String := "WhosePage$Tray"
def TX5 : u_T := fun k => match k with
  | 0 => ("WhosePage$Tray", "sheets", "[I", true)
  | 1 => ("WhosePage$Tray", "numbersLying", "[I", true)
  | _ => ("WhosePage$Tray", "many", "I", false)
def tyX5 : Nat → FieldType := fun k => match k with
  | 0 => .array .int
  | 1 => .array .int
  | _ => .int
theorem nmX5 : ∀ a, a < 3 → ∀ b, b < 3 → a ≠ b → (TX5 a).2.1 ≠ (TX5 b).2.1 := by decide +kernel
theorem tyX5_ok : ∀ k, k < 3 → parseFieldDescriptor (TX5 k).2.2.1 = some (tyX5 k) := by decide +kernel
abbrev cX5_init : ByteArray := prog_7_method_1_code
def yX5_init : MethodName := ⟨RX5, "<init>", "()V"⟩
abbrev cX5_putUpon : ByteArray := prog_7_method_2_code
def yX5_putUpon : MethodName := ⟨RX5, "putUpon", "(I)V"⟩
abbrev cX5_putBeneath : ByteArray := prog_7_method_3_code
def yX5_putBeneath : MethodName := ⟨RX5, "putBeneath", "(I)V"⟩
abbrev cX5_fromTop : ByteArray := prog_7_method_4_code
def yX5_fromTop : MethodName := ⟨RX5, "fromTop", "(I)I"⟩
abbrev cX5_looksAs : ByteArray := prog_7_method_5_code
def yX5_looksAs : MethodName := ⟨RX5, "looksAs", "(LWhosePage$Row;)Z"⟩
abbrev cX5_giveTo : ByteArray := prog_7_method_6_code
def yX5_giveTo : MethodName := ⟨RX5, "giveTo", "(LWhosePage$Plan;I[I)V"⟩
abbrev cX5_jobsWanted : ByteArray := prog_7_method_7_code
def yX5_jobsWanted : MethodName := ⟨RX5, "jobsWanted", "(LWhosePage$Plan;II)I"⟩
abbrev cX5_wholeJobs : ByteArray := prog_7_method_8_code
def yX5_wholeJobs : MethodName := ⟨RX5, "wholeJobs", "(LWhosePage$Plan;)I"⟩
def RX6 : String := "WhosePage"
def TX6 : u_T := fun k => match k with
  | 0 => ("WhosePage", "plan", "LWhosePage$Plan;", true)
  | 1 => ("WhosePage", "kept", "LWhosePage$Plan;", true)
  | 2 => ("WhosePage", "draft", "LWhosePage$Plan;", true)
  | 3 => ("WhosePage", "text", "LWhosePage$Text;", true)
  | 4 => ("WhosePage", "press", "LWhosePage$Press;", true)
  | 5 => ("WhosePage", "day", "LWhosePage$Day;", true)
  | 6 => ("WhosePage", "told", "LWhosePage$Row;", true)
  | 7 => ("WhosePage", "refusals", "[I", true)
  | _ => ("WhosePage", "imageTaken", "Z", false)
def tyX6 : Nat → FieldType := fun k => match k with
  | 0 => .object "WhosePage$Plan"
  | 1 => .object "WhosePage$Plan"
  | 2 => .object "WhosePage$Plan"
  | 3 => .object "WhosePage$Text"
  | 4 => .object "WhosePage$Press"
  | 5 => .object "WhosePage$Day"
  | 6 => .object "WhosePage$Row"
  | 7 => .array .int
  | _ => .boolean
theorem nmX6 : ∀ a, a < 9 → ∀ b, b < 9 → a ≠ b → (TX6 a).2.1 ≠ (TX6 b).2.1 := by decide +kernel
theorem tyX6_ok : ∀ k, k < 9 → parseFieldDescriptor (TX6 k).2.2.1 = some (tyX6 k) := by decide +kernel
abbrev cX6_init : ByteArray := prog_1_method_1_code
def yX6_init : MethodName := ⟨RX6, "<init>", "()V"⟩
abbrev cX6_letter : ByteArray := prog_1_method_2_code
def yX6_letter : MethodName := ⟨RX6, "letter", "(I)I"⟩
abbrev cX6_floor : ByteArray := prog_1_method_3_code
def yX6_floor : MethodName := ⟨RX6, "floor", "()I"⟩
abbrev cX6_job : ByteArray := prog_1_method_4_code
def yX6_job : MethodName := ⟨RX6, "job", "(II)I"⟩
abbrev cX6_taker : ByteArray := prog_1_method_5_code
def yX6_taker : MethodName := ⟨RX6, "taker", "(II)I"⟩
abbrev cX6_sent : ByteArray := prog_1_method_6_code
def yX6_sent : MethodName := ⟨RX6, "sent", "(II)I"⟩
abbrev cX6_machine : ByteArray := prog_1_method_7_code
def yX6_machine : MethodName := ⟨RX6, "machine", "(II)I"⟩
abbrev cX6_comes : ByteArray := prog_1_method_8_code
def yX6_comes : MethodName := ⟨RX6, "comes", "(II)I"⟩
abbrev cX6_out : ByteArray := prog_1_method_9_code
def yX6_out : MethodName := ⟨RX6, "out", "(II)I"⟩
abbrev cX6_outMany : ByteArray := prog_1_method_10_code
def yX6_outMany : MethodName := ⟨RX6, "outMany", "()I"⟩
abbrev cX6_lies : ByteArray := prog_1_method_11_code
def yX6_lies : MethodName := ⟨RX6, "lies", "(II)I"⟩
abbrev cX6_held : ByteArray := prog_1_method_12_code
def yX6_held : MethodName := ⟨RX6, "held", "(II)I"⟩
abbrev cX6_who : ByteArray := prog_1_method_13_code
def yX6_who : MethodName := ⟨RX6, "who", "(I)I"⟩
abbrev cX6_missing : ByteArray := prog_1_method_14_code
def yX6_missing : MethodName := ⟨RX6, "missing", "(I)I"⟩
abbrev cX6_ask : ByteArray := prog_1_method_15_code
def yX6_ask : MethodName := ⟨RX6, "ask", "(I)I"⟩
abbrev cX6_ready : ByteArray := prog_1_method_16_code
def yX6_ready : MethodName := ⟨RX6, "ready", "(I)I"⟩
abbrev cX6_mixed : ByteArray := prog_1_method_17_code
def yX6_mixed : MethodName := ⟨RX6, "mixed", "()I"⟩
abbrev cX6_byKind : ByteArray := prog_1_method_18_code
def yX6_byKind : MethodName := ⟨RX6, "byKind", "()I"⟩
abbrev cX6_send : ByteArray := prog_1_method_19_code
def yX6_send : MethodName := ⟨RX6, "send", "(II)I"⟩
abbrev cX6_two : ByteArray := prog_1_method_20_code
def yX6_two : MethodName := ⟨RX6, "two", "(II)I"⟩
abbrev cX6_three : ByteArray := prog_1_method_21_code
def yX6_three : MethodName := ⟨RX6, "three", "(III)I"⟩
abbrev cX6_parts : ByteArray := prog_1_method_22_code
def yX6_parts : MethodName := ⟨RX6, "parts", "()I"⟩
abbrev cX6_lacks : ByteArray := prog_1_method_23_code
def yX6_lacks : MethodName := ⟨RX6, "lacks", "(I)I"⟩
abbrev cX6_laps : ByteArray := prog_1_method_24_code
def yX6_laps : MethodName := ⟨RX6, "laps", "(I)I"⟩
abbrev cX6_waits : ByteArray := prog_1_method_25_code
def yX6_waits : MethodName := ⟨RX6, "waits", "(III)I"⟩
abbrev cX6_vain : ByteArray := prog_1_method_26_code
def yX6_vain : MethodName := ⟨RX6, "vain", "(III)I"⟩
abbrev cX6_seen : ByteArray := prog_1_method_27_code
def yX6_seen : MethodName := ⟨RX6, "seen", "(I)I"⟩
abbrev cX6_row : ByteArray := prog_1_method_28_code
def yX6_row : MethodName := ⟨RX6, "row", "(I)I"⟩
abbrev cX6_judge : ByteArray := prog_1_method_29_code
def yX6_judge : MethodName := ⟨RX6, "judge", "()I"⟩
abbrev cX6_lots : ByteArray := prog_1_method_30_code
def yX6_lots : MethodName := ⟨RX6, "lots", "(II)I"⟩
abbrev cX6_image : ByteArray := prog_1_method_31_code
def yX6_image : MethodName := ⟨RX6, "image", "()I"⟩
abbrev cX6_on : ByteArray := prog_1_method_32_code
def yX6_on : MethodName := ⟨RX6, "on", "()I"⟩
abbrev cX6_count : ByteArray := prog_1_method_33_code
def yX6_count : MethodName := ⟨RX6, "count", "(I)I"⟩
abbrev cX6_refusalsCounted : ByteArray := prog_1_method_34_code
def yX6_refusalsCounted : MethodName := ⟨RX6, "refusalsCounted", "(I)I"⟩
abbrev cX6_refuse : ByteArray := prog_1_method_35_code
def yX6_refuse : MethodName := ⟨RX6, "refuse", "(I)I"⟩
abbrev cX6_tellStatements : ByteArray := prog_1_method_36_code
def yX6_tellStatements : MethodName := ⟨RX6, "tellStatements", "()I"⟩
abbrev cX6_readyMinute : ByteArray := prog_1_method_37_code
def yX6_readyMinute : MethodName := ⟨RX6, "readyMinute", "(I)I"⟩
abbrev cX6_areTwoJobs : ByteArray := prog_1_method_38_code
def yX6_areTwoJobs : MethodName := ⟨RX6, "areTwoJobs", "(II)Z"⟩
abbrev cX6_isOwner : ByteArray := prog_1_method_39_code
def yX6_isOwner : MethodName := ⟨RX6, "isOwner", "(I)Z"⟩
abbrev cX6_isZeroOrOne : ByteArray := prog_1_method_40_code
def yX6_isZeroOrOne : MethodName := ⟨RX6, "isZeroOrOne", "(I)Z"⟩
abbrev cX6_hasBit : ByteArray := prog_1_method_41_code
def yX6_hasBit : MethodName := ⟨RX6, "hasBit", "(II)Z"⟩
abbrev cX6_bitsUpTo : ByteArray := prog_1_method_42_code
def yX6_bitsUpTo : MethodName := ⟨RX6, "bitsUpTo", "(I)I"⟩
def RX7 : String := "WhosePageModel"
def TX7 : u_T := fun k => match k with
  | 0 => ("WhosePageModel", "refused", "[I", true)
  | 1 => ("WhosePageModel", "now", "[I", true)
  | 2 => ("WhosePageModel", "then", "[I", true)
  | 3 => ("WhosePageModel", "kept", "Z", false)
  | 4 => ("WhosePageModel", "tape", "[I", true)
  | 5 => ("WhosePageModel", "taped", "I", false)
  | 6 => ("WhosePageModel", "at", "I", false)
  | 7 => ("WhosePageModel", "well", "Z", false)
  | 8 => ("WhosePageModel", "begins", "[C", true)
  | 9 => ("WhosePageModel", "machines", "[C", true)
  | 10 => ("WhosePageModel", "takers", "[C", true)
  | 11 => ("WhosePageModel", "sort", "I", false)
  | 12 => ("WhosePageModel", "field", "[I", true)
  | 13 => ("WhosePageModel", "left", "[I", true)
  | 14 => ("WhosePageModel", "out", "[I", true)
  | 15 => ("WhosePageModel", "outAt", "[I", true)
  | 16 => ("WhosePageModel", "outs", "I", false)
  | 17 => ("WhosePageModel", "tray", "[I", true)
  | 18 => ("WhosePageModel", "lying", "I", false)
  | 19 => ("WhosePageModel", "holder", "[I", true)
  | 20 => ("WhosePageModel", "whole", "[Z", true)
  | 21 => ("WhosePageModel", "line", "[I", true)
  | 22 => ("WhosePageModel", "lined", "I", false)
  | _ => ("WhosePageModel", "ways", "[I", true)
def tyX7 : Nat → FieldType := fun k => match k with
  | 0 => .array .int
  | 1 => .array .int
  | 2 => .array .int
  | 3 => .boolean
  | 4 => .array .int
  | 5 => .int
  | 6 => .int
  | 7 => .boolean
  | 8 => .array .char
  | 9 => .array .char
  | 10 => .array .char
  | 11 => .int
  | 12 => .array .int
  | 13 => .array .int
  | 14 => .array .int
  | 15 => .array .int
  | 16 => .int
  | 17 => .array .int
  | 18 => .int
  | 19 => .array .int
  | 20 => .array .boolean
  | 21 => .array .int
  | 22 => .int
  | _ => .array .int
theorem nmX7 : ∀ a, a < 24 → ∀ b, b < 24 → a ≠ b → (TX7 a).2.1 ≠ (TX7 b).2.1 := by decide +kernel
theorem tyX7_ok : ∀ k, k < 24 → parseFieldDescriptor (TX7 k).2.2.1 = some (tyX7 k) := by decide +kernel
abbrev cX7_no : ByteArray := prog_9_method_1_code
def yX7_no : MethodName := ⟨RX7, "no", "(I)I"⟩
abbrev cX7_init : ByteArray := prog_9_method_2_code
def yX7_init : MethodName := ⟨RX7, "<init>", "()V"⟩
abbrev cX7_image : ByteArray := prog_9_method_3_code
def yX7_image : MethodName := ⟨RX7, "image", "()I"⟩
abbrev cX7_on : ByteArray := prog_9_method_4_code
def yX7_on : MethodName := ⟨RX7, "on", "()I"⟩
abbrev cX7_letter : ByteArray := prog_9_method_5_code
def yX7_letter : MethodName := ⟨RX7, "letter", "(I)I"⟩
abbrev cX7_expect : ByteArray := prog_9_method_6_code
def yX7_expect : MethodName := ⟨RX7, "expect", "(C)V"⟩
abbrev cX7_oneOf : ByteArray := prog_9_method_7_code
def yX7_oneOf : MethodName := ⟨RX7, "oneOf", "([C)I"⟩
abbrev cX7_figures : ByteArray := prog_9_method_8_code
def yX7_figures : MethodName := ⟨RX7, "figures", "(I)I"⟩
abbrev cX7_statement : ByteArray := prog_9_method_9_code
def yX7_statement : MethodName := ⟨RX7, "statement", "()V"⟩
abbrev cX7_isAsItMustBe : ByteArray := prog_9_method_10_code
def yX7_isAsItMustBe : MethodName := ⟨RX7, "isAsItMustBe", "(II)Z"⟩
abbrev cX7_come : ByteArray := prog_9_method_11_code
def yX7_come : MethodName := ⟨RX7, "come", "()V"⟩
abbrev cX7_read : ByteArray := prog_9_method_12_code
def yX7_read : MethodName := ⟨RX7, "read", "()I"⟩
abbrev cX7_floor : ByteArray := prog_9_method_13_code
def yX7_floor : MethodName := ⟨RX7, "floor", "()I"⟩
abbrev cX7_waits : ByteArray := prog_9_method_14_code
def yX7_waits : MethodName := ⟨RX7, "waits", "(II)Z"⟩
abbrev cX7_ahead : ByteArray := prog_9_method_15_code
def yX7_ahead : MethodName := ⟨RX7, "ahead", "(III)Z"⟩
abbrev cX7_chosen : ByteArray := prog_9_method_16_code
def yX7_chosen : MethodName := ⟨RX7, "chosen", "(III)I"⟩
abbrev cX7_put : ByteArray := prog_9_method_17_code
def yX7_put : MethodName := ⟨RX7, "put", "(II)V"⟩
abbrev cX7_isWhole : ByteArray := prog_9_method_18_code
def yX7_isWhole : MethodName := ⟨RX7, "isWhole", "(I)Z"⟩
abbrev cX7_takesSome : ByteArray := prog_9_method_19_code
def yX7_takesSome : MethodName := ⟨RX7, "takesSome", "(I)Z"⟩
abbrev cX7_take : ByteArray := prog_9_method_20_code
def yX7_take : MethodName := ⟨RX7, "take", "(I)V"⟩
abbrev cX7_goTo : ByteArray := prog_9_method_21_code
def yX7_goTo : MethodName := ⟨RX7, "goTo", "(I)V"⟩
abbrev cX7_mixing : ByteArray := prog_9_method_22_code
def yX7_mixing : MethodName := ⟨RX7, "mixing", "()I"⟩
abbrev cX7_isNoOwner : ByteArray := prog_9_method_23_code
def yX7_isNoOwner : MethodName := ⟨RX7, "isNoOwner", "(I)Z"⟩
abbrev cX7_isNoJob : ByteArray := prog_9_method_24_code
def yX7_isNoJob : MethodName := ⟨RX7, "isNoJob", "(I)Z"⟩
abbrev cX7_isNoTaker : ByteArray := prog_9_method_25_code
def yX7_isNoTaker : MethodName := ⟨RX7, "isNoTaker", "(I)Z"⟩
abbrev cX7_job : ByteArray := prog_9_method_26_code
def yX7_job : MethodName := ⟨RX7, "job", "(II)I"⟩
abbrev cX7_taker : ByteArray := prog_9_method_27_code
def yX7_taker : MethodName := ⟨RX7, "taker", "(II)I"⟩
abbrev cX7_change : ByteArray := prog_9_method_28_code
def yX7_change : MethodName := ⟨RX7, "change", "(III)I"⟩
abbrev cX7_sent : ByteArray := prog_9_method_29_code
def yX7_sent : MethodName := ⟨RX7, "sent", "(II)I"⟩
abbrev cX7_machine : ByteArray := prog_9_method_30_code
def yX7_machine : MethodName := ⟨RX7, "machine", "(II)I"⟩
abbrev cX7_comes : ByteArray := prog_9_method_31_code
def yX7_comes : MethodName := ⟨RX7, "comes", "(II)I"⟩
abbrev cX7_out : ByteArray := prog_9_method_32_code
def yX7_out : MethodName := ⟨RX7, "out", "(II)I"⟩
abbrev cX7_outMany : ByteArray := prog_9_method_33_code
def yX7_outMany : MethodName := ⟨RX7, "outMany", "()I"⟩
abbrev cX7_lies : ByteArray := prog_9_method_34_code
def yX7_lies : MethodName := ⟨RX7, "lies", "(II)I"⟩
abbrev cX7_has : ByteArray := prog_9_method_35_code
def yX7_has : MethodName := ⟨RX7, "has", "(IZ)I"⟩
abbrev cX7_held : ByteArray := prog_9_method_36_code
def yX7_held : MethodName := ⟨RX7, "held", "(II)I"⟩
abbrev cX7_who : ByteArray := prog_9_method_37_code
def yX7_who : MethodName := ⟨RX7, "who", "(I)I"⟩
abbrev cX7_missing : ByteArray := prog_9_method_38_code
def yX7_missing : MethodName := ⟨RX7, "missing", "(I)I"⟩
abbrev cX7_ask : ByteArray := prog_9_method_39_code
def yX7_ask : MethodName := ⟨RX7, "ask", "(I)I"⟩
abbrev cX7_when : ByteArray := prog_9_method_40_code
def yX7_when : MethodName := ⟨RX7, "when", "(I)I"⟩
abbrev cX7_ready : ByteArray := prog_9_method_41_code
def yX7_ready : MethodName := ⟨RX7, "ready", "(I)I"⟩
abbrev cX7_mixed : ByteArray := prog_9_method_42_code
def yX7_mixed : MethodName := ⟨RX7, "mixed", "()I"⟩
abbrev cX7_byKind : ByteArray := prog_9_method_43_code
def yX7_byKind : MethodName := ⟨RX7, "byKind", "()I"⟩
abbrev cX7_send : ByteArray := prog_9_method_44_code
def yX7_send : MethodName := ⟨RX7, "send", "(II)I"⟩
abbrev cX7_together : ByteArray := prog_9_method_45_code
def yX7_together : MethodName := ⟨RX7, "together", "(III)I"⟩
abbrev cX7_two : ByteArray := prog_9_method_46_code
def yX7_two : MethodName := ⟨RX7, "two", "(II)I"⟩
abbrev cX7_three : ByteArray := prog_9_method_47_code
def yX7_three : MethodName := ⟨RX7, "three", "(III)I"⟩
abbrev cX7_parts : ByteArray := prog_9_method_48_code
def yX7_parts : MethodName := ⟨RX7, "parts", "()I"⟩
abbrev cX7_lacks : ByteArray := prog_9_method_49_code
def yX7_lacks : MethodName := ⟨RX7, "lacks", "(I)I"⟩
abbrev cX7_firstPlace : ByteArray := prog_9_method_50_code
def yX7_firstPlace : MethodName := ⟨RX7, "firstPlace", "(I)I"⟩
abbrev cX7_laps : ByteArray := prog_9_method_51_code
def yX7_laps : MethodName := ⟨RX7, "laps", "(I)I"⟩
abbrev cX7_waits_ : ByteArray := prog_9_method_52_code
def yX7_waits_ : MethodName := ⟨RX7, "waits", "(III)I"⟩
abbrev cX7_vain : ByteArray := prog_9_method_53_code
def yX7_vain : MethodName := ⟨RX7, "vain", "(III)I"⟩
abbrev cX7_seen : ByteArray := prog_9_method_54_code
def yX7_seen : MethodName := ⟨RX7, "seen", "(I)I"⟩
abbrev cX7_row : ByteArray := prog_9_method_55_code
def yX7_row : MethodName := ⟨RX7, "row", "(I)I"⟩
abbrev cX7_judge : ByteArray := prog_9_method_56_code
def yX7_judge : MethodName := ⟨RX7, "judge", "()I"⟩
abbrev cX7_lots : ByteArray := prog_9_method_57_code
def yX7_lots : MethodName := ⟨RX7, "lots", "(II)I"⟩
abbrev cX7_count : ByteArray := prog_9_method_58_code
def yX7_count : MethodName := ⟨RX7, "count", "(I)I"⟩
def RJx145de : String := "java/io/Serializable"
def TJx145de : u_T := fun k => match k with
  | _ => ("", "", "", false)
def tyJx145de : Nat → FieldType := fun k => match k with
  | _ => .int
theorem nmJx145de : ∀ a, a < 0 → ∀ b, b < 0 → a ≠ b → (TJx145de a).2.1 ≠ (TJx145de b).2.1 := by decide +kernel
theorem tyJx145de_ok : ∀ k, k < 0 → parseFieldDescriptor (TJx145de k).2.2.1 = some (tyJx145de k) := by decide +kernel
def RJx9f9b0 : String := "java/lang/CharSequence"
def TJx9f9b0 : u_T := fun k => match k with
  | _ => ("", "", "", false)
def tyJx9f9b0 : Nat → FieldType := fun k => match k with
  | _ => .int
theorem nmJx9f9b0 : ∀ a, a < 0 → ∀ b, b < 0 → a ≠ b → (TJx9f9b0 a).2.1 ≠ (TJx9f9b0 b).2.1 := by decide +kernel
theorem tyJx9f9b0_ok : ∀ k, k < 0 → parseFieldDescriptor (TJx9f9b0 k).2.2.1 = some (tyJx9f9b0 k) := by decide +kernel
def RJ11 : String := "java/lang/Character"
def TJ11 : u_T := fun k => match k with
  | _ => ("", "", "", false)
def tyJ11 : Nat → FieldType := fun k => match k with
  | _ => .int
theorem nmJ11 : ∀ a, a < 0 → ∀ b, b < 0 → a ≠ b → (TJ11 a).2.1 ≠ (TJ11 b).2.1 := by decide +kernel
theorem tyJ11_ok : ∀ k, k < 0 → parseFieldDescriptor (TJ11 k).2.2.1 = some (tyJ11 k) := by decide +kernel
abbrev cJ11_isValidCodePoint_9a6ad : ByteArray := prog_10_method_11_code
def yJ11_isValidCodePoint_9a6ad : MethodName := ⟨RJ11, "isValidCodePoint", "(I)Z"⟩
abbrev cJ11_highSurrogate_5068e : ByteArray := prog_10_method_28_code
def yJ11_highSurrogate_5068e : MethodName := ⟨RJ11, "highSurrogate", "(I)C"⟩
abbrev cJ11_lowSurrogate_5068e : ByteArray := prog_10_method_29_code
def yJ11_lowSurrogate_5068e : MethodName := ⟨RJ11, "lowSurrogate", "(I)C"⟩
def RJxb160c : String := "java/lang/Comparable"
def TJxb160c : u_T := fun k => match k with
  | _ => ("", "", "", false)
def tyJxb160c : Nat → FieldType := fun k => match k with
  | _ => .int
theorem nmJxb160c : ∀ a, a < 0 → ∀ b, b < 0 → a ≠ b → (TJxb160c a).2.1 ≠ (TJxb160c b).2.1 := by decide +kernel
theorem tyJxb160c_ok : ∀ k, k < 0 → parseFieldDescriptor (TJxb160c k).2.2.1 = some (tyJxb160c k) := by decide +kernel
def RJ9 : String := "java/lang/Math"
def TJ9 : u_T := fun k => match k with
  | _ => ("", "", "", false)
def tyJ9 : Nat → FieldType := fun k => match k with
  | _ => .int
theorem nmJ9 : ∀ a, a < 0 → ∀ b, b < 0 → a ≠ b → (TJ9 a).2.1 ≠ (TJ9 b).2.1 := by decide +kernel
theorem tyJ9_ok : ∀ k, k < 0 → parseFieldDescriptor (TJ9 k).2.2.1 = some (tyJ9 k) := by decide +kernel
abbrev cJ9_floorMod_7cf53 : ByteArray := prog_11_method_50_code
def yJ9_floorMod_7cf53 : MethodName := ⟨RJ9, "floorMod", "(II)I"⟩
abbrev cJ9_max_7cf53 : ByteArray := prog_11_method_65_code
def yJ9_max_7cf53 : MethodName := ⟨RJ9, "max", "(II)I"⟩
abbrev cJ9_min_7cf53 : ByteArray := prog_11_method_69_code
def yJ9_min_7cf53 : MethodName := ⟨RJ9, "min", "(II)I"⟩
def RJ0 : String := "java/lang/String"
def TJ0 : u_T := fun k => match k with
  | _ => ("", "", "", false)
def tyJ0 : Nat → FieldType := fun k => match k with
  | _ => .int
theorem nmJ0 : ∀ a, a < 0 → ∀ b, b < 0 → a ≠ b → (TJ0 a).2.1 ≠ (TJ0 b).2.1 := by decide +kernel
theorem tyJ0_ok : ∀ k, k < 0 → parseFieldDescriptor (TJ0 k).2.2.1 = some (tyJ0 k) := by decide +kernel
abbrev cJ0_length_8abf5 : ByteArray := prog_12_method_54_code
def yJ0_length_8abf5 : MethodName := ⟨RJ0, "length", "()I"⟩
abbrev cJ0_indexOf_0f7a4 : ByteArray := prog_12_method_79_code
def yJ0_indexOf_0f7a4 : MethodName := ⟨RJ0, "indexOf", "(I)I"⟩
abbrev cJ0_indexOf_7cf53 : ByteArray := prog_12_method_80_code
def yJ0_indexOf_7cf53 : MethodName := ⟨RJ0, "indexOf", "(II)I"⟩
abbrev cJ0_coder_7d493 : ByteArray := prog_12_method_152_code
def yJ0_coder_7d493 : MethodName := ⟨RJ0, "coder", "()B"⟩
abbrev cJ0_isLatin1_aae02 : ByteArray := prog_12_method_154_code
def yJ0_isLatin1_aae02 : MethodName := ⟨RJ0, "isLatin1", "()Z"⟩
abbrev cJ0_checkBoundsBeginEnd_23922 : ByteArray := prog_12_method_158_code
def yJ0_checkBoundsBeginEnd_23922 : MethodName := ⟨RJ0, "checkBoundsBeginEnd", "(III)V"⟩
def RJ1 : String := "java/lang/StringLatin1"
def TJ1 : u_T := fun k => match k with
  | _ => ("", "", "", false)
def tyJ1 : Nat → FieldType := fun k => match k with
  | _ => .int
theorem nmJ1 : ∀ a, a < 0 → ∀ b, b < 0 → a ≠ b → (TJ1 a).2.1 ≠ (TJ1 b).2.1 := by decide +kernel
theorem tyJ1_ok : ∀ k, k < 0 → parseFieldDescriptor (TJ1 k).2.2.1 = some (tyJ1 k) := by decide +kernel
abbrev cJ1_canEncode_9a6ad : ByteArray := prog_13_method_4_code
def yJ1_canEncode_9a6ad : MethodName := ⟨RJ1, "canEncode", "(I)Z"⟩
abbrev cJ1_indexOf_4cfef : ByteArray := prog_13_method_22_code
def yJ1_indexOf_4cfef : MethodName := ⟨RJ1, "indexOf", "([BIII)I"⟩
abbrev cJ1_indexOfChar_4cfef : ByteArray := prog_13_method_23_code
def yJ1_indexOfChar_4cfef : MethodName := ⟨RJ1, "indexOfChar", "([BIII)I"⟩
def RJ2 : String := "java/lang/StringUTF16"
def TJ2 : u_T := fun k => match k with
  | _ => ("", "", "", false)
def tyJ2 : Nat → FieldType := fun k => match k with
  | _ => .int
theorem nmJ2 : ∀ a, a < 0 → ∀ b, b < 0 → a ≠ b → (TJ2 a).2.1 ≠ (TJ2 b).2.1 := by decide +kernel
theorem tyJ2_ok : ∀ k, k < 0 → parseFieldDescriptor (TJ2 k).2.2.1 = some (tyJ2 k) := by decide +kernel
abbrev cJ2_getChar_3b067 : ByteArray := prog_14_method_5_code
def yJ2_getChar_3b067 : MethodName := ⟨RJ2, "getChar", "([BI)C"⟩
abbrev cJ2_length_9d52b : ByteArray := prog_14_method_6_code
def yJ2_length_9d52b : MethodName := ⟨RJ2, "length", "([B)I"⟩
abbrev cJ2_indexOf_4cfef : ByteArray := prog_14_method_40_code
def yJ2_indexOf_4cfef : MethodName := ⟨RJ2, "indexOf", "([BIII)I"⟩
abbrev cJ2_indexOfChar_4cfef : ByteArray := prog_14_method_47_code
def yJ2_indexOfChar_4cfef : MethodName := ⟨RJ2, "indexOfChar", "([BIII)I"⟩
abbrev cJ2_indexOfCharUnsafe_4cfef : ByteArray := prog_14_method_48_code
def yJ2_indexOfCharUnsafe_4cfef : MethodName := ⟨RJ2, "indexOfCharUnsafe", "([BIII)I"⟩
abbrev cJ2_indexOfSupplementary_4cfef : ByteArray := prog_14_method_49_code
def yJ2_indexOfSupplementary_4cfef : MethodName := ⟨RJ2, "indexOfSupplementary", "([BIII)I"⟩
abbrev cJ2_checkBoundsBeginEnd_d044e : ByteArray := prog_14_method_93_code
def yJ2_checkBoundsBeginEnd_d044e : MethodName := ⟨RJ2, "checkBoundsBeginEnd", "(II[B)V"⟩
def RJ10 : String := "java/lang/System"
def TJ10 : u_T := fun k => match k with
  | _ => ("", "", "", false)
def tyJ10 : Nat → FieldType := fun k => match k with
  | _ => .int
theorem nmJ10 : ∀ a, a < 0 → ∀ b, b < 0 → a ≠ b → (TJ10 a).2.1 ≠ (TJ10 b).2.1 := by decide +kernel
theorem tyJ10_ok : ∀ k, k < 0 → parseFieldDescriptor (TJ10 k).2.2.1 = some (tyJ10 k) := by decide +kernel
def RJxfd54e : String := "java/lang/constant/Constable"
def TJxfd54e : u_T := fun k => match k with
  | _ => ("", "", "", false)
def tyJxfd54e : Nat → FieldType := fun k => match k with
  | _ => .int
theorem nmJxfd54e : ∀ a, a < 0 → ∀ b, b < 0 → a ≠ b → (TJxfd54e a).2.1 ≠ (TJxfd54e b).2.1 := by decide +kernel
theorem tyJxfd54e_ok : ∀ k, k < 0 → parseFieldDescriptor (TJxfd54e k).2.2.1 = some (tyJxfd54e k) := by decide +kernel
def RJx3cf43 : String := "java/lang/constant/ConstantDesc"
def TJx3cf43 : u_T := fun k => match k with
  | _ => ("", "", "", false)
def tyJx3cf43 : Nat → FieldType := fun k => match k with
  | _ => .int
theorem nmJx3cf43 : ∀ a, a < 0 → ∀ b, b < 0 → a ≠ b → (TJx3cf43 a).2.1 ≠ (TJx3cf43 b).2.1 := by decide +kernel
theorem tyJx3cf43_ok : ∀ k, k < 0 → parseFieldDescriptor (TJx3cf43 k).2.2.1 = some (tyJx3cf43 k) := by decide +kernel
def RJ7 : String := "java/util/Arrays"
def TJ7 : u_T := fun k => match k with
  | _ => ("", "", "", false)
def tyJ7 : Nat → FieldType := fun k => match k with
  | _ => .int
theorem nmJ7 : ∀ a, a < 0 → ∀ b, b < 0 → a ≠ b → (TJ7 a).2.1 ≠ (TJ7 b).2.1 := by decide +kernel
theorem tyJ7_ok : ∀ k, k < 0 → parseFieldDescriptor (TJ7 k).2.2.1 = some (tyJ7 k) := by decide +kernel
abbrev cJ7_fill_53178 : ByteArray := prog_16_method_103_code
def yJ7_fill_53178 : MethodName := ⟨RJ7, "fill", "([II)V"⟩
def RJ3 : String := "jdk/internal/util/Preconditions"
def TJ3 : u_T := fun k => match k with
  | _ => ("", "", "", false)
def tyJ3 : Nat → FieldType := fun k => match k with
  | _ => .int
theorem nmJ3 : ∀ a, a < 0 → ∀ b, b < 0 → a ≠ b → (TJ3 a).2.1 ≠ (TJ3 b).2.1 := by decide +kernel
theorem tyJ3_ok : ∀ k, k < 0 → parseFieldDescriptor (TJ3 k).2.2.1 = some (tyJ3 k) := by decide +kernel
abbrev cJ3_checkFromToIndex_8c36e : ByteArray := prog_17_method_12_code
def yJ3_checkFromToIndex_8c36e : MethodName := ⟨RJ3, "checkFromToIndex", "(IIILjava/util/function/BiFunction;)I"⟩
def RL : String := "WhosePageLaw"
abbrev cL_law : ByteArray := code
def yL_law : MethodName := ⟨RL, "law", "([I)Z"⟩
abbrev vwCl : List vw_C := [(RX0, TX0, 7), (RX1, TX1, 11), (RX2, TX2, 5), (RX3, TX3, 5), (RX4, TX4, 8), (RX5, TX5, 3), (RX6, TX6, 9), (RX7, TX7, 24)]
end
section
/-! ===== a machine of our own over numbers of cells: refs are places in a list of cells, the addresses are a function of the places ===== -/
def AW : List Cond := lw_tbl.filter goodWord
def tV (a : Nat → Nat) : Value → Value
  | .ref i => .ref (a i)
  | .int x => .int x
  | .long x => .long x
  | .float x => .float x
  | .double x => .double x
  | .null => .null
  | .retAddr x => .retAddr x
theorem tV_cat (a : Nat → Nat) (v : Value) : (tV a v).category = v.category := by cases v <;> rfl
abbrev PCell : Type := (Nat × Nat × (Nat → Int32)) ⊕ (Nat × List Value)
def tC (ca : Nat → ClassId) (a : Nat → Nat) : PCell → va_E
  | .inl (t, n, f) => .inl (ca t, n, .inl f)
  | .inr (ci, fs) => .inr (ci, fs.map (tV a))
def tW (ca : Nat → ClassId) (a : Nat → Nat) (h : List PCell) : va_W := h.mapIdx (fun i c => (a i, tC ca a c))
theorem tW_at {ca : Nat → ClassId} {a : Nat → Nat} {h : List PCell} {i : Nat} {c : PCell} (e : h[i]? = some c) : (tW ca a h)[i]? = some (a i, tC ca a c) := by
  simp [tW, List.getElem?_mapIdx, e]
theorem tW_of {ca : Nat → ClassId} {a : Nat → Nat} {h : List PCell} {i : Nat} {q : Nat × va_E} (e : (tW ca a h)[i]? = some q) : ∃ c, h[i]? = some c ∧ q = (a i, tC ca a c) := by
  simp only [tW, List.getElem?_mapIdx, Option.map_eq_some_iff] at e
  obtain ⟨c, h1, h2⟩ := e
  exact ⟨c, h1, h2.symm⟩
theorem tW_set {ca : Nat → ClassId} {a : Nat → Nat} (h : List PCell) (i : Nat) (c : PCell) : (tW ca a h).set i (a i, tC ca a c) = tW ca a (h.set i c) := by
  apply List.ext_getElem?
  intro j
  simp only [tW, List.getElem?_set, List.getElem?_mapIdx, List.length_mapIdx]
  by_cases hij : i = j
  · subst hij
    by_cases hl : i < h.length <;> simp [hl]
  · simp [hij]
theorem tW_len {ca : Nat → ClassId} {a : Nat → Nat} (h : List PCell) : (tW ca a h).length = h.length := by simp [tW]
/-- which refs a value, a cell, a heap may hold -/
def okV (n : Nat) : Value → Bool
  | .ref i => Nat.blt i n || Nat.ble 1000 i
  | _ => true
def okC (n : Nat) : PCell → Bool
  | .inl _ => true
  | .inr (_, fs) => fs.all (okV n)
def okH (n : Nat) (h : List PCell) : Bool := h.all (okC n)
theorem tV_congr {a b : Nat → Nat} {n : Nat} (hab : ∀ i, i < n ∨ 1000 ≤ i → a i = b i) {v : Value} (hv : okV n v = true) : tV a v = tV b v := by
  cases v <;> simp only [tV]
  rename_i i
  simp only [okV, Bool.or_eq_true, Nat.blt_eq, Nat.ble_eq] at hv
  rw [hab i hv]
theorem tC_congr {ca : Nat → ClassId} {a b : Nat → Nat} {n : Nat} (hab : ∀ i, i < n ∨ 1000 ≤ i → a i = b i) {c : PCell} (hc : okC n c = true) : tC ca a c = tC ca b c := by
  rcases c with ⟨t, k, f⟩ | ⟨ci, fs⟩
  · rfl
  · simp only [tC]
    congr 2
    apply List.map_congr_left
    intro v hv
    exact tV_congr hab (List.all_eq_true.mp hc v hv)
theorem tW_congr {ca : Nat → ClassId} {a b : Nat → Nat} {n : Nat} (hab : ∀ i, i < n ∨ 1000 ≤ i → a i = b i) {h : List PCell} (hn : h.length ≤ n) (hc : okH n h = true) : tW ca a h = tW ca b h := by
  apply List.ext_getElem?
  intro j
  simp only [tW, List.getElem?_mapIdx]
  cases hj : h[j]? with
  | none => rfl
  | some c =>
    have hl : j < h.length := (List.getElem?_eq_some_iff.mp hj).1
    simp only [Option.map_some]
    rw [hab j (Or.inl (by omega)), tC_congr hab (List.all_eq_true.mp hc c (List.mem_of_getElem? hj))]
/-- renaming -/
def rC (ρ : Nat → Nat) : PCell → PCell
  | .inl x => .inl x
  | .inr (ci, fs) => .inr (ci, fs.map (tV ρ))
theorem tV_tV (a ρ : Nat → Nat) (v : Value) : tV a (tV ρ v) = tV (fun i => a (ρ i)) v := by cases v <;> rfl
theorem tC_rC (ca : Nat → ClassId) (a ρ : Nat → Nat) (c : PCell) : tC ca a (rC ρ c) = tC ca (fun i => a (ρ i)) c := by
  rcases c with ⟨t, k, f⟩ | ⟨ci, fs⟩
  · rfl
  · simp [tC, rC, tV_tV, Function.comp_def]
/-- the cells at the places of a list, put anew -/
def updH (h : List PCell) : List Nat → List PCell → List PCell
  | i :: is, c :: cs => updH (h.set i c) is cs
  | _, _ => h
theorem updH_len : ∀ (is : List Nat) (cs h : List PCell), (updH h is cs).length = h.length
  | [], cs, h => by simp [updH]
  | i :: is, [], h => by simp [updH]
  | i :: is, c :: cs, h => by simp [updH, updH_len is cs]
theorem updH_out : ∀ (is : List Nat) (cs h : List PCell) (j : Nat), j ∉ is → (updH h is cs)[j]? = h[j]?
  | [], cs, h, j, _ => by simp [updH]
  | i :: is, [], h, j, _ => by simp [updH]
  | i :: is, c :: cs, h, j, hj => by
    simp only [List.mem_cons, not_or] at hj
    rw [updH, updH_out is cs _ j hj.2, List.getElem?_set_ne (Ne.symm hj.1)]
theorem updH_in : ∀ (is : List Nat) (cs h : List PCell) (k j : Nat) (c : PCell), va_nd is = true → is[k]? = some j → cs[k]? = some c → j < h.length → (updH h is cs)[j]? = some c
  | [], cs, h, k, j, c, _, hk, _, _ => by simp at hk
  | i :: is, [], h, k, j, c, _, _, hc, _ => by simp at hc
  | i :: is, d :: cs, h, k, j, c, hn, hk, hc, hj => by
    simp only [va_nd, Bool.and_eq_true, decide_eq_true_eq] at hn
    cases k with
    | zero =>
      simp only [List.getElem?_cons_zero, Option.some.injEq] at hk hc
      subst hk; subst hc
      rw [updH, updH_out is cs _ i hn.1, List.getElem?_set_self hj]
    | succ k =>
      simp only [List.getElem?_cons_succ] at hk hc
      rw [updH]
      exact updH_in is cs _ k j c hn.2 hk hc (by simpa using hj)
/-! the locals -/
def lvS (a : Nat → Nat) (ls : Array Slot) (nL : Nat) (L : List (Option Value)) : Prop := ls.size = nL ∧ L.length = nL ∧ lv_wf ls ∧ ∀ (i : Nat) (v : Value), L[i]? = some (some v) → v.category = 1 ∧ ls[i]? = some (.val (tV a v))
def asc (a : Nat → Nat) (L : List (Option Value)) : List (Nat × Value) := (L.mapIdx (fun i o => o.map (fun v => (i, tV a v)))).filterMap id
theorem asc_mem {a : Nat → Nat} {L : List (Option Value)} {q : Nat × Value} : q ∈ asc a L ↔ ∃ i v, L[i]? = some (some v) ∧ q = (i, tV a v) := by
  simp only [asc, List.mem_filterMap, id]
  constructor
  · rintro ⟨o, h1, h2⟩
    obtain ⟨i, hi⟩ := List.getElem?_of_mem h1
    simp only [List.getElem?_mapIdx, Option.map_eq_some_iff] at hi
    obtain ⟨o', h3, h4⟩ := hi
    subst h2
    simp only [Option.map_eq_some_iff] at h4
    obtain ⟨v, h5, h6⟩ := h4
    subst h5
    exact ⟨i, v, h3, h6.symm⟩
  · rintro ⟨i, v, h1, rfl⟩
    refine ⟨some (i, tV a v), ?_, rfl⟩
    apply List.mem_of_getElem? (i := i)
    simp [List.getElem?_mapIdx, h1]
theorem lvS.has {a : Nat → Nat} {ls : Array Slot} {nL : Nat} {L : List (Option Value)} (h : lvS a ls nL L) : lv_has ls nL (asc a L) := by
  refine ⟨h.1, h.2.2.1, fun q hq => ?_⟩
  obtain ⟨i, v, h1, rfl⟩ := asc_mem.mp hq
  exact (h.2.2.2 i v h1).2
theorem lvS.store {a : Nat → Nat} {ls ls' : Array Slot} {nL : Nat} {L : List (Option Value)} (h : lvS a ls nL L) {i : Nat} {v : Value} (hv : v.category = 1) (h' : lv_has ls' nL ((i, tV a v) :: (asc a L).filter (fun q => !(q.1 == i) && !(q.1 + 1 == i && q.2.category == 2)))) : lvS a ls' nL (L.set i (some v)) := by
  refine ⟨h'.1, by simpa using h.2.1, h'.2.1, fun j w hj => ?_⟩
  rw [List.getElem?_set] at hj
  by_cases hij : i = j
  · subst hij
    simp only [if_true] at hj
    split at hj
    · cases hj
      exact ⟨hv, h'.2.2 _ List.mem_cons_self⟩
    · cases hj
  · rw [if_neg hij] at hj
    have hc := (h.2.2.2 j w hj).1
    refine ⟨hc, h'.2.2 (j, tV a w) (List.mem_cons_of_mem _ (List.mem_filter.mpr ⟨asc_mem.mpr ⟨j, w, hj, rfl⟩, ?_⟩))⟩
    have h1 : (j == i) = false := by simp [Ne.symm hij]
    have h2 : ((tV a w).category == 2) = false := by rw [tV_cat, hc]; rfl
    simp [h1, h2, Ne.symm hij]
theorem lvS_congr {a b : Nat → Nat} {n : Nat} (hab : ∀ i, i < n ∨ 1000 ≤ i → a i = b i) {ls : Array Slot} {nL : Nat} {L : List (Option Value)} (hL : L.all (fun o => o.all (okV n)) = true) (h : lvS a ls nL L) : lvS b ls nL L := by
  refine ⟨h.1, h.2.1, h.2.2.1, fun i v hi => ?_⟩
  have h1 := List.all_eq_true.mp hL _ (List.mem_of_getElem? hi)
  rw [← tV_congr hab (show okV n v = true from h1)]
  exact h.2.2.2 i v hi
/-! what is given in every method: classes, nest mates, the two texts -/
def nestW : List Cond := [.methodLinkNest RX6 11 yX1_init RX6, .methodLinkNest RX6 24 yX4_init RX6, .methodLinkNest RX6 31 yX2_init RX6, .methodLinkNest RX6 38 yX0_init RX6, .methodLinkNest RX6 45 yX3_init RX6, .methodLinkNest RX0 11 yX2_init RX6, .methodLinkNest RX0 20 yX5_init RX6, .methodLinkNest RX1 53 yX6_isOwner RX6, .methodLinkNest RX3 47 yX6_bitsUpTo RX6, .methodLinkNest RX5 53 yX6_hasBit RX6, .methodLinkNest RX5 76 yX6_bitsUpTo RX6]
def isNest : Cond → Bool
  | .methodLinkNest _ _ _ _ => true
  | _ => false
theorem nestW_is : ∀ w ∈ nestW, isNest w = true := by
  intro w hw
  simp only [nestW, List.mem_cons, List.not_mem_nil, or_false] at hw
  rcases hw with rfl | rfl | rfl | rfl | rfl | rfl | rfl | rfl | rfl | rfl | rfl <;> rfl
theorem nest_warm {s U : State} (hW : s.WarmedH U.vm) {w : Cond} (hw : isNest w = true) (h : va_Nw w s) : va_Nw w U := by
  cases w <;> first | (simp [isNest] at hw; done) | exact va_Nw.warmM hW h
theorem nest_same {u U : State} (hv : u.vm = U.vm) {w : Cond} (hw : isNest w = true) (h : va_Nw w u) : va_Nw w U := by
  cases w <;> first | (simp [isNest] at hw; done) | exact va_Nw.same rfl hv h
def tys3 (ca : Nat → ClassId) : List (ClassId × FieldType) := [(ca 0, .int), (ca 1, .char), (ca 2, .boolean)]
def txB : List (List Int32) := [[102, 115, 116, 111, 97, 98], [97, 111, 104, 110, 100, 99]]
def KK (D : va_G) (ca : Nat → ClassId) (a : Nat → Nat) (A : Nat → Prop) (U : State) (H : Heap) : Prop :=
  va_K D vwCl (tys3 ca) U ∧ (∀ w ∈ nestW, va_Nw w U) ∧ vk_S 2 [6, 6] txB (fun i => a (1000 + i)) (fun i => a (1010 + i)) A U H ∧ vk_R RX4 44 "fstoab" (a 1000) U ∧ vk_R RX4 57 "aohndc" (a 1001) U ∧ vk_R RX6 107 "fstoab" (a 1000) U ∧ va_Z "java/lang/String" "COMPACT_STRINGS" "Z" (.int 1) A U H
theorem KK.warm {D : va_G} {ca : Nat → ClassId} {a : Nat → Nat} {A : Nat → Prop} {s U : State} {H : Heap} (hW : s.WarmedH U.vm) (h : KK D ca a A s H) : KK D ca a A U H :=
  ⟨va_K.moved hW.alike h.1, fun w hw => nest_warm hW (nestW_is w hw) (h.2.1 w hw), vk_S.moved hW.alike h.2.2.1, vk_R.warm hW h.2.2.2.1, vk_R.warm hW h.2.2.2.2.1, vk_R.warm hW h.2.2.2.2.2.1, va_Z.moved hW.alike h.2.2.2.2.2.2⟩
theorem KK.same {D : va_G} {ca : Nat → ClassId} {a : Nat → Nat} {A : Nat → Prop} {u U : State} {H : Heap} (hv : u.vm = U.vm) (h : KK D ca a A u H) : KK D ca a A U H :=
  ⟨va_K.moved (by rw [hv]; exact Vm.Alike.refl _) h.1, fun w hw => nest_same hv (nestW_is w hw) (h.2.1 w hw), vk_S.moved (by rw [hv]; exact Vm.Alike.refl _) h.2.2.1, vk_R.same hv.symm h.2.2.2.1, vk_R.same hv.symm h.2.2.2.2.1, vk_R.same hv.symm h.2.2.2.2.2.1, va_Z.moved (by rw [hv]; exact Vm.Alike.refl _) h.2.2.2.2.2.2⟩
theorem KK.kept {D : va_G} {ca : Nat → ClassId} {a : Nat → Nat} {A B : Nat → Prop} {U : State} {H H1 : Heap} (h : KK D ca a A U H) (hq : ∀ q : Nat, q < H.size → ¬ A q → H1[q]? = H[q]?) (hAB : ∀ q, B q → A q) : KK D ca a B U H1 :=
  ⟨h.1, h.2.1, (h.2.2.1.kept hq).narrow hAB, h.2.2.2.1, h.2.2.2.2.1, h.2.2.2.2.2.1, (h.2.2.2.2.2.2.kept hq).narrow hAB⟩
theorem KK.re {D : va_G} {ca : Nat → ClassId} {a b : Nat → Nat} {A : Nat → Prop} {U : State} {H : Heap} (hab : ∀ i, 1000 ≤ i → a i = b i) (h : KK D ca a A U H) : KK D ca b A U H := by
  have e1 : (fun i => a (1000 + i)) = (fun i => b (1000 + i)) := funext fun i => hab _ (by omega)
  have e2 : (fun i => a (1010 + i)) = (fun i => b (1010 + i)) := funext fun i => hab _ (by omega)
  obtain ⟨h1, h2, h3, h4, h5, h6, h7⟩ := h
  rw [e1, e2] at h3
  rw [hab 1000 (by omega)] at h4 h6
  rw [hab 1001 (by omega)] at h5
  exact ⟨h1, h2, h3, h4, h5, h6, h7⟩
/-! the walk's context -/
def Cx : Type := (Program × Launch × Env × Room) × (State × MethodId × Array Value × List Frame) × (Method × Code) × (va_G × (Nat → ClassId) × (Nat → Prop) × (State → Prop)) × ((Nat → Nat) × Nat × Nat)
abbrev cxp (X : Cx) : Program := X.1.1
abbrev cxl (X : Cx) : Launch := X.1.2.1
abbrev cxe (X : Cx) : Env := X.1.2.2.1
abbrev cxR (X : Cx) : Room := X.1.2.2.2
abbrev cxs (X : Cx) : State := X.2.1.1
abbrev cxm (X : Cx) : MethodId := X.2.1.2.1
abbrev cxg (X : Cx) : Array Value := X.2.1.2.2.1
abbrev cxb (X : Cx) : List Frame := X.2.1.2.2.2
abbrev cxM (X : Cx) : Method := X.2.2.1.1
abbrev cxc (X : Cx) : Code := X.2.2.1.2
abbrev cxD (X : Cx) : va_G := X.2.2.2.1.1
abbrev cxk (X : Cx) : Nat → ClassId := X.2.2.2.1.2.1
abbrev cxA (X : Cx) : Nat → Prop := X.2.2.2.1.2.2.1
abbrev cxQ (X : Cx) : State → Prop := X.2.2.2.1.2.2.2
abbrev cxa (X : Cx) : Nat → Nat := X.2.2.2.2.1
abbrev cxn (X : Cx) : Nat := X.2.2.2.2.2.1
abbrev cxL (X : Cx) : Nat := X.2.2.2.2.2.2
def Sm (X : Cx) (a : Nat → Nat) (H : Heap) (locs : List Loc) (ls : Array Slot) (L : List (Option Value)) (h : List PCell) : Prop :=
  va_P (cxD X) vwCl (tW (cxk X) a h) H ∧ va_D (cxA X) (tW (cxk X) a h) ∧ va_S (cxA X) (cxs X).heap H locs ∧ (∀ i, i < cxn X ∨ 1000 ≤ i → a i = cxa X i) ∧ lvS a ls (cxL X) L
def WW (X : Cx) (H : Heap) (locs : List Loc) (kc ks pc : Nat) (ls : Array Slot) (st : List Value) : Prop := W (cxp X) (cxl X) (cxe X) (cxR X) (cxs X) (cxm X) (cxg X) (cxb X) (cxM X) (cxc X) H locs kc ks (cxQ X) (F0 (cxm X) pc ls st)
def PW (X : Cx) (pc : Nat) (L : List (Option Value)) (st : List Value) (h : List PCell) (kc ks : Nat) : Prop :=
  ∀ (a : Nat → Nat) (H : Heap) (locs : List Loc) (ls : Array Slot), Sm X a H locs ls L h → WW X H locs kc ks pc ls (st.map (tV a))
/-- what holds of a context: d deep may be called, so many cells and slots may come -/
def Fx (X : Cx) (cc : ByteArray) (own : String) (ret : Option FieldType) (d mc ms : Nat) : Prop :=
  (cxp X).tables.exec = Jvm.exec ∧ (cxc X).code = cc ∧ (cxc X).maxLocals = cxL X ∧ (cxs X).vm.findClass own = some (cxm X).cls ∧ (∀ w ∈ AW, w.before (cxg X) (cxs X) = true) ∧ (cxM X).sig.returnType = ret ∧ (cxM X).locks = false ∧ KK (cxD X) (cxk X) (cxa X) (cxA X) (cxs X) (cxs X).heap ∧ (∀ q, (cxs X).heap.size ≤ q → cxA X q) ∧ (d ≤ (cxR X).frames ∧ 32 * d ≤ (cxR X).locals ∧ mc ≤ (cxR X).cells ∧ ms ≤ (cxR X).slots)
section Rules
variable {X : Cx} {cc : ByteArray} {own : String} {ret : Option FieldType} {d mc ms : Nat} {pc : Nat} {L : List (Option Value)} {st : List Value} {h : List PCell} {kc ks : Nat}
theorem Fx.x (hX : Fx X cc own ret d mc ms) : (cxp X).tables.exec = Jvm.exec := hX.1
theorem Fx.b (hX : Fx X cc own ret d mc ms) : (cxc X).code = cc := hX.2.1
theorem Fx.ml (hX : Fx X cc own ret d mc ms) : (cxc X).maxLocals = cxL X := hX.2.2.1
theorem Fx.ow (hX : Fx X cc own ret d mc ms) : (cxs X).vm.findClass own = some (cxm X).cls := hX.2.2.2.1
theorem Fx.ts (hX : Fx X cc own ret d mc ms) : ∀ w ∈ AW, w.before (cxg X) (cxs X) = true := hX.2.2.2.2.1
theorem Fx.rt (hX : Fx X cc own ret d mc ms) : (cxM X).sig.returnType = ret := hX.2.2.2.2.2.1
theorem Fx.lk (hX : Fx X cc own ret d mc ms) : (cxM X).locks = false := hX.2.2.2.2.2.2.1
theorem Fx.K (hX : Fx X cc own ret d mc ms) : KK (cxD X) (cxk X) (cxa X) (cxA X) (cxs X) (cxs X).heap := hX.2.2.2.2.2.2.2.1
theorem Fx.A (hX : Fx X cc own ret d mc ms) : ∀ q, (cxs X).heap.size ≤ q → cxA X q := hX.2.2.2.2.2.2.2.2.1
theorem Fx.r (hX : Fx X cc own ret d mc ms) : d ≤ (cxR X).frames ∧ 32 * d ≤ (cxR X).locals ∧ mc ≤ (cxR X).cells ∧ ms ≤ (cxR X).slots := hX.2.2.2.2.2.2.2.2.2
theorem PW.iconst (hX : Fx X cc own ret d mc ms) {n : Int} {v : Int32} (hd : decode cc pc = .ok (.iconst n, 1)) (hv : Int32.ofInt n = v) (k : PW X (pc + 1) L (.int v :: st) h kc ks) : PW X pc L st h kc ks := fun a H locs ls S => lv_iconst hX.x hX.b hd hv (k a H locs ls S)
theorem PW.bipush (hX : Fx X cc own ret d mc ms) {n : Int} {v : Int32} (hd : decode cc pc = .ok (.bipush n, 2)) (hv : (Int8.ofInt n).toInt32 = v) (k : PW X (pc + 2) L (.int v :: st) h kc ks) : PW X pc L st h kc ks := fun a H locs ls S => lv_bipush hX.x hX.b hd hv (k a H locs ls S)
theorem PW.sipush (hX : Fx X cc own ret d mc ms) {n : Int} {v : Int32} (hd : decode cc pc = .ok (.sipush n, 3)) (hv : (Int16.ofInt n).toInt32 = v) (k : PW X (pc + 3) L (.int v :: st) h kc ks) : PW X pc L st h kc ks := fun a H locs ls S => lv_sipush hX.x hX.b hd hv (k a H locs ls S)
theorem PW.ldc (hX : Fx X cc own ret d mc ms) {n : Nat} {v : Int32} (hd : decode cc pc = .ok (.ldc n, 2)) (hc : Cond.constant own n v ∈ AW) (k : PW X (pc + 2) L (.int v :: st) h kc ks) : PW X pc L st h kc ks := fun a H locs ls S => lv_ldc hX.x hX.b hX.ow (hX.ts _ hc) hd (k a H locs ls S)
theorem PW.iload_n (hX : Fx X cc own ret d mc ms) {q : Fin 4} {i : Nat} {x : Int32} (hd : decode cc pc = .ok (.iload_n q, 1)) (hi : (q : Nat) = i) (hl : L[i]? = some (some (.int x))) (k : PW X (pc + 1) L (.int x :: st) h kc ks) : PW X pc L st h kc ks := fun a H locs ls S => lv_iload_n hX.x hX.b hd hi (S.2.2.2.2.2.2.2 i _ hl).2 (k a H locs ls S)
theorem PW.iload (hX : Fx X cc own ret d mc ms) {i : Nat} {x : Int32} (hd : decode cc pc = .ok (.iload i, 2)) (hl : L[i]? = some (some (.int x))) (k : PW X (pc + 2) L (.int x :: st) h kc ks) : PW X pc L st h kc ks := fun a H locs ls S => lv_iload hX.x hX.b hd (S.2.2.2.2.2.2.2 i _ hl).2 (k a H locs ls S)
theorem PW.aload_n (hX : Fx X cc own ret d mc ms) {q : Fin 4} {i : Nat} {x : Nat} (hd : decode cc pc = .ok (.aload_n q, 1)) (hi : (q : Nat) = i) (hl : L[i]? = some (some (.ref x))) (k : PW X (pc + 1) L (.ref x :: st) h kc ks) : PW X pc L st h kc ks := fun a H locs ls S => lv_aload_n hX.x hX.b hd hi (S.2.2.2.2.2.2.2 i _ hl).2 (k a H locs ls S)
theorem PW.aload (hX : Fx X cc own ret d mc ms) {i : Nat} {x : Nat} (hd : decode cc pc = .ok (.aload i, 2)) (hl : L[i]? = some (some (.ref x))) (k : PW X (pc + 2) L (.ref x :: st) h kc ks) : PW X pc L st h kc ks := fun a H locs ls S => lv_aload hX.x hX.b hd (S.2.2.2.2.2.2.2 i _ hl).2 (k a H locs ls S)
theorem Sm.sto {a : Nat → Nat} {H : Heap} {locs : List Loc} {ls ls' : Array Slot} (S : Sm X a H locs ls L h) {i : Nat} {v : Value} (hv : v.category = 1) (h' : lv_has ls' (cxL X) ((i, tV a v) :: (asc a L).filter (fun q => !(q.1 == i) && !(q.1 + 1 == i && q.2.category == 2)))) : Sm X a H locs ls' (L.set i (some v)) h := ⟨S.1, S.2.1, S.2.2.1, S.2.2.2.1, S.2.2.2.2.store hv h'⟩
theorem Sm.lt {a : Nat → Nat} {H : Heap} {locs : List Loc} {ls : Array Slot} (S : Sm X a H locs ls L h) {i : Nat} (hi : Nat.blt i L.length = true) : i < cxL X := by
  rw [← S.2.2.2.2.2.1]; exact Nat.blt_eq.mp hi
theorem PW.istore_n (hX : Fx X cc own ret d mc ms) {q : Fin 4} {i : Nat} {x : Int32} (hd : decode cc pc = .ok (.istore_n q, 1)) (hi : (q : Nat) = i) (hl : Nat.blt i L.length = true) (k : PW X (pc + 1) (L.set i (some (.int x))) st h kc ks) : PW X pc L (.int x :: st) h kc ks := fun a H locs ls S => lv_istore_n hX.x hX.b hd hi S.2.2.2.2.has (S.lt hl) rfl (fun ls' h' => k a H locs ls' (S.sto (v := .int x) rfl h'))
theorem PW.istore (hX : Fx X cc own ret d mc ms) {i : Nat} {x : Int32} (hd : decode cc pc = .ok (.istore i, 2)) (hl : Nat.blt i L.length = true) (k : PW X (pc + 2) (L.set i (some (.int x))) st h kc ks) : PW X pc L (.int x :: st) h kc ks := fun a H locs ls S => lv_istore hX.x hX.b hd S.2.2.2.2.has (S.lt hl) rfl (fun ls' h' => k a H locs ls' (S.sto (v := .int x) rfl h'))
theorem PW.astore_n (hX : Fx X cc own ret d mc ms) {q : Fin 4} {i : Nat} {x : Nat} (hd : decode cc pc = .ok (.astore_n q, 1)) (hi : (q : Nat) = i) (hl : Nat.blt i L.length = true) (k : PW X (pc + 1) (L.set i (some (.ref x))) st h kc ks) : PW X pc L (.ref x :: st) h kc ks := fun a H locs ls S => lv_astore_n hX.x hX.b hd hi S.2.2.2.2.has (S.lt hl) rfl (fun ls' h' => k a H locs ls' (S.sto (v := .ref x) rfl h'))
theorem PW.astore (hX : Fx X cc own ret d mc ms) {i : Nat} {x : Nat} (hd : decode cc pc = .ok (.astore i, 2)) (hl : Nat.blt i L.length = true) (k : PW X (pc + 2) (L.set i (some (.ref x))) st h kc ks) : PW X pc L (.ref x :: st) h kc ks := fun a H locs ls S => lv_astore hX.x hX.b hd S.2.2.2.2.has (S.lt hl) rfl (fun ls' h' => k a H locs ls' (S.sto (v := .ref x) rfl h'))
theorem PW.iinc (hX : Fx X cc own ret d mc ms) {i : Nat} {n : Int} {x v : Int32} (hd : decode cc pc = .ok (.iinc i n, 3)) (hl : L[i]? = some (some (.int x))) (hv : x + Int32.ofInt n = v) (k : PW X (pc + 3) (L.set i (some (.int v))) st h kc ks) : PW X pc L st h kc ks := by
  intro a H locs ls S
  obtain ⟨j, hj⟩ := List.getElem?_of_mem (asc_mem (a := a) (L := L) (q := (i, .int x)).mpr ⟨i, .int x, hl, rfl⟩)
  exact lv_iinc hX.x hX.b hd S.2.2.2.2.has (k := j) hj hv (by rw [← S.2.2.2.2.2.1]; exact (List.getElem?_eq_some_iff.mp hl).1) rfl (fun ls' h' => k a H locs ls' (S.sto (v := .int v) rfl h'))
theorem PW.iadd (hX : Fx X cc own ret d mc ms) {x y : Int32} (hd : decode cc pc = .ok (.iadd, 1)) (k : PW X (pc + 1) L (.int (x + y) :: st) h kc ks) : PW X pc L (.int y :: .int x :: st) h kc ks := fun a H locs ls S => lv_iadd hX.x hX.b hd (k a H locs ls S)
theorem PW.isub (hX : Fx X cc own ret d mc ms) {x y : Int32} (hd : decode cc pc = .ok (.isub, 1)) (k : PW X (pc + 1) L (.int (x - y) :: st) h kc ks) : PW X pc L (.int y :: .int x :: st) h kc ks := fun a H locs ls S => lv_isub hX.x hX.b hd (k a H locs ls S)
theorem PW.imul (hX : Fx X cc own ret d mc ms) {x y : Int32} (hd : decode cc pc = .ok (.imul, 1)) (k : PW X (pc + 1) L (.int (x * y) :: st) h kc ks) : PW X pc L (.int y :: .int x :: st) h kc ks := fun a H locs ls S => lv_imul hX.x hX.b hd (k a H locs ls S)
theorem PW.iand (hX : Fx X cc own ret d mc ms) {x y : Int32} (hd : decode cc pc = .ok (.iand, 1)) (k : PW X (pc + 1) L (.int (x &&& y) :: st) h kc ks) : PW X pc L (.int y :: .int x :: st) h kc ks := fun a H locs ls S => lv_iand hX.x hX.b hd (k a H locs ls S)
theorem PW.ior (hX : Fx X cc own ret d mc ms) {x y : Int32} (hd : decode cc pc = .ok (.ior, 1)) (k : PW X (pc + 1) L (.int (x ||| y) :: st) h kc ks) : PW X pc L (.int y :: .int x :: st) h kc ks := fun a H locs ls S => lv_ior hX.x hX.b hd (k a H locs ls S)
theorem PW.ixor (hX : Fx X cc own ret d mc ms) {x y : Int32} (hd : decode cc pc = .ok (.ixor, 1)) (k : PW X (pc + 1) L (.int (x ^^^ y) :: st) h kc ks) : PW X pc L (.int y :: .int x :: st) h kc ks := fun a H locs ls S => lv_ixor hX.x hX.b hd (k a H locs ls S)
theorem PW.idiv (hX : Fx X cc own ret d mc ms) {x y : Int32} (hd : decode cc pc = .ok (.idiv, 1)) (hy : ¬ y = 0) (k : PW X (pc + 1) L (.int (x / y) :: st) h kc ks) : PW X pc L (.int y :: .int x :: st) h kc ks := fun a H locs ls S => lv_idiv hX.x hX.b hd hy (k a H locs ls S)
theorem PW.irem (hX : Fx X cc own ret d mc ms) {x y : Int32} (hd : decode cc pc = .ok (.irem, 1)) (hy : ¬ y = 0) (k : PW X (pc + 1) L (.int (x - x / y * y) :: st) h kc ks) : PW X pc L (.int y :: .int x :: st) h kc ks := fun a H locs ls S => lv_irem hX.x hX.b hd hy (k a H locs ls S)
theorem PW.ishl (hX : Fx X cc own ret d mc ms) {x y : Int32} (hd : decode cc pc = .ok (.ishl, 1)) (k : PW X (pc + 1) L (.int (x <<< (y &&& 31)) :: st) h kc ks) : PW X pc L (.int y :: .int x :: st) h kc ks := fun a H locs ls S => lv_ishl hX.x hX.b hd (k a H locs ls S)
theorem PW.ishr (hX : Fx X cc own ret d mc ms) {x y : Int32} (hd : decode cc pc = .ok (.ishr, 1)) (k : PW X (pc + 1) L (.int (x >>> (y &&& 31)) :: st) h kc ks) : PW X pc L (.int y :: .int x :: st) h kc ks := fun a H locs ls S => lv_ishr hX.x hX.b hd (k a H locs ls S)
theorem PW.ineg (hX : Fx X cc own ret d mc ms) {x : Int32} (hd : decode cc pc = .ok (.ineg, 1)) (k : PW X (pc + 1) L (.int (-x) :: st) h kc ks) : PW X pc L (.int x :: st) h kc ks := fun a H locs ls S => lv_ineg hX.x hX.b hd (k a H locs ls S)
theorem PW.i2c (hX : Fx X cc own ret d mc ms) {x v : Int32} (hd : decode cc pc = .ok (.i2c, 1)) (hv : (x.toUInt32 % 65536).toInt32 = v) (k : PW X (pc + 1) L (.int v :: st) h kc ks) : PW X pc L (.int x :: st) h kc ks := fun a H locs ls S => lv_i2c hX.x hX.b hd hv (k a H locs ls S)
theorem PW.i2b (hX : Fx X cc own ret d mc ms) {x v : Int32} (hd : decode cc pc = .ok (.i2b, 1)) (hv : x.toInt8.toInt32 = v) (k : PW X (pc + 1) L (.int v :: st) h kc ks) : PW X pc L (.int x :: st) h kc ks := fun a H locs ls S => lv_i2b hX.x hX.b hd hv (k a H locs ls S)
theorem PW.dup (hX : Fx X cc own ret d mc ms) {v : Value} (hd : decode cc pc = .ok (.dup, 1)) (hv : v.category = 1) (k : PW X (pc + 1) L (v :: v :: st) h kc ks) : PW X pc L (v :: st) h kc ks := fun a H locs ls S => lv_dup hX.x hX.b hd (by rw [tV_cat]; exact hv) (k a H locs ls S)
theorem PW.dup2 (hX : Fx X cc own ret d mc ms) {v w : Value} (hd : decode cc pc = .ok (.dup2, 1)) (hv : v.category = 1) (hw : w.category = 1) (k : PW X (pc + 1) L (v :: w :: v :: w :: st) h kc ks) : PW X pc L (v :: w :: st) h kc ks := fun a H locs ls S => lv_dup2_11 hX.x hX.b hd (by rw [tV_cat]; exact hv) (by rw [tV_cat]; exact hw) (k a H locs ls S)
theorem PW.pop (hX : Fx X cc own ret d mc ms) {v : Value} (hd : decode cc pc = .ok (.pop, 1)) (hv : v.category = 1) (k : PW X (pc + 1) L st h kc ks) : PW X pc L (v :: st) h kc ks := fun a H locs ls S => lv_pop hX.x hX.b hd (by rw [tV_cat]; exact hv) (k a H locs ls S)
theorem PW.goto (hX : Fx X cc own ret d mc ms) {off : Int} {tgt : Nat} (hd : decode cc pc = .ok (.goto off, 3)) (ht : (pc : Int) + off = (tgt : Int)) (k : PW X tgt L st h kc ks) : PW X pc L st h kc ks := fun a H locs ls S => lv_goto hX.x hX.b hd ht (k a H locs ls S)
theorem PW.if_eq (hX : Fx X cc own ret d mc ms) {x : Int32} {off : Int} {tgt : Nat} (hd : decode cc pc = .ok (.ifCond .eq off, 3)) (ht : (pc : Int) + off = (tgt : Int)) (kt : x = 0 → PW X tgt L st h kc ks) (kf : ¬ x = 0 → PW X (pc + 3) L st h kc ks) : PW X pc L (.int x :: st) h kc ks := fun a H locs ls S => lv_if_eq hX.x hX.b hd ht (fun c => kt c a H locs ls S) (fun c => kf c a H locs ls S)
theorem PW.if_ne (hX : Fx X cc own ret d mc ms) {x : Int32} {off : Int} {tgt : Nat} (hd : decode cc pc = .ok (.ifCond .ne off, 3)) (ht : (pc : Int) + off = (tgt : Int)) (kt : ¬ x = 0 → PW X tgt L st h kc ks) (kf : x = 0 → PW X (pc + 3) L st h kc ks) : PW X pc L (.int x :: st) h kc ks := fun a H locs ls S => lv_if_ne hX.x hX.b hd ht (fun c => kt c a H locs ls S) (fun c => kf c a H locs ls S)
theorem PW.if_lt (hX : Fx X cc own ret d mc ms) {x : Int32} {off : Int} {tgt : Nat} (hd : decode cc pc = .ok (.ifCond .lt off, 3)) (ht : (pc : Int) + off = (tgt : Int)) (kt : x < 0 → PW X tgt L st h kc ks) (kf : ¬ x < 0 → PW X (pc + 3) L st h kc ks) : PW X pc L (.int x :: st) h kc ks := fun a H locs ls S => lv_if_lt hX.x hX.b hd ht (fun c => kt c a H locs ls S) (fun c => kf c a H locs ls S)
theorem PW.if_ge (hX : Fx X cc own ret d mc ms) {x : Int32} {off : Int} {tgt : Nat} (hd : decode cc pc = .ok (.ifCond .ge off, 3)) (ht : (pc : Int) + off = (tgt : Int)) (kt : 0 ≤ x → PW X tgt L st h kc ks) (kf : ¬ 0 ≤ x → PW X (pc + 3) L st h kc ks) : PW X pc L (.int x :: st) h kc ks := fun a H locs ls S => lv_if_ge hX.x hX.b hd ht (fun c => kt c a H locs ls S) (fun c => kf c a H locs ls S)
theorem PW.if_gt (hX : Fx X cc own ret d mc ms) {x : Int32} {off : Int} {tgt : Nat} (hd : decode cc pc = .ok (.ifCond .gt off, 3)) (ht : (pc : Int) + off = (tgt : Int)) (kt : 0 < x → PW X tgt L st h kc ks) (kf : ¬ 0 < x → PW X (pc + 3) L st h kc ks) : PW X pc L (.int x :: st) h kc ks := fun a H locs ls S => lv_if_gt hX.x hX.b hd ht (fun c => kt c a H locs ls S) (fun c => kf c a H locs ls S)
theorem PW.if_le (hX : Fx X cc own ret d mc ms) {x : Int32} {off : Int} {tgt : Nat} (hd : decode cc pc = .ok (.ifCond .le off, 3)) (ht : (pc : Int) + off = (tgt : Int)) (kt : x ≤ 0 → PW X tgt L st h kc ks) (kf : ¬ x ≤ 0 → PW X (pc + 3) L st h kc ks) : PW X pc L (.int x :: st) h kc ks := fun a H locs ls S => lv_if_le hX.x hX.b hd ht (fun c => kt c a H locs ls S) (fun c => kf c a H locs ls S)
theorem PW.icmp_eq (hX : Fx X cc own ret d mc ms) {x y : Int32} {off : Int} {tgt : Nat} (hd : decode cc pc = .ok (.if_icmp .eq off, 3)) (ht : (pc : Int) + off = (tgt : Int)) (kt : x = y → PW X tgt L st h kc ks) (kf : ¬ x = y → PW X (pc + 3) L st h kc ks) : PW X pc L (.int y :: .int x :: st) h kc ks := fun a H locs ls S => lv_icmp_eq hX.x hX.b hd ht (fun c => kt c a H locs ls S) (fun c => kf c a H locs ls S)
theorem PW.icmp_ne (hX : Fx X cc own ret d mc ms) {x y : Int32} {off : Int} {tgt : Nat} (hd : decode cc pc = .ok (.if_icmp .ne off, 3)) (ht : (pc : Int) + off = (tgt : Int)) (kt : ¬ x = y → PW X tgt L st h kc ks) (kf : x = y → PW X (pc + 3) L st h kc ks) : PW X pc L (.int y :: .int x :: st) h kc ks := fun a H locs ls S => lv_icmp_ne hX.x hX.b hd ht (fun c => kt c a H locs ls S) (fun c => kf c a H locs ls S)
theorem PW.icmp_lt (hX : Fx X cc own ret d mc ms) {x y : Int32} {off : Int} {tgt : Nat} (hd : decode cc pc = .ok (.if_icmp .lt off, 3)) (ht : (pc : Int) + off = (tgt : Int)) (kt : x < y → PW X tgt L st h kc ks) (kf : ¬ x < y → PW X (pc + 3) L st h kc ks) : PW X pc L (.int y :: .int x :: st) h kc ks := fun a H locs ls S => lv_icmp_lt hX.x hX.b hd ht (fun c => kt c a H locs ls S) (fun c => kf c a H locs ls S)
theorem PW.icmp_ge (hX : Fx X cc own ret d mc ms) {x y : Int32} {off : Int} {tgt : Nat} (hd : decode cc pc = .ok (.if_icmp .ge off, 3)) (ht : (pc : Int) + off = (tgt : Int)) (kt : y ≤ x → PW X tgt L st h kc ks) (kf : ¬ y ≤ x → PW X (pc + 3) L st h kc ks) : PW X pc L (.int y :: .int x :: st) h kc ks := fun a H locs ls S => lv_icmp_ge hX.x hX.b hd ht (fun c => kt c a H locs ls S) (fun c => kf c a H locs ls S)
theorem PW.icmp_gt (hX : Fx X cc own ret d mc ms) {x y : Int32} {off : Int} {tgt : Nat} (hd : decode cc pc = .ok (.if_icmp .gt off, 3)) (ht : (pc : Int) + off = (tgt : Int)) (kt : y < x → PW X tgt L st h kc ks) (kf : ¬ y < x → PW X (pc + 3) L st h kc ks) : PW X pc L (.int y :: .int x :: st) h kc ks := fun a H locs ls S => lv_icmp_gt hX.x hX.b hd ht (fun c => kt c a H locs ls S) (fun c => kf c a H locs ls S)
theorem PW.icmp_le (hX : Fx X cc own ret d mc ms) {x y : Int32} {off : Int} {tgt : Nat} (hd : decode cc pc = .ok (.if_icmp .le off, 3)) (ht : (pc : Int) + off = (tgt : Int)) (kt : x ≤ y → PW X tgt L st h kc ks) (kf : ¬ x ≤ y → PW X (pc + 3) L st h kc ks) : PW X pc L (.int y :: .int x :: st) h kc ks := fun a H locs ls S => lv_icmp_le hX.x hX.b hd ht (fun c => kt c a H locs ls S) (fun c => kf c a H locs ls S)
theorem PW.tableIn (hX : Fx X cc own ret d mc ms) {dflt lo hi : Int} {offs : Array Int} {len : Nat} {x : Int32} {off : Int} {tgt : Nat} (hd : decode cc pc = .ok (.tableswitch dflt lo hi offs, len)) (h1 : ¬ x.toInt < lo) (h2 : ¬ hi < x.toInt) (ho : offs[(x.toInt - lo).toNat]? = some off) (ht : (pc : Int) + off = (tgt : Int)) (k : PW X tgt L st h kc ks) : PW X pc L (.int x :: st) h kc ks := fun a H locs ls S => lv_tableIn hX.x hX.b hd h1 h2 ho ht (k a H locs ls S)
theorem PW.tableOut (hX : Fx X cc own ret d mc ms) {dflt lo hi : Int} {offs : Array Int} {len : Nat} {x : Int32} {tgt : Nat} (hd : decode cc pc = .ok (.tableswitch dflt lo hi offs, len)) (hx : x.toInt < lo ∨ hi < x.toInt) (ht : (pc : Int) + dflt = (tgt : Int)) (k : PW X tgt L st h kc ks) : PW X pc L (.int x :: st) h kc ks := fun a H locs ls S => lv_tableOut hX.x hX.b hd hx ht (k a H locs ls S)
theorem PW.lookup (hX : Fx X cc own ret d mc ms) {dflt : Int} {ps : Array (Int × Int)} {len : Nat} {x : Int32} {off : Int} {tgt : Nat} (hd : decode cc pc = .ok (.lookupswitch dflt ps, len)) (hp : (ps.toList.zip (ps.toList.drop 1)).all (fun (a, next) => a.1 < next.1) = true) (ho : Op.lookupswitch.offset ps.toList dflt x.toInt = off) (ht : (pc : Int) + off = (tgt : Int)) (k : PW X tgt L st h kc ks) : PW X pc L (.int x :: st) h kc ks := fun a H locs ls S => lv_lookup hX.x hX.b hd hp ho ht (k a H locs ls S)
/-- rewriting the top, the locals, the heap -/
theorem PW.top {x y : Int32} (e : x = y) (k : PW X pc L (.int y :: st) h kc ks) : PW X pc L (.int x :: st) h kc ks := e ▸ k
theorem PW.heap {h' : List PCell} (e : h = h') (k : PW X pc L st h' kc ks) : PW X pc L st h kc ks := e ▸ k
theorem PW.eq {L' : List (Option Value)} {st' : List Value} {h' : List PCell} (k : PW X pc L' st' h' kc ks) (e1 : L = L') (e2 : st = st') (e3 : h = h') : PW X pc L st h kc ks := by subst e1; subst e2; subst e3; exact k
theorem PW.widen {kc' ks' : Nat} (h1 : kc ≤ kc') (h2 : ks ≤ ks') (k : PW X pc L st h kc' ks') : PW X pc L st h kc ks := fun a H locs ls S => W.widen h1 h2 (k a H locs ls S)
theorem Sm.forget {a : Nat → Nat} {H : Heap} {locs : List Loc} {ls : Array Slot} (n : Nat) (S : Sm X a H locs ls L h) : Sm X a H locs ls L (h.take n) := by
  have key : ∀ (k : Nat) (q : Nat × va_E), (tW (cxk X) a (h.take n))[k]? = some q → (tW (cxk X) a h)[k]? = some q := by
    intro k q hk
    obtain ⟨c, h1, rfl⟩ := tW_of hk
    rw [List.getElem?_take] at h1
    split at h1
    · exact tW_at h1
    · cases h1
  exact ⟨fun k q hk => S.1 k q (key k q hk), ⟨fun i j p q hi hj e => S.2.1.1 i j p q (key i p hi) (key j q hj) e, fun k q hk => S.2.1.2 k q (key k q hk)⟩, S.2.2⟩
theorem PW.forget (n : Nat) (k : PW X pc L st (h.take n) kc ks) : PW X pc L st h kc ks := fun a H locs ls S => k a H locs ls (S.forget n)
/-! fields -/
def FL (own : String) (idx ci k : Nat) : Prop := ∃ (C : String) (T : u_T) (N : Nat), vwCl[ci]? = some (C, T, N) ∧ k < N ∧ (∀ w ∈ u_ws C T N, w ∈ AW) ∧ Cond.fieldLink own idx (T k).1 (T k).2.1 (T k).2.2.1 ∈ AW
def FP (own : String) (idx ci k : Nat) (ty : FieldType) (fin : Bool) : Prop := ∃ (C : String) (T : u_T) (N : Nat) (ty0 : Nat → FieldType), vwCl[ci]? = some (C, T, N) ∧ k < N ∧ (∀ w ∈ u_ws C T N, w ∈ AW) ∧ Cond.fieldLink own idx (T k).1 (T k).2.1 (T k).2.2.1 ∈ AW ∧ (∀ k, k < N → parseFieldDescriptor (T k).2.2.1 = some (ty0 k)) ∧ (∀ a, a < N → ∀ b, b < N → a ≠ b → (T a).2.1 ≠ (T b).2.1) ∧ ty0 k = ty ∧ (T k).2.2.2 = fin ∧ (fin = true → (T k).1 = own)
theorem PW.getfield (hX : Fx X cc own ret d mc ms) {idx ci k i : Nat} {fs : List Value} {v : Value} (hf : FL own idx ci k) (hd : decode cc pc = .ok (.getfield idx, 3)) (he : h[i]? = some (.inr (ci, fs))) (hv : fs[k]? = some v) (kk : PW X (pc + 3) L (v :: st) h kc ks) : PW X pc L (.ref i :: st) h kc ks := by
  obtain ⟨C, T, N, hc, hk, hin, hl⟩ := hf
  intro a H locs ls S
  exact va_get (D := cxD X) hX.x hX.b hX.ts hin hX.ow hX.K.1 S.1 i (tW_at he) hc k hk (hX.ts _ hl) (fun _ h => h) (by rw [List.getElem?_map, hv]; rfl) hd (kk a H locs ls S)
theorem tC_put {ca : Nat → ClassId} {a : Nat → Nat} (ci k : Nat) (fs : List Value) (v : Value) : (Sum.inr (ci, (fs.map (tV a)).set k (tV a v)) : va_E) = tC ca a (.inr (ci, fs.set k v)) := by
  simp [tC, List.map_set]
theorem Sm.put {a : Nat → Nat} {H H1 : Heap} {locs locs1 : List Loc} {ls : Array Slot} (S : Sm X a H locs ls L h) {i : Nat} {c : PCell} (h1 : va_P (cxD X) vwCl ((tW (cxk X) a h).set i (a i, tC (cxk X) a c)) H1) (h2 : va_D (cxA X) ((tW (cxk X) a h).set i (a i, tC (cxk X) a c))) (h3 : va_S (cxA X) (cxs X).heap H1 locs1) : Sm X a H1 locs1 ls L (h.set i c) := by
  rw [tW_set] at h1 h2
  exact ⟨h1, h2, h3, S.2.2.2⟩
theorem PW.putV (hX : Fx X cc own ret d mc ms) {idx ci k i : Nat} {ty : FieldType} {fs : List Value} {v : Value} (hf : FP own idx ci k ty false) (hd : decode cc pc = .ok (.putfield idx, 3)) (hn : ∀ a, narrow ty (tV a v) = tV a v ∧ fits ty (tV a v) = true) (he : h[i]? = some (.inr (ci, fs))) (hv : Nat.blt k fs.length = true) (kk : PW X (pc + 3) L st (h.set i (.inr (ci, fs.set k v))) kc ks) : PW X pc L (v :: .ref i :: st) h kc ks := by
  obtain ⟨C, T, N, ty0, hc, hk, hin, hl, hty, hnm, e1, e2, e3⟩ := hf
  intro a H locs ls S
  refine va_put (D := cxD X) (ty := ty) hX.x hX.b hX.ts hin ty0 hty hnm hX.ow hX.K.1 S.1 S.2.1 S.2.2.1 i (tW_at he) hc k hk (hX.ts _ hl) (fun _ h => h) e2 (by rw [hty k hk, e1]) (hn a).1 (hn a).2 (by rw [List.length_map]; exact Nat.blt_eq.mp hv) hd (fun H1 locs1 h1 h2 h3 => ?_)
  rw [tC_put (ca := cxk X)] at h1 h2
  exact kk a H1 locs1 ls (S.put h1 h2 h3)
theorem PW.putI (hX : Fx X cc own ret d mc ms) {idx ci k i : Nat} {fs : List Value} {x : Int32} (hf : FP own idx ci k .int false) (hd : decode cc pc = .ok (.putfield idx, 3)) (he : h[i]? = some (.inr (ci, fs))) (hv : Nat.blt k fs.length = true) (kk : PW X (pc + 3) L st (h.set i (.inr (ci, fs.set k (.int x)))) kc ks) : PW X pc L (.int x :: .ref i :: st) h kc ks := PW.putV hX hf hd (fun a => ⟨rfl, rfl⟩) he hv kk
theorem PW.putZ (hX : Fx X cc own ret d mc ms) {idx ci k i : Nat} {fs : List Value} {x : Int32} (hf : FP own idx ci k .boolean false) (hd : decode cc pc = .ok (.putfield idx, 3)) (hx : x = 0 ∨ x = 1) (he : h[i]? = some (.inr (ci, fs))) (hv : Nat.blt k fs.length = true) (kk : PW X (pc + 3) L st (h.set i (.inr (ci, fs.set k (.int x)))) kc ks) : PW X pc L (.int x :: .ref i :: st) h kc ks := PW.putV hX hf hd (fun a => by rcases hx with rfl | rfl <;> exact ⟨rfl, rfl⟩) he hv kk
theorem PW.putF (hX : Fx X cc own ret d mc ms) {idx ci k i : Nat} {ty : FieldType} {fs : List Value} {v : Value} (hf : FP own idx ci k ty true) (hin2 : (cxM X).name = "<init>") (hd : decode cc pc = .ok (.putfield idx, 3)) (hn : ∀ a, narrow ty (tV a v) = tV a v ∧ fits ty (tV a v) = true) (he : h[i]? = some (.inr (ci, fs))) (hv : Nat.blt k fs.length = true) (kk : PW X (pc + 3) L st (h.set i (.inr (ci, fs.set k v))) kc ks) : PW X pc L (v :: .ref i :: st) h kc ks := by
  obtain ⟨C, T, N, ty0, hc, hk, hin, hl, hty, hnm, e1, e2, e3⟩ := hf
  intro a H locs ls S
  refine va_putF (D := cxD X) (ty := ty) hX.x hX.b hX.ts hin ty0 hty hnm hX.ow hX.K.1 S.1 S.2.1 S.2.2.1 i (tW_at he) hc k hk (hX.ts _ hl) (fun _ h => h) e2 hin2 (e3 rfl) (by rw [hty k hk, e1]) (hn a).1 (hn a).2 (by rw [List.length_map]; exact Nat.blt_eq.mp hv) hd (fun H1 locs1 h1 h2 h3 => ?_)
  rw [tC_put (ca := cxk X)] at h1 h2
  exact kk a H1 locs1 ls (S.put h1 h2 h3)
/-! arrays -/
theorem PW.iaload (hX : Fx X cc own ret d mc ms) {i n k : Nat} {f : Nat → Int32} {j : Int32} (hd : decode cc pc = .ok (.iaload, 1)) (he : h[i]? = some (.inl (0, n, f))) (hn : Nat.blt n 2147483648 = true) (hj : j = nI k) (hk : k < n) (kk : PW X (pc + 1) L (.int (f k) :: st) h kc ks) : PW X pc L (.int j :: .ref i :: st) h kc ks := by
  subst hj
  intro a H locs ls S
  have hn := Nat.blt_eq.mp hn
  have := kk a H locs ls S
  refine va_iald (D := cxD X) hX.x hX.b hX.K.1 S.1 i 0 (tW_at he) rfl (vp_in_nI hk hn) hd ?_
  rw [nI_clamp (by omega)]
  exact this
theorem PW.caload (hX : Fx X cc own ret d mc ms) {i n k : Nat} {f : Nat → Int32} {j : Int32} (hd : decode cc pc = .ok (.caload, 1)) (he : h[i]? = some (.inl (1, n, f))) (hn : Nat.blt n 2147483648 = true) (hj : j = nI k) (hk : k < n) (kk : PW X (pc + 1) L (.int (f k) :: st) h kc ks) : PW X pc L (.int j :: .ref i :: st) h kc ks := by
  subst hj
  intro a H locs ls S
  have hn := Nat.blt_eq.mp hn
  have := kk a H locs ls S
  refine va_cald (D := cxD X) hX.x hX.b hX.K.1 S.1 i 1 (tW_at he) rfl (vp_in_nI hk hn) hd ?_
  rw [nI_clamp (by omega)]
  exact this
theorem PW.baload (hX : Fx X cc own ret d mc ms) {i n k : Nat} {f : Nat → Int32} {j : Int32} (hd : decode cc pc = .ok (.baload, 1)) (he : h[i]? = some (.inl (2, n, f))) (hn : Nat.blt n 2147483648 = true) (hj : j = nI k) (hk : k < n) (kk : PW X (pc + 1) L (.int (f k) :: st) h kc ks) : PW X pc L (.int j :: .ref i :: st) h kc ks := by
  subst hj
  intro a H locs ls S
  have hn := Nat.blt_eq.mp hn
  have := kk a H locs ls S
  refine va_zald (D := cxD X) hX.x hX.b hX.K.1 S.1 i 2 (tW_at he) rfl (vp_in_nI hk hn) hd ?_
  rw [nI_clamp (by omega)]
  exact this
theorem PW.iastore (hX : Fx X cc own ret d mc ms) {i n k : Nat} {f : Nat → Int32} {j x : Int32} (hd : decode cc pc = .ok (.iastore, 1)) (he : h[i]? = some (.inl (0, n, f))) (hn : Nat.blt n 2147483648 = true) (hj : j = nI k) (hk : k < n) (kk : PW X (pc + 1) L st (h.set i (.inl (0, n, upd f k x))) kc ks) : PW X pc L (.int x :: .int j :: .ref i :: st) h kc ks := by
  subst hj
  intro a H locs ls S
  have hn := Nat.blt_eq.mp hn
  refine va_iast (D := cxD X) hX.x hX.b hX.K.1 S.1 S.2.1 S.2.2.1 i 0 (tW_at he) rfl (vp_in_nI hk hn) hd (fun H1 locs1 h1 h2 h3 => ?_)
  rw [nI_clamp (by omega)] at h1 h2
  exact kk a H1 locs1 ls (S.put (c := .inl (0, n, upd f k x)) h1 h2 h3)
theorem PW.castore (hX : Fx X cc own ret d mc ms) {i n k : Nat} {f : Nat → Int32} {j x : Int32} (hd : decode cc pc = .ok (.castore, 1)) (he : h[i]? = some (.inl (1, n, f))) (hn : Nat.blt n 2147483648 = true) (hj : j = nI k) (hk : k < n) (kk : PW X (pc + 1) L st (h.set i (.inl (1, n, upd f k (vp_nar .char x)))) kc ks) : PW X pc L (.int x :: .int j :: .ref i :: st) h kc ks := by
  subst hj
  intro a H locs ls S
  have hn := Nat.blt_eq.mp hn
  refine va_cast (D := cxD X) hX.x hX.b hX.K.1 S.1 S.2.1 S.2.2.1 i 1 (tW_at he) rfl (vp_in_nI hk hn) hd (fun H1 locs1 h1 h2 h3 => ?_)
  rw [nI_clamp (by omega)] at h1 h2
  exact kk a H1 locs1 ls (S.put (c := .inl (1, n, upd f k (vp_nar .char x))) h1 h2 h3)
theorem PW.bastore (hX : Fx X cc own ret d mc ms) {i n k : Nat} {f : Nat → Int32} {j x : Int32} (hd : decode cc pc = .ok (.bastore, 1)) (he : h[i]? = some (.inl (2, n, f))) (hn : Nat.blt n 2147483648 = true) (hj : j = nI k) (hk : k < n) (kk : PW X (pc + 1) L st (h.set i (.inl (2, n, upd f k (vp_nar .boolean x)))) kc ks) : PW X pc L (.int x :: .int j :: .ref i :: st) h kc ks := by
  subst hj
  intro a H locs ls S
  have hn := Nat.blt_eq.mp hn
  refine va_zast (D := cxD X) hX.x hX.b hX.K.1 S.1 S.2.1 S.2.2.1 i 2 (tW_at he) rfl (vp_in_nI hk hn) hd (fun H1 locs1 h1 h2 h3 => ?_)
  rw [nI_clamp (by omega)] at h1 h2
  exact kk a H1 locs1 ls (S.put (c := .inl (2, n, upd f k (vp_nar .boolean x))) h1 h2 h3)
theorem PW.alen (hX : Fx X cc own ret d mc ms) {i t n : Nat} {f : Nat → Int32} (hd : decode cc pc = .ok (.arraylength, 1)) (he : h[i]? = some (.inl (t, n, f))) (ht : Nat.blt t 3 = true) (kk : PW X (pc + 1) L (.int (nI n) :: st) h kc ks) : PW X pc L (.ref i :: st) h kc ks := by
  intro a H locs ls S
  have ht := Nat.blt_eq.mp ht
  have e : ∃ ty, (tys3 (cxk X))[t]? = some (cxk X t, ty) := by
    rcases (show t = 0 ∨ t = 1 ∨ t = 2 by omega) with rfl | rfl | rfl <;> exact ⟨_, rfl⟩
  obtain ⟨ty, e⟩ := e
  exact va_alen (D := cxD X) hX.x hX.b hX.K.1 S.1 i t (tW_at he) e rfl hd (kk a H locs ls S)
end Rules
theorem awp {i : Nat} {w : Cond} (h : (k2_sels lw_privs)[i]? = some w) (hg : goodWord w = true) : w ∈ AW := List.mem_filter.mpr ⟨List.mem_append_left _ (List.mem_of_getElem? h), hg⟩
theorem aw_t {w : Cond} (h : w ∈ tables_1) (hg : goodWord w = true) : w ∈ AW := List.mem_filter.mpr ⟨List.mem_append_right _ h, hg⟩
theorem aw1 {i : Nat} {w : Cond} (h : tables_1_1[i]? = some w) (hg : goodWord w = true) : w ∈ AW := aw_t (List.mem_append_left _ (List.mem_of_getElem? h)) hg
theorem aw2 {i : Nat} {w : Cond} (h : tables_1_2[i]? = some w) (hg : goodWord w = true) : w ∈ AW := aw_t (List.mem_append_right _ (List.mem_append_left _ (List.mem_of_getElem? h))) hg
theorem aw3 {i : Nat} {w : Cond} (h : tables_1_3[i]? = some w) (hg : goodWord w = true) : w ∈ AW := aw_t (List.mem_append_right _ (List.mem_append_right _ (List.mem_append_left _ (List.mem_of_getElem? h)))) hg
theorem aw4 {i : Nat} {w : Cond} (h : tables_1_4[i]? = some w) (hg : goodWord w = true) : w ∈ AW := aw_t (List.mem_append_right _ (List.mem_append_right _ (List.mem_append_right _ (List.mem_append_left _ (List.mem_of_getElem? h))))) hg
theorem aw5 {i : Nat} {w : Cond} (h : tables_1_5[i]? = some w) (hg : goodWord w = true) : w ∈ AW := aw_t (List.mem_append_right _ (List.mem_append_right _ (List.mem_append_right _ (List.mem_append_right _ (List.mem_of_getElem? h))))) hg
theorem AW_in : ∀ w ∈ AW, w ∈ lw_tbl := fun w h => (List.mem_filter.mp h).1
theorem AW_good : ∀ w ∈ AW, (w.onTables && w.keeps) = true ∨ ∃ ty, w = .arrayClass ty := fun w h => good_of_word (List.mem_filter.mp h).2
/-! methods -/
abbrev MI : Type := MethodName × ByteArray × Nat × Option FieldType
def MB (μ : MI) (n : Nat) : Prop := μ.1.cls ≠ "java/lang/invoke/MethodHandle" ∧ μ.1.cls ≠ "java/lang/invoke/VarHandle" ∧ (parseMethodDescriptor μ.1.desc).map (fun d => d.parameters.length) = some n
def MSV (own : String) (idx : Nat) (μ : MI) (n : Nat) : Prop := Cond.methodLink own idx μ.1 ∈ AW ∧ Cond.initialized μ.1.cls ∈ AW ∧ Cond.code μ.1 μ.2.1 μ.2.2.1 μ.2.2.2 ∈ AW ∧ MB μ n ∧ μ.2.2.1 ≤ 13 ∧ Cond.instanceMethod μ.1 ∈ AW ∧ Cond.selects μ.1.cls μ.1 μ.1 ∈ AW
def MSS (own : String) (idx : Nat) (μ : MI) (n : Nat) : Prop := Cond.methodLink own idx μ.1 ∈ AW ∧ Cond.initialized μ.1.cls ∈ AW ∧ Cond.code μ.1 μ.2.1 μ.2.2.1 μ.2.2.2 ∈ AW ∧ MB μ n ∧ μ.2.2.1 ≤ 13 ∧ Cond.static μ.1 ∈ AW
def MNS (own : String) (idx : Nat) (μ : MI) (n : Nat) : Prop := Cond.methodLinkNest own idx μ.1 RX6 ∈ nestW ∧ Cond.initialized μ.1.cls ∈ AW ∧ Cond.code μ.1 μ.2.1 μ.2.2.1 μ.2.2.2 ∈ AW ∧ MB μ n ∧ μ.2.2.1 ≤ 13 ∧ Cond.static μ.1 ∈ AW
def MSI (own : String) (idx : Nat) (μ : MI) (n : Nat) : Prop := Cond.methodLink own idx μ.1 ∈ AW ∧ Cond.initialized μ.1.cls ∈ AW ∧ Cond.code μ.1 μ.2.1 μ.2.2.1 μ.2.2.2 ∈ AW ∧ MB μ n ∧ μ.2.2.1 ≤ 13 ∧ μ.1.name = "<init>" ∧ Cond.instanceMethod μ.1 ∈ AW
def MNI (own : String) (idx : Nat) (μ : MI) (n : Nat) : Prop := Cond.methodLinkNest own idx μ.1 RX6 ∈ nestW ∧ Cond.initialized μ.1.cls ∈ AW ∧ Cond.code μ.1 μ.2.1 μ.2.2.1 μ.2.2.2 ∈ AW ∧ MB μ n ∧ μ.2.2.1 ≤ 13 ∧ μ.1.name = "<init>" ∧ Cond.instanceMethod μ.1 ∈ AW
def rmd (d mc ms : Nat) : Room := { frames := d, cells := mc, slots := ms, locals := 32 * d }
def pmP (D : va_G) (ca : Nat → ClassId) (a : Nat → Nat) (sz : Nat) (as : List Value) (h : List PCell) : Array Value → State → Prop :=
  va_Pc (as.map (tV a)) (fun U => U.heap.size = sz ∧ va_P D vwCl (tW ca a h) U.heap ∧ KK D ca a (va_A (tW ca a h) sz) U U.heap ∧ va_D (fun _ => True) (tW ca a h))
def pmQ (D : va_G) (ca : Nat → ClassId) (a0 : Nat → Nat) (sz : Nat) (h : List PCell) (Φ : Option Value → List PCell → Prop) : Array Value → State → Outcome → State → Prop := fun _ st oc t =>
  (∃ (r : Option Value) (h' : List PCell) (a : Nat → Nat), oc = .returned (r.map (tV a)) ∧ Φ r h' ∧ (∀ i, i < h.length ∨ 1000 ≤ i → a i = a0 i) ∧ va_P D vwCl (tW ca a h') t.heap ∧ va_D (va_A (tW ca a0 h) sz) (tW ca a h')) ∧ va_F (va_A (tW ca a0 h) sz) st t
def PM (μ : MI) (d mc ms : Nat) (as : List Value) (h : List PCell) (Φ : Option Value → List PCell → Prop) : Prop :=
  ∀ (l : Launch) (D : va_G) (ca : Nat → ClassId) (a : Nat → Nat) (sz : Nat), Met l μ.1 (Cond.code μ.1 μ.2.1 μ.2.2.1 μ.2.2.2 :: AW) (rmd d mc ms) (pmP D ca a sz as h) (pmQ D ca a sz h Φ) mc ms (va_A (tW ca a h) sz)
/-- at a return -/
def RT (X : Cx) (Φ : Option Value → List PCell → Prop) (mc ms : Nat) : Prop := ∃ h0 : List PCell, cxQ X = MQ (cxb X) (pmQ (cxD X) (cxk X) (cxa X) (cxs X).heap.size h0 Φ) (cxg X) (cxs X) mc ms (cxA X) ∧ cxA X = va_A (tW (cxk X) (cxa X) h0) (cxs X).heap.size ∧ cxn X = h0.length
theorem lvA_mem : ∀ (vs : List Value) (k : Nat), (∀ v ∈ vs, v.category = 1) → ∀ (i : Nat) (v : Value), vs[i]? = some v → (k + i, v) ∈ lv_args k vs
  | [], k, _, i, v, h => by simp at h
  | w :: vs, k, hc, i, v, h => by
    have hw : ¬ w.category = 2 := by rw [hc w List.mem_cons_self]; decide
    rw [lv_args, if_neg hw]
    cases i with
    | zero =>
      simp only [List.getElem?_cons_zero, Option.some.injEq] at h
      subst h
      exact List.mem_cons_self
    | succ i =>
      rw [List.getElem?_cons_succ] at h
      have := lvA_mem vs (k + 1) (fun v hv => hc v (List.mem_cons_of_mem _ hv)) i v h
      rw [show k + (i + 1) = k + 1 + i by omega]
      exact List.mem_cons_of_mem _ this
theorem lgS_len : ∀ (vs : List Value), (∀ v ∈ vs, v.category = 1) → (lg_sl vs).length = vs.length
  | [], _ => rfl
  | w :: vs, hc => by
    have hw : ¬ w.category = 2 := by rw [hc w List.mem_cons_self]; decide
    have ih := lgS_len vs (fun v hv => hc v (List.mem_cons_of_mem _ hv))
    simp only [lg_sl, List.flatMap_cons, if_neg hw] at ih ⊢
    simp only [List.length_append, List.length_cons, List.length_nil, ih]
    omega
/-- a method from its entry -/
theorem PM.start {μ : MI} {d mc ms : Nat} {as : List Value} {h : List PCell} {Φ : Option Value → List PCell → Prop} {L : List (Option Value)} (hy : plainName μ.1.cls = true) (hc : as.all (fun v => v.category == 1) = true) (hn : Nat.ble as.length μ.2.2.1 = true) (hL : L = as.map some ++ List.replicate (μ.2.2.1 - as.length) none)
    (body : ∀ X : Cx, Fx X μ.2.1 μ.1.cls μ.2.2.2 d mc ms → RT X Φ mc ms → cxn X = h.length → (cxM X).name = μ.1.name → PW X 0 L [] h 0 0) : PM μ d mc ms as h Φ := by
  intro l D ca a sz
  refine Met.ofW (cc := μ.2.1) (maxL := μ.2.2.1) (ret := μ.2.2.2) hy rfl ?_
  intro p e s m args below meth c s₁ B hml hv
  obtain ⟨rfl, hsz, hP, hK, hD0⟩ := hv
  subst hsz
  have hts := atoms_spec (ws := Cond.code μ.1 μ.2.1 μ.2.2.1 μ.2.2.2 :: AW) B.pre
  have hcat : ∀ v ∈ as.map (tV a), v.category = 1 := by
    intro v hv
    obtain ⟨w, hw, rfl⟩ := List.mem_map.mp hv
    rw [tV_cat]
    simpa using List.all_eq_true.mp hc w hw
  have hle : (lg_sl (as.map (tV a))).length ≤ μ.2.2.1 := by
    rw [lgS_len _ hcat, List.length_map]; exact Nat.ble_eq.mp hn
  have hl := lv_entry (as.map (tV a)) (n := μ.2.2.1) hle
  rw [lg_entry_eq]
  generalize (lg_sl (as.map (tV a)) ++ List.replicate (μ.2.2.1 - (lg_sl (as.map (tV a))).length) Slot.unset).toArray = ls at hl ⊢
  refine body ((p, l, e, rmd d mc ms), (s, m, (as.map (tV a)).toArray, below), (meth, c), (D, ca, va_A (tW ca a h) s.heap.size, MQ below (pmQ D ca a s.heap.size h Φ) (as.map (tV a)).toArray s mc ms (va_A (tW ca a h) s.heap.size)), (a, h.length, μ.2.2.1)) ⟨B.exec, B.bytes, hml, findClass_of_methodNamed B.named, fun w hw => hts w (List.mem_cons_of_mem _ hw), B.returns, B.notSynchronized, hK, fun q hq => Or.inr hq, Nat.le_refl _, Nat.le_refl _, Nat.le_refl _, Nat.le_refl _⟩ ⟨h, rfl, rfl, rfl⟩ rfl (name_of_methodNamed B.named B.method).1 a s.heap [] ls ⟨hP, hD0.self, va_S.rf, fun _ _ => rfl, hl.1, ?_, hl.2.1, ?_⟩
  · have := Nat.ble_eq.mp hn
    rw [hL]
    simp only [List.length_append, List.length_map, List.length_replicate]
    show as.length + (μ.2.2.1 - as.length) = μ.2.2.1
    omega
  · intro i v hi
    rw [hL, List.getElem?_append] at hi
    split at hi
    · simp only [List.getElem?_map, Option.map_eq_some_iff] at hi
      obtain ⟨w, hw, e⟩ := hi
      cases e
      refine ⟨by simpa using List.all_eq_true.mp hc v (List.mem_of_getElem? hw), ?_⟩
      have := lvA_mem (as.map (tV a)) 0 hcat i (tV a v) (by simp [hw])
      rw [Nat.zero_add] at this
      exact hl.2.2 _ this
    · simp only [List.getElem?_replicate] at hi
      split at hi
      · cases hi
      · cases hi
section Ret
variable {X : Cx} {cc : ByteArray} {own : String} {ret : Option FieldType} {d mc ms mx sx : Nat} {pc : Nat} {L : List (Option Value)} {st : List Value} {h : List PCell} {kc ks : Nat} {Φ : Option Value → List PCell → Prop}
theorem RT.q (hR : RT X Φ mc ms) {r : Option Value} (hΦ : Φ r h) {a : Nat → Nat} {H : Heap} {locs : List Loc} {ls : Array Slot} (S : Sm X a H locs ls L h) : ∃ h0 : List PCell, cxQ X = MQ (cxb X) (pmQ (cxD X) (cxk X) (cxa X) (cxs X).heap.size h0 Φ) (cxg X) (cxs X) mc ms (cxA X) ∧ ∀ t : State, t.heap = H → pmQ (cxD X) (cxk X) (cxa X) (cxs X).heap.size h0 Φ (cxg X) (cxs X) (.returned (r.map (tV a))) t := by
  obtain ⟨h0, e1, e2, e3⟩ := hR
  obtain ⟨hP, hD, hS, hx, hl⟩ := S
  refine ⟨h0, e1, fun t ht => ⟨⟨r, h, a, rfl, hΦ, fun i hi => hx i (by rw [e3]; exact hi), by rw [ht]; exact hP, by rw [← e2]; exact hD⟩, by rw [← e2]; exact hS.F ht⟩⟩
theorem PW.iret (hX : Fx X cc own (some .int) d mx sx) (hR : RT X Φ mc ms) {v : Int32} (hd : decode cc pc = .ok (.ireturn, 1)) (h1 : Nat.ble kc mc = true) (h2 : Nat.ble ks ms = true) (hΦ : Φ (some (.int v)) h) : PW X pc L [.int v] h kc ks := by
  intro a H locs ls S
  obtain ⟨h0, e1, hq⟩ := hR.q hΦ S
  unfold WW
  rw [e1]
  exact W.widen (Nat.ble_eq.mp h1) (Nat.ble_eq.mp h2) (W.iret hX.x hX.b hX.rt (fun t ht _ => hq t ht) S.2.2.1.2.2 hd hX.lk)
theorem PW.zret (hX : Fx X cc own (some .boolean) d mx sx) (hR : RT X Φ mc ms) {v : Int32} (hd : decode cc pc = .ok (.ireturn, 1)) (hv : v = 0 ∨ v = 1) (h1 : Nat.ble kc mc = true) (h2 : Nat.ble ks ms = true) (hΦ : Φ (some (.int v)) h) : PW X pc L [.int v] h kc ks := by
  intro a H locs ls S
  obtain ⟨h0, e1, hq⟩ := hR.q hΦ S
  unfold WW
  rw [e1]
  exact W.widen (Nat.ble_eq.mp h1) (Nat.ble_eq.mp h2) (W.zret hX.x hX.b hX.rt (by rcases hv with rfl | rfl <;> rfl) (fun t ht _ => hq t ht) S.2.2.1.2.2 hd hX.lk)
theorem PW.bret (hX : Fx X cc own (some .byte) d mx sx) (hR : RT X Φ mc ms) {v : Int32} (hd : decode cc pc = .ok (.ireturn, 1)) (hv : v = 0 ∨ v = 1) (h1 : Nat.ble kc mc = true) (h2 : Nat.ble ks ms = true) (hΦ : Φ (some (.int v)) h) : PW X pc L [.int v] h kc ks := by
  intro a H locs ls S
  obtain ⟨h0, e1, hq⟩ := hR.q hΦ S
  unfold WW
  rw [e1]
  exact W.widen (Nat.ble_eq.mp h1) (Nat.ble_eq.mp h2) (W.zret hX.x hX.b hX.rt (by rcases hv with rfl | rfl <;> rfl) (fun t ht _ => hq t ht) S.2.2.1.2.2 hd hX.lk)
theorem PW.vret (hX : Fx X cc own none d mx sx) (hR : RT X Φ mc ms) (hd : decode cc pc = .ok (.return_, 1)) (h1 : Nat.ble kc mc = true) (h2 : Nat.ble ks ms = true) (hΦ : Φ none h) : PW X pc L [] h kc ks := by
  intro a H locs ls S
  obtain ⟨h0, e1, hq⟩ := hR.q hΦ S
  unfold WW
  rw [e1]
  exact W.widen (Nat.ble_eq.mp h1) (Nat.ble_eq.mp h2) (W.vret hX.x hX.b hX.rt (fun t ht _ => hq t ht) S.2.2.1.2.2 hd hX.lk)
end Ret
end
section
/-! calls: the callee's cells are some of ours, by their places ι; its refs are renamed -/
def rho (ι : List Nat) (n m i : Nat) : Nat := bif Nat.blt i n then ι.getD i 0 else bif Nat.ble 1000 i then i else i - n + m
theorem rho_in {ι : List Nat} {n m i j : Nat} (hi : i < n) (hj : ι[i]? = some j) : rho ι n m i = j := by
  have : Nat.blt i n = true := Nat.blt_eq.mpr hi
  simp [rho, this, List.getD_eq_getElem?_getD, hj]
theorem rho_hi {ι : List Nat} {n m i : Nat} (hn : n ≤ 1000) (hi : 1000 ≤ i) : rho ι n m i = i := by
  have h1 : Nat.blt i n = false := by rw [Bool.eq_false_iff]; intro h; have := Nat.blt_eq.mp h; omega
  have h2 : Nat.ble 1000 i = true := Nat.ble_eq.mpr hi
  unfold rho; rw [h1, h2]; rfl
theorem rho_new {ι : List Nat} {n m i : Nat} (hi : n ≤ i) (hk : i < 1000) : rho ι n m i = i - n + m := by
  have h1 : Nat.blt i n = false := by rw [Bool.eq_false_iff]; intro h; have := Nat.blt_eq.mp h; omega
  have h2 : Nat.ble 1000 i = false := by rw [Bool.eq_false_iff]; intro h; have := Nat.ble_eq.mp h; omega
  unfold rho; rw [h1, h2]; rfl
def isI : Option Value → Bool
  | none => true
  | some (.int _) => true
  | _ => false
section Calls
variable {X : Cx} {cc : ByteArray} {own : String} {ret : Option FieldType} {d mc ms : Nat} {pc : Nat} {L : List (Option Value)} {st rest : List Value} {h hc : List PCell} {kc ks : Nat} {μ : MI} {d' mc' ms' n : Nat} {as : List Value} {ι : List Nat} {Φ : Option Value → List PCell → Prop}
theorem pick_at {g : PCell → PCell} (e1 : ι.map (fun i => h[i]?) = hc.map (fun c => some (g c))) : ι.length = hc.length ∧ (∀ (k : Nat) (c : PCell), hc[k]? = some c → ∃ i, ι[k]? = some i ∧ h[i]? = some (g c)) := by
  refine ⟨by simpa using congrArg List.length e1, fun k c hk => ?_⟩
  have h1 : (ι.map (fun i => h[i]?))[k]? = some (some (g c)) := by rw [e1]; simp [hk]
  rw [List.getElem?_map] at h1
  cases hi : ι[k]? with
  | none => rw [hi] at h1; cases h1
  | some i => rw [hi] at h1; exact ⟨i, rfl, Option.some.inj h1⟩
/-- the callee's world out of ours -/
theorem sub_W {a : Nat → Nat} {ca : Nat → ClassId} (e1 : ι.map (fun i => h[i]?) = hc.map (fun c => some (rC (rho ι ι.length h.length) c))) {k : Nat} {q : Nat × va_E} (hk : (tW ca (fun i => a (rho ι ι.length h.length i)) hc)[k]? = some q) : ∃ i, ι[k]? = some i ∧ (tW ca a h)[i]? = some q := by
  obtain ⟨c, h1, rfl⟩ := tW_of hk
  obtain ⟨hl, hp⟩ := pick_at e1
  obtain ⟨i, h2, h3⟩ := hp k c h1
  refine ⟨i, h2, ?_⟩
  rw [tW_at h3, tC_rC, rho_in (by rw [hl]; exact (List.getElem?_eq_some_iff.mp h1).1) h2]
theorem sub_P {a : Nat → Nat} {H : Heap} {locs : List Loc} {ls : Array Slot} (hX : Fx X cc own ret d mc ms) (S : Sm X a H locs ls L h) (e1 : ι.map (fun i => h[i]?) = hc.map (fun c => some (rC (rho ι ι.length h.length) c))) (hnd : va_nd ι = true) (hsm : Nat.ble ι.length 1000 = true) :
    va_P (cxD X) vwCl (tW (cxk X) (fun i => a (rho ι ι.length h.length i)) hc) H ∧ va_D (fun _ => True) (tW (cxk X) (fun i => a (rho ι ι.length h.length i)) hc) ∧ (∀ q, va_A (tW (cxk X) (fun i => a (rho ι ι.length h.length i)) hc) H.size q → cxA X q) ∧ KK (cxD X) (cxk X) (fun i => a (rho ι ι.length h.length i)) (va_A (tW (cxk X) (fun i => a (rho ι ι.length h.length i)) hc) H.size) (cxs X) H := by
  obtain ⟨hP, hD, hS, hx, hl⟩ := S
  have hF : ∀ q, va_A (tW (cxk X) (fun i => a (rho ι ι.length h.length i)) hc) H.size q → cxA X q := by
    rintro q (⟨k, e, hk⟩ | hq)
    · obtain ⟨i, h1, h2⟩ := sub_W e1 hk
      exact hD.2 i _ h2
    · exact hX.A q (Nat.le_trans hS.1 hq)
  refine ⟨fun k q hk => ?_, ⟨fun i j p q hi hj e => ?_, fun _ _ _ => trivial⟩, hF, ?_⟩
  · obtain ⟨i, h1, h2⟩ := sub_W e1 hk
    exact hP i q h2
  · obtain ⟨i', h1, h2⟩ := sub_W e1 hi
    obtain ⟨j', h3, h4⟩ := sub_W e1 hj
    have := hD.1 i' j' p q h2 h4 e
    subst this
    exact va_nd_inj ι hnd i j i' h1 h3
  · exact KK.re (fun i hi => by show cxa X i = a (rho ι ι.length h.length i); rw [rho_hi (Nat.ble_eq.mp hsm) hi, hx i (Or.inr hi)]) (hX.K.kept hS.2.1 hF)
theorem pmP_blind {D : va_G} {ca : Nat → ClassId} {a : Nat → Nat} {sz : Nat} {as : List Value} {h : List PCell} : FrameBlind (pmP D ca a sz as h) := by
  rintro v U g mk ⟨h1, h2, h3, h4, h5⟩
  exact ⟨h1, h2, h3, KK.same (u := U) (U := U.calling g mk v) (H := U.heap) rfl h4, h5⟩
theorem pmP_of {a : Nat → Nat} {H : Heap} (hP : va_P (cxD X) vwCl (tW (cxk X) a hc) H) (hD : va_D (fun _ => True) (tW (cxk X) a hc)) (hK : KK (cxD X) (cxk X) a (va_A (tW (cxk X) a hc) H.size) (cxs X) H) : ∀ U : State, U.heap = H → (cxs X).WarmedH U.vm → pmP (cxD X) (cxk X) a H.size as hc (as.map (tV a)).toArray U := by
  intro U hU hW
  exact ⟨rfl, by rw [hU], by rw [hU]; exact hP, by rw [hU]; exact hK.warm hW, hD⟩
/-- a run of the callee, back in our walk: no cell is new -/
theorem PW.core (hX : Fx X cc own ret d mc ms) (e1 : ι.map (fun i => h[i]?) = hc.map (fun c => some (rC (rho ι ι.length h.length) c))) (hnd : va_nd ι = true) (hsm : Nat.ble ι.length 1000 = true)
    (hΦ : ∀ r h', Φ r h' → h'.length = ι.length ∧ okH ι.length h' = true ∧ isI r = true)
    (hrun : ∀ (a : Nat → Nat) (H : Heap) (locs : List Loc) (ls : Array Slot), Sm X a H locs ls L h → ∃ g : Array Value, va_Run (cxp X) (cxl X) (cxe X) (cxR X) (cxs X) (cxm X) (cxg X) (cxb X) (cxM X) (cxc X) H locs kc ks mc' ms' (F0 (cxm X) pc ls (st.map (tV a))) (rest.map (tV a)) (pmQ (cxD X) (cxk X) (fun i => a (rho ι ι.length h.length i)) H.size hc Φ g) (va_A (tW (cxk X) (fun i => a (rho ι ι.length h.length i)) hc) H.size))
    (kk : ∀ r h', Φ r h' → PW X (pc + 3) L (r.toList ++ rest) (updH h ι (h'.map (rC (rho ι ι.length h.length)))) (kc + mc') (ks + ms')) : PW X pc L st h kc ks := by
  intro a H locs ls S
  obtain ⟨g, hr⟩ := hrun a H locs ls S
  obtain ⟨hP, hD, hS, hx, hl⟩ := id S
  obtain ⟨hPc, hDc, hFc, hKc⟩ := sub_P hX S e1 hnd hsm
  intro T hT Xs
  obtain ⟨v, st₀, t, T', L', h0, X', hL, e3, e4, ⟨⟨r, h', a', hv, hφ, ha', hP', hD'⟩, hF⟩, stp⟩ := hr T hT Xs
  obtain ⟨hlen, hok, hi⟩ := hΦ r h' hφ
  obtain ⟨hlc, hpk⟩ := pick_at e1
  have hw : tW (cxk X) a' h' = tW (cxk X) (fun i => a (rho ι ι.length h.length i)) h' := tW_congr (n := ι.length) (fun i hi => ha' i (by rw [← hlc]; exact hi)) (Nat.le_of_eq hlen) hok
  rw [hw] at hP'
  have hv' : v = r := by
    cases r with
    | none => simpa using hv
    | some w => cases w <;> first | (simp [isI] at hi; done) | simpa [tV] using hv
  subst hv'
  have hz : H.size ≤ t.heap.size := by have := hF.1; rw [h0] at this; exact this
  have hk : ∀ q : Nat, q < H.size → ¬ va_A (tW (cxk X) (fun i => a (rho ι ι.length h.length i)) hc) H.size q → t.heap[q]? = H[q]? := by have := hF.2; rw [h0] at this; exact this
  have hι : ∀ (k i : Nat), ι[k]? = some i → i < h.length := by
    intro k i hki
    have hkl : k < hc.length := by rw [← hlc]; exact (List.getElem?_eq_some_iff.mp hki).1
    obtain ⟨j, h1, h2⟩ := hpk k hc[k] (List.getElem?_eq_getElem hkl)
    rw [hki] at h1
    cases h1
    exact (List.getElem?_eq_some_iff.mp h2).1
  have S' : Sm X a T'.heap (locs ++ L') ls L (updH h ι (h'.map (rC (rho ι ι.length h.length)))) := by
    refine ⟨fun j q hj => ?_, ⟨fun i j p q hi hj e => ?_, fun j q hj => ?_⟩, ⟨Nat.le_trans hS.1 (by rw [e3]; exact hz), fun q h1 h2 => ?_, fun q hq => ?_⟩, hx, hl⟩
    · obtain ⟨c, h1, rfl⟩ := tW_of hj
      rw [e3]
      by_cases hji : j ∈ ι
      · obtain ⟨k, hk1⟩ := List.getElem?_of_mem hji
        have hkl : k < h'.length := by rw [hlen]; exact (List.getElem?_eq_some_iff.mp hk1).1
        have h2 : (h'.map (rC (rho ι ι.length h.length)))[k]? = some (rC (rho ι ι.length h.length) h'[k]) := by simp [hkl]
        rw [updH_in ι _ h k j _ hnd hk1 h2 (hι k j hk1)] at h1
        cases h1
        have h3 := hP' k _ (tW_at (List.getElem?_eq_getElem hkl))
        rw [tC_rC]
        rw [rho_in (by rw [← hlen]; exact hkl) hk1] at h3
        exact h3
      · rw [updH_out ι _ h j hji] at h1
        have h2 := hP j _ (tW_at h1)
        refine h2.kept (hk _ h2.lt (fun hA => ?_))
        rcases hA with ⟨k, e, hA⟩ | hA
        · obtain ⟨i, h3, h4⟩ := sub_W e1 hA
          have := hD.1 i j _ _ h4 (tW_at h1) rfl
          subst this
          exact hji (List.mem_of_getElem? h3)
        · exact absurd h2.lt (Nat.not_lt.mpr hA)
    · obtain ⟨c, h1, rfl⟩ := tW_of hi
      obtain ⟨c2, h2, rfl⟩ := tW_of hj
      have l1 := (List.getElem?_eq_some_iff.mp h1).1
      have l2 := (List.getElem?_eq_some_iff.mp h2).1
      rw [updH_len] at l1 l2
      exact hD.1 i j _ _ (tW_at (List.getElem?_eq_getElem l1)) (tW_at (List.getElem?_eq_getElem l2)) e
    · obtain ⟨c, h1, rfl⟩ := tW_of hj
      have l1 := (List.getElem?_eq_some_iff.mp h1).1
      rw [updH_len] at l1
      have h9 := hD.2 j _ (tW_at (ca := cxk X) (a := a) (List.getElem?_eq_getElem l1))
      exact h9
    · rw [e3, hk q (Nat.lt_of_lt_of_le h1 hS.1) (fun z => h2 (hFc q z))]
      exact hS.2.1 q h1 h2
    · rcases List.mem_append.mp hq with h | h
      · exact hS.2.2 q h
      · exact hFc _ (hL q h)
  obtain ⟨t2, a1, b1⟩ := kk v h' hφ a T'.heap (locs ++ L') ls S' T' rfl X'
  refine ⟨t2, stp t2 ?_, b1⟩
  have e5 : (v.toList ++ rest).map (tV a) = v.toList ++ rest.map (tV a) := by
    rw [List.map_append]
    congr 1
    cases v with
    | none => rfl
    | some w => cases w <;> first | (simp [isI] at hi; done) | rfl
  rw [e5] at a1
  exact a1
theorem good_ws : GoodIn AW AW := fun w h => ⟨h, AW_good w h⟩
theorem cat_rest {a : Nat → Nat} {rest : List Value} (hr : Nat.ble ((rest.map fun v => v.category).sum) 8 = true) {m : MethodId} {pc : Nat} {ls : Array Slot} {st : List Value} : 2 * (F0 m pc ls st).monitorRoom + ((rest.map (tV a)).map fun v => v.category).sum ≤ 8 := by
  have : ((rest.map (tV a)).map fun v => v.category) = rest.map fun v => v.category := by simp [tV_cat, Function.comp_def]
  rw [this]
  have h1 : (F0 m pc ls st).monitorRoom = 0 := rfl
  rw [h1]
  have := Nat.ble_eq.mp hr
  omega
/-- invokevirtual -/
theorem PW.callV (hX : Fx X cc own ret d mc ms) {idx ci i : Nat} {fs : List Value} {T : u_T} {N : Nat} (hm : MSV own idx μ n) (hM : PM μ d' mc' ms' as hc Φ) (hd : decode cc pc = .ok (.invokevirtual idx, 3))
    (ι : List Nat) (e1 : ι.map (fun i => h[i]?) = hc.map (fun c => some (rC (rho ι ι.length h.length) c))) (hst : st = (as.map (tV (rho ι ι.length h.length))).reverse ++ rest) (hob : (as.map (tV (rho ι ι.length h.length))).head? = some (.ref i)) (hn : as.length = n + 1) (he : h[i]? = some (.inr (ci, fs))) (hci : vwCl[ci]? = some (μ.1.cls, T, N))
    (hnd : va_nd ι = true) (hsm : Nat.ble ι.length 1000 = true) (hdd : Nat.blt d' d = true) (hcc : Nat.ble (kc + mc') mc = true) (hss : Nat.ble (ks + ms') ms = true) (hr : Nat.ble ((rest.map fun v => v.category).sum) 8 = true)
    (hΦ : ∀ r h', Φ r h' → h'.length = ι.length ∧ okH ι.length h' = true ∧ isI r = true)
    (kk : ∀ r h', Φ r h' → PW X (pc + 3) L (r.toList ++ rest) (updH h ι (h'.map (rC (rho ι ι.length h.length)))) (kc + mc') (ks + ms')) : PW X pc L st h kc ks := by
  refine PW.core hX e1 hnd hsm hΦ (fun a H locs ls S => ?_) kk
  obtain ⟨hPc, hDc, hFc, hKc⟩ := sub_P hX S e1 hnd hsm
  obtain ⟨hlk, hin, hcd, ⟨hb1, hb2, hb3⟩, hml, him, hse⟩ := hm
  obtain ⟨r1, r2, r3, r4⟩ := hX.r
  have hdd := Nat.blt_eq.mp hdd
  have hcc := Nat.ble_eq.mp hcc
  have hss := Nat.ble_eq.mp hss
  cases as with
  | nil => simp at hn
  | cons v0 As =>
    simp only [List.map_cons, List.head?_cons, Option.some.injEq] at hob
    refine ⟨((v0 :: As).map (tV (fun i => a (rho ι ι.length h.length i)))).toArray, ?_⟩
    have e0 : tV (fun i => a (rho ι ι.length h.length i)) v0 = .ref (a i) := by rw [← tV_tV a, hob]; rfl
    have e2 : ((v0 :: As).map (tV (fun i => a (rho ι ι.length h.length i)))).toArray = (Value.ref (a i) :: As.map (tV (fun i => a (rho ι ι.length h.length i)))).toArray := by rw [List.map_cons, e0]
    rw [e2]
    refine va_runV (As := As.map (tV (fun i => a (rho ι ι.length h.length i)))) (b := a i) (C := μ.1.cls) (n := n) (rest := rest.map (tV a)) (Ts := AW) (nL := cxL X) ⟨hX.x, hX.b, hX.ml, hX.ow, hX.ts⟩ (hM (cxl X) (cxD X) (cxk X) (fun i => a (rho ι ι.length h.length i)) H.size) (cwV n hX.ts (fun w hw => ?_) rfl rfl rfl ⟨rfl, hb1, hb2, hb3⟩ ⟨by show d' + 1 ≤ _; omega, by show 8 + (μ.2.2.1 + 11) + 32 * d' ≤ _; omega⟩) ⟨pmP_blind, va_recv hX.K.1 S.1 hci (tW_at he), fun U hU hW => ?_⟩ rfl ?_ S.2.2.2.2.1 ?_ (cat_rest hr) hd ⟨by omega, by omega⟩
    · simp only [wsV, List.mem_append, List.mem_cons, List.not_mem_nil, or_false] at hw
      rcases hw with (rfl | rfl | rfl | rfl) | (rfl | hw)
      · exact good_ws _ hlk
      · exact good_ws _ him
      · exact good_ws _ hse
      · exact good_ws _ hin
      · exact good_ws _ hcd
      · exact good_ws _ hw
    · rw [← e2]
      exact pmP_of hPc hDc hKc U hU hW
    · simpa using hn
    · show st.map (tV a) = _
      rw [hst, List.map_append, ← List.map_reverse, List.map_map]
      have e3 : tV a ∘ tV (rho ι ι.length h.length) = tV (fun i => a (rho ι ι.length h.length i)) := funext fun v => tV_tV a _ v
      rw [e3, List.reverse_cons, List.map_append, List.map_cons, List.map_nil, e0, List.map_reverse, List.append_assoc]
      rfl
/-- invokestatic: of the own class or another, and of a nest mate -/
theorem PW.callS (hX : Fx X cc own ret d mc ms) {idx : Nat} (hm : MSS own idx μ n) (hM : PM μ d' mc' ms' as hc Φ) (hd : decode cc pc = .ok (.invokestatic idx, 3))
    (ι : List Nat) (e1 : ι.map (fun i => h[i]?) = hc.map (fun c => some (rC (rho ι ι.length h.length) c))) (hst : st = (as.map (tV (rho ι ι.length h.length))).reverse ++ rest) (hn : as.length = n)
    (hnd : va_nd ι = true) (hsm : Nat.ble ι.length 1000 = true) (hdd : Nat.blt d' d = true) (hcc : Nat.ble (kc + mc') mc = true) (hss : Nat.ble (ks + ms') ms = true) (hr : Nat.ble ((rest.map fun v => v.category).sum) 8 = true)
    (hΦ : ∀ r h', Φ r h' → h'.length = ι.length ∧ okH ι.length h' = true ∧ isI r = true)
    (kk : ∀ r h', Φ r h' → PW X (pc + 3) L (r.toList ++ rest) (updH h ι (h'.map (rC (rho ι ι.length h.length)))) (kc + mc') (ks + ms')) : PW X pc L st h kc ks := by
  refine PW.core hX e1 hnd hsm hΦ (fun a H locs ls S => ?_) kk
  obtain ⟨hPc, hDc, hFc, hKc⟩ := sub_P hX S e1 hnd hsm
  obtain ⟨hlk, hin, hcd, ⟨hb1, hb2, hb3⟩, hml, hsta⟩ := hm
  obtain ⟨r1, r2, r3, r4⟩ := hX.r
  have hdd := Nat.blt_eq.mp hdd
  have hcc := Nat.ble_eq.mp hcc
  have hss := Nat.ble_eq.mp hss
  refine ⟨(as.map (tV (fun i => a (rho ι ι.length h.length i)))).toArray, ?_⟩
  refine va_runS (As := as.map (tV (fun i => a (rho ι ι.length h.length i)))) (n := n) (rest := rest.map (tV a)) (Ts := AW) (nL := cxL X) ⟨hX.x, hX.b, hX.ml, hX.ow, hX.ts⟩ (hM (cxl X) (cxD X) (cxk X) (fun i => a (rho ι ι.length h.length i)) H.size) (va_cwS n hX.ts (fun w hw => ?_) rfl rfl rfl ⟨hb1, hb2, hb3⟩ ⟨by show d' + 1 ≤ _; omega, by show 8 + (μ.2.2.1 + 11) + 32 * d' ≤ _; omega⟩) ⟨pmP_blind, fun U hU hW => pmP_of hPc hDc hKc U hU hW⟩ rfl (by simpa using hn) S.2.2.2.2.1 ?_ (cat_rest hr) hd ⟨by omega, by omega⟩
  · simp only [va_wsS, List.mem_append, List.mem_cons, List.not_mem_nil, or_false] at hw
    rcases hw with (rfl | rfl | rfl) | (rfl | hw)
    · exact good_ws _ hlk
    · exact good_ws _ hsta
    · exact good_ws _ hin
    · exact good_ws _ hcd
    · exact good_ws _ hw
  · show st.map (tV a) = _
    rw [hst, List.map_append, ← List.map_reverse, List.map_map]
    have e3 : tV a ∘ tV (rho ι ι.length h.length) = tV (fun i => a (rho ι ι.length h.length i)) := funext fun v => tV_tV a _ v
    rw [e3, List.map_reverse]
theorem PW.callN (hX : Fx X cc own ret d mc ms) {idx : Nat} (hm : MNS own idx μ n) (hM : PM μ d' mc' ms' as hc Φ) (hd : decode cc pc = .ok (.invokestatic idx, 3))
    (ι : List Nat) (e1 : ι.map (fun i => h[i]?) = hc.map (fun c => some (rC (rho ι ι.length h.length) c))) (hst : st = (as.map (tV (rho ι ι.length h.length))).reverse ++ rest) (hn : as.length = n)
    (hnd : va_nd ι = true) (hsm : Nat.ble ι.length 1000 = true) (hdd : Nat.blt d' d = true) (hcc : Nat.ble (kc + mc') mc = true) (hss : Nat.ble (ks + ms') ms = true) (hr : Nat.ble ((rest.map fun v => v.category).sum) 8 = true)
    (hΦ : ∀ r h', Φ r h' → h'.length = ι.length ∧ okH ι.length h' = true ∧ isI r = true)
    (kk : ∀ r h', Φ r h' → PW X (pc + 3) L (r.toList ++ rest) (updH h ι (h'.map (rC (rho ι ι.length h.length)))) (kc + mc') (ks + ms')) : PW X pc L st h kc ks := by
  refine PW.core hX e1 hnd hsm hΦ (fun a H locs ls S => ?_) kk
  obtain ⟨hPc, hDc, hFc, hKc⟩ := sub_P hX S e1 hnd hsm
  obtain ⟨hlk, hin, hcd, hbb, hml, hsta⟩ := hm
  obtain ⟨r1, r2, r3, r4⟩ := hX.r
  have hdd := Nat.blt_eq.mp hdd
  have hcc := Nat.ble_eq.mp hcc
  have hss := Nat.ble_eq.mp hss
  refine ⟨(as.map (tV (fun i => a (rho ι ι.length h.length i)))).toArray, ?_⟩
  refine va_runSN (As := as.map (tV (fun i => a (rho ι ι.length h.length i)))) (n := n) (rest := rest.map (tV a)) (Ts := AW) (nL := cxL X) ⟨hX.x, hX.b, hX.ml, hX.ow, hX.ts⟩ (hM (cxl X) (cxD X) (cxk X) (fun i => a (rho ι ι.length h.length i)) H.size) ⟨va_cnB n hX.ts (fun w hw => ?_) rfl rfl rfl (hX.K.2.1 _ hlk) (hX.ts _ hin) hbb ⟨by show d' + 1 ≤ _; omega, by show 8 + (μ.2.2.1 + 11) + 32 * d' ≤ _; omega⟩, hX.ts _ hsta, trivial⟩ ⟨pmP_blind, fun U hU hW => pmP_of hPc hDc hKc U hU hW⟩ rfl (by simpa using hn) S.2.2.2.2.1 ?_ (cat_rest hr) hd ⟨by omega, by omega⟩
  · rcases List.mem_cons.mp hw with rfl | hw
    · exact good_ws _ hcd
    · exact good_ws _ hw
  · show st.map (tV a) = _
    rw [hst, List.map_append, ← List.map_reverse, List.map_map]
    have e3 : tV a ∘ tV (rho ι ι.length h.length) = tV (fun i => a (rho ι ι.length h.length i)) := funext fun v => tV_tV a _ v
    rw [e3, List.map_reverse]
end Calls
end
section
/-! cells that are made -/
def CN (own : String) (idx ci : Nat) : Prop := ∃ (C : String) (T : u_T) (N : Nat) (ty : Nat → FieldType), vwCl[ci]? = some (C, T, N) ∧ (∀ w ∈ u_ws C T N, w ∈ AW) ∧ (∀ k, k < N → parseFieldDescriptor (T k).2.2.1 = some (ty k)) ∧ Cond.classLink own idx C ∈ AW ∧ Cond.instantiable C N ∈ AW ∧ Cond.initialized C ∈ AW
def okS (n : Nat) (L : List (Option Value)) (st : List Value) (h : List PCell) : Bool := okH n h && (L.all (fun o => o.all (okV n)) && st.all (okV n))
def exA (a : Nat → Nat) (n q : Nat) : Nat → Nat := fun i => if i = n then q else a i
section New
variable {X : Cx} {cc : ByteArray} {own : String} {ret : Option FieldType} {d mc ms : Nat} {pc : Nat} {L : List (Option Value)} {st : List Value} {h : List PCell} {kc ks : Nat}
theorem exA_ag {a : Nat → Nat} {n q : Nat} (hn : n < 1000) : ∀ i, i < n ∨ 1000 ≤ i → a i = exA a n q i := by
  intro i hi
  unfold exA
  rw [if_neg (by omega)]
theorem exA_self {a : Nat → Nat} {n q : Nat} : exA a n q n = q := by simp [exA]
theorem tW_app (ca : Nat → ClassId) (a : Nat → Nat) (h : List PCell) (c : PCell) : tW ca a (h ++ [c]) = tW ca a h ++ [(a h.length, tC ca a c)] := by
  simp [tW, List.mapIdx_append]
theorem Sm.push {a : Nat → Nat} {H H1 : Heap} {locs : List Loc} {ls : Array Slot} {c : PCell} {q : Nat} (S : Sm X a H locs ls L h) (hn : h.length < 1000) (hx : cxn X ≤ h.length) (hok : okH h.length h = true) (hokL : L.all (fun o => o.all (okV h.length)) = true) (hokc : okC h.length c = true)
    (h1 : va_P (cxD X) vwCl (tW (cxk X) a h ++ [(q, tC (cxk X) a c)]) H1) (h2 : va_D (cxA X) (tW (cxk X) a h ++ [(q, tC (cxk X) a c)])) (h3 : va_S (cxA X) (cxs X).heap H1 locs) : Sm X (exA a h.length q) H1 locs ls L (h ++ [c]) := by
  have ag := exA_ag (a := a) (q := q) hn
  have e : tW (cxk X) a h ++ [(q, tC (cxk X) a c)] = tW (cxk X) (exA a h.length q) (h ++ [c]) := by
    rw [tW_app, exA_self, tW_congr ag (Nat.le_refl _) hok, tC_congr ag hokc]
  rw [e] at h1 h2
  exact ⟨h1, h2, h3, fun i hi => by rw [← ag i (by omega)]; exact S.2.2.2.1 i hi, lvS_congr ag hokL S.2.2.2.2⟩
theorem st_congr {a b : Nat → Nat} {n : Nat} (hab : ∀ i, i < n ∨ 1000 ≤ i → a i = b i) {st : List Value} (hs : st.all (okV n) = true) : st.map (tV a) = st.map (tV b) := List.map_congr_left fun v hv => tV_congr hab (List.all_eq_true.mp hs v hv)
theorem PW.new (hX : Fx X cc own ret d mc ms) {idx ci N : Nat} {C : String} {T : u_T} (fs : List Value) (hf : CN own idx ci) (hc : vwCl[ci]? = some (C, T, N)) (hd : decode cc pc = .ok (.new idx, 3)) (hfs : ∀ ty : Nat → FieldType, (∀ k, k < N → parseFieldDescriptor (T k).2.2.1 = some (ty k)) → ∀ j, j < N → defaultValue (ty j) = vp_V fs j) (hz : fs.all (fun v => match v with | .ref _ => false | _ => true) = true) (hx : cxn X ≤ h.length) (hn : Nat.blt h.length 1000 = true) (hok : okS h.length L st h = true) (h1 : Nat.ble (kc + 1) mc = true) (h2 : Nat.ble (ks + N) ms = true)
    (kk : PW X (pc + 3) L (.ref h.length :: st) (h ++ [.inr (ci, fs)]) (kc + 1) (ks + N)) : PW X pc L st h kc ks := by
  obtain ⟨C', T', N', ty, hc', hin, hty, hl, hi, hini⟩ := hf
  rw [hc] at hc'
  cases hc'
  simp only [okS, Bool.and_eq_true] at hok
  obtain ⟨o1, o2, o3⟩ := hok
  have hn := Nat.blt_eq.mp hn
  have hval : ∀ (a : Nat → Nat), fs.map (tV a) = fs := by
    intro a
    have : ∀ v ∈ fs, tV a v = v := by
      intro v hv
      have := List.all_eq_true.mp hz v hv
      cases v <;> first | rfl | (simp at this; done)
    exact (List.map_congr_left this).trans (List.map_id _)
  have hok2 : okC h.length (.inr (ci, fs)) = true := by
    simp only [okC, List.all_eq_true]
    intro v hv
    have := List.all_eq_true.mp hz v hv
    cases v <;> first | rfl | (simp at this; done)
  intro a H locs ls S
  obtain ⟨r1, r2, r3, r4⟩ := hX.r
  have b1 := Nat.ble_eq.mp h1
  have b2 := Nat.ble_eq.mp h2
  refine va_new (ci := ci) (fs := fs) (C := C) (T := T) (N := N) (D := cxD X) hX.x hX.b hX.ts hin ty hty hX.ow (hX.ts _ hl) (hX.ts _ hi) (hX.ts _ hini) hX.K.1 S.1 S.2.1 S.2.2.1 hX.A hc (hfs ty hty) (by omega) (by omega) hd (fun q H1 g1 g2 g3 => ?_)
  have e : ((Sum.inr (ci, fs)) : va_E) = tC (cxk X) a (.inr (ci, fs)) := by simp [tC, hval]
  rw [e] at g1 g2
  have := kk (exA a h.length q) H1 locs ls (S.push hn hx o1 o2 hok2 g1 g2 g3)
  rw [List.map_cons, ← st_congr (exA_ag (a := a) (q := q) hn) o3] at this
  show WW X H1 locs (kc + 1) (ks + N) (pc + 3) ls (.ref q :: st.map (tV a))
  have e2 : tV (exA a h.length q) (.ref h.length) = .ref q := by show Value.ref (exA a h.length q h.length) = _; rw [exA_self]
  rw [e2] at this
  exact this
/-- the array class of a type is one -/
theorem RA_one {U : State} {c1 c2 : ClassId} {t : Nat} {ca : Nat → ClassId} {ty : FieldType} (ht : (tys3 ca)[t]? = some (c1, ty)) (h1 : va_RA U c1 ty) (h2 : va_RA U c2 ty) : c2 = c1 := by
  match t, ht with
  | 0, ht => cases ht; exact Option.some.inj (h2.symm.trans h1)
  | 1, ht => cases ht; exact Option.some.inj (h2.symm.trans h1)
  | 2, ht => cases ht; exact Option.some.inj (h2.symm.trans h1)
  | t + 3, ht => simp [tys3] at ht
theorem PW.newarr (hX : Fx X cc own ret d mc ms) {t N : Nat} {ty : FieldType} {atype : ArrayType} {x : Int32} (hac : Cond.arrayClass ty ∈ AW) (hat : newarray.typeOf atype = ty) (ht : ∀ ca, (tys3 ca)[t]? = some (ca t, ty)) (hdv : defaultValue ty = .int 0) (hbt : N * componentBytes ty ≤ 536870912) (hd : decode cc pc = .ok (.newarray atype, 2)) (hN : x = nI N) (hx : cxn X ≤ h.length) (hn : Nat.blt h.length 1000 = true) (hNs : Nat.blt N 2147483648 = true) (hok : okS h.length L st h = true) (h1 : Nat.ble (kc + 1) mc = true) (h2 : Nat.ble (ks + N) ms = true)
    (kk : PW X (pc + 2) L (.ref h.length :: st) (h ++ [.inl (t, N, fun _ => 0)]) (kc + 1) (ks + N)) : PW X pc L (.int x :: st) h kc ks := by
  simp only [okS, Bool.and_eq_true] at hok
  obtain ⟨o1, o2, o3⟩ := hok
  have hn := Nat.blt_eq.mp hn
  have hNs := Nat.blt_eq.mp hNs
  subst hN
  intro a H locs ls S
  obtain ⟨r1, r2, r3, r4⟩ := hX.r
  have b1 := Nat.ble_eq.mp h1
  have b2 := Nat.ble_eq.mp h2
  refine va_newa (atype := atype) (ty := ty) (a0 := (N, .inl (fun _ => 0))) (N' := N) (D := cxD X) hX.x hX.b (by rw [hat]; exact hX.ts _ hac) hat hX.K.1 S.1 S.2.1 S.2.2.1 hX.A (fun cA => by rw [hdv]; rfl) (nI_pos (by omega)) (nI_clamp (by omega)) hbt (by omega) (by omega) hd (fun q cA H1 hK1 g1 g2 g3 => ?_)
  have hl : (tys3 (cxk X) ++ [(cA, ty)])[3]? = some (cA, ty) := rfl
  have ecA : cA = cxk X t := RA_one (ht (cxk X)) (hX.K.1.2 t _ (ht (cxk X))).2 (hK1.2 3 _ hl).2
  subst ecA
  have := kk (exA a h.length q) H1 locs ls (S.push (c := .inl (t, N, fun _ => 0)) hn hx o1 o2 rfl g1 g2 g3)
  rw [List.map_cons, ← st_congr (exA_ag (a := a) (q := q) hn) o3] at this
  show WW X H1 locs (kc + 1) (ks + N) (pc + 2) ls (.ref q :: st.map (tV a))
  have e2 : tV (exA a h.length q) (.ref h.length) = .ref q := by show Value.ref (exA a h.length q h.length) = _; rw [exA_self]
  rw [e2] at this
  exact this
theorem PW.objInit (hX : Fx X cc own ret d mc ms) {idx i : Nat} (hl : Cond.methodLink own idx objectInit ∈ AW) (hi : Cond.instanceMethod objectInit ∈ AW) (hc : Cond.code objectInit ⟨#[0xb1]⟩ 1 none ∈ AW) (hd : decode cc pc = .ok (.invokespecial idx, 3)) (hdd : Nat.ble 1 d = true) (hr : Nat.ble ((st.map fun v => v.category).sum) 8 = true) (kk : PW X (pc + 3) L st h kc ks) : PW X pc L (.ref i :: st) h kc ks := by
  intro a H locs ls S
  obtain ⟨r1, r2, r3, r4⟩ := hX.r
  have hdd := Nat.ble_eq.mp hdd
  refine W.objInit hX.x hX.b hX.ow (hX.ts _ hl) (hX.ts _ hi) (hX.ts _ hc) rfl (by rw [hX.ml]; exact S.2.2.2.2.1) rfl hd (by omega) ?_ (kk a H locs ls S)
  have := cat_rest (a := a) hr (m := cxm X) (pc := pc) (ls := ls) (st := (Value.ref i :: st).map (tV a))
  omega
/-- System.arraycopy of ints -/
theorem PW.acopy (hX : Fx X cc own ret d mc ms) {idx i j n0 n1 sp dp n : Nat} {f g : Nat → Int32} {xs xd xn : Int32} (hl : Cond.methodLink own idx arraycopyName ∈ AW) (hnat : Cond.native arraycopyName ∈ AW) (hsta : Cond.static arraycopyName ∈ AW) (hini : Cond.initialized "java/lang/System" ∈ AW) (hd : decode cc pc = .ok (.invokestatic idx, 3)) (hdd : Nat.ble 1 d = true) (hst : st = [])
    (hi : h[i]? = some (.inl (0, n0, f))) (hj : h[j]? = some (.inl (0, n1, g))) (e1 : xs = nI sp) (e2 : xd = nI dp) (e3 : xn = nI n) (l1 : sp + n ≤ n0) (l2 : dp + n ≤ n1) (b0 : Nat.blt n0 2147483648 = true) (b1 : Nat.blt n1 2147483648 = true)
    (kk : PW X (pc + 3) L st (h.set j (.inl (0, n1, va_cpy f g sp dp n))) kc ks) : PW X pc L (.int xn :: .int xd :: .ref j :: .int xs :: .ref i :: st) h kc ks := by
  have b0 := Nat.blt_eq.mp b0
  have b1 := Nat.blt_eq.mp b1
  subst e1; subst e2; subst e3; subst hst
  intro a H locs ls S
  obtain ⟨r1, r2, r3, r4⟩ := hX.r
  have hdd := Nat.ble_eq.mp hdd
  have c1 : (nI sp).toNatClampNeg = sp := nI_clamp (by omega)
  have c2 : (nI dp).toNatClampNeg = dp := nI_clamp (by omega)
  have c3 : (nI n).toNatClampNeg = n := nI_clamp (by omega)
  refine va_copyi (D := cxD X) (ty := .int) hX.x hX.b (hX.ml.trans S.2.2.2.2.1.symm) hX.ow (hX.ts _ hl) (hX.ts _ hnat) (hX.ts _ hsta) (hX.ts _ hini) hX.K.1 S.1 S.2.1 S.2.2.1 i j 0 0 (tW_at hi) (tW_at hj) rfl rfl rfl (nI_pos (by omega)) (nI_pos (by omega)) (nI_pos (by omega)) (by rw [c1, c3]; exact l1) (by rw [c2, c3]; exact l2) (fun _ _ => rfl) (by omega) ?_ hd (fun H1 locs1 g1 g2 g3 => ?_)
  · have e : nativeFrameWords "java/lang/System" "arraycopy" 5 + 11 ≤ 32 := by decide +kernel
    show 0 + _ ≤ _
    omega
  · rw [c1, c2, c3] at g1 g2
    exact kk a H1 locs1 ls (S.put (c := .inl (0, n1, va_cpy f g sp dp n)) g1 g2 g3)
end New
end
section
/-! calls that make cells (constructors) -/
def joinH (h : List PCell) (ι : List Nat) (h' : List PCell) : List PCell := updH h ι ((h'.take ι.length).map (rC (rho ι ι.length h.length))) ++ (h'.drop ι.length).map (rC (rho ι ι.length h.length))
section Con
variable {X : Cx} {cc : ByteArray} {own : String} {ret : Option FieldType} {d mc ms : Nat} {pc : Nat} {L : List (Option Value)} {st rest : List Value} {h hc : List PCell} {kc ks : Nat} {μ : MI} {d' mc' ms' n : Nat} {as : List Value} {ι : List Nat} {Φ : Option Value → List PCell → Prop}
theorem PW.coreN (hX : Fx X cc own ret d mc ms) (e1 : ι.map (fun i => h[i]?) = hc.map (fun c => some (rC (rho ι ι.length h.length) c))) (hnd : va_nd ι = true) (hsm : Nat.ble ι.length 1000 = true) (hx0 : cxn X ≤ h.length) (hok : okS h.length L rest h = true)
    (hΦ : ∀ r h', Φ r h' → r = none ∧ ι.length ≤ h'.length ∧ h'.length + h.length ≤ 1000 ∧ okH h'.length h' = true)
    (hrun : ∀ (a : Nat → Nat) (H : Heap) (locs : List Loc) (ls : Array Slot), Sm X a H locs ls L h → ∃ g : Array Value, va_Run (cxp X) (cxl X) (cxe X) (cxR X) (cxs X) (cxm X) (cxg X) (cxb X) (cxM X) (cxc X) H locs kc ks mc' ms' (F0 (cxm X) pc ls (st.map (tV a))) (rest.map (tV a)) (pmQ (cxD X) (cxk X) (fun i => a (rho ι ι.length h.length i)) H.size hc Φ g) (va_A (tW (cxk X) (fun i => a (rho ι ι.length h.length i)) hc) H.size))
    (kk : ∀ r h', Φ r h' → PW X (pc + 3) L rest (joinH h ι h') (kc + mc') (ks + ms')) : PW X pc L st h kc ks := by
  intro a H locs ls S
  obtain ⟨g, hr⟩ := hrun a H locs ls S
  obtain ⟨hP, hD, hS, hx, hl⟩ := id S
  obtain ⟨hPc, hDc, hFc, hKc⟩ := sub_P hX S e1 hnd hsm
  intro T hT Xs
  obtain ⟨v, st₀, t, T', L', h0, X', hL, e3, e4, ⟨⟨r, h', a', hv, hφ, ha', hP', hD'⟩, hF⟩, stp⟩ := hr T hT Xs
  obtain ⟨hrn, hlen, hbig, hok'⟩ := hΦ r h' hφ
  subst hrn
  have ha' : ∀ i, i < hc.length ∨ 1000 ≤ i → a' i = a (rho ι ι.length h.length i) := ha'
  obtain ⟨hlc, hpk⟩ := pick_at e1
  have hsm := Nat.ble_eq.mp hsm
  simp only [okS, Bool.and_eq_true] at hok
  obtain ⟨o1, o2, o3⟩ := hok
  have hz : H.size ≤ t.heap.size := by have := hF.1; rw [h0] at this; exact this
  have hk : ∀ q : Nat, q < H.size → ¬ va_A (tW (cxk X) (fun i => a (rho ι ι.length h.length i)) hc) H.size q → t.heap[q]? = H[q]? := by have := hF.2; rw [h0] at this; exact this
  have hι : ∀ (k i : Nat), ι[k]? = some i → i < h.length := by
    intro k i hki
    have hkl : k < hc.length := by rw [← hlc]; exact (List.getElem?_eq_some_iff.mp hki).1
    obtain ⟨j, h1, h2⟩ := hpk k hc[k] (List.getElem?_eq_getElem hkl)
    rw [hki] at h1
    cases h1
    exact (List.getElem?_eq_some_iff.mp h2).1
  obtain ⟨a1, ha1⟩ : ∃ a1 : Nat → Nat, a1 = fun i => if h.length ≤ i ∧ i < 1000 then a' (i - h.length + ι.length) else a i := ⟨_, rfl⟩
  have ag : ∀ i, i < h.length ∨ 1000 ≤ i → a i = a1 i := by
    intro i hi
    rw [ha1]
    show a i = if _ then _ else _
    rw [if_neg (by omega)]
  have key : ∀ i, i < h'.length ∨ 1000 ≤ i → a1 (rho ι ι.length h.length i) = a' i := by
    intro i hi
    by_cases c1 : i < ι.length
    · have hk1 : ι[i]? = some ι[i] := List.getElem?_eq_getElem c1
      rw [ha' i (Or.inl (by rw [← hlc]; exact c1)), rho_in c1 hk1, ← ag _ (Or.inl (hι i _ hk1))]
    · by_cases c2 : 1000 ≤ i
      · rw [ha' i (Or.inr c2), rho_hi hsm c2, ← ag i (Or.inr c2)]
      · rw [rho_new (by omega) (by omega), ha1]
        show (if _ then _ else _) = _
        rw [if_pos (by omega)]
        congr 1
        omega
  have atN : ∀ (k : Nat) (c : PCell), h'[k]? = some c → tC (cxk X) a1 (rC (rho ι ι.length h.length) c) = tC (cxk X) a' c := by
    intro k c hc
    rw [tC_rC]
    exact tC_congr (n := h'.length) key (List.all_eq_true.mp hok' c (List.mem_of_getElem? hc))
  have atJ : ∀ (j : Nat) (c : PCell), (joinH h ι h')[j]? = some c → (∃ k, k < ι.length ∧ ι[k]? = some j ∧ j < h.length ∧ ∃ c', h'[k]? = some c' ∧ c = rC (rho ι ι.length h.length) c') ∨ (j ∉ ι ∧ h[j]? = some c ∧ j < h.length) ∨ (h.length ≤ j ∧ j < 1000 ∧ ∃ c', h'[j - h.length + ι.length]? = some c' ∧ c = rC (rho ι ι.length h.length) c') := by
    intro j c hj
    unfold joinH at hj
    rw [List.getElem?_append, updH_len] at hj
    by_cases c1 : j < h.length
    · rw [if_pos c1] at hj
      by_cases hji : j ∈ ι
      · obtain ⟨k, hk1⟩ := List.getElem?_of_mem hji
        have hkl : k < ι.length := (List.getElem?_eq_some_iff.mp hk1).1
        have hkl' : k < h'.length := by omega
        have h2 : ((h'.take ι.length).map (rC (rho ι ι.length h.length)))[k]? = some (rC (rho ι ι.length h.length) h'[k]) := by simp [List.getElem?_take, hkl, hkl']
        rw [updH_in ι _ h k j _ hnd hk1 h2 c1] at hj
        cases hj
        exact Or.inl ⟨k, hkl, hk1, c1, _, List.getElem?_eq_getElem hkl', rfl⟩
      · rw [updH_out ι _ h j hji] at hj
        exact Or.inr (Or.inl ⟨hji, hj, c1⟩)
    · rw [if_neg c1, List.getElem?_map, List.getElem?_drop, Option.map_eq_some_iff] at hj
      obtain ⟨c', h1, h2⟩ := hj
      have hlt := (List.getElem?_eq_some_iff.mp h1).1
      exact Or.inr (Or.inr ⟨by omega, by omega, c', by rw [← h1]; congr 1; omega, h2.symm⟩)
  have adr : ∀ (j k : Nat), ι[k]? = some j → k < ι.length → a' k = a j := by
    intro j k hk1 hkl
    rw [ha' k (Or.inl (by rw [← hlc]; exact hkl)), rho_in hkl hk1]
  have adN : ∀ j, h.length ≤ j → j < 1000 → a1 j = a' (j - h.length + ι.length) := by
    intro j h1 h2
    rw [ha1]
    show (if _ then _ else _) = _
    rw [if_pos ⟨h1, h2⟩]
  have S' : Sm X a1 T'.heap (locs ++ L') ls L (joinH h ι h') := by
    have inj0 : ∀ (i j : Nat), i < h.length → j < h.length → a i = a j → i = j := fun i j h1 h2 e => hD.1 i j _ _ (tW_at (List.getElem?_eq_getElem h1)) (tW_at (List.getElem?_eq_getElem h2)) e
    have lt0 : ∀ j, j < h.length → a j < H.size := fun j h1 => (hP j _ (tW_at (List.getElem?_eq_getElem h1))).lt
    have injN : ∀ (i j : Nat), i < h'.length → j < h'.length → a' i = a' j → i = j := fun i j h1 h2 e => hD'.1 i j _ _ (tW_at (List.getElem?_eq_getElem h1)) (tW_at (List.getElem?_eq_getElem h2)) e
    have mix : ∀ (j k : Nat), j < h.length → ι.length ≤ k → k < h'.length → ¬ a j = a' k := by
      intro j k h1 h2 h3 e
      have h4 : va_A (tW (cxk X) (fun i => a (rho ι ι.length h.length i)) hc) H.size (a' k) := hD'.2 k _ (tW_at (List.getElem?_eq_getElem h3))
      rcases h4 with ⟨k0, e0, h5⟩ | h5
      · obtain ⟨c0, h6, h7⟩ := tW_of h5
        have hk0 : k0 < ι.length := by rw [hlc]; exact (List.getElem?_eq_some_iff.mp h6).1
        have h8 : a' k = a' k0 := by
          rw [ha' k0 (Or.inl (by rw [← hlc]; exact hk0))]
          exact (Prod.mk.inj h7).1
        have := injN k k0 h3 (by omega) h8
        omega
      · have := lt0 j h1
        omega
    refine ⟨fun j q hj => ?_, ⟨fun i j p q hi hj e => ?_, fun j q hj => ?_⟩, ⟨Nat.le_trans hS.1 (by rw [e3]; exact hz), fun q h1 h2 => ?_, fun q hq => ?_⟩, fun i hi => by rw [← ag i (by omega)]; exact hx i hi, lvS_congr ag o2 hl⟩
    · obtain ⟨c, h1, rfl⟩ := tW_of hj
      rw [e3]
      rcases atJ j c h1 with ⟨k, hkl, hk1, hjl, c', h2, rfl⟩ | ⟨hji, h2, hjl⟩ | ⟨h2, h3, c', h4, rfl⟩
      · have h3 := hP' k _ (tW_at h2)
        rw [adr j k hk1 hkl] at h3
        rw [atN k c' h2, ← ag j (Or.inl hjl)]
        exact h3
      · have h3 := hP j _ (tW_at h2)
        rw [← ag j (Or.inl hjl), ← tC_congr (n := h.length) ag (List.all_eq_true.mp o1 c (List.mem_of_getElem? h2))]
        refine h3.kept (hk _ h3.lt (fun hA => ?_))
        rcases hA with ⟨k, e, hA⟩ | hA
        · obtain ⟨i, h4, h5⟩ := sub_W e1 hA
          have := hD.1 i j _ _ h5 (tW_at h2) rfl
          subst this
          exact hji (List.mem_of_getElem? h4)
        · exact absurd h3.lt (Nat.not_lt.mpr hA)
      · have h5 := hP' _ _ (tW_at h4)
        rw [atN _ c' h4, adN j h2 h3]
        exact h5
    · obtain ⟨c, h1, rfl⟩ := tW_of hi
      obtain ⟨c2, h2, rfl⟩ := tW_of hj
      have e' : a1 i = a1 j := e
      have cls : ∀ (j : Nat) (c : PCell), (joinH h ι h')[j]? = some c → j < h.length ∨ (h.length ≤ j ∧ j < 1000 ∧ j - h.length + ι.length < h'.length) := by
        intro j c hj
        rcases atJ j c hj with ⟨k, _, _, hjl, _⟩ | ⟨_, _, hjl⟩ | ⟨h2, h3, c', h4, _⟩
        · exact Or.inl hjl
        · exact Or.inl hjl
        · exact Or.inr ⟨h2, h3, (List.getElem?_eq_some_iff.mp h4).1⟩
      rcases cls i c h1 with q1 | ⟨q1, q2, q3⟩ <;> rcases cls j c2 h2 with q4 | ⟨q4, q5, q6⟩
      · rw [← ag i (Or.inl q1), ← ag j (Or.inl q4)] at e'
        exact inj0 i j q1 q4 e'
      · rw [← ag i (Or.inl q1), adN j q4 q5] at e'
        exact absurd e' (mix i _ q1 (by omega) q6)
      · rw [adN i q1 q2, ← ag j (Or.inl q4)] at e'
        exact absurd e'.symm (mix j _ q4 (by omega) q3)
      · rw [adN i q1 q2, adN j q4 q5] at e'
        have := injN _ _ q3 q6 e'
        omega
    · obtain ⟨c, h1, rfl⟩ := tW_of hj
      show cxA X (a1 j)
      rcases atJ j c h1 with ⟨k, _, _, hjl, _⟩ | ⟨_, _, hjl⟩ | ⟨h2, h3, c', h4, _⟩
      · rw [← ag j (Or.inl hjl)]
        have h9 := hD.2 j _ (tW_at (ca := cxk X) (a := a) (List.getElem?_eq_getElem hjl))
        exact h9
      · rw [← ag j (Or.inl hjl)]
        have h9 := hD.2 j _ (tW_at (ca := cxk X) (a := a) (List.getElem?_eq_getElem hjl))
        exact h9
      · rw [adN j h2 h3]
        have h9 := hD'.2 _ _ (tW_at h4)
        exact hFc _ h9
    · rw [e3, hk q (Nat.lt_of_lt_of_le h1 hS.1) (fun z => h2 (hFc q z))]
      exact hS.2.1 q h1 h2
    · rcases List.mem_append.mp hq with h | h
      · exact hS.2.2 q h
      · exact hFc _ (hL q h)
  obtain ⟨t2, b1, b2⟩ := kk none h' hφ a1 T'.heap (locs ++ L') ls S' T' rfl X'
  refine ⟨t2, stp t2 ?_, b2⟩
  have hv' : v = none := by simpa using hv
  subst hv'
  rw [← st_congr ag o3] at b1
  exact b1
theorem PW.callI (hX : Fx X cc own ret d mc ms) {idx i : Nat} (hm : MSI own idx μ n) (hnone : μ.2.2.2 = none) (hM : PM μ d' mc' ms' as hc Φ) (hd : decode cc pc = .ok (.invokespecial idx, 3))
    (ι : List Nat) (e1 : ι.map (fun i => h[i]?) = hc.map (fun c => some (rC (rho ι ι.length h.length) c))) (hst : st = (as.map (tV (rho ι ι.length h.length))).reverse ++ rest) (hob : (as.map (tV (rho ι ι.length h.length))).head? = some (.ref i)) (hn : as.length = n + 1)
    (hnd : va_nd ι = true) (hsm : Nat.ble ι.length 1000 = true) (hdd : Nat.blt d' d = true) (hcc : Nat.ble (kc + mc') mc = true) (hss : Nat.ble (ks + ms') ms = true) (hr : Nat.ble ((rest.map fun v => v.category).sum) 8 = true) (hx0 : cxn X ≤ h.length) (hok : okS h.length L rest h = true)
    (hΦ : ∀ r h', Φ r h' → r = none ∧ ι.length ≤ h'.length ∧ h'.length + h.length ≤ 1000 ∧ okH h'.length h' = true)
    (kk : ∀ r h', Φ r h' → PW X (pc + 3) L rest (joinH h ι h') (kc + mc') (ks + ms')) : PW X pc L st h kc ks := by
  refine PW.coreN hX e1 hnd hsm hx0 hok hΦ (fun a H locs ls S => ?_) kk
  obtain ⟨hPc, hDc, hFc, hKc⟩ := sub_P hX S e1 hnd hsm
  obtain ⟨hlk, hin, hcd, hbb, hml, hnm, him⟩ := hm
  obtain ⟨r1, r2, r3, r4⟩ := hX.r
  have hdd := Nat.blt_eq.mp hdd
  have hcc := Nat.ble_eq.mp hcc
  have hss := Nat.ble_eq.mp hss
  cases as with
  | nil => simp at hn
  | cons v0 As =>
    simp only [List.map_cons, List.head?_cons, Option.some.injEq] at hob
    refine ⟨((v0 :: As).map (tV (fun i => a (rho ι ι.length h.length i)))).toArray, ?_⟩
    have e0 : tV (fun i => a (rho ι ι.length h.length i)) v0 = .ref (a i) := by rw [← tV_tV a, hob]; rfl
    have e2 : ((v0 :: As).map (tV (fun i => a (rho ι ι.length h.length i)))).toArray = (Value.ref (a i) :: As.map (tV (fun i => a (rho ι ι.length h.length i)))).toArray := by rw [List.map_cons, e0]
    rw [e2]
    refine va_runI (As := As.map (tV (fun i => a (rho ι ι.length h.length i)))) (b := a i) (n := n) (rest := rest.map (tV a)) (Ts := AW) (nL := cxL X) ⟨hX.x, hX.b, hX.ml, hX.ow, hX.ts⟩ (hM (cxl X) (cxD X) (cxk X) (fun i => a (rho ι ι.length h.length i)) H.size) (cwI (ws' := AW) n hX.ts (fun w hw => ?_) (by rw [hnone]) rfl rfl (hX.ts _ hin) (hX.ts _ hlk) (hX.ts _ him) hnm hbb ⟨by show d' + 1 ≤ _; omega, by show 8 + (μ.2.2.1 + 11) + 32 * d' ≤ _; omega⟩) ⟨pmP_blind, fun U hU hW => ?_⟩ rfl ?_ S.2.2.2.2.1 ?_ (cat_rest hr) hd ⟨by omega, by omega⟩
    · rcases List.mem_cons.mp hw with rfl | hw
      · exact good_ws _ hcd
      · exact good_ws _ hw
    · rw [← e2]
      exact pmP_of hPc hDc hKc U hU hW
    · simpa using hn
    · show st.map (tV a) = _
      rw [hst, List.map_append, ← List.map_reverse, List.map_map]
      have e3 : tV a ∘ tV (rho ι ι.length h.length) = tV (fun i => a (rho ι ι.length h.length i)) := funext fun v => tV_tV a _ v
      rw [e3, List.reverse_cons, List.map_append, List.map_cons, List.map_nil, e0, List.map_reverse, List.append_assoc]
      rfl
theorem PW.callIN (hX : Fx X cc own ret d mc ms) {idx i : Nat} (hm : MNI own idx μ n) (hnone : μ.2.2.2 = none) (hM : PM μ d' mc' ms' as hc Φ) (hd : decode cc pc = .ok (.invokespecial idx, 3))
    (ι : List Nat) (e1 : ι.map (fun i => h[i]?) = hc.map (fun c => some (rC (rho ι ι.length h.length) c))) (hst : st = (as.map (tV (rho ι ι.length h.length))).reverse ++ rest) (hob : (as.map (tV (rho ι ι.length h.length))).head? = some (.ref i)) (hn : as.length = n + 1)
    (hnd : va_nd ι = true) (hsm : Nat.ble ι.length 1000 = true) (hdd : Nat.blt d' d = true) (hcc : Nat.ble (kc + mc') mc = true) (hss : Nat.ble (ks + ms') ms = true) (hr : Nat.ble ((rest.map fun v => v.category).sum) 8 = true) (hx0 : cxn X ≤ h.length) (hok : okS h.length L rest h = true)
    (hΦ : ∀ r h', Φ r h' → r = none ∧ ι.length ≤ h'.length ∧ h'.length + h.length ≤ 1000 ∧ okH h'.length h' = true)
    (kk : ∀ r h', Φ r h' → PW X (pc + 3) L rest (joinH h ι h') (kc + mc') (ks + ms')) : PW X pc L st h kc ks := by
  refine PW.coreN hX e1 hnd hsm hx0 hok hΦ (fun a H locs ls S => ?_) kk
  obtain ⟨hPc, hDc, hFc, hKc⟩ := sub_P hX S e1 hnd hsm
  obtain ⟨hlk, hin, hcd, hbb, hml, hnm, him⟩ := hm
  obtain ⟨r1, r2, r3, r4⟩ := hX.r
  have hdd := Nat.blt_eq.mp hdd
  have hcc := Nat.ble_eq.mp hcc
  have hss := Nat.ble_eq.mp hss
  cases as with
  | nil => simp at hn
  | cons v0 As =>
    simp only [List.map_cons, List.head?_cons, Option.some.injEq] at hob
    refine ⟨((v0 :: As).map (tV (fun i => a (rho ι ι.length h.length i)))).toArray, ?_⟩
    have e0 : tV (fun i => a (rho ι ι.length h.length i)) v0 = .ref (a i) := by rw [← tV_tV a, hob]; rfl
    have e2 : ((v0 :: As).map (tV (fun i => a (rho ι ι.length h.length i)))).toArray = (Value.ref (a i) :: As.map (tV (fun i => a (rho ι ι.length h.length i)))).toArray := by rw [List.map_cons, e0]
    rw [e2]
    refine va_runIN (As := As.map (tV (fun i => a (rho ι ι.length h.length i)))) (b := a i) (n := n) (rest := rest.map (tV a)) (Ts := AW) (nL := cxL X) ⟨hX.x, hX.b, hX.ml, hX.ow, hX.ts⟩ (hM (cxl X) (cxD X) (cxk X) (fun i => a (rho ι ι.length h.length i)) H.size) ⟨va_cnB (ws' := AW) n hX.ts (fun w hw => ?_) (by rw [hnone]) rfl rfl (hX.K.2.1 _ hlk) (hX.ts _ hin) hbb ⟨by show d' + 1 ≤ _; omega, by show 8 + (μ.2.2.1 + 11) + 32 * d' ≤ _; omega⟩, hnm, hX.ts _ him⟩ ⟨pmP_blind, fun U hU hW => ?_⟩ rfl ?_ S.2.2.2.2.1 ?_ (cat_rest hr) hd ⟨by omega, by omega⟩
    · rcases List.mem_cons.mp hw with rfl | hw
      · exact good_ws _ hcd
      · exact good_ws _ hw
    · rw [← e2]
      exact pmP_of hPc hDc hKc U hU hW
    · simpa using hn
    · show st.map (tV a) = _
      rw [hst, List.map_append, ← List.map_reverse, List.map_map]
      have e3 : tV a ∘ tV (rho ι ι.length h.length) = tV (fun i => a (rho ι ι.length h.length i)) := funext fun v => tV_tV a _ v
      rw [e3, List.reverse_cons, List.map_append, List.map_cons, List.map_nil, e0, List.map_reverse, List.append_assoc]
      rfl
end Con
end
