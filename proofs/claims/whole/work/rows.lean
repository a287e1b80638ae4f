section
-- ===== PART A: goes FIRST, ahead of the names: the tables' words, and 'selects' of the private methods out of them =====
/-- a private method of a class that the tables say can be made, by its rows of tables_1 -/
def lw_okq (q : MethodName × Nat) : Prop := (q.1.cls ≠ "java/lang/invoke/MethodHandle" ∧ q.1.cls ≠ "java/lang/invoke/VarHandle") ∧ Cond.instantiable q.1.cls q.2 ∈ tables_1 ∧ Cond.privateMethod q.1 ∈ tables_1 ∧ Cond.instanceMethod q.1 ∈ tables_1
theorem lw_p0 : lw_okq (⟨"WhosePage", "refuse", "(I)I"⟩, 9) := ⟨⟨by decide +kernel, by decide +kernel⟩, List.mem_of_getElem? (i := 18) (by decide +kernel), List.mem_of_getElem? (i := 255) (by decide +kernel), List.mem_of_getElem? (i := 256) (by decide +kernel)⟩
theorem lw_p1 : lw_okq (⟨"WhosePage$Text", "readOwnerFigureMinute", "()Z"⟩, 8) := ⟨⟨by decide +kernel, by decide +kernel⟩, List.mem_of_getElem? (i := 92) (by decide +kernel), List.mem_of_getElem? (i := 275) (by decide +kernel), List.mem_of_getElem? (i := 276) (by decide +kernel)⟩
theorem lw_p2 : lw_okq (⟨"WhosePage$Text", "readDigit", "()I"⟩, 8) := ⟨⟨by decide +kernel, by decide +kernel⟩, List.mem_of_getElem? (i := 92) (by decide +kernel), List.mem_of_getElem? (i := 279) (by decide +kernel), List.mem_of_getElem? (i := 280) (by decide +kernel)⟩
theorem lw_p3 : lw_okq (⟨"WhosePage$Text", "readFigure", "()Z"⟩, 8) := ⟨⟨by decide +kernel, by decide +kernel⟩, List.mem_of_getElem? (i := 92) (by decide +kernel), List.mem_of_getElem? (i := 283) (by decide +kernel), List.mem_of_getElem? (i := 284) (by decide +kernel)⟩
theorem lw_p4 : lw_okq (⟨"WhosePage$Text", "readSign", "(C)Z"⟩, 8) := ⟨⟨by decide +kernel, by decide +kernel⟩, List.mem_of_getElem? (i := 92) (by decide +kernel), List.mem_of_getElem? (i := 287) (by decide +kernel), List.mem_of_getElem? (i := 288) (by decide +kernel)⟩
theorem lw_p5 : lw_okq (⟨"WhosePage$Text", "readMinute", "()Z"⟩, 8) := ⟨⟨by decide +kernel, by decide +kernel⟩, List.mem_of_getElem? (i := 92) (by decide +kernel), List.mem_of_getElem? (i := 291) (by decide +kernel), List.mem_of_getElem? (i := 292) (by decide +kernel)⟩
theorem lw_p6 : lw_okq (⟨"WhosePage$Text", "readKind", "(Ljava/lang/String;)Z"⟩, 8) := ⟨⟨by decide +kernel, by decide +kernel⟩, List.mem_of_getElem? (i := 92) (by decide +kernel), List.mem_of_getElem? (i := 296) (by decide +kernel), List.mem_of_getElem? (i := 297) (by decide +kernel)⟩
theorem lw_p7 : lw_okq (⟨"WhosePage", "tellStatements", "()I"⟩, 9) := ⟨⟨by decide +kernel, by decide +kernel⟩, List.mem_of_getElem? (i := 18) (by decide +kernel), List.mem_of_getElem? (i := 387) (by decide +kernel), List.mem_of_getElem? (i := 388) (by decide +kernel)⟩
theorem lw_p8 : lw_okq (⟨"WhosePage$Press", "chosenJob", "(LWhosePage$Plan;I)I"⟩, 5) := ⟨⟨by decide +kernel, by decide +kernel⟩, List.mem_of_getElem? (i := 125) (by decide +kernel), List.mem_of_getElem? (i := 492) (by decide +kernel), List.mem_of_getElem? (i := 493) (by decide +kernel)⟩
theorem lw_p9 : lw_okq (⟨"WhosePage$Press", "isAhead", "(LWhosePage$Plan;II)Z"⟩, 5) := ⟨⟨by decide +kernel, by decide +kernel⟩, List.mem_of_getElem? (i := 125) (by decide +kernel), List.mem_of_getElem? (i := 496) (by decide +kernel), List.mem_of_getElem? (i := 497) (by decide +kernel)⟩
theorem lw_p10 : lw_okq (⟨"WhosePage$Press", "turnsUntil", "(I)I"⟩, 5) := ⟨⟨by decide +kernel, by decide +kernel⟩, List.mem_of_getElem? (i := 125) (by decide +kernel), List.mem_of_getElem? (i := 500) (by decide +kernel), List.mem_of_getElem? (i := 501) (by decide +kernel)⟩
theorem lw_p11 : lw_okq (⟨"WhosePage$Day", "noteOut", "(II)V"⟩, 7) := ⟨⟨by decide +kernel, by decide +kernel⟩, List.mem_of_getElem? (i := 147) (by decide +kernel), List.mem_of_getElem? (i := 512) (by decide +kernel), List.mem_of_getElem? (i := 513) (by decide +kernel)⟩
theorem lw_p12 : lw_okq (⟨"WhosePage$Tray", "jobsWanted", "(LWhosePage$Plan;II)I"⟩, 3) := ⟨⟨by decide +kernel, by decide +kernel⟩, List.mem_of_getElem? (i := 155) (by decide +kernel), List.mem_of_getElem? (i := 529) (by decide +kernel), List.mem_of_getElem? (i := 530) (by decide +kernel)⟩
theorem lw_p13 : lw_okq (⟨"WhosePage$Tray", "wholeJobs", "(LWhosePage$Plan;)I"⟩, 3) := ⟨⟨by decide +kernel, by decide +kernel⟩, List.mem_of_getElem? (i := 155) (by decide +kernel), List.mem_of_getElem? (i := 537) (by decide +kernel), List.mem_of_getElem? (i := 538) (by decide +kernel)⟩
theorem lw_p14 : lw_okq (⟨"WhosePage", "readyMinute", "(I)I"⟩, 9) := ⟨⟨by decide +kernel, by decide +kernel⟩, List.mem_of_getElem? (i := 18) (by decide +kernel), List.mem_of_getElem? (i := 612) (by decide +kernel), List.mem_of_getElem? (i := 613) (by decide +kernel)⟩
theorem lw_p15 : lw_okq (⟨"WhosePage", "areTwoJobs", "(II)Z"⟩, 9) := ⟨⟨by decide +kernel, by decide +kernel⟩, List.mem_of_getElem? (i := 18) (by decide +kernel), List.mem_of_getElem? (i := 644) (by decide +kernel), List.mem_of_getElem? (i := 645) (by decide +kernel)⟩
def lw_privs_1 : List (MethodName × Nat) := [(⟨"WhosePage", "refuse", "(I)I"⟩, 9), (⟨"WhosePage$Text", "readOwnerFigureMinute", "()Z"⟩, 8), (⟨"WhosePage$Text", "readDigit", "()I"⟩, 8), (⟨"WhosePage$Text", "readFigure", "()Z"⟩, 8), (⟨"WhosePage$Text", "readSign", "(C)Z"⟩, 8), (⟨"WhosePage$Text", "readMinute", "()Z"⟩, 8), (⟨"WhosePage$Text", "readKind", "(Ljava/lang/String;)Z"⟩, 8), (⟨"WhosePage", "tellStatements", "()I"⟩, 9), (⟨"WhosePage$Press", "chosenJob", "(LWhosePage$Plan;I)I"⟩, 5), (⟨"WhosePage$Press", "isAhead", "(LWhosePage$Plan;II)Z"⟩, 5), (⟨"WhosePage$Press", "turnsUntil", "(I)I"⟩, 5), (⟨"WhosePage$Day", "noteOut", "(II)V"⟩, 7), (⟨"WhosePage$Tray", "jobsWanted", "(LWhosePage$Plan;II)I"⟩, 3), (⟨"WhosePage$Tray", "wholeJobs", "(LWhosePage$Plan;)I"⟩, 3), (⟨"WhosePage", "readyMinute", "(I)I"⟩, 9), (⟨"WhosePage", "areTwoJobs", "(II)Z"⟩, 9)]
theorem lw_r1 : ∀ q ∈ lw_privs_1, lw_okq q := List.forall_mem_cons.mpr ⟨lw_p0, List.forall_mem_cons.mpr ⟨lw_p1, List.forall_mem_cons.mpr ⟨lw_p2, List.forall_mem_cons.mpr ⟨lw_p3, List.forall_mem_cons.mpr ⟨lw_p4, List.forall_mem_cons.mpr ⟨lw_p5, List.forall_mem_cons.mpr ⟨lw_p6, List.forall_mem_cons.mpr ⟨lw_p7, List.forall_mem_cons.mpr ⟨lw_p8, List.forall_mem_cons.mpr ⟨lw_p9, List.forall_mem_cons.mpr ⟨lw_p10, List.forall_mem_cons.mpr ⟨lw_p11, List.forall_mem_cons.mpr ⟨lw_p12, List.forall_mem_cons.mpr ⟨lw_p13, List.forall_mem_cons.mpr ⟨lw_p14, List.forall_mem_cons.mpr ⟨lw_p15, fun _ h => absurd h List.not_mem_nil⟩⟩⟩⟩⟩⟩⟩⟩⟩⟩⟩⟩⟩⟩⟩⟩
theorem lw_p16 : lw_okq (⟨"WhosePage$Row", "waysTo", "(III)I"⟩, 5) := ⟨⟨by decide +kernel, by decide +kernel⟩, List.mem_of_getElem? (i := 197) (by decide +kernel), List.mem_of_getElem? (i := 655) (by decide +kernel), List.mem_of_getElem? (i := 656) (by decide +kernel)⟩
theorem lw_p17 : lw_okq (⟨"WhosePage$Row", "runsBySize", "()I"⟩, 5) := ⟨⟨by decide +kernel, by decide +kernel⟩, List.mem_of_getElem? (i := 197) (by decide +kernel), List.mem_of_getElem? (i := 690) (by decide +kernel), List.mem_of_getElem? (i := 691) (by decide +kernel)⟩
theorem lw_p18 : lw_okq (⟨"WhosePage", "refusalsCounted", "(I)I"⟩, 9) := ⟨⟨by decide +kernel, by decide +kernel⟩, List.mem_of_getElem? (i := 18) (by decide +kernel), List.mem_of_getElem? (i := 749) (by decide +kernel), List.mem_of_getElem? (i := 750) (by decide +kernel)⟩
theorem lw_p19 : lw_okq (⟨"WhosePageModel", "no", "(I)I"⟩, 24) := ⟨⟨by decide +kernel, by decide +kernel⟩, List.mem_of_getElem? (i := 753) (by decide +kernel), List.mem_of_getElem? (i := 842) (by decide +kernel), List.mem_of_getElem? (i := 843) (by decide +kernel)⟩
theorem lw_p20 : lw_okq (⟨"WhosePageModel", "read", "()I"⟩, 24) := ⟨⟨by decide +kernel, by decide +kernel⟩, List.mem_of_getElem? (i := 753) (by decide +kernel), List.mem_of_getElem? (i := 854) (by decide +kernel), List.mem_of_getElem? (i := 855) (by decide +kernel)⟩
theorem lw_p21 : lw_okq (⟨"WhosePageModel", "statement", "()V"⟩, 24) := ⟨⟨by decide +kernel, by decide +kernel⟩, List.mem_of_getElem? (i := 753) (by decide +kernel), List.mem_of_getElem? (i := 858) (by decide +kernel), List.mem_of_getElem? (i := 859) (by decide +kernel)⟩
theorem lw_p22 : lw_okq (⟨"WhosePageModel", "oneOf", "([C)I"⟩, 24) := ⟨⟨by decide +kernel, by decide +kernel⟩, List.mem_of_getElem? (i := 753) (by decide +kernel), List.mem_of_getElem? (i := 862) (by decide +kernel), List.mem_of_getElem? (i := 863) (by decide +kernel)⟩
theorem lw_p23 : lw_okq (⟨"WhosePageModel", "figures", "(I)I"⟩, 24) := ⟨⟨by decide +kernel, by decide +kernel⟩, List.mem_of_getElem? (i := 753) (by decide +kernel), List.mem_of_getElem? (i := 866) (by decide +kernel), List.mem_of_getElem? (i := 867) (by decide +kernel)⟩
theorem lw_p24 : lw_okq (⟨"WhosePageModel", "expect", "(C)V"⟩, 24) := ⟨⟨by decide +kernel, by decide +kernel⟩, List.mem_of_getElem? (i := 753) (by decide +kernel), List.mem_of_getElem? (i := 870) (by decide +kernel), List.mem_of_getElem? (i := 871) (by decide +kernel)⟩
theorem lw_p25 : lw_okq (⟨"WhosePageModel", "isAsItMustBe", "(II)Z"⟩, 24) := ⟨⟨by decide +kernel, by decide +kernel⟩, List.mem_of_getElem? (i := 753) (by decide +kernel), List.mem_of_getElem? (i := 874) (by decide +kernel), List.mem_of_getElem? (i := 875) (by decide +kernel)⟩
theorem lw_p26 : lw_okq (⟨"WhosePageModel", "come", "()V"⟩, 24) := ⟨⟨by decide +kernel, by decide +kernel⟩, List.mem_of_getElem? (i := 753) (by decide +kernel), List.mem_of_getElem? (i := 878) (by decide +kernel), List.mem_of_getElem? (i := 879) (by decide +kernel)⟩
theorem lw_p27 : lw_okq (⟨"WhosePageModel", "isNoJob", "(I)Z"⟩, 24) := ⟨⟨by decide +kernel, by decide +kernel⟩, List.mem_of_getElem? (i := 753) (by decide +kernel), List.mem_of_getElem? (i := 886) (by decide +kernel), List.mem_of_getElem? (i := 887) (by decide +kernel)⟩
theorem lw_p28 : lw_okq (⟨"WhosePageModel", "isNoTaker", "(I)Z"⟩, 24) := ⟨⟨by decide +kernel, by decide +kernel⟩, List.mem_of_getElem? (i := 753) (by decide +kernel), List.mem_of_getElem? (i := 894) (by decide +kernel), List.mem_of_getElem? (i := 895) (by decide +kernel)⟩
theorem lw_p29 : lw_okq (⟨"WhosePageModel", "change", "(III)I"⟩, 24) := ⟨⟨by decide +kernel, by decide +kernel⟩, List.mem_of_getElem? (i := 753) (by decide +kernel), List.mem_of_getElem? (i := 902) (by decide +kernel), List.mem_of_getElem? (i := 903) (by decide +kernel)⟩
theorem lw_p30 : lw_okq (⟨"WhosePageModel", "goTo", "(I)V"⟩, 24) := ⟨⟨by decide +kernel, by decide +kernel⟩, List.mem_of_getElem? (i := 753) (by decide +kernel), List.mem_of_getElem? (i := 918) (by decide +kernel), List.mem_of_getElem? (i := 919) (by decide +kernel)⟩
theorem lw_p31 : lw_okq (⟨"WhosePageModel", "put", "(II)V"⟩, 24) := ⟨⟨by decide +kernel, by decide +kernel⟩, List.mem_of_getElem? (i := 753) (by decide +kernel), List.mem_of_getElem? (i := 922) (by decide +kernel), List.mem_of_getElem? (i := 923) (by decide +kernel)⟩
def lw_privs_2 : List (MethodName × Nat) := [(⟨"WhosePage$Row", "waysTo", "(III)I"⟩, 5), (⟨"WhosePage$Row", "runsBySize", "()I"⟩, 5), (⟨"WhosePage", "refusalsCounted", "(I)I"⟩, 9), (⟨"WhosePageModel", "no", "(I)I"⟩, 24), (⟨"WhosePageModel", "read", "()I"⟩, 24), (⟨"WhosePageModel", "statement", "()V"⟩, 24), (⟨"WhosePageModel", "oneOf", "([C)I"⟩, 24), (⟨"WhosePageModel", "figures", "(I)I"⟩, 24), (⟨"WhosePageModel", "expect", "(C)V"⟩, 24), (⟨"WhosePageModel", "isAsItMustBe", "(II)Z"⟩, 24), (⟨"WhosePageModel", "come", "()V"⟩, 24), (⟨"WhosePageModel", "isNoJob", "(I)Z"⟩, 24), (⟨"WhosePageModel", "isNoTaker", "(I)Z"⟩, 24), (⟨"WhosePageModel", "change", "(III)I"⟩, 24), (⟨"WhosePageModel", "goTo", "(I)V"⟩, 24), (⟨"WhosePageModel", "put", "(II)V"⟩, 24)]
theorem lw_r2 : ∀ q ∈ lw_privs_2, lw_okq q := List.forall_mem_cons.mpr ⟨lw_p16, List.forall_mem_cons.mpr ⟨lw_p17, List.forall_mem_cons.mpr ⟨lw_p18, List.forall_mem_cons.mpr ⟨lw_p19, List.forall_mem_cons.mpr ⟨lw_p20, List.forall_mem_cons.mpr ⟨lw_p21, List.forall_mem_cons.mpr ⟨lw_p22, List.forall_mem_cons.mpr ⟨lw_p23, List.forall_mem_cons.mpr ⟨lw_p24, List.forall_mem_cons.mpr ⟨lw_p25, List.forall_mem_cons.mpr ⟨lw_p26, List.forall_mem_cons.mpr ⟨lw_p27, List.forall_mem_cons.mpr ⟨lw_p28, List.forall_mem_cons.mpr ⟨lw_p29, List.forall_mem_cons.mpr ⟨lw_p30, List.forall_mem_cons.mpr ⟨lw_p31, fun _ h => absurd h List.not_mem_nil⟩⟩⟩⟩⟩⟩⟩⟩⟩⟩⟩⟩⟩⟩⟩⟩
theorem lw_p32 : lw_okq (⟨"WhosePageModel", "chosen", "(III)I"⟩, 24) := ⟨⟨by decide +kernel, by decide +kernel⟩, List.mem_of_getElem? (i := 753) (by decide +kernel), List.mem_of_getElem? (i := 926) (by decide +kernel), List.mem_of_getElem? (i := 927) (by decide +kernel)⟩
theorem lw_p33 : lw_okq (⟨"WhosePageModel", "waits", "(II)Z"⟩, 24) := ⟨⟨by decide +kernel, by decide +kernel⟩, List.mem_of_getElem? (i := 753) (by decide +kernel), List.mem_of_getElem? (i := 930) (by decide +kernel), List.mem_of_getElem? (i := 931) (by decide +kernel)⟩
theorem lw_p34 : lw_okq (⟨"WhosePageModel", "ahead", "(III)Z"⟩, 24) := ⟨⟨by decide +kernel, by decide +kernel⟩, List.mem_of_getElem? (i := 753) (by decide +kernel), List.mem_of_getElem? (i := 934) (by decide +kernel), List.mem_of_getElem? (i := 935) (by decide +kernel)⟩
theorem lw_p35 : lw_okq (⟨"WhosePageModel", "take", "(I)V"⟩, 24) := ⟨⟨by decide +kernel, by decide +kernel⟩, List.mem_of_getElem? (i := 753) (by decide +kernel), List.mem_of_getElem? (i := 938) (by decide +kernel), List.mem_of_getElem? (i := 939) (by decide +kernel)⟩
theorem lw_p36 : lw_okq (⟨"WhosePageModel", "takesSome", "(I)Z"⟩, 24) := ⟨⟨by decide +kernel, by decide +kernel⟩, List.mem_of_getElem? (i := 753) (by decide +kernel), List.mem_of_getElem? (i := 942) (by decide +kernel), List.mem_of_getElem? (i := 943) (by decide +kernel)⟩
theorem lw_p37 : lw_okq (⟨"WhosePageModel", "isWhole", "(I)Z"⟩, 24) := ⟨⟨by decide +kernel, by decide +kernel⟩, List.mem_of_getElem? (i := 753) (by decide +kernel), List.mem_of_getElem? (i := 946) (by decide +kernel), List.mem_of_getElem? (i := 947) (by decide +kernel)⟩
theorem lw_p38 : lw_okq (⟨"WhosePageModel", "isNoOwner", "(I)Z"⟩, 24) := ⟨⟨by decide +kernel, by decide +kernel⟩, List.mem_of_getElem? (i := 753) (by decide +kernel), List.mem_of_getElem? (i := 962) (by decide +kernel), List.mem_of_getElem? (i := 963) (by decide +kernel)⟩
theorem lw_p39 : lw_okq (⟨"WhosePageModel", "has", "(IZ)I"⟩, 24) := ⟨⟨by decide +kernel, by decide +kernel⟩, List.mem_of_getElem? (i := 753) (by decide +kernel), List.mem_of_getElem? (i := 966) (by decide +kernel), List.mem_of_getElem? (i := 967) (by decide +kernel)⟩
theorem lw_p40 : lw_okq (⟨"WhosePageModel", "when", "(I)I"⟩, 24) := ⟨⟨by decide +kernel, by decide +kernel⟩, List.mem_of_getElem? (i := 753) (by decide +kernel), List.mem_of_getElem? (i := 986) (by decide +kernel), List.mem_of_getElem? (i := 987) (by decide +kernel)⟩
theorem lw_p41 : lw_okq (⟨"WhosePageModel", "mixing", "()I"⟩, 24) := ⟨⟨by decide +kernel, by decide +kernel⟩, List.mem_of_getElem? (i := 753) (by decide +kernel), List.mem_of_getElem? (i := 994) (by decide +kernel), List.mem_of_getElem? (i := 995) (by decide +kernel)⟩
theorem lw_p42 : lw_okq (⟨"WhosePageModel", "together", "(III)I"⟩, 24) := ⟨⟨by decide +kernel, by decide +kernel⟩, List.mem_of_getElem? (i := 753) (by decide +kernel), List.mem_of_getElem? (i := 1011) (by decide +kernel), List.mem_of_getElem? (i := 1012) (by decide +kernel)⟩
theorem lw_p43 : lw_okq (⟨"WhosePageModel", "firstPlace", "(I)I"⟩, 24) := ⟨⟨by decide +kernel, by decide +kernel⟩, List.mem_of_getElem? (i := 753) (by decide +kernel), List.mem_of_getElem? (i := 1032) (by decide +kernel), List.mem_of_getElem? (i := 1033) (by decide +kernel)⟩
def lw_privs_3 : List (MethodName × Nat) := [(⟨"WhosePageModel", "chosen", "(III)I"⟩, 24), (⟨"WhosePageModel", "waits", "(II)Z"⟩, 24), (⟨"WhosePageModel", "ahead", "(III)Z"⟩, 24), (⟨"WhosePageModel", "take", "(I)V"⟩, 24), (⟨"WhosePageModel", "takesSome", "(I)Z"⟩, 24), (⟨"WhosePageModel", "isWhole", "(I)Z"⟩, 24), (⟨"WhosePageModel", "isNoOwner", "(I)Z"⟩, 24), (⟨"WhosePageModel", "has", "(IZ)I"⟩, 24), (⟨"WhosePageModel", "when", "(I)I"⟩, 24), (⟨"WhosePageModel", "mixing", "()I"⟩, 24), (⟨"WhosePageModel", "together", "(III)I"⟩, 24), (⟨"WhosePageModel", "firstPlace", "(I)I"⟩, 24)]
theorem lw_r3 : ∀ q ∈ lw_privs_3, lw_okq q := List.forall_mem_cons.mpr ⟨lw_p32, List.forall_mem_cons.mpr ⟨lw_p33, List.forall_mem_cons.mpr ⟨lw_p34, List.forall_mem_cons.mpr ⟨lw_p35, List.forall_mem_cons.mpr ⟨lw_p36, List.forall_mem_cons.mpr ⟨lw_p37, List.forall_mem_cons.mpr ⟨lw_p38, List.forall_mem_cons.mpr ⟨lw_p39, List.forall_mem_cons.mpr ⟨lw_p40, List.forall_mem_cons.mpr ⟨lw_p41, List.forall_mem_cons.mpr ⟨lw_p42, List.forall_mem_cons.mpr ⟨lw_p43, fun _ h => absurd h List.not_mem_nil⟩⟩⟩⟩⟩⟩⟩⟩⟩⟩⟩⟩
def lw_privs : List (MethodName × Nat) := lw_privs_1 ++ (lw_privs_2 ++ (lw_privs_3))
def lw_tbl : List Cond := k2_sels lw_privs ++ tables_1
theorem lw_privs_ok : ∀ q ∈ lw_privs, lw_okq q := by
  show ∀ q ∈ lw_privs_1 ++ (lw_privs_2 ++ (lw_privs_3)), lw_okq q
  exact List.forall_mem_append.mpr ⟨lw_r1, List.forall_mem_append.mpr ⟨lw_r2, lw_r3⟩⟩
end
section
/-! ===== BEGIN words of one list among another's, by their places ===== -/
theorem goodIn_r {big : List Cond} (ws : List Cond) (ps : List Nat) (hp : ws = ps.filterMap (fun i => big[i]?)) (h : ws.all goodWord = true) : GoodIn big ws := by
  intro w hw
  have h1 := List.all_eq_true.mp h w hw
  rw [hp] at hw
  obtain ⟨i, -, hi⟩ := List.mem_filterMap.mp hw
  have hm : w ∈ big := by first | exact List.mem_of_getElem? hi | exact List.getElem?_mem hi
  exact ⟨hm, good_of_word h1⟩
theorem goodIn_app {big a b : List Cond} (ha : GoodIn big a) (hb : GoodIn big b) : GoodIn big (a ++ b) := fun w h => (List.mem_append.mp h).elim (ha w) (hb w)
theorem goodIn_ca {big a b : List Cond} {c : Cond} (ha : GoodIn big (c :: a)) (hb : GoodIn big b) : GoodIn big (c :: (a ++ b)) := fun w h => (List.mem_cons.mp h).elim (fun e => ha w (List.mem_cons.mpr (Or.inl e))) (fun h => (List.mem_append.mp h).elim (fun h => ha w (List.mem_cons.mpr (Or.inr h))) (hb w))
theorem goodIn_sub {big ws : List Cond} (hm : ∀ w ∈ ws, w ∈ big) (h : ws.all goodWord = true) : GoodIn big ws := fun w hw => ⟨hm w hw, good_of_word (List.all_eq_true.mp h w hw)⟩
/-! ===== END ===== -/

/-! ===== BEGIN printed: names, fields, word lists, decode rows ===== -/
def RX0 : String := "WhosePage$Day"
def TX0 : u_T := fun k => match k with
  | 0 => ("WhosePage$Day", "press", "LWhosePage$Press;", true)
  | 1 => ("WhosePage$Day", "tray", "LWhosePage$Tray;", true)
  | 2 => ("WhosePage$Day", "outSheets", "[I", true)
  | 3 => ("WhosePage$Day", "outMinutes", "[I", true)
  | 4 => ("WhosePage$Day", "outs", "I", false)
  | 5 => ("WhosePage$Day", "firstOut", "[I", true)
  | _ => ("WhosePage$Day", "holders", "[I", true)
def tyX0 : Nat → FieldType := fun k => match k with
  | 0 => .object "WhosePage$Press"
  | 1 => .object "WhosePage$Tray"
  | 2 => .array .int
  | 3 => .array .int
  | 4 => .int
  | 5 => .array .int
  | _ => .array .int
theorem nmX0 : ∀ a, a < 7 → ∀ b, b < 7 → a ≠ b → (TX0 a).2.1 ≠ (TX0 b).2.1 := by decide +kernel
theorem tyX0_ok : ∀ k, k < 7 → parseFieldDescriptor (TX0 k).2.2.1 = some (tyX0 k) := by decide +kernel
abbrev cX0_init : ByteArray := prog_2_method_1_code
def yX0_init : MethodName := ⟨RX0, "<init>", "()V"⟩
abbrev cX0_begin : ByteArray := prog_2_method_2_code
def yX0_begin : MethodName := ⟨RX0, "begin", "(LWhosePage$Plan;)V"⟩
abbrev cX0_passWhole : ByteArray := prog_2_method_3_code
def yX0_passWhole : MethodName := ⟨RX0, "passWhole", "(LWhosePage$Plan;)V"⟩
abbrev cX0_passThrough : ByteArray := prog_2_method_4_code
def yX0_passThrough : MethodName := ⟨RX0, "passThrough", "(LWhosePage$Plan;I)V"⟩
abbrev cX0_passMinute : ByteArray := prog_2_method_5_code
def yX0_passMinute : MethodName := ⟨RX0, "passMinute", "(LWhosePage$Plan;I)V"⟩
abbrev cX0_noteOut : ByteArray := prog_2_method_6_code
def yX0_noteOut : MethodName := ⟨RX0, "noteOut", "(II)V"⟩
abbrev cX0_sheetOut : ByteArray := prog_2_method_7_code
def yX0_sheetOut : MethodName := ⟨RX0, "sheetOut", "(I)I"⟩
abbrev cX0_minuteOut : ByteArray := prog_2_method_8_code
def yX0_minuteOut : MethodName := ⟨RX0, "minuteOut", "(I)I"⟩
abbrev cX0_holderOf : ByteArray := prog_2_method_9_code
def yX0_holderOf : MethodName := ⟨RX0, "holderOf", "(I)I"⟩
abbrev cX0_heldBy : ByteArray := prog_2_method_10_code
def yX0_heldBy : MethodName := ⟨RX0, "heldBy", "(LWhosePage$Plan;IZ)I"⟩
abbrev cX0_othersWith : ByteArray := prog_2_method_11_code
def yX0_othersWith : MethodName := ⟨RX0, "othersWith", "(LWhosePage$Plan;I)I"⟩
abbrev cX0_lastFirstOut : ByteArray := prog_2_method_12_code
def yX0_lastFirstOut : MethodName := ⟨RX0, "lastFirstOut", "(LWhosePage$Plan;I)I"⟩
def RX1 : String := "WhosePage$Plan"
def TX1 : u_T := fun k => match k with
  | 0 => ("WhosePage$Plan", "jobOwner", "[I", true)
  | 1 => ("WhosePage$Plan", "jobSheets", "[I", true)
  | 2 => ("WhosePage$Plan", "jobSent", "[I", true)
  | 3 => ("WhosePage$Plan", "takerKind", "[I", true)
  | 4 => ("WhosePage$Plan", "takerOwner", "[I", true)
  | 5 => ("WhosePage$Plan", "takerFigure", "[I", true)
  | 6 => ("WhosePage$Plan", "takerMinute", "[I", true)
  | 7 => ("WhosePage$Plan", "jobs", "I", false)
  | 8 => ("WhosePage$Plan", "takers", "I", false)
  | 9 => ("WhosePage$Plan", "kind", "I", false)
  | _ => ("WhosePage$Plan", "stop", "I", false)
def tyX1 : Nat → FieldType := fun k => match k with
  | 0 => .array .int
  | 1 => .array .int
  | 2 => .array .int
  | 3 => .array .int
  | 4 => .array .int
  | 5 => .array .int
  | 6 => .array .int
  | 7 => .int
  | 8 => .int
  | 9 => .int
  | _ => .int
theorem nmX1 : ∀ a, a < 11 → ∀ b, b < 11 → a ≠ b → (TX1 a).2.1 ≠ (TX1 b).2.1 := by decide +kernel
theorem tyX1_ok : ∀ k, k < 11 → parseFieldDescriptor (TX1 k).2.2.1 = some (tyX1 k) := by decide +kernel
abbrev cX1_init : ByteArray := prog_3_method_1_code
def yX1_init : MethodName := ⟨RX1, "<init>", "()V"⟩
abbrev cX1_hasJob : ByteArray := prog_3_method_2_code
def yX1_hasJob : MethodName := ⟨RX1, "hasJob", "(I)Z"⟩
abbrev cX1_hasTaker : ByteArray := prog_3_method_3_code
def yX1_hasTaker : MethodName := ⟨RX1, "hasTaker", "(I)Z"⟩
abbrev cX1_hasSheet : ByteArray := prog_3_method_4_code
def yX1_hasSheet : MethodName := ⟨RX1, "hasSheet", "(I)Z"⟩
abbrev cX1_isOf : ByteArray := prog_3_method_5_code
def yX1_isOf : MethodName := ⟨RX1, "isOf", "(II)Z"⟩
abbrev cX1_addJob : ByteArray := prog_3_method_6_code
def yX1_addJob : MethodName := ⟨RX1, "addJob", "(III)Z"⟩
abbrev cX1_addTaker : ByteArray := prog_3_method_7_code
def yX1_addTaker : MethodName := ⟨RX1, "addTaker", "(IIII)Z"⟩
abbrev cX1_setMachine : ByteArray := prog_3_method_8_code
def yX1_setMachine : MethodName := ⟨RX1, "setMachine", "(II)V"⟩
abbrev cX1_allSheets : ByteArray := prog_3_method_9_code
def yX1_allSheets : MethodName := ⟨RX1, "allSheets", "()I"⟩
abbrev cX1_sheetsOf : ByteArray := prog_3_method_10_code
def yX1_sheetsOf : MethodName := ⟨RX1, "sheetsOf", "(I)I"⟩
abbrev cX1_jobsOf : ByteArray := prog_3_method_11_code
def yX1_jobsOf : MethodName := ⟨RX1, "jobsOf", "(I)I"⟩
abbrev cX1_copyFrom : ByteArray := prog_3_method_12_code
def yX1_copyFrom : MethodName := ⟨RX1, "copyFrom", "(LWhosePage$Plan;)V"⟩
def RX2 : String := "WhosePage$Press"
def TX2 : u_T := fun k => match k with
  | 0 => ("WhosePage$Press", "left", "[I", true)
  | 1 => ("WhosePage$Press", "leftInAll", "I", false)
  | 2 => ("WhosePage$Press", "latest", "I", false)
  | 3 => ("WhosePage$Press", "sinceAgain", "I", false)
  | _ => ("WhosePage$Press", "mixed", "I", false)
def tyX2 : Nat → FieldType := fun k => match k with
  | 0 => .array .int
  | 1 => .int
  | 2 => .int
  | 3 => .int
  | _ => .int
theorem nmX2 : ∀ a, a < 5 → ∀ b, b < 5 → a ≠ b → (TX2 a).2.1 ≠ (TX2 b).2.1 := by decide +kernel
theorem tyX2_ok : ∀ k, k < 5 → parseFieldDescriptor (TX2 k).2.2.1 = some (tyX2 k) := by decide +kernel
abbrev cX2_init : ByteArray := prog_4_method_1_code
def yX2_init : MethodName := ⟨RX2, "<init>", "()V"⟩
abbrev cX2_begin : ByteArray := prog_4_method_2_code
def yX2_begin : MethodName := ⟨RX2, "begin", "(LWhosePage$Plan;)V"⟩
abbrev cX2_putOut : ByteArray := prog_4_method_3_code
def yX2_putOut : MethodName := ⟨RX2, "putOut", "(LWhosePage$Plan;I)I"⟩
abbrev cX2_mixedIn : ByteArray := prog_4_method_4_code
def yX2_mixedIn : MethodName := ⟨RX2, "mixedIn", "(LWhosePage$Plan;)I"⟩
abbrev cX2_chosenJob : ByteArray := prog_4_method_5_code
def yX2_chosenJob : MethodName := ⟨RX2, "chosenJob", "(LWhosePage$Plan;I)I"⟩
abbrev cX2_isAhead : ByteArray := prog_4_method_6_code
def yX2_isAhead : MethodName := ⟨RX2, "isAhead", "(LWhosePage$Plan;II)Z"⟩
abbrev cX2_turnsUntil : ByteArray := prog_4_method_7_code
def yX2_turnsUntil : MethodName := ⟨RX2, "turnsUntil", "(I)I"⟩
def RX3 : String := "WhosePage$Row"
def TX3 : u_T := fun k => match k with
  | 0 => ("WhosePage$Row", "numbers", "[I", true)
  | 1 => ("WhosePage$Row", "many", "I", false)
  | 2 => ("WhosePage$Row", "ways", "[I", true)
  | 3 => ("WhosePage$Row", "longest", "[I", true)
  | _ => ("WhosePage$Row", "firstPlace", "[I", true)
def tyX3 : Nat → FieldType := fun k => match k with
  | 0 => .array .int
  | 1 => .int
  | 2 => .array .int
  | 3 => .array .int
  | _ => .array .int
theorem nmX3 : ∀ a, a < 5 → ∀ b, b < 5 → a ≠ b → (TX3 a).2.1 ≠ (TX3 b).2.1 := by decide +kernel
theorem tyX3_ok : ∀ k, k < 5 → parseFieldDescriptor (TX3 k).2.2.1 = some (tyX3 k) := by decide +kernel
abbrev cX3_init : ByteArray := prog_5_method_1_code
def yX3_init : MethodName := ⟨RX3, "<init>", "()V"⟩
abbrev cX3_add : ByteArray := prog_5_method_2_code
def yX3_add : MethodName := ⟨RX3, "add", "(I)I"⟩
abbrev cX3_clear : ByteArray := prog_5_method_3_code
def yX3_clear : MethodName := ⟨RX3, "clear", "()V"⟩
abbrev cX3_waysOfThree : ByteArray := prog_5_method_4_code
def yX3_waysOfThree : MethodName := ⟨RX3, "waysOfThree", "(III)I"⟩
abbrev cX3_waysTo : ByteArray := prog_5_method_5_code
def yX3_waysTo : MethodName := ⟨RX3, "waysTo", "(III)I"⟩
abbrev cX3_at : ByteArray := prog_5_method_6_code
def yX3_at : MethodName := ⟨RX3, "at", "(III)I"⟩
abbrev cX3_fewestParts : ByteArray := prog_5_method_7_code
def yX3_fewestParts : MethodName := ⟨RX3, "fewestParts", "()I"⟩
abbrev cX3_numbersLacking : ByteArray := prog_5_method_8_code
def yX3_numbersLacking : MethodName := ⟨RX3, "numbersLacking", "(II)I"⟩
abbrev cX3_fewestLaps : ByteArray := prog_5_method_9_code
def yX3_fewestLaps : MethodName := ⟨RX3, "fewestLaps", "(I)I"⟩
abbrev cX3_runsBySize : ByteArray := prog_5_method_10_code
def yX3_runsBySize : MethodName := ⟨RX3, "runsBySize", "()I"⟩
def RX4 : String := "WhosePage$Text"
def TX4 : u_T := fun k => match k with
  | 0 => ("WhosePage$Text", "letters", "[I", true)
  | 1 => ("WhosePage$Text", "many", "I", false)
  | 2 => ("WhosePage$Text", "place", "I", false)
  | 3 => ("WhosePage$Text", "head", "I", false)
  | 4 => ("WhosePage$Text", "kind", "I", false)
  | 5 => ("WhosePage$Text", "owner", "I", false)
  | 6 => ("WhosePage$Text", "figure", "I", false)
  | _ => ("WhosePage$Text", "minute", "I", false)
def tyX4 : Nat → FieldType := fun k => match k with
  | 0 => .array .int
  | 1 => .int
  | 2 => .int
  | 3 => .int
  | 4 => .int
  | 5 => .int
  | 6 => .int
  | _ => .int
theorem nmX4 : ∀ a, a < 8 → ∀ b, b < 8 → a ≠ b → (TX4 a).2.1 ≠ (TX4 b).2.1 := by decide +kernel
theorem tyX4_ok : ∀ k, k < 8 → parseFieldDescriptor (TX4 k).2.2.1 = some (tyX4 k) := by decide +kernel
abbrev cX4_init : ByteArray := prog_6_method_1_code
def yX4_init : MethodName := ⟨RX4, "<init>", "()V"⟩
abbrev cX4_add : ByteArray := prog_6_method_2_code
def yX4_add : MethodName := ⟨RX4, "add", "(I)I"⟩
abbrev cX4_clear : ByteArray := prog_6_method_3_code
def yX4_clear : MethodName := ⟨RX4, "clear", "()V"⟩
abbrev cX4_wrongPlace : ByteArray := prog_6_method_4_code
def yX4_wrongPlace : MethodName := ⟨RX4, "wrongPlace", "()I"⟩
abbrev cX4_readStatement : ByteArray := prog_6_method_5_code
def yX4_readStatement : MethodName := ⟨RX4, "readStatement", "()Z"⟩
abbrev cX4_tellTo : ByteArray := prog_6_method_6_code
def yX4_tellTo : MethodName := ⟨RX4, "tellTo", "(LWhosePage$Plan;)Z"⟩
abbrev cX4_readOwnerFigureMinute : ByteArray := prog_6_method_7_code
def yX4_readOwnerFigureMinute : MethodName := ⟨RX4, "readOwnerFigureMinute", "()Z"⟩
abbrev cX4_readKind : ByteArray := prog_6_method_8_code
def yX4_readKind : MethodName := ⟨RX4, "readKind", "(Ljava/lang/String;)Z"⟩
abbrev cX4_readFigure : ByteArray := prog_6_method_9_code
def yX4_readFigure : MethodName := ⟨RX4, "readFigure", "()Z"⟩
abbrev cX4_readMinute : ByteArray := prog_6_method_10_code
def yX4_readMinute : MethodName := ⟨RX4, "readMinute", "()Z"⟩
abbrev cX4_readDigit : ByteArray := prog_6_method_11_code
def yX4_readDigit : MethodName := ⟨RX4, "readDigit", "()I"⟩
abbrev cX4_readSign : ByteArray := prog_6_method_12_code
def yX4_readSign : MethodName := ⟨RX4, "readSign", "(C)Z"⟩
def RX5 : String := "WhosePage$Tray"
def TX5 : u_T := fun k => match k with
  | 0 => ("WhosePage$Tray", "sheets", "[I", true)
  | 1 => ("WhosePage$Tray", "numbersLying", "[I", true)
  | _ => ("WhosePage$Tray", "many", "I", false)
def tyX5 : Nat → FieldType := fun k => match k with
  | 0 => .array .int
  | 1 => .array .int
  | _ => .int
theorem nmX5 : ∀ a, a < 3 → ∀ b, b < 3 → a ≠ b → (TX5 a).2.1 ≠ (TX5 b).2.1 := by decide +kernel
theorem tyX5_ok : ∀ k, k < 3 → parseFieldDescriptor (TX5 k).2.2.1 = some (tyX5 k) := by decide +kernel
abbrev cX5_init : ByteArray := prog_7_method_1_code
def yX5_init : MethodName := ⟨RX5, "<init>", "()V"⟩
abbrev cX5_putUpon : ByteArray := prog_7_method_2_code
def yX5_putUpon : MethodName := ⟨RX5, "putUpon", "(I)V"⟩
abbrev cX5_putBeneath : ByteArray := prog_7_method_3_code
def yX5_putBeneath : MethodName := ⟨RX5, "putBeneath", "(I)V"⟩
abbrev cX5_fromTop : ByteArray := prog_7_method_4_code
def yX5_fromTop : MethodName := ⟨RX5, "fromTop", "(I)I"⟩
abbrev cX5_looksAs : ByteArray := prog_7_method_5_code
def yX5_looksAs : MethodName := ⟨RX5, "looksAs", "(LWhosePage$Row;)Z"⟩
abbrev cX5_giveTo : ByteArray := prog_7_method_6_code
def yX5_giveTo : MethodName := ⟨RX5, "giveTo", "(LWhosePage$Plan;I[I)V"⟩
abbrev cX5_jobsWanted : ByteArray := prog_7_method_7_code
def yX5_jobsWanted : MethodName := ⟨RX5, "jobsWanted", "(LWhosePage$Plan;II)I"⟩
abbrev cX5_wholeJobs : ByteArray := prog_7_method_8_code
def yX5_wholeJobs : MethodName := ⟨RX5, "wholeJobs", "(LWhosePage$Plan;)I"⟩
def RX6 : String := "WhosePage"
def TX6 : u_T := fun k => match k with
  | 0 => ("WhosePage", "plan", "LWhosePage$Plan;", true)
  | 1 => ("WhosePage", "kept", "LWhosePage$Plan;", true)
  | 2 => ("WhosePage", "draft", "LWhosePage$Plan;", true)
  | 3 => ("WhosePage", "text", "LWhosePage$Text;", true)
  | 4 => ("WhosePage", "press", "LWhosePage$Press;", true)
  | 5 => ("WhosePage", "day", "LWhosePage$Day;", true)
  | 6 => ("WhosePage", "told", "LWhosePage$Row;", true)
  | 7 => ("WhosePage", "refusals", "[I", true)
  | _ => ("WhosePage", "imageTaken", "Z", false)
def tyX6 : Nat → FieldType := fun k => match k with
  | 0 => .object "WhosePage$Plan"
  | 1 => .object "WhosePage$Plan"
  | 2 => .object "WhosePage$Plan"
  | 3 => .object "WhosePage$Text"
  | 4 => .object "WhosePage$Press"
  | 5 => .object "WhosePage$Day"
  | 6 => .object "WhosePage$Row"
  | 7 => .array .int
  | _ => .boolean
theorem nmX6 : ∀ a, a < 9 → ∀ b, b < 9 → a ≠ b → (TX6 a).2.1 ≠ (TX6 b).2.1 := by decide +kernel
theorem tyX6_ok : ∀ k, k < 9 → parseFieldDescriptor (TX6 k).2.2.1 = some (tyX6 k) := by decide +kernel
abbrev cX6_init : ByteArray := prog_1_method_1_code
def yX6_init : MethodName := ⟨RX6, "<init>", "()V"⟩
abbrev cX6_letter : ByteArray := prog_1_method_2_code
def yX6_letter : MethodName := ⟨RX6, "letter", "(I)I"⟩
abbrev cX6_floor : ByteArray := prog_1_method_3_code
def yX6_floor : MethodName := ⟨RX6, "floor", "()I"⟩
abbrev cX6_job : ByteArray := prog_1_method_4_code
def yX6_job : MethodName := ⟨RX6, "job", "(II)I"⟩
abbrev cX6_taker : ByteArray := prog_1_method_5_code
def yX6_taker : MethodName := ⟨RX6, "taker", "(II)I"⟩
abbrev cX6_sent : ByteArray := prog_1_method_6_code
def yX6_sent : MethodName := ⟨RX6, "sent", "(II)I"⟩
abbrev cX6_machine : ByteArray := prog_1_method_7_code
def yX6_machine : MethodName := ⟨RX6, "machine", "(II)I"⟩
abbrev cX6_comes : ByteArray := prog_1_method_8_code
def yX6_comes : MethodName := ⟨RX6, "comes", "(II)I"⟩
abbrev cX6_out : ByteArray := prog_1_method_9_code
def yX6_out : MethodName := ⟨RX6, "out", "(II)I"⟩
abbrev cX6_outMany : ByteArray := prog_1_method_10_code
def yX6_outMany : MethodName := ⟨RX6, "outMany", "()I"⟩
abbrev cX6_lies : ByteArray := prog_1_method_11_code
def yX6_lies : MethodName := ⟨RX6, "lies", "(II)I"⟩
abbrev cX6_held : ByteArray := prog_1_method_12_code
def yX6_held : MethodName := ⟨RX6, "held", "(II)I"⟩
abbrev cX6_who : ByteArray := prog_1_method_13_code
def yX6_who : MethodName := ⟨RX6, "who", "(I)I"⟩
abbrev cX6_missing : ByteArray := prog_1_method_14_code
def yX6_missing : MethodName := ⟨RX6, "missing", "(I)I"⟩
abbrev cX6_ask : ByteArray := prog_1_method_15_code
def yX6_ask : MethodName := ⟨RX6, "ask", "(I)I"⟩
abbrev cX6_ready : ByteArray := prog_1_method_16_code
def yX6_ready : MethodName := ⟨RX6, "ready", "(I)I"⟩
abbrev cX6_mixed : ByteArray := prog_1_method_17_code
def yX6_mixed : MethodName := ⟨RX6, "mixed", "()I"⟩
abbrev cX6_byKind : ByteArray := prog_1_method_18_code
def yX6_byKind : MethodName := ⟨RX6, "byKind", "()I"⟩
abbrev cX6_send : ByteArray := prog_1_method_19_code
def yX6_send : MethodName := ⟨RX6, "send", "(II)I"⟩
abbrev cX6_two : ByteArray := prog_1_method_20_code
def yX6_two : MethodName := ⟨RX6, "two", "(II)I"⟩
abbrev cX6_three : ByteArray := prog_1_method_21_code
def yX6_three : MethodName := ⟨RX6, "three", "(III)I"⟩
abbrev cX6_parts : ByteArray := prog_1_method_22_code
def yX6_parts : MethodName := ⟨RX6, "parts", "()I"⟩
abbrev cX6_lacks : ByteArray := prog_1_method_23_code
def yX6_lacks : MethodName := ⟨RX6, "lacks", "(I)I"⟩
abbrev cX6_laps : ByteArray := prog_1_method_24_code
def yX6_laps : MethodName := ⟨RX6, "laps", "(I)I"⟩
abbrev cX6_waits : ByteArray := prog_1_method_25_code
def yX6_waits : MethodName := ⟨RX6, "waits", "(III)I"⟩
abbrev cX6_vain : ByteArray := prog_1_method_26_code
def yX6_vain : MethodName := ⟨RX6, "vain", "(III)I"⟩
abbrev cX6_seen : ByteArray := prog_1_method_27_code
def yX6_seen : MethodName := ⟨RX6, "seen", "(I)I"⟩
abbrev cX6_row : ByteArray := prog_1_method_28_code
def yX6_row : MethodName := ⟨RX6, "row", "(I)I"⟩
abbrev cX6_judge : ByteArray := prog_1_method_29_code
def yX6_judge : MethodName := ⟨RX6, "judge", "()I"⟩
abbrev cX6_lots : ByteArray := prog_1_method_30_code
def yX6_lots : MethodName := ⟨RX6, "lots", "(II)I"⟩
abbrev cX6_image : ByteArray := prog_1_method_31_code
def yX6_image : MethodName := ⟨RX6, "image", "()I"⟩
abbrev cX6_on : ByteArray := prog_1_method_32_code
def yX6_on : MethodName := ⟨RX6, "on", "()I"⟩
abbrev cX6_count : ByteArray := prog_1_method_33_code
def yX6_count : MethodName := ⟨RX6, "count", "(I)I"⟩
abbrev cX6_refusalsCounted : ByteArray := prog_1_method_34_code
def yX6_refusalsCounted : MethodName := ⟨RX6, "refusalsCounted", "(I)I"⟩
abbrev cX6_refuse : ByteArray := prog_1_method_35_code
def yX6_refuse : MethodName := ⟨RX6, "refuse", "(I)I"⟩
abbrev cX6_tellStatements : ByteArray := prog_1_method_36_code
def yX6_tellStatements : MethodName := ⟨RX6, "tellStatements", "()I"⟩
abbrev cX6_readyMinute : ByteArray := prog_1_method_37_code
def yX6_readyMinute : MethodName := ⟨RX6, "readyMinute", "(I)I"⟩
abbrev cX6_areTwoJobs : ByteArray := prog_1_method_38_code
def yX6_areTwoJobs : MethodName := ⟨RX6, "areTwoJobs", "(II)Z"⟩
abbrev cX6_isOwner : ByteArray := prog_1_method_39_code
def yX6_isOwner : MethodName := ⟨RX6, "isOwner", "(I)Z"⟩
abbrev cX6_isZeroOrOne : ByteArray := prog_1_method_40_code
def yX6_isZeroOrOne : MethodName := ⟨RX6, "isZeroOrOne", "(I)Z"⟩
abbrev cX6_hasBit : ByteArray := prog_1_method_41_code
def yX6_hasBit : MethodName := ⟨RX6, "hasBit", "(II)Z"⟩
abbrev cX6_bitsUpTo : ByteArray := prog_1_method_42_code
def yX6_bitsUpTo : MethodName := ⟨RX6, "bitsUpTo", "(I)I"⟩
def RX7 : String := "WhosePageModel"
def TX7 : u_T := fun k => match k with
  | 0 => ("WhosePageModel", "refused", "[I", true)
  | 1 => ("WhosePageModel", "now", "[I", true)
  | 2 => ("WhosePageModel", "then", "[I", true)
  | 3 => ("WhosePageModel", "kept", "Z", false)
  | 4 => ("WhosePageModel", "tape", "[I", true)
  | 5 => ("WhosePageModel", "taped", "I", false)
  | 6 => ("WhosePageModel", "at", "I", false)
  | 7 => ("WhosePageModel", "well", "Z", false)
  | 8 => ("WhosePageModel", "begins", "[C", true)
  | 9 => ("WhosePageModel", "machines", "[C", true)
  | 10 => ("WhosePageModel", "takers", "[C", true)
  | 11 => ("WhosePageModel", "sort", "I", false)
  | 12 => ("WhosePageModel", "field", "[I", true)
  | 13 => ("WhosePageModel", "left", "[I", true)
  | 14 => ("WhosePageModel", "out", "[I", true)
  | 15 => ("WhosePageModel", "outAt", "[I", true)
  | 16 => ("WhosePageModel", "outs", "I", false)
  | 17 => ("WhosePageModel", "tray", "[I", true)
  | 18 => ("WhosePageModel", "lying", "I", false)
  | 19 => ("WhosePageModel", "holder", "[I", true)
  | 20 => ("WhosePageModel", "whole", "[Z", true)
  | 21 => ("WhosePageModel", "line", "[I", true)
  | 22 => ("WhosePageModel", "lined", "I", false)
  | _ => ("WhosePageModel", "ways", "[I", true)
def tyX7 : Nat → FieldType := fun k => match k with
  | 0 => .array .int
  | 1 => .array .int
  | 2 => .array .int
  | 3 => .boolean
  | 4 => .array .int
  | 5 => .int
  | 6 => .int
  | 7 => .boolean
  | 8 => .array .char
  | 9 => .array .char
  | 10 => .array .char
  | 11 => .int
  | 12 => .array .int
  | 13 => .array .int
  | 14 => .array .int
  | 15 => .array .int
  | 16 => .int
  | 17 => .array .int
  | 18 => .int
  | 19 => .array .int
  | 20 => .array .boolean
  | 21 => .array .int
  | 22 => .int
  | _ => .array .int
theorem nmX7 : ∀ a, a < 24 → ∀ b, b < 24 → a ≠ b → (TX7 a).2.1 ≠ (TX7 b).2.1 := by decide +kernel
theorem tyX7_ok : ∀ k, k < 24 → parseFieldDescriptor (TX7 k).2.2.1 = some (tyX7 k) := by decide +kernel
abbrev cX7_no : ByteArray := prog_9_method_1_code
def yX7_no : MethodName := ⟨RX7, "no", "(I)I"⟩
abbrev cX7_init : ByteArray := prog_9_method_2_code
def yX7_init : MethodName := ⟨RX7, "<init>", "()V"⟩
abbrev cX7_image : ByteArray := prog_9_method_3_code
def yX7_image : MethodName := ⟨RX7, "image", "()I"⟩
abbrev cX7_on : ByteArray := prog_9_method_4_code
def yX7_on : MethodName := ⟨RX7, "on", "()I"⟩
abbrev cX7_letter : ByteArray := prog_9_method_5_code
def yX7_letter : MethodName := ⟨RX7, "letter", "(I)I"⟩
abbrev cX7_expect : ByteArray := prog_9_method_6_code
def yX7_expect : MethodName := ⟨RX7, "expect", "(C)V"⟩
abbrev cX7_oneOf : ByteArray := prog_9_method_7_code
def yX7_oneOf : MethodName := ⟨RX7, "oneOf", "([C)I"⟩
abbrev cX7_figures : ByteArray := prog_9_method_8_code
def yX7_figures : MethodName := ⟨RX7, "figures", "(I)I"⟩
abbrev cX7_statement : ByteArray := prog_9_method_9_code
def yX7_statement : MethodName := ⟨RX7, "statement", "()V"⟩
abbrev cX7_isAsItMustBe : ByteArray := prog_9_method_10_code
def yX7_isAsItMustBe : MethodName := ⟨RX7, "isAsItMustBe", "(II)Z"⟩
abbrev cX7_come : ByteArray := prog_9_method_11_code
def yX7_come : MethodName := ⟨RX7, "come", "()V"⟩
abbrev cX7_read : ByteArray := prog_9_method_12_code
def yX7_read : MethodName := ⟨RX7, "read", "()I"⟩
abbrev cX7_floor : ByteArray := prog_9_method_13_code
def yX7_floor : MethodName := ⟨RX7, "floor", "()I"⟩
abbrev cX7_waits : ByteArray := prog_9_method_14_code
def yX7_waits : MethodName := ⟨RX7, "waits", "(II)Z"⟩
abbrev cX7_ahead : ByteArray := prog_9_method_15_code
def yX7_ahead : MethodName := ⟨RX7, "ahead", "(III)Z"⟩
abbrev cX7_chosen : ByteArray := prog_9_method_16_code
def yX7_chosen : MethodName := ⟨RX7, "chosen", "(III)I"⟩
abbrev cX7_put : ByteArray := prog_9_method_17_code
def yX7_put : MethodName := ⟨RX7, "put", "(II)V"⟩
abbrev cX7_isWhole : ByteArray := prog_9_method_18_code
def yX7_isWhole : MethodName := ⟨RX7, "isWhole", "(I)Z"⟩
abbrev cX7_takesSome : ByteArray := prog_9_method_19_code
def yX7_takesSome : MethodName := ⟨RX7, "takesSome", "(I)Z"⟩
abbrev cX7_take : ByteArray := prog_9_method_20_code
def yX7_take : MethodName := ⟨RX7, "take", "(I)V"⟩
abbrev cX7_goTo : ByteArray := prog_9_method_21_code
def yX7_goTo : MethodName := ⟨RX7, "goTo", "(I)V"⟩
abbrev cX7_mixing : ByteArray := prog_9_method_22_code
def yX7_mixing : MethodName := ⟨RX7, "mixing", "()I"⟩
abbrev cX7_isNoOwner : ByteArray := prog_9_method_23_code
def yX7_isNoOwner : MethodName := ⟨RX7, "isNoOwner", "(I)Z"⟩
abbrev cX7_isNoJob : ByteArray := prog_9_method_24_code
def yX7_isNoJob : MethodName := ⟨RX7, "isNoJob", "(I)Z"⟩
abbrev cX7_isNoTaker : ByteArray := prog_9_method_25_code
def yX7_isNoTaker : MethodName := ⟨RX7, "isNoTaker", "(I)Z"⟩
abbrev cX7_job : ByteArray := prog_9_method_26_code
def yX7_job : MethodName := ⟨RX7, "job", "(II)I"⟩
abbrev cX7_taker : ByteArray := prog_9_method_27_code
def yX7_taker : MethodName := ⟨RX7, "taker", "(II)I"⟩
abbrev cX7_change : ByteArray := prog_9_method_28_code
def yX7_change : MethodName := ⟨RX7, "change", "(III)I"⟩
abbrev cX7_sent : ByteArray := prog_9_method_29_code
def yX7_sent : MethodName := ⟨RX7, "sent", "(II)I"⟩
abbrev cX7_machine : ByteArray := prog_9_method_30_code
def yX7_machine : MethodName := ⟨RX7, "machine", "(II)I"⟩
abbrev cX7_comes : ByteArray := prog_9_method_31_code
def yX7_comes : MethodName := ⟨RX7, "comes", "(II)I"⟩
abbrev cX7_out : ByteArray := prog_9_method_32_code
def yX7_out : MethodName := ⟨RX7, "out", "(II)I"⟩
abbrev cX7_outMany : ByteArray := prog_9_method_33_code
def yX7_outMany : MethodName := ⟨RX7, "outMany", "()I"⟩
abbrev cX7_lies : ByteArray := prog_9_method_34_code
def yX7_lies : MethodName := ⟨RX7, "lies", "(II)I"⟩
abbrev cX7_has : ByteArray := prog_9_method_35_code
def yX7_has : MethodName := ⟨RX7, "has", "(IZ)I"⟩
abbrev cX7_held : ByteArray := prog_9_method_36_code
def yX7_held : MethodName := ⟨RX7, "held", "(II)I"⟩
abbrev cX7_who : ByteArray := prog_9_method_37_code
def yX7_who : MethodName := ⟨RX7, "who", "(I)I"⟩
abbrev cX7_missing : ByteArray := prog_9_method_38_code
def yX7_missing : MethodName := ⟨RX7, "missing", "(I)I"⟩
abbrev cX7_ask : ByteArray := prog_9_method_39_code
def yX7_ask : MethodName := ⟨RX7, "ask", "(I)I"⟩
abbrev cX7_when : ByteArray := prog_9_method_40_code
def yX7_when : MethodName := ⟨RX7, "when", "(I)I"⟩
abbrev cX7_ready : ByteArray := prog_9_method_41_code
def yX7_ready : MethodName := ⟨RX7, "ready", "(I)I"⟩
abbrev cX7_mixed : ByteArray := prog_9_method_42_code
def yX7_mixed : MethodName := ⟨RX7, "mixed", "()I"⟩
abbrev cX7_byKind : ByteArray := prog_9_method_43_code
def yX7_byKind : MethodName := ⟨RX7, "byKind", "()I"⟩
abbrev cX7_send : ByteArray := prog_9_method_44_code
def yX7_send : MethodName := ⟨RX7, "send", "(II)I"⟩
abbrev cX7_together : ByteArray := prog_9_method_45_code
def yX7_together : MethodName := ⟨RX7, "together", "(III)I"⟩
abbrev cX7_two : ByteArray := prog_9_method_46_code
def yX7_two : MethodName := ⟨RX7, "two", "(II)I"⟩
abbrev cX7_three : ByteArray := prog_9_method_47_code
def yX7_three : MethodName := ⟨RX7, "three", "(III)I"⟩
abbrev cX7_parts : ByteArray := prog_9_method_48_code
def yX7_parts : MethodName := ⟨RX7, "parts", "()I"⟩
abbrev cX7_lacks : ByteArray := prog_9_method_49_code
def yX7_lacks : MethodName := ⟨RX7, "lacks", "(I)I"⟩
abbrev cX7_firstPlace : ByteArray := prog_9_method_50_code
def yX7_firstPlace : MethodName := ⟨RX7, "firstPlace", "(I)I"⟩
abbrev cX7_laps : ByteArray := prog_9_method_51_code
def yX7_laps : MethodName := ⟨RX7, "laps", "(I)I"⟩
abbrev cX7_waits_ : ByteArray := prog_9_method_52_code
def yX7_waits_ : MethodName := ⟨RX7, "waits", "(III)I"⟩
abbrev cX7_vain : ByteArray := prog_9_method_53_code
def yX7_vain : MethodName := ⟨RX7, "vain", "(III)I"⟩
abbrev cX7_seen : ByteArray := prog_9_method_54_code
def yX7_seen : MethodName := ⟨RX7, "seen", "(I)I"⟩
abbrev cX7_row : ByteArray := prog_9_method_55_code
def yX7_row : MethodName := ⟨RX7, "row", "(I)I"⟩
abbrev cX7_judge : ByteArray := prog_9_method_56_code
def yX7_judge : MethodName := ⟨RX7, "judge", "()I"⟩
abbrev cX7_lots : ByteArray := prog_9_method_57_code
def yX7_lots : MethodName := ⟨RX7, "lots", "(II)I"⟩
abbrev cX7_count : ByteArray := prog_9_method_58_code
def yX7_count : MethodName := ⟨RX7, "count", "(I)I"⟩
def RJx145de : String := "java/io/Serializable"
def TJx145de : u_T := fun k => match k with
  | _ => ("", "", "", false)
def tyJx145de : Nat → FieldType := fun k => match k with
  | _ => .int
theorem nmJx145de : ∀ a, a < 0 → ∀ b, b < 0 → a ≠ b → (TJx145de a).2.1 ≠ (TJx145de b).2.1 := by decide +kernel
theorem tyJx145de_ok : ∀ k, k < 0 → parseFieldDescriptor (TJx145de k).2.2.1 = some (tyJx145de k) := by decide +kernel
def RJx9f9b0 : String := "java/lang/CharSequence"
def TJx9f9b0 : u_T := fun k => match k with
  | _ => ("", "", "", false)
def tyJx9f9b0 : Nat → FieldType := fun k => match k with
  | _ => .int
theorem nmJx9f9b0 : ∀ a, a < 0 → ∀ b, b < 0 → a ≠ b → (TJx9f9b0 a).2.1 ≠ (TJx9f9b0 b).2.1 := by decide +kernel
theorem tyJx9f9b0_ok : ∀ k, k < 0 → parseFieldDescriptor (TJx9f9b0 k).2.2.1 = some (tyJx9f9b0 k) := by decide +kernel
def RJ11 : String := "java/lang/Character"
def TJ11 : u_T := fun k => match k with
  | _ => ("", "", "", false)
def tyJ11 : Nat → FieldType := fun k => match k with
  | _ => .int
theorem nmJ11 : ∀ a, a < 0 → ∀ b, b < 0 → a ≠ b → (TJ11 a).2.1 ≠ (TJ11 b).2.1 := by decide +kernel
theorem tyJ11_ok : ∀ k, k < 0 → parseFieldDescriptor (TJ11 k).2.2.1 = some (tyJ11 k) := by decide +kernel
abbrev cJ11_isValidCodePoint_9a6ad : ByteArray := prog_10_method_11_code
def yJ11_isValidCodePoint_9a6ad : MethodName := ⟨RJ11, "isValidCodePoint", "(I)Z"⟩
abbrev cJ11_highSurrogate_5068e : ByteArray := prog_10_method_28_code
def yJ11_highSurrogate_5068e : MethodName := ⟨RJ11, "highSurrogate", "(I)C"⟩
abbrev cJ11_lowSurrogate_5068e : ByteArray := prog_10_method_29_code
def yJ11_lowSurrogate_5068e : MethodName := ⟨RJ11, "lowSurrogate", "(I)C"⟩
def RJxb160c : String := "java/lang/Comparable"
def TJxb160c : u_T := fun k => match k with
  | _ => ("", "", "", false)
def tyJxb160c : Nat → FieldType := fun k => match k with
  | _ => .int
theorem nmJxb160c : ∀ a, a < 0 → ∀ b, b < 0 → a ≠ b → (TJxb160c a).2.1 ≠ (TJxb160c b).2.1 := by decide +kernel
theorem tyJxb160c_ok : ∀ k, k < 0 → parseFieldDescriptor (TJxb160c k).2.2.1 = some (tyJxb160c k) := by decide +kernel
def RJ9 : String := "java/lang/Math"
def TJ9 : u_T := fun k => match k with
  | _ => ("", "", "", false)
def tyJ9 : Nat → FieldType := fun k => match k with
  | _ => .int
theorem nmJ9 : ∀ a, a < 0 → ∀ b, b < 0 → a ≠ b → (TJ9 a).2.1 ≠ (TJ9 b).2.1 := by decide +kernel
theorem tyJ9_ok : ∀ k, k < 0 → parseFieldDescriptor (TJ9 k).2.2.1 = some (tyJ9 k) := by decide +kernel
abbrev cJ9_floorMod_7cf53 : ByteArray := prog_11_method_50_code
def yJ9_floorMod_7cf53 : MethodName := ⟨RJ9, "floorMod", "(II)I"⟩
abbrev cJ9_max_7cf53 : ByteArray := prog_11_method_65_code
def yJ9_max_7cf53 : MethodName := ⟨RJ9, "max", "(II)I"⟩
abbrev cJ9_min_7cf53 : ByteArray := prog_11_method_69_code
def yJ9_min_7cf53 : MethodName := ⟨RJ9, "min", "(II)I"⟩
def RJ0 : String := "java/lang/String"
def TJ0 : u_T := fun k => match k with
  | _ => ("", "", "", false)
def tyJ0 : Nat → FieldType := fun k => match k with
  | _ => .int
theorem nmJ0 : ∀ a, a < 0 → ∀ b, b < 0 → a ≠ b → (TJ0 a).2.1 ≠ (TJ0 b).2.1 := by decide +kernel
theorem tyJ0_ok : ∀ k, k < 0 → parseFieldDescriptor (TJ0 k).2.2.1 = some (tyJ0 k) := by decide +kernel
abbrev cJ0_length_8abf5 : ByteArray := prog_12_method_54_code
def yJ0_length_8abf5 : MethodName := ⟨RJ0, "length", "()I"⟩
abbrev cJ0_indexOf_0f7a4 : ByteArray := prog_12_method_79_code
def yJ0_indexOf_0f7a4 : MethodName := ⟨RJ0, "indexOf", "(I)I"⟩
abbrev cJ0_indexOf_7cf53 : ByteArray := prog_12_method_80_code
def yJ0_indexOf_7cf53 : MethodName := ⟨RJ0, "indexOf", "(II)I"⟩
abbrev cJ0_coder_7d493 : ByteArray := prog_12_method_152_code
def yJ0_coder_7d493 : MethodName := ⟨RJ0, "coder", "()B"⟩
abbrev cJ0_isLatin1_aae02 : ByteArray := prog_12_method_154_code
def yJ0_isLatin1_aae02 : MethodName := ⟨RJ0, "isLatin1", "()Z"⟩
abbrev cJ0_checkBoundsBeginEnd_23922 : ByteArray := prog_12_method_158_code
def yJ0_checkBoundsBeginEnd_23922 : MethodName := ⟨RJ0, "checkBoundsBeginEnd", "(III)V"⟩
def RJ1 : String := "java/lang/StringLatin1"
def TJ1 : u_T := fun k => match k with
  | _ => ("", "", "", false)
def tyJ1 : Nat → FieldType := fun k => match k with
  | _ => .int
theorem nmJ1 : ∀ a, a < 0 → ∀ b, b < 0 → a ≠ b → (TJ1 a).2.1 ≠ (TJ1 b).2.1 := by decide +kernel
theorem tyJ1_ok : ∀ k, k < 0 → parseFieldDescriptor (TJ1 k).2.2.1 = some (tyJ1 k) := by decide +kernel
abbrev cJ1_canEncode_9a6ad : ByteArray := prog_13_method_4_code
def yJ1_canEncode_9a6ad : MethodName := ⟨RJ1, "canEncode", "(I)Z"⟩
abbrev cJ1_indexOf_4cfef : ByteArray := prog_13_method_22_code
def yJ1_indexOf_4cfef : MethodName := ⟨RJ1, "indexOf", "([BIII)I"⟩
abbrev cJ1_indexOfChar_4cfef : ByteArray := prog_13_method_23_code
def yJ1_indexOfChar_4cfef : MethodName := ⟨RJ1, "indexOfChar", "([BIII)I"⟩
def RJ2 : String := "java/lang/StringUTF16"
def TJ2 : u_T := fun k => match k with
  | _ => ("", "", "", false)
def tyJ2 : Nat → FieldType := fun k => match k with
  | _ => .int
theorem nmJ2 : ∀ a, a < 0 → ∀ b, b < 0 → a ≠ b → (TJ2 a).2.1 ≠ (TJ2 b).2.1 := by decide +kernel
theorem tyJ2_ok : ∀ k, k < 0 → parseFieldDescriptor (TJ2 k).2.2.1 = some (tyJ2 k) := by decide +kernel
abbrev cJ2_getChar_3b067 : ByteArray := prog_14_method_5_code
def yJ2_getChar_3b067 : MethodName := ⟨RJ2, "getChar", "([BI)C"⟩
abbrev cJ2_length_9d52b : ByteArray := prog_14_method_6_code
def yJ2_length_9d52b : MethodName := ⟨RJ2, "length", "([B)I"⟩
abbrev cJ2_indexOf_4cfef : ByteArray := prog_14_method_40_code
def yJ2_indexOf_4cfef : MethodName := ⟨RJ2, "indexOf", "([BIII)I"⟩
abbrev cJ2_indexOfChar_4cfef : ByteArray := prog_14_method_47_code
def yJ2_indexOfChar_4cfef : MethodName := ⟨RJ2, "indexOfChar", "([BIII)I"⟩
abbrev cJ2_indexOfCharUnsafe_4cfef : ByteArray := prog_14_method_48_code
def yJ2_indexOfCharUnsafe_4cfef : MethodName := ⟨RJ2, "indexOfCharUnsafe", "([BIII)I"⟩
abbrev cJ2_indexOfSupplementary_4cfef : ByteArray := prog_14_method_49_code
def yJ2_indexOfSupplementary_4cfef : MethodName := ⟨RJ2, "indexOfSupplementary", "([BIII)I"⟩
abbrev cJ2_checkBoundsBeginEnd_d044e : ByteArray := prog_14_method_93_code
def yJ2_checkBoundsBeginEnd_d044e : MethodName := ⟨RJ2, "checkBoundsBeginEnd", "(II[B)V"⟩
def RJ10 : String := "java/lang/System"
def TJ10 : u_T := fun k => match k with
  | _ => ("", "", "", false)
def tyJ10 : Nat → FieldType := fun k => match k with
  | _ => .int
theorem nmJ10 : ∀ a, a < 0 → ∀ b, b < 0 → a ≠ b → (TJ10 a).2.1 ≠ (TJ10 b).2.1 := by decide +kernel
theorem tyJ10_ok : ∀ k, k < 0 → parseFieldDescriptor (TJ10 k).2.2.1 = some (tyJ10 k) := by decide +kernel
def RJxfd54e : String := "java/lang/constant/Constable"
def TJxfd54e : u_T := fun k => match k with
  | _ => ("", "", "", false)
def tyJxfd54e : Nat → FieldType := fun k => match k with
  | _ => .int
theorem nmJxfd54e : ∀ a, a < 0 → ∀ b, b < 0 → a ≠ b → (TJxfd54e a).2.1 ≠ (TJxfd54e b).2.1 := by decide +kernel
theorem tyJxfd54e_ok : ∀ k, k < 0 → parseFieldDescriptor (TJxfd54e k).2.2.1 = some (tyJxfd54e k) := by decide +kernel
def RJx3cf43 : String := "java/lang/constant/ConstantDesc"
def TJx3cf43 : u_T := fun k => match k with
  | _ => ("", "", "", false)
def tyJx3cf43 : Nat → FieldType := fun k => match k with
  | _ => .int
theorem nmJx3cf43 : ∀ a, a < 0 → ∀ b, b < 0 → a ≠ b → (TJx3cf43 a).2.1 ≠ (TJx3cf43 b).2.1 := by decide +kernel
theorem tyJx3cf43_ok : ∀ k, k < 0 → parseFieldDescriptor (TJx3cf43 k).2.2.1 = some (tyJx3cf43 k) := by decide +kernel
def RJ7 : String := "java/util/Arrays"
def TJ7 : u_T := fun k => match k with
  | _ => ("", "", "", false)
def tyJ7 : Nat → FieldType := fun k => match k with
  | _ => .int
theorem nmJ7 : ∀ a, a < 0 → ∀ b, b < 0 → a ≠ b → (TJ7 a).2.1 ≠ (TJ7 b).2.1 := by decide +kernel
theorem tyJ7_ok : ∀ k, k < 0 → parseFieldDescriptor (TJ7 k).2.2.1 = some (tyJ7 k) := by decide +kernel
abbrev cJ7_fill_53178 : ByteArray := prog_16_method_103_code
def yJ7_fill_53178 : MethodName := ⟨RJ7, "fill", "([II)V"⟩
def RJ3 : String := "jdk/internal/util/Preconditions"
def TJ3 : u_T := fun k => match k with
  | _ => ("", "", "", false)
def tyJ3 : Nat → FieldType := fun k => match k with
  | _ => .int
theorem nmJ3 : ∀ a, a < 0 → ∀ b, b < 0 → a ≠ b → (TJ3 a).2.1 ≠ (TJ3 b).2.1 := by decide +kernel
theorem tyJ3_ok : ∀ k, k < 0 → parseFieldDescriptor (TJ3 k).2.2.1 = some (tyJ3 k) := by decide +kernel
abbrev cJ3_checkFromToIndex_8c36e : ByteArray := prog_17_method_12_code
def yJ3_checkFromToIndex_8c36e : MethodName := ⟨RJ3, "checkFromToIndex", "(IIILjava/util/function/BiFunction;)I"⟩
def RL : String := "WhosePageLaw"
abbrev cL_law : ByteArray := code
def yL_law : MethodName := ⟨RL, "law", "([I)Z"⟩
abbrev vwCl : List vw_C := [(RX0, TX0, 7), (RX1, TX1, 11), (RX2, TX2, 5), (RX3, TX3, 5), (RX4, TX4, 8), (RX5, TX5, 3), (RX6, TX6, 9), (RX7, TX7, 24)]
end
section
theorem dX0_init_0 : decode cX0_init 0 = .ok (.aload_n 0, 1) := by decide +kernel
theorem dX0_init_1 : decode cX0_init 1 = .ok (.invokespecial 3, 3) := by decide +kernel
theorem dX0_init_4 : decode cX0_init 4 = .ok (.aload_n 0, 1) := by decide +kernel
theorem dX0_init_5 : decode cX0_init 5 = .ok (.new 9, 3) := by decide +kernel
theorem dX0_init_8 : decode cX0_init 8 = .ok (.dup, 1) := by decide +kernel
theorem dX0_init_9 : decode cX0_init 9 = .ok (.invokespecial 11, 3) := by decide +kernel
theorem dX0_init_12 : decode cX0_init 12 = .ok (.putfield 12, 3) := by decide +kernel
theorem dX0_init_15 : decode cX0_init 15 = .ok (.aload_n 0, 1) := by decide +kernel
theorem dX0_init_16 : decode cX0_init 16 = .ok (.new 18, 3) := by decide +kernel
theorem dX0_init_19 : decode cX0_init 19 = .ok (.dup, 1) := by decide +kernel
theorem dX0_init_20 : decode cX0_init 20 = .ok (.invokespecial 20, 3) := by decide +kernel
theorem dX0_init_23 : decode cX0_init 23 = .ok (.putfield 21, 3) := by decide +kernel
theorem dX0_init_26 : decode cX0_init 26 = .ok (.aload_n 0, 1) := by decide +kernel
theorem dX0_init_27 : decode cX0_init 27 = .ok (.bipush 100, 2) := by decide +kernel
theorem dX0_init_29 : decode cX0_init 29 = .ok (.newarray .int, 2) := by decide +kernel
theorem dX0_init_31 : decode cX0_init 31 = .ok (.putfield 25, 3) := by decide +kernel
theorem dX0_init_34 : decode cX0_init 34 = .ok (.aload_n 0, 1) := by decide +kernel
theorem dX0_init_35 : decode cX0_init 35 = .ok (.bipush 100, 2) := by decide +kernel
theorem dX0_init_37 : decode cX0_init 37 = .ok (.newarray .int, 2) := by decide +kernel
theorem dX0_init_39 : decode cX0_init 39 = .ok (.putfield 29, 3) := by decide +kernel
theorem dX0_init_42 : decode cX0_init 42 = .ok (.aload_n 0, 1) := by decide +kernel
theorem dX0_init_43 : decode cX0_init 43 = .ok (.iconst 0, 1) := by decide +kernel
theorem dX0_init_44 : decode cX0_init 44 = .ok (.putfield 32, 3) := by decide +kernel
theorem dX0_init_47 : decode cX0_init 47 = .ok (.aload_n 0, 1) := by decide +kernel
theorem dX0_init_48 : decode cX0_init 48 = .ok (.bipush 60, 2) := by decide +kernel
theorem dX0_init_50 : decode cX0_init 50 = .ok (.newarray .int, 2) := by decide +kernel
theorem dX0_init_52 : decode cX0_init 52 = .ok (.putfield 36, 3) := by decide +kernel
theorem dX0_init_55 : decode cX0_init 55 = .ok (.aload_n 0, 1) := by decide +kernel
theorem dX0_init_56 : decode cX0_init 56 = .ok (.bipush 60, 2) := by decide +kernel
theorem dX0_init_58 : decode cX0_init 58 = .ok (.newarray .int, 2) := by decide +kernel
theorem dX0_init_60 : decode cX0_init 60 = .ok (.putfield 39, 3) := by decide +kernel
theorem dX0_init_63 : decode cX0_init 63 = .ok (.return_, 1) := by decide +kernel
theorem dX0_begin_0 : decode cX0_begin 0 = .ok (.aload_n 0, 1) := by decide +kernel
theorem dX0_begin_1 : decode cX0_begin 1 = .ok (.getfield 12, 3) := by decide +kernel
theorem dX0_begin_4 : decode cX0_begin 4 = .ok (.aload_n 1, 1) := by decide +kernel
theorem dX0_begin_5 : decode cX0_begin 5 = .ok (.invokevirtual 42, 3) := by decide +kernel
theorem dX0_begin_8 : decode cX0_begin 8 = .ok (.aload_n 0, 1) := by decide +kernel
theorem dX0_begin_9 : decode cX0_begin 9 = .ok (.getfield 21, 3) := by decide +kernel
theorem dX0_begin_12 : decode cX0_begin 12 = .ok (.iconst 0, 1) := by decide +kernel
theorem dX0_begin_13 : decode cX0_begin 13 = .ok (.putfield 46, 3) := by decide +kernel
theorem dX0_begin_16 : decode cX0_begin 16 = .ok (.aload_n 0, 1) := by decide +kernel
theorem dX0_begin_17 : decode cX0_begin 17 = .ok (.iconst 0, 1) := by decide +kernel
theorem dX0_begin_18 : decode cX0_begin 18 = .ok (.putfield 32, 3) := by decide +kernel
theorem dX0_begin_21 : decode cX0_begin 21 = .ok (.aload_n 0, 1) := by decide +kernel
theorem dX0_begin_22 : decode cX0_begin 22 = .ok (.getfield 36, 3) := by decide +kernel
theorem dX0_begin_25 : decode cX0_begin 25 = .ok (.bipush (-9), 2) := by decide +kernel
theorem dX0_begin_27 : decode cX0_begin 27 = .ok (.invokestatic 49, 3) := by decide +kernel
theorem dX0_begin_30 : decode cX0_begin 30 = .ok (.aload_n 0, 1) := by decide +kernel
theorem dX0_begin_31 : decode cX0_begin 31 = .ok (.getfield 39, 3) := by decide +kernel
theorem dX0_begin_34 : decode cX0_begin 34 = .ok (.bipush (-9), 2) := by decide +kernel
theorem dX0_begin_36 : decode cX0_begin 36 = .ok (.invokestatic 49, 3) := by decide +kernel
theorem dX0_begin_39 : decode cX0_begin 39 = .ok (.return_, 1) := by decide +kernel
theorem dX0_passWhole_0 : decode cX0_passWhole 0 = .ok (.aload_n 0, 1) := by decide +kernel
theorem dX0_passWhole_1 : decode cX0_passWhole 1 = .ok (.aload_n 1, 1) := by decide +kernel
theorem dX0_passWhole_2 : decode cX0_passWhole 2 = .ok (.bipush 99, 2) := by decide +kernel
theorem dX0_passWhole_4 : decode cX0_passWhole 4 = .ok (.invokevirtual 55, 3) := by decide +kernel
theorem dX0_passWhole_7 : decode cX0_passWhole 7 = .ok (.return_, 1) := by decide +kernel
theorem dX0_passThrough_0 : decode cX0_passThrough 0 = .ok (.aload_n 0, 1) := by decide +kernel
theorem dX0_passThrough_1 : decode cX0_passThrough 1 = .ok (.aload_n 1, 1) := by decide +kernel
theorem dX0_passThrough_2 : decode cX0_passThrough 2 = .ok (.invokevirtual 59, 3) := by decide +kernel
theorem dX0_passThrough_5 : decode cX0_passThrough 5 = .ok (.iconst 0, 1) := by decide +kernel
theorem dX0_passThrough_6 : decode cX0_passThrough 6 = .ok (.istore_n 3, 1) := by decide +kernel
theorem dX0_passThrough_7 : decode cX0_passThrough 7 = .ok (.iload_n 3, 1) := by decide +kernel
theorem dX0_passThrough_8 : decode cX0_passThrough 8 = .ok (.iload_n 2, 1) := by decide +kernel
theorem dX0_passThrough_9 : decode cX0_passThrough 9 = .ok (.if_icmp .gt 15, 3) := by decide +kernel
theorem dX0_passThrough_12 : decode cX0_passThrough 12 = .ok (.aload_n 0, 1) := by decide +kernel
theorem dX0_passThrough_13 : decode cX0_passThrough 13 = .ok (.aload_n 1, 1) := by decide +kernel
theorem dX0_passThrough_14 : decode cX0_passThrough 14 = .ok (.iload_n 3, 1) := by decide +kernel
theorem dX0_passThrough_15 : decode cX0_passThrough 15 = .ok (.invokevirtual 60, 3) := by decide +kernel
theorem dX0_passThrough_18 : decode cX0_passThrough 18 = .ok (.iinc 3 1, 3) := by decide +kernel
theorem dX0_passThrough_21 : decode cX0_passThrough 21 = .ok (.goto (-14), 3) := by decide +kernel
theorem dX0_passThrough_24 : decode cX0_passThrough 24 = .ok (.return_, 1) := by decide +kernel
theorem dX0_passMinute_0 : decode cX0_passMinute 0 = .ok (.aload_n 0, 1) := by decide +kernel
theorem dX0_passMinute_1 : decode cX0_passMinute 1 = .ok (.getfield 12, 3) := by decide +kernel
theorem dX0_passMinute_4 : decode cX0_passMinute 4 = .ok (.aload_n 1, 1) := by decide +kernel
theorem dX0_passMinute_5 : decode cX0_passMinute 5 = .ok (.iload_n 2, 1) := by decide +kernel
theorem dX0_passMinute_6 : decode cX0_passMinute 6 = .ok (.invokevirtual 63, 3) := by decide +kernel
theorem dX0_passMinute_9 : decode cX0_passMinute 9 = .ok (.istore_n 3, 1) := by decide +kernel
theorem dX0_passMinute_10 : decode cX0_passMinute 10 = .ok (.aload_n 1, 1) := by decide +kernel
theorem dX0_passMinute_11 : decode cX0_passMinute 11 = .ok (.iload_n 3, 1) := by decide +kernel
theorem dX0_passMinute_12 : decode cX0_passMinute 12 = .ok (.invokevirtual 67, 3) := by decide +kernel
theorem dX0_passMinute_15 : decode cX0_passMinute 15 = .ok (.ifCond .eq 45, 3) := by decide +kernel
theorem dX0_passMinute_18 : decode cX0_passMinute 18 = .ok (.aload_n 0, 1) := by decide +kernel
theorem dX0_passMinute_19 : decode cX0_passMinute 19 = .ok (.getfield 32, 3) := by decide +kernel
theorem dX0_passMinute_22 : decode cX0_passMinute 22 = .ok (.bipush 100, 2) := by decide +kernel
theorem dX0_passMinute_24 : decode cX0_passMinute 24 = .ok (.if_icmp .ge 36, 3) := by decide +kernel
theorem dX0_passMinute_27 : decode cX0_passMinute 27 = .ok (.aload_n 0, 1) := by decide +kernel
theorem dX0_passMinute_28 : decode cX0_passMinute 28 = .ok (.iload_n 3, 1) := by decide +kernel
theorem dX0_passMinute_29 : decode cX0_passMinute 29 = .ok (.iload_n 2, 1) := by decide +kernel
theorem dX0_passMinute_30 : decode cX0_passMinute 30 = .ok (.invokevirtual 73, 3) := by decide +kernel
theorem dX0_passMinute_33 : decode cX0_passMinute 33 = .ok (.aload_n 1, 1) := by decide +kernel
theorem dX0_passMinute_34 : decode cX0_passMinute 34 = .ok (.getfield 77, 3) := by decide +kernel
theorem dX0_passMinute_37 : decode cX0_passMinute 37 = .ok (.iconst 3, 1) := by decide +kernel
theorem dX0_passMinute_38 : decode cX0_passMinute 38 = .ok (.if_icmp .ne 14, 3) := by decide +kernel
theorem dX0_passMinute_41 : decode cX0_passMinute 41 = .ok (.aload_n 0, 1) := by decide +kernel
theorem dX0_passMinute_42 : decode cX0_passMinute 42 = .ok (.getfield 21, 3) := by decide +kernel
theorem dX0_passMinute_45 : decode cX0_passMinute 45 = .ok (.iload_n 3, 1) := by decide +kernel
theorem dX0_passMinute_46 : decode cX0_passMinute 46 = .ok (.invokevirtual 80, 3) := by decide +kernel
theorem dX0_passMinute_49 : decode cX0_passMinute 49 = .ok (.goto 11, 3) := by decide +kernel
theorem dX0_passMinute_52 : decode cX0_passMinute 52 = .ok (.aload_n 0, 1) := by decide +kernel
theorem dX0_passMinute_53 : decode cX0_passMinute 53 = .ok (.getfield 21, 3) := by decide +kernel
theorem dX0_passMinute_56 : decode cX0_passMinute 56 = .ok (.iload_n 3, 1) := by decide +kernel
theorem dX0_passMinute_57 : decode cX0_passMinute 57 = .ok (.invokevirtual 84, 3) := by decide +kernel
theorem dX0_passMinute_60 : decode cX0_passMinute 60 = .ok (.iconst 0, 1) := by decide +kernel
theorem dX0_passMinute_61 : decode cX0_passMinute 61 = .ok (.istore 4, 2) := by decide +kernel
theorem dX0_passMinute_63 : decode cX0_passMinute 63 = .ok (.iload 4, 2) := by decide +kernel
theorem dX0_passMinute_65 : decode cX0_passMinute 65 = .ok (.aload_n 1, 1) := by decide +kernel
theorem dX0_passMinute_66 : decode cX0_passMinute 66 = .ok (.getfield 87, 3) := by decide +kernel
theorem dX0_passMinute_69 : decode cX0_passMinute 69 = .ok (.if_icmp .ge 34, 3) := by decide +kernel
theorem dX0_passMinute_72 : decode cX0_passMinute 72 = .ok (.aload_n 1, 1) := by decide +kernel
theorem dX0_passMinute_73 : decode cX0_passMinute 73 = .ok (.getfield 90, 3) := by decide +kernel
theorem dX0_passMinute_76 : decode cX0_passMinute 76 = .ok (.iload 4, 2) := by decide +kernel
theorem dX0_passMinute_78 : decode cX0_passMinute 78 = .ok (.iaload, 1) := by decide +kernel
theorem dX0_passMinute_79 : decode cX0_passMinute 79 = .ok (.iload_n 2, 1) := by decide +kernel
theorem dX0_passMinute_80 : decode cX0_passMinute 80 = .ok (.if_icmp .ne 17, 3) := by decide +kernel
theorem dX0_passMinute_83 : decode cX0_passMinute 83 = .ok (.aload_n 0, 1) := by decide +kernel
theorem dX0_passMinute_84 : decode cX0_passMinute 84 = .ok (.getfield 21, 3) := by decide +kernel
theorem dX0_passMinute_87 : decode cX0_passMinute 87 = .ok (.aload_n 1, 1) := by decide +kernel
theorem dX0_passMinute_88 : decode cX0_passMinute 88 = .ok (.iload 4, 2) := by decide +kernel
theorem dX0_passMinute_90 : decode cX0_passMinute 90 = .ok (.aload_n 0, 1) := by decide +kernel
theorem dX0_passMinute_91 : decode cX0_passMinute 91 = .ok (.getfield 39, 3) := by decide +kernel
theorem dX0_passMinute_94 : decode cX0_passMinute 94 = .ok (.invokevirtual 93, 3) := by decide +kernel
theorem dX0_passMinute_97 : decode cX0_passMinute 97 = .ok (.iinc 4 1, 3) := by decide +kernel
theorem dX0_passMinute_100 : decode cX0_passMinute 100 = .ok (.goto (-37), 3) := by decide +kernel
theorem dX0_passMinute_103 : decode cX0_passMinute 103 = .ok (.return_, 1) := by decide +kernel
theorem dX0_noteOut_0 : decode cX0_noteOut 0 = .ok (.aload_n 0, 1) := by decide +kernel
theorem dX0_noteOut_1 : decode cX0_noteOut 1 = .ok (.getfield 25, 3) := by decide +kernel
theorem dX0_noteOut_4 : decode cX0_noteOut 4 = .ok (.aload_n 0, 1) := by decide +kernel
theorem dX0_noteOut_5 : decode cX0_noteOut 5 = .ok (.getfield 32, 3) := by decide +kernel
theorem dX0_noteOut_8 : decode cX0_noteOut 8 = .ok (.iload_n 1, 1) := by decide +kernel
theorem dX0_noteOut_9 : decode cX0_noteOut 9 = .ok (.iastore, 1) := by decide +kernel
theorem dX0_noteOut_10 : decode cX0_noteOut 10 = .ok (.aload_n 0, 1) := by decide +kernel
theorem dX0_noteOut_11 : decode cX0_noteOut 11 = .ok (.getfield 29, 3) := by decide +kernel
theorem dX0_noteOut_14 : decode cX0_noteOut 14 = .ok (.aload_n 0, 1) := by decide +kernel
theorem dX0_noteOut_15 : decode cX0_noteOut 15 = .ok (.getfield 32, 3) := by decide +kernel
theorem dX0_noteOut_18 : decode cX0_noteOut 18 = .ok (.iload_n 2, 1) := by decide +kernel
theorem dX0_noteOut_19 : decode cX0_noteOut 19 = .ok (.iastore, 1) := by decide +kernel
theorem dX0_noteOut_20 : decode cX0_noteOut 20 = .ok (.aload_n 0, 1) := by decide +kernel
theorem dX0_noteOut_21 : decode cX0_noteOut 21 = .ok (.dup, 1) := by decide +kernel
theorem dX0_noteOut_22 : decode cX0_noteOut 22 = .ok (.getfield 32, 3) := by decide +kernel
theorem dX0_noteOut_25 : decode cX0_noteOut 25 = .ok (.iconst 1, 1) := by decide +kernel
theorem dX0_noteOut_26 : decode cX0_noteOut 26 = .ok (.iadd, 1) := by decide +kernel
theorem dX0_noteOut_27 : decode cX0_noteOut 27 = .ok (.putfield 32, 3) := by decide +kernel
theorem dX0_noteOut_30 : decode cX0_noteOut 30 = .ok (.aload_n 0, 1) := by decide +kernel
theorem dX0_noteOut_31 : decode cX0_noteOut 31 = .ok (.getfield 36, 3) := by decide +kernel
theorem dX0_noteOut_34 : decode cX0_noteOut 34 = .ok (.iload_n 1, 1) := by decide +kernel
theorem dX0_noteOut_35 : decode cX0_noteOut 35 = .ok (.iaload, 1) := by decide +kernel
theorem dX0_noteOut_36 : decode cX0_noteOut 36 = .ok (.bipush (-9), 2) := by decide +kernel
theorem dX0_noteOut_38 : decode cX0_noteOut 38 = .ok (.if_icmp .ne 10, 3) := by decide +kernel
theorem dX0_noteOut_41 : decode cX0_noteOut 41 = .ok (.aload_n 0, 1) := by decide +kernel
theorem dX0_noteOut_42 : decode cX0_noteOut 42 = .ok (.getfield 36, 3) := by decide +kernel
theorem dX0_noteOut_45 : decode cX0_noteOut 45 = .ok (.iload_n 1, 1) := by decide +kernel
theorem dX0_noteOut_46 : decode cX0_noteOut 46 = .ok (.iload_n 2, 1) := by decide +kernel
theorem dX0_noteOut_47 : decode cX0_noteOut 47 = .ok (.iastore, 1) := by decide +kernel
theorem dX0_noteOut_48 : decode cX0_noteOut 48 = .ok (.return_, 1) := by decide +kernel
theorem dX0_sheetOut_0 : decode cX0_sheetOut 0 = .ok (.iload_n 1, 1) := by decide +kernel
theorem dX0_sheetOut_1 : decode cX0_sheetOut 1 = .ok (.ifCond .lt 20, 3) := by decide +kernel
theorem dX0_sheetOut_4 : decode cX0_sheetOut 4 = .ok (.iload_n 1, 1) := by decide +kernel
theorem dX0_sheetOut_5 : decode cX0_sheetOut 5 = .ok (.aload_n 0, 1) := by decide +kernel
theorem dX0_sheetOut_6 : decode cX0_sheetOut 6 = .ok (.getfield 32, 3) := by decide +kernel
theorem dX0_sheetOut_9 : decode cX0_sheetOut 9 = .ok (.if_icmp .ge 12, 3) := by decide +kernel
theorem dX0_sheetOut_12 : decode cX0_sheetOut 12 = .ok (.aload_n 0, 1) := by decide +kernel
theorem dX0_sheetOut_13 : decode cX0_sheetOut 13 = .ok (.getfield 25, 3) := by decide +kernel
theorem dX0_sheetOut_16 : decode cX0_sheetOut 16 = .ok (.iload_n 1, 1) := by decide +kernel
theorem dX0_sheetOut_17 : decode cX0_sheetOut 17 = .ok (.iaload, 1) := by decide +kernel
theorem dX0_sheetOut_18 : decode cX0_sheetOut 18 = .ok (.goto 5, 3) := by decide +kernel
theorem dX0_sheetOut_21 : decode cX0_sheetOut 21 = .ok (.bipush (-9), 2) := by decide +kernel
theorem dX0_sheetOut_23 : decode cX0_sheetOut 23 = .ok (.ireturn, 1) := by decide +kernel
theorem dX0_minuteOut_0 : decode cX0_minuteOut 0 = .ok (.iload_n 1, 1) := by decide +kernel
theorem dX0_minuteOut_1 : decode cX0_minuteOut 1 = .ok (.ifCond .lt 20, 3) := by decide +kernel
theorem dX0_minuteOut_4 : decode cX0_minuteOut 4 = .ok (.iload_n 1, 1) := by decide +kernel
theorem dX0_minuteOut_5 : decode cX0_minuteOut 5 = .ok (.aload_n 0, 1) := by decide +kernel
theorem dX0_minuteOut_6 : decode cX0_minuteOut 6 = .ok (.getfield 32, 3) := by decide +kernel
theorem dX0_minuteOut_9 : decode cX0_minuteOut 9 = .ok (.if_icmp .ge 12, 3) := by decide +kernel
theorem dX0_minuteOut_12 : decode cX0_minuteOut 12 = .ok (.aload_n 0, 1) := by decide +kernel
theorem dX0_minuteOut_13 : decode cX0_minuteOut 13 = .ok (.getfield 29, 3) := by decide +kernel
theorem dX0_minuteOut_16 : decode cX0_minuteOut 16 = .ok (.iload_n 1, 1) := by decide +kernel
theorem dX0_minuteOut_17 : decode cX0_minuteOut 17 = .ok (.iaload, 1) := by decide +kernel
theorem dX0_minuteOut_18 : decode cX0_minuteOut 18 = .ok (.goto 5, 3) := by decide +kernel
theorem dX0_minuteOut_21 : decode cX0_minuteOut 21 = .ok (.bipush (-9), 2) := by decide +kernel
theorem dX0_minuteOut_23 : decode cX0_minuteOut 23 = .ok (.ireturn, 1) := by decide +kernel
theorem dX0_holderOf_0 : decode cX0_holderOf 0 = .ok (.iload_n 1, 1) := by decide +kernel
theorem dX0_holderOf_1 : decode cX0_holderOf 1 = .ok (.ifCond .lt 20, 3) := by decide +kernel
theorem dX0_holderOf_4 : decode cX0_holderOf 4 = .ok (.iload_n 1, 1) := by decide +kernel
theorem dX0_holderOf_5 : decode cX0_holderOf 5 = .ok (.bipush 60, 2) := by decide +kernel
theorem dX0_holderOf_7 : decode cX0_holderOf 7 = .ok (.if_icmp .ge 14, 3) := by decide +kernel
theorem dX0_holderOf_10 : decode cX0_holderOf 10 = .ok (.aload_n 0, 1) := by decide +kernel
theorem dX0_holderOf_11 : decode cX0_holderOf 11 = .ok (.getfield 36, 3) := by decide +kernel
theorem dX0_holderOf_14 : decode cX0_holderOf 14 = .ok (.iload_n 1, 1) := by decide +kernel
theorem dX0_holderOf_15 : decode cX0_holderOf 15 = .ok (.iaload, 1) := by decide +kernel
theorem dX0_holderOf_16 : decode cX0_holderOf 16 = .ok (.bipush (-9), 2) := by decide +kernel
theorem dX0_holderOf_18 : decode cX0_holderOf 18 = .ok (.if_icmp .ne 6, 3) := by decide +kernel
theorem dX0_holderOf_21 : decode cX0_holderOf 21 = .ok (.bipush (-8), 2) := by decide +kernel
theorem dX0_holderOf_23 : decode cX0_holderOf 23 = .ok (.ireturn, 1) := by decide +kernel
theorem dX0_holderOf_24 : decode cX0_holderOf 24 = .ok (.aload_n 0, 1) := by decide +kernel
theorem dX0_holderOf_25 : decode cX0_holderOf 25 = .ok (.getfield 39, 3) := by decide +kernel
theorem dX0_holderOf_28 : decode cX0_holderOf 28 = .ok (.iload_n 1, 1) := by decide +kernel
theorem dX0_holderOf_29 : decode cX0_holderOf 29 = .ok (.iaload, 1) := by decide +kernel
theorem dX0_holderOf_30 : decode cX0_holderOf 30 = .ok (.ireturn, 1) := by decide +kernel
theorem dX0_heldBy_0 : decode cX0_heldBy 0 = .ok (.iconst 0, 1) := by decide +kernel
theorem dX0_heldBy_1 : decode cX0_heldBy 1 = .ok (.istore 4, 2) := by decide +kernel
theorem dX0_heldBy_3 : decode cX0_heldBy 3 = .ok (.iconst 0, 1) := by decide +kernel
theorem dX0_heldBy_4 : decode cX0_heldBy 4 = .ok (.istore 5, 2) := by decide +kernel
theorem dX0_heldBy_6 : decode cX0_heldBy 6 = .ok (.iload 5, 2) := by decide +kernel
theorem dX0_heldBy_8 : decode cX0_heldBy 8 = .ok (.bipush 60, 2) := by decide +kernel
theorem dX0_heldBy_10 : decode cX0_heldBy 10 = .ok (.if_icmp .ge 34, 3) := by decide +kernel
theorem dX0_heldBy_13 : decode cX0_heldBy 13 = .ok (.aload_n 0, 1) := by decide +kernel
theorem dX0_heldBy_14 : decode cX0_heldBy 14 = .ok (.getfield 39, 3) := by decide +kernel
theorem dX0_heldBy_17 : decode cX0_heldBy 17 = .ok (.iload 5, 2) := by decide +kernel
theorem dX0_heldBy_19 : decode cX0_heldBy 19 = .ok (.iaload, 1) := by decide +kernel
theorem dX0_heldBy_20 : decode cX0_heldBy 20 = .ok (.iload_n 2, 1) := by decide +kernel
theorem dX0_heldBy_21 : decode cX0_heldBy 21 = .ok (.if_icmp .ne 17, 3) := by decide +kernel
theorem dX0_heldBy_24 : decode cX0_heldBy 24 = .ok (.aload_n 1, 1) := by decide +kernel
theorem dX0_heldBy_25 : decode cX0_heldBy 25 = .ok (.iload 5, 2) := by decide +kernel
theorem dX0_heldBy_27 : decode cX0_heldBy 27 = .ok (.iload_n 2, 1) := by decide +kernel
theorem dX0_heldBy_28 : decode cX0_heldBy 28 = .ok (.invokevirtual 97, 3) := by decide +kernel
theorem dX0_heldBy_31 : decode cX0_heldBy 31 = .ok (.iload_n 3, 1) := by decide +kernel
theorem dX0_heldBy_32 : decode cX0_heldBy 32 = .ok (.if_icmp .ne 6, 3) := by decide +kernel
theorem dX0_heldBy_35 : decode cX0_heldBy 35 = .ok (.iinc 4 1, 3) := by decide +kernel
theorem dX0_heldBy_38 : decode cX0_heldBy 38 = .ok (.iinc 5 1, 3) := by decide +kernel
theorem dX0_heldBy_41 : decode cX0_heldBy 41 = .ok (.goto (-35), 3) := by decide +kernel
theorem dX0_heldBy_44 : decode cX0_heldBy 44 = .ok (.iload 4, 2) := by decide +kernel
theorem dX0_heldBy_46 : decode cX0_heldBy 46 = .ok (.ireturn, 1) := by decide +kernel
theorem dX0_othersWith_0 : decode cX0_othersWith 0 = .ok (.iconst 0, 1) := by decide +kernel
theorem dX0_othersWith_1 : decode cX0_othersWith 1 = .ok (.istore_n 3, 1) := by decide +kernel
theorem dX0_othersWith_2 : decode cX0_othersWith 2 = .ok (.iconst 0, 1) := by decide +kernel
theorem dX0_othersWith_3 : decode cX0_othersWith 3 = .ok (.istore 4, 2) := by decide +kernel
theorem dX0_othersWith_5 : decode cX0_othersWith 5 = .ok (.iload 4, 2) := by decide +kernel
theorem dX0_othersWith_7 : decode cX0_othersWith 7 = .ok (.bipush 60, 2) := by decide +kernel
theorem dX0_othersWith_9 : decode cX0_othersWith 9 = .ok (.if_icmp .ge 46, 3) := by decide +kernel
theorem dX0_othersWith_12 : decode cX0_othersWith 12 = .ok (.aload_n 0, 1) := by decide +kernel
theorem dX0_othersWith_13 : decode cX0_othersWith 13 = .ok (.getfield 39, 3) := by decide +kernel
theorem dX0_othersWith_16 : decode cX0_othersWith 16 = .ok (.iload 4, 2) := by decide +kernel
theorem dX0_othersWith_18 : decode cX0_othersWith 18 = .ok (.iaload, 1) := by decide +kernel
theorem dX0_othersWith_19 : decode cX0_othersWith 19 = .ok (.istore 5, 2) := by decide +kernel
theorem dX0_othersWith_21 : decode cX0_othersWith 21 = .ok (.iload 5, 2) := by decide +kernel
theorem dX0_othersWith_23 : decode cX0_othersWith 23 = .ok (.ifCond .lt 26, 3) := by decide +kernel
theorem dX0_othersWith_26 : decode cX0_othersWith 26 = .ok (.iload 5, 2) := by decide +kernel
theorem dX0_othersWith_28 : decode cX0_othersWith 28 = .ok (.iload_n 2, 1) := by decide +kernel
theorem dX0_othersWith_29 : decode cX0_othersWith 29 = .ok (.if_icmp .eq 20, 3) := by decide +kernel
theorem dX0_othersWith_32 : decode cX0_othersWith 32 = .ok (.aload_n 1, 1) := by decide +kernel
theorem dX0_othersWith_33 : decode cX0_othersWith 33 = .ok (.iload 4, 2) := by decide +kernel
theorem dX0_othersWith_35 : decode cX0_othersWith 35 = .ok (.iload_n 2, 1) := by decide +kernel
theorem dX0_othersWith_36 : decode cX0_othersWith 36 = .ok (.invokevirtual 97, 3) := by decide +kernel
theorem dX0_othersWith_39 : decode cX0_othersWith 39 = .ok (.ifCond .eq 10, 3) := by decide +kernel
theorem dX0_othersWith_42 : decode cX0_othersWith 42 = .ok (.iload_n 3, 1) := by decide +kernel
theorem dX0_othersWith_43 : decode cX0_othersWith 43 = .ok (.iconst 1, 1) := by decide +kernel
theorem dX0_othersWith_44 : decode cX0_othersWith 44 = .ok (.iload 5, 2) := by decide +kernel
theorem dX0_othersWith_46 : decode cX0_othersWith 46 = .ok (.ishl, 1) := by decide +kernel
theorem dX0_othersWith_47 : decode cX0_othersWith 47 = .ok (.ior, 1) := by decide +kernel
theorem dX0_othersWith_48 : decode cX0_othersWith 48 = .ok (.istore_n 3, 1) := by decide +kernel
theorem dX0_othersWith_49 : decode cX0_othersWith 49 = .ok (.iinc 4 1, 3) := by decide +kernel
theorem dX0_othersWith_52 : decode cX0_othersWith 52 = .ok (.goto (-47), 3) := by decide +kernel
theorem dX0_othersWith_55 : decode cX0_othersWith 55 = .ok (.iload_n 3, 1) := by decide +kernel
theorem dX0_othersWith_56 : decode cX0_othersWith 56 = .ok (.ireturn, 1) := by decide +kernel
theorem dX0_lastFirstOut_0 : decode cX0_lastFirstOut 0 = .ok (.bipush (-9), 2) := by decide +kernel
theorem dX0_lastFirstOut_2 : decode cX0_lastFirstOut 2 = .ok (.istore_n 3, 1) := by decide +kernel
theorem dX0_lastFirstOut_3 : decode cX0_lastFirstOut 3 = .ok (.iconst 0, 1) := by decide +kernel
theorem dX0_lastFirstOut_4 : decode cX0_lastFirstOut 4 = .ok (.istore 4, 2) := by decide +kernel
theorem dX0_lastFirstOut_6 : decode cX0_lastFirstOut 6 = .ok (.iload 4, 2) := by decide +kernel
theorem dX0_lastFirstOut_8 : decode cX0_lastFirstOut 8 = .ok (.bipush 60, 2) := by decide +kernel
theorem dX0_lastFirstOut_10 : decode cX0_lastFirstOut 10 = .ok (.if_icmp .ge 46, 3) := by decide +kernel
theorem dX0_lastFirstOut_13 : decode cX0_lastFirstOut 13 = .ok (.aload_n 1, 1) := by decide +kernel
theorem dX0_lastFirstOut_14 : decode cX0_lastFirstOut 14 = .ok (.iload 4, 2) := by decide +kernel
theorem dX0_lastFirstOut_16 : decode cX0_lastFirstOut 16 = .ok (.iload_n 2, 1) := by decide +kernel
theorem dX0_lastFirstOut_17 : decode cX0_lastFirstOut 17 = .ok (.invokevirtual 97, 3) := by decide +kernel
theorem dX0_lastFirstOut_20 : decode cX0_lastFirstOut 20 = .ok (.ifCond .eq 30, 3) := by decide +kernel
theorem dX0_lastFirstOut_23 : decode cX0_lastFirstOut 23 = .ok (.aload_n 0, 1) := by decide +kernel
theorem dX0_lastFirstOut_24 : decode cX0_lastFirstOut 24 = .ok (.getfield 36, 3) := by decide +kernel
theorem dX0_lastFirstOut_27 : decode cX0_lastFirstOut 27 = .ok (.iload 4, 2) := by decide +kernel
theorem dX0_lastFirstOut_29 : decode cX0_lastFirstOut 29 = .ok (.iaload, 1) := by decide +kernel
theorem dX0_lastFirstOut_30 : decode cX0_lastFirstOut 30 = .ok (.bipush (-9), 2) := by decide +kernel
theorem dX0_lastFirstOut_32 : decode cX0_lastFirstOut 32 = .ok (.if_icmp .ne 6, 3) := by decide +kernel
theorem dX0_lastFirstOut_35 : decode cX0_lastFirstOut 35 = .ok (.bipush (-9), 2) := by decide +kernel
theorem dX0_lastFirstOut_37 : decode cX0_lastFirstOut 37 = .ok (.ireturn, 1) := by decide +kernel
theorem dX0_lastFirstOut_38 : decode cX0_lastFirstOut 38 = .ok (.iload_n 3, 1) := by decide +kernel
theorem dX0_lastFirstOut_39 : decode cX0_lastFirstOut 39 = .ok (.aload_n 0, 1) := by decide +kernel
theorem dX0_lastFirstOut_40 : decode cX0_lastFirstOut 40 = .ok (.getfield 36, 3) := by decide +kernel
theorem dX0_lastFirstOut_43 : decode cX0_lastFirstOut 43 = .ok (.iload 4, 2) := by decide +kernel
theorem dX0_lastFirstOut_45 : decode cX0_lastFirstOut 45 = .ok (.iaload, 1) := by decide +kernel
theorem dX0_lastFirstOut_46 : decode cX0_lastFirstOut 46 = .ok (.invokestatic 101, 3) := by decide +kernel
theorem dX0_lastFirstOut_49 : decode cX0_lastFirstOut 49 = .ok (.istore_n 3, 1) := by decide +kernel
theorem dX0_lastFirstOut_50 : decode cX0_lastFirstOut 50 = .ok (.iinc 4 1, 3) := by decide +kernel
theorem dX0_lastFirstOut_53 : decode cX0_lastFirstOut 53 = .ok (.goto (-47), 3) := by decide +kernel
theorem dX0_lastFirstOut_56 : decode cX0_lastFirstOut 56 = .ok (.iload_n 3, 1) := by decide +kernel
theorem dX0_lastFirstOut_57 : decode cX0_lastFirstOut 57 = .ok (.ireturn, 1) := by decide +kernel
theorem dX1_init_0 : decode cX1_init 0 = .ok (.aload_n 0, 1) := by decide +kernel
theorem dX1_init_1 : decode cX1_init 1 = .ok (.invokespecial 3, 3) := by decide +kernel
theorem dX1_init_4 : decode cX1_init 4 = .ok (.aload_n 0, 1) := by decide +kernel
theorem dX1_init_5 : decode cX1_init 5 = .ok (.bipush 6, 2) := by decide +kernel
theorem dX1_init_7 : decode cX1_init 7 = .ok (.newarray .int, 2) := by decide +kernel
theorem dX1_init_9 : decode cX1_init 9 = .ok (.putfield 9, 3) := by decide +kernel
theorem dX1_init_12 : decode cX1_init 12 = .ok (.aload_n 0, 1) := by decide +kernel
theorem dX1_init_13 : decode cX1_init 13 = .ok (.bipush 6, 2) := by decide +kernel
theorem dX1_init_15 : decode cX1_init 15 = .ok (.newarray .int, 2) := by decide +kernel
theorem dX1_init_17 : decode cX1_init 17 = .ok (.putfield 15, 3) := by decide +kernel
theorem dX1_init_20 : decode cX1_init 20 = .ok (.aload_n 0, 1) := by decide +kernel
theorem dX1_init_21 : decode cX1_init 21 = .ok (.bipush 6, 2) := by decide +kernel
theorem dX1_init_23 : decode cX1_init 23 = .ok (.newarray .int, 2) := by decide +kernel
theorem dX1_init_25 : decode cX1_init 25 = .ok (.putfield 18, 3) := by decide +kernel
theorem dX1_init_28 : decode cX1_init 28 = .ok (.aload_n 0, 1) := by decide +kernel
theorem dX1_init_29 : decode cX1_init 29 = .ok (.bipush 6, 2) := by decide +kernel
theorem dX1_init_31 : decode cX1_init 31 = .ok (.newarray .int, 2) := by decide +kernel
theorem dX1_init_33 : decode cX1_init 33 = .ok (.putfield 21, 3) := by decide +kernel
theorem dX1_init_36 : decode cX1_init 36 = .ok (.aload_n 0, 1) := by decide +kernel
theorem dX1_init_37 : decode cX1_init 37 = .ok (.bipush 6, 2) := by decide +kernel
theorem dX1_init_39 : decode cX1_init 39 = .ok (.newarray .int, 2) := by decide +kernel
theorem dX1_init_41 : decode cX1_init 41 = .ok (.putfield 24, 3) := by decide +kernel
theorem dX1_init_44 : decode cX1_init 44 = .ok (.aload_n 0, 1) := by decide +kernel
theorem dX1_init_45 : decode cX1_init 45 = .ok (.bipush 6, 2) := by decide +kernel
theorem dX1_init_47 : decode cX1_init 47 = .ok (.newarray .int, 2) := by decide +kernel
theorem dX1_init_49 : decode cX1_init 49 = .ok (.putfield 27, 3) := by decide +kernel
theorem dX1_init_52 : decode cX1_init 52 = .ok (.aload_n 0, 1) := by decide +kernel
theorem dX1_init_53 : decode cX1_init 53 = .ok (.bipush 6, 2) := by decide +kernel
theorem dX1_init_55 : decode cX1_init 55 = .ok (.newarray .int, 2) := by decide +kernel
theorem dX1_init_57 : decode cX1_init 57 = .ok (.putfield 30, 3) := by decide +kernel
theorem dX1_init_60 : decode cX1_init 60 = .ok (.aload_n 0, 1) := by decide +kernel
theorem dX1_init_61 : decode cX1_init 61 = .ok (.iconst 0, 1) := by decide +kernel
theorem dX1_init_62 : decode cX1_init 62 = .ok (.putfield 33, 3) := by decide +kernel
theorem dX1_init_65 : decode cX1_init 65 = .ok (.aload_n 0, 1) := by decide +kernel
theorem dX1_init_66 : decode cX1_init 66 = .ok (.iconst 0, 1) := by decide +kernel
theorem dX1_init_67 : decode cX1_init 67 = .ok (.putfield 37, 3) := by decide +kernel
theorem dX1_init_70 : decode cX1_init 70 = .ok (.aload_n 0, 1) := by decide +kernel
theorem dX1_init_71 : decode cX1_init 71 = .ok (.iconst 0, 1) := by decide +kernel
theorem dX1_init_72 : decode cX1_init 72 = .ok (.putfield 40, 3) := by decide +kernel
theorem dX1_init_75 : decode cX1_init 75 = .ok (.aload_n 0, 1) := by decide +kernel
theorem dX1_init_76 : decode cX1_init 76 = .ok (.iconst 0, 1) := by decide +kernel
theorem dX1_init_77 : decode cX1_init 77 = .ok (.putfield 43, 3) := by decide +kernel
theorem dX1_init_80 : decode cX1_init 80 = .ok (.return_, 1) := by decide +kernel
theorem dX1_hasJob_0 : decode cX1_hasJob 0 = .ok (.iload_n 1, 1) := by decide +kernel
theorem dX1_hasJob_1 : decode cX1_hasJob 1 = .ok (.ifCond .lt 15, 3) := by decide +kernel
theorem dX1_hasJob_4 : decode cX1_hasJob 4 = .ok (.iload_n 1, 1) := by decide +kernel
theorem dX1_hasJob_5 : decode cX1_hasJob 5 = .ok (.aload_n 0, 1) := by decide +kernel
theorem dX1_hasJob_6 : decode cX1_hasJob 6 = .ok (.getfield 33, 3) := by decide +kernel
theorem dX1_hasJob_9 : decode cX1_hasJob 9 = .ok (.if_icmp .ge 7, 3) := by decide +kernel
theorem dX1_hasJob_12 : decode cX1_hasJob 12 = .ok (.iconst 1, 1) := by decide +kernel
theorem dX1_hasJob_13 : decode cX1_hasJob 13 = .ok (.goto 4, 3) := by decide +kernel
theorem dX1_hasJob_16 : decode cX1_hasJob 16 = .ok (.iconst 0, 1) := by decide +kernel
theorem dX1_hasJob_17 : decode cX1_hasJob 17 = .ok (.ireturn, 1) := by decide +kernel
theorem dX1_hasTaker_0 : decode cX1_hasTaker 0 = .ok (.iload_n 1, 1) := by decide +kernel
theorem dX1_hasTaker_1 : decode cX1_hasTaker 1 = .ok (.ifCond .lt 15, 3) := by decide +kernel
theorem dX1_hasTaker_4 : decode cX1_hasTaker 4 = .ok (.iload_n 1, 1) := by decide +kernel
theorem dX1_hasTaker_5 : decode cX1_hasTaker 5 = .ok (.aload_n 0, 1) := by decide +kernel
theorem dX1_hasTaker_6 : decode cX1_hasTaker 6 = .ok (.getfield 37, 3) := by decide +kernel
theorem dX1_hasTaker_9 : decode cX1_hasTaker 9 = .ok (.if_icmp .ge 7, 3) := by decide +kernel
theorem dX1_hasTaker_12 : decode cX1_hasTaker 12 = .ok (.iconst 1, 1) := by decide +kernel
theorem dX1_hasTaker_13 : decode cX1_hasTaker 13 = .ok (.goto 4, 3) := by decide +kernel
theorem dX1_hasTaker_16 : decode cX1_hasTaker 16 = .ok (.iconst 0, 1) := by decide +kernel
theorem dX1_hasTaker_17 : decode cX1_hasTaker 17 = .ok (.ireturn, 1) := by decide +kernel
theorem dX1_hasSheet_0 : decode cX1_hasSheet 0 = .ok (.iload_n 1, 1) := by decide +kernel
theorem dX1_hasSheet_1 : decode cX1_hasSheet 1 = .ok (.ifCond .lt 14, 3) := by decide +kernel
theorem dX1_hasSheet_4 : decode cX1_hasSheet 4 = .ok (.aload_n 0, 1) := by decide +kernel
theorem dX1_hasSheet_5 : decode cX1_hasSheet 5 = .ok (.iload_n 1, 1) := by decide +kernel
theorem dX1_hasSheet_6 : decode cX1_hasSheet 6 = .ok (.bipush 10, 2) := by decide +kernel
theorem dX1_hasSheet_8 : decode cX1_hasSheet 8 = .ok (.idiv, 1) := by decide +kernel
theorem dX1_hasSheet_9 : decode cX1_hasSheet 9 = .ok (.invokevirtual 46, 3) := by decide +kernel
theorem dX1_hasSheet_12 : decode cX1_hasSheet 12 = .ok (.ifCond .ne 5, 3) := by decide +kernel
theorem dX1_hasSheet_15 : decode cX1_hasSheet 15 = .ok (.iconst 0, 1) := by decide +kernel
theorem dX1_hasSheet_16 : decode cX1_hasSheet 16 = .ok (.ireturn, 1) := by decide +kernel
theorem dX1_hasSheet_17 : decode cX1_hasSheet 17 = .ok (.iload_n 1, 1) := by decide +kernel
theorem dX1_hasSheet_18 : decode cX1_hasSheet 18 = .ok (.bipush 10, 2) := by decide +kernel
theorem dX1_hasSheet_20 : decode cX1_hasSheet 20 = .ok (.irem, 1) := by decide +kernel
theorem dX1_hasSheet_21 : decode cX1_hasSheet 21 = .ok (.istore_n 2, 1) := by decide +kernel
theorem dX1_hasSheet_22 : decode cX1_hasSheet 22 = .ok (.iload_n 2, 1) := by decide +kernel
theorem dX1_hasSheet_23 : decode cX1_hasSheet 23 = .ok (.iconst 1, 1) := by decide +kernel
theorem dX1_hasSheet_24 : decode cX1_hasSheet 24 = .ok (.if_icmp .lt 20, 3) := by decide +kernel
theorem dX1_hasSheet_27 : decode cX1_hasSheet 27 = .ok (.iload_n 2, 1) := by decide +kernel
theorem dX1_hasSheet_28 : decode cX1_hasSheet 28 = .ok (.aload_n 0, 1) := by decide +kernel
theorem dX1_hasSheet_29 : decode cX1_hasSheet 29 = .ok (.getfield 15, 3) := by decide +kernel
theorem dX1_hasSheet_32 : decode cX1_hasSheet 32 = .ok (.iload_n 1, 1) := by decide +kernel
theorem dX1_hasSheet_33 : decode cX1_hasSheet 33 = .ok (.bipush 10, 2) := by decide +kernel
theorem dX1_hasSheet_35 : decode cX1_hasSheet 35 = .ok (.idiv, 1) := by decide +kernel
theorem dX1_hasSheet_36 : decode cX1_hasSheet 36 = .ok (.iaload, 1) := by decide +kernel
theorem dX1_hasSheet_37 : decode cX1_hasSheet 37 = .ok (.if_icmp .gt 7, 3) := by decide +kernel
theorem dX1_hasSheet_40 : decode cX1_hasSheet 40 = .ok (.iconst 1, 1) := by decide +kernel
theorem dX1_hasSheet_41 : decode cX1_hasSheet 41 = .ok (.goto 4, 3) := by decide +kernel
theorem dX1_hasSheet_44 : decode cX1_hasSheet 44 = .ok (.iconst 0, 1) := by decide +kernel
theorem dX1_hasSheet_45 : decode cX1_hasSheet 45 = .ok (.ireturn, 1) := by decide +kernel
theorem dX1_isOf_0 : decode cX1_isOf 0 = .ok (.aload_n 0, 1) := by decide +kernel
theorem dX1_isOf_1 : decode cX1_isOf 1 = .ok (.iload_n 1, 1) := by decide +kernel
theorem dX1_isOf_2 : decode cX1_isOf 2 = .ok (.invokevirtual 50, 3) := by decide +kernel
theorem dX1_isOf_5 : decode cX1_isOf 5 = .ok (.ifCond .eq 20, 3) := by decide +kernel
theorem dX1_isOf_8 : decode cX1_isOf 8 = .ok (.aload_n 0, 1) := by decide +kernel
theorem dX1_isOf_9 : decode cX1_isOf 9 = .ok (.getfield 9, 3) := by decide +kernel
theorem dX1_isOf_12 : decode cX1_isOf 12 = .ok (.iload_n 1, 1) := by decide +kernel
theorem dX1_isOf_13 : decode cX1_isOf 13 = .ok (.bipush 10, 2) := by decide +kernel
theorem dX1_isOf_15 : decode cX1_isOf 15 = .ok (.idiv, 1) := by decide +kernel
theorem dX1_isOf_16 : decode cX1_isOf 16 = .ok (.iaload, 1) := by decide +kernel
theorem dX1_isOf_17 : decode cX1_isOf 17 = .ok (.iload_n 2, 1) := by decide +kernel
theorem dX1_isOf_18 : decode cX1_isOf 18 = .ok (.if_icmp .ne 7, 3) := by decide +kernel
theorem dX1_isOf_21 : decode cX1_isOf 21 = .ok (.iconst 1, 1) := by decide +kernel
theorem dX1_isOf_22 : decode cX1_isOf 22 = .ok (.goto 4, 3) := by decide +kernel
theorem dX1_isOf_25 : decode cX1_isOf 25 = .ok (.iconst 0, 1) := by decide +kernel
theorem dX1_isOf_26 : decode cX1_isOf 26 = .ok (.ireturn, 1) := by decide +kernel
theorem dX1_addJob_0 : decode cX1_addJob 0 = .ok (.iload_n 1, 1) := by decide +kernel
theorem dX1_addJob_1 : decode cX1_addJob 1 = .ok (.invokestatic 53, 3) := by decide +kernel
theorem dX1_addJob_4 : decode cX1_addJob 4 = .ok (.ifCond .eq 28, 3) := by decide +kernel
theorem dX1_addJob_7 : decode cX1_addJob 7 = .ok (.iload_n 2, 1) := by decide +kernel
theorem dX1_addJob_8 : decode cX1_addJob 8 = .ok (.iconst 1, 1) := by decide +kernel
theorem dX1_addJob_9 : decode cX1_addJob 9 = .ok (.if_icmp .lt 23, 3) := by decide +kernel
theorem dX1_addJob_12 : decode cX1_addJob 12 = .ok (.iload_n 2, 1) := by decide +kernel
theorem dX1_addJob_13 : decode cX1_addJob 13 = .ok (.bipush 9, 2) := by decide +kernel
theorem dX1_addJob_15 : decode cX1_addJob 15 = .ok (.if_icmp .gt 17, 3) := by decide +kernel
theorem dX1_addJob_18 : decode cX1_addJob 18 = .ok (.iload_n 3, 1) := by decide +kernel
theorem dX1_addJob_19 : decode cX1_addJob 19 = .ok (.ifCond .lt 13, 3) := by decide +kernel
theorem dX1_addJob_22 : decode cX1_addJob 22 = .ok (.iload_n 3, 1) := by decide +kernel
theorem dX1_addJob_23 : decode cX1_addJob 23 = .ok (.bipush 60, 2) := by decide +kernel
theorem dX1_addJob_25 : decode cX1_addJob 25 = .ok (.if_icmp .ge 7, 3) := by decide +kernel
theorem dX1_addJob_28 : decode cX1_addJob 28 = .ok (.iconst 1, 1) := by decide +kernel
theorem dX1_addJob_29 : decode cX1_addJob 29 = .ok (.goto 4, 3) := by decide +kernel
theorem dX1_addJob_32 : decode cX1_addJob 32 = .ok (.iconst 0, 1) := by decide +kernel
theorem dX1_addJob_33 : decode cX1_addJob 33 = .ok (.istore 4, 2) := by decide +kernel
theorem dX1_addJob_35 : decode cX1_addJob 35 = .ok (.iload 4, 2) := by decide +kernel
theorem dX1_addJob_37 : decode cX1_addJob 37 = .ok (.ifCond .eq 12, 3) := by decide +kernel
theorem dX1_addJob_40 : decode cX1_addJob 40 = .ok (.aload_n 0, 1) := by decide +kernel
theorem dX1_addJob_41 : decode cX1_addJob 41 = .ok (.getfield 33, 3) := by decide +kernel
theorem dX1_addJob_44 : decode cX1_addJob 44 = .ok (.bipush 6, 2) := by decide +kernel
theorem dX1_addJob_46 : decode cX1_addJob 46 = .ok (.if_icmp .lt 5, 3) := by decide +kernel
theorem dX1_addJob_49 : decode cX1_addJob 49 = .ok (.iconst 0, 1) := by decide +kernel
theorem dX1_addJob_50 : decode cX1_addJob 50 = .ok (.ireturn, 1) := by decide +kernel
theorem dX1_addJob_51 : decode cX1_addJob 51 = .ok (.aload_n 0, 1) := by decide +kernel
theorem dX1_addJob_52 : decode cX1_addJob 52 = .ok (.getfield 9, 3) := by decide +kernel
theorem dX1_addJob_55 : decode cX1_addJob 55 = .ok (.aload_n 0, 1) := by decide +kernel
theorem dX1_addJob_56 : decode cX1_addJob 56 = .ok (.getfield 33, 3) := by decide +kernel
theorem dX1_addJob_59 : decode cX1_addJob 59 = .ok (.iload_n 1, 1) := by decide +kernel
theorem dX1_addJob_60 : decode cX1_addJob 60 = .ok (.iastore, 1) := by decide +kernel
theorem dX1_addJob_61 : decode cX1_addJob 61 = .ok (.aload_n 0, 1) := by decide +kernel
theorem dX1_addJob_62 : decode cX1_addJob 62 = .ok (.getfield 15, 3) := by decide +kernel
theorem dX1_addJob_65 : decode cX1_addJob 65 = .ok (.aload_n 0, 1) := by decide +kernel
theorem dX1_addJob_66 : decode cX1_addJob 66 = .ok (.getfield 33, 3) := by decide +kernel
theorem dX1_addJob_69 : decode cX1_addJob 69 = .ok (.iload_n 2, 1) := by decide +kernel
theorem dX1_addJob_70 : decode cX1_addJob 70 = .ok (.iastore, 1) := by decide +kernel
theorem dX1_addJob_71 : decode cX1_addJob 71 = .ok (.aload_n 0, 1) := by decide +kernel
theorem dX1_addJob_72 : decode cX1_addJob 72 = .ok (.getfield 18, 3) := by decide +kernel
theorem dX1_addJob_75 : decode cX1_addJob 75 = .ok (.aload_n 0, 1) := by decide +kernel
theorem dX1_addJob_76 : decode cX1_addJob 76 = .ok (.getfield 33, 3) := by decide +kernel
theorem dX1_addJob_79 : decode cX1_addJob 79 = .ok (.iload_n 3, 1) := by decide +kernel
theorem dX1_addJob_80 : decode cX1_addJob 80 = .ok (.iastore, 1) := by decide +kernel
theorem dX1_addJob_81 : decode cX1_addJob 81 = .ok (.aload_n 0, 1) := by decide +kernel
theorem dX1_addJob_82 : decode cX1_addJob 82 = .ok (.dup, 1) := by decide +kernel
theorem dX1_addJob_83 : decode cX1_addJob 83 = .ok (.getfield 33, 3) := by decide +kernel
theorem dX1_addJob_86 : decode cX1_addJob 86 = .ok (.iconst 1, 1) := by decide +kernel
theorem dX1_addJob_87 : decode cX1_addJob 87 = .ok (.iadd, 1) := by decide +kernel
theorem dX1_addJob_88 : decode cX1_addJob 88 = .ok (.putfield 33, 3) := by decide +kernel
theorem dX1_addJob_91 : decode cX1_addJob 91 = .ok (.iconst 1, 1) := by decide +kernel
theorem dX1_addJob_92 : decode cX1_addJob 92 = .ok (.ireturn, 1) := by decide +kernel
theorem dX1_addTaker_0 : decode cX1_addTaker 0 = .ok (.iload_n 2, 1) := by decide +kernel
theorem dX1_addTaker_1 : decode cX1_addTaker 1 = .ok (.invokestatic 53, 3) := by decide +kernel
theorem dX1_addTaker_4 : decode cX1_addTaker 4 = .ok (.ifCond .eq 19, 3) := by decide +kernel
theorem dX1_addTaker_7 : decode cX1_addTaker 7 = .ok (.iload 4, 2) := by decide +kernel
theorem dX1_addTaker_9 : decode cX1_addTaker 9 = .ok (.ifCond .lt 14, 3) := by decide +kernel
theorem dX1_addTaker_12 : decode cX1_addTaker 12 = .ok (.iload 4, 2) := by decide +kernel
theorem dX1_addTaker_14 : decode cX1_addTaker 14 = .ok (.bipush 100, 2) := by decide +kernel
theorem dX1_addTaker_16 : decode cX1_addTaker 16 = .ok (.if_icmp .ge 7, 3) := by decide +kernel
theorem dX1_addTaker_19 : decode cX1_addTaker 19 = .ok (.iconst 1, 1) := by decide +kernel
theorem dX1_addTaker_20 : decode cX1_addTaker 20 = .ok (.goto 4, 3) := by decide +kernel
theorem dX1_addTaker_23 : decode cX1_addTaker 23 = .ok (.iconst 0, 1) := by decide +kernel
theorem dX1_addTaker_24 : decode cX1_addTaker 24 = .ok (.istore 5, 2) := by decide +kernel
theorem dX1_addTaker_26 : decode cX1_addTaker 26 = .ok (.iload 5, 2) := by decide +kernel
theorem dX1_addTaker_28 : decode cX1_addTaker 28 = .ok (.ifCond .eq 12, 3) := by decide +kernel
theorem dX1_addTaker_31 : decode cX1_addTaker 31 = .ok (.aload_n 0, 1) := by decide +kernel
theorem dX1_addTaker_32 : decode cX1_addTaker 32 = .ok (.getfield 37, 3) := by decide +kernel
theorem dX1_addTaker_35 : decode cX1_addTaker 35 = .ok (.bipush 6, 2) := by decide +kernel
theorem dX1_addTaker_37 : decode cX1_addTaker 37 = .ok (.if_icmp .lt 5, 3) := by decide +kernel
theorem dX1_addTaker_40 : decode cX1_addTaker 40 = .ok (.iconst 0, 1) := by decide +kernel
theorem dX1_addTaker_41 : decode cX1_addTaker 41 = .ok (.ireturn, 1) := by decide +kernel
theorem dX1_addTaker_42 : decode cX1_addTaker 42 = .ok (.aload_n 0, 1) := by decide +kernel
theorem dX1_addTaker_43 : decode cX1_addTaker 43 = .ok (.getfield 21, 3) := by decide +kernel
theorem dX1_addTaker_46 : decode cX1_addTaker 46 = .ok (.aload_n 0, 1) := by decide +kernel
theorem dX1_addTaker_47 : decode cX1_addTaker 47 = .ok (.getfield 37, 3) := by decide +kernel
theorem dX1_addTaker_50 : decode cX1_addTaker 50 = .ok (.iload_n 1, 1) := by decide +kernel
theorem dX1_addTaker_51 : decode cX1_addTaker 51 = .ok (.iastore, 1) := by decide +kernel
theorem dX1_addTaker_52 : decode cX1_addTaker 52 = .ok (.aload_n 0, 1) := by decide +kernel
theorem dX1_addTaker_53 : decode cX1_addTaker 53 = .ok (.getfield 24, 3) := by decide +kernel
theorem dX1_addTaker_56 : decode cX1_addTaker 56 = .ok (.aload_n 0, 1) := by decide +kernel
theorem dX1_addTaker_57 : decode cX1_addTaker 57 = .ok (.getfield 37, 3) := by decide +kernel
theorem dX1_addTaker_60 : decode cX1_addTaker 60 = .ok (.iload_n 2, 1) := by decide +kernel
theorem dX1_addTaker_61 : decode cX1_addTaker 61 = .ok (.iastore, 1) := by decide +kernel
theorem dX1_addTaker_62 : decode cX1_addTaker 62 = .ok (.aload_n 0, 1) := by decide +kernel
theorem dX1_addTaker_63 : decode cX1_addTaker 63 = .ok (.getfield 27, 3) := by decide +kernel
theorem dX1_addTaker_66 : decode cX1_addTaker 66 = .ok (.aload_n 0, 1) := by decide +kernel
theorem dX1_addTaker_67 : decode cX1_addTaker 67 = .ok (.getfield 37, 3) := by decide +kernel
theorem dX1_addTaker_70 : decode cX1_addTaker 70 = .ok (.iload_n 3, 1) := by decide +kernel
theorem dX1_addTaker_71 : decode cX1_addTaker 71 = .ok (.iastore, 1) := by decide +kernel
theorem dX1_addTaker_72 : decode cX1_addTaker 72 = .ok (.aload_n 0, 1) := by decide +kernel
theorem dX1_addTaker_73 : decode cX1_addTaker 73 = .ok (.getfield 30, 3) := by decide +kernel
theorem dX1_addTaker_76 : decode cX1_addTaker 76 = .ok (.aload_n 0, 1) := by decide +kernel
theorem dX1_addTaker_77 : decode cX1_addTaker 77 = .ok (.getfield 37, 3) := by decide +kernel
theorem dX1_addTaker_80 : decode cX1_addTaker 80 = .ok (.iload 4, 2) := by decide +kernel
theorem dX1_addTaker_82 : decode cX1_addTaker 82 = .ok (.iastore, 1) := by decide +kernel
theorem dX1_addTaker_83 : decode cX1_addTaker 83 = .ok (.aload_n 0, 1) := by decide +kernel
theorem dX1_addTaker_84 : decode cX1_addTaker 84 = .ok (.dup, 1) := by decide +kernel
theorem dX1_addTaker_85 : decode cX1_addTaker 85 = .ok (.getfield 37, 3) := by decide +kernel
theorem dX1_addTaker_88 : decode cX1_addTaker 88 = .ok (.iconst 1, 1) := by decide +kernel
theorem dX1_addTaker_89 : decode cX1_addTaker 89 = .ok (.iadd, 1) := by decide +kernel
theorem dX1_addTaker_90 : decode cX1_addTaker 90 = .ok (.putfield 37, 3) := by decide +kernel
theorem dX1_addTaker_93 : decode cX1_addTaker 93 = .ok (.iconst 1, 1) := by decide +kernel
theorem dX1_addTaker_94 : decode cX1_addTaker 94 = .ok (.ireturn, 1) := by decide +kernel
theorem dX1_setMachine_0 : decode cX1_setMachine 0 = .ok (.aload_n 0, 1) := by decide +kernel
theorem dX1_setMachine_1 : decode cX1_setMachine 1 = .ok (.iload_n 1, 1) := by decide +kernel
theorem dX1_setMachine_2 : decode cX1_setMachine 2 = .ok (.putfield 40, 3) := by decide +kernel
theorem dX1_setMachine_5 : decode cX1_setMachine 5 = .ok (.aload_n 0, 1) := by decide +kernel
theorem dX1_setMachine_6 : decode cX1_setMachine 6 = .ok (.iload_n 2, 1) := by decide +kernel
theorem dX1_setMachine_7 : decode cX1_setMachine 7 = .ok (.putfield 43, 3) := by decide +kernel
theorem dX1_setMachine_10 : decode cX1_setMachine 10 = .ok (.return_, 1) := by decide +kernel
theorem dX1_allSheets_0 : decode cX1_allSheets 0 = .ok (.iconst 0, 1) := by decide +kernel
theorem dX1_allSheets_1 : decode cX1_allSheets 1 = .ok (.istore_n 1, 1) := by decide +kernel
theorem dX1_allSheets_2 : decode cX1_allSheets 2 = .ok (.iconst 0, 1) := by decide +kernel
theorem dX1_allSheets_3 : decode cX1_allSheets 3 = .ok (.istore_n 2, 1) := by decide +kernel
theorem dX1_allSheets_4 : decode cX1_allSheets 4 = .ok (.iload_n 2, 1) := by decide +kernel
theorem dX1_allSheets_5 : decode cX1_allSheets 5 = .ok (.aload_n 0, 1) := by decide +kernel
theorem dX1_allSheets_6 : decode cX1_allSheets 6 = .ok (.getfield 33, 3) := by decide +kernel
theorem dX1_allSheets_9 : decode cX1_allSheets 9 = .ok (.if_icmp .ge 18, 3) := by decide +kernel
theorem dX1_allSheets_12 : decode cX1_allSheets 12 = .ok (.iload_n 1, 1) := by decide +kernel
theorem dX1_allSheets_13 : decode cX1_allSheets 13 = .ok (.aload_n 0, 1) := by decide +kernel
theorem dX1_allSheets_14 : decode cX1_allSheets 14 = .ok (.getfield 15, 3) := by decide +kernel
theorem dX1_allSheets_17 : decode cX1_allSheets 17 = .ok (.iload_n 2, 1) := by decide +kernel
theorem dX1_allSheets_18 : decode cX1_allSheets 18 = .ok (.iaload, 1) := by decide +kernel
theorem dX1_allSheets_19 : decode cX1_allSheets 19 = .ok (.iadd, 1) := by decide +kernel
theorem dX1_allSheets_20 : decode cX1_allSheets 20 = .ok (.istore_n 1, 1) := by decide +kernel
theorem dX1_allSheets_21 : decode cX1_allSheets 21 = .ok (.iinc 2 1, 3) := by decide +kernel
theorem dX1_allSheets_24 : decode cX1_allSheets 24 = .ok (.goto (-20), 3) := by decide +kernel
theorem dX1_allSheets_27 : decode cX1_allSheets 27 = .ok (.iload_n 1, 1) := by decide +kernel
theorem dX1_allSheets_28 : decode cX1_allSheets 28 = .ok (.ireturn, 1) := by decide +kernel
theorem dX1_sheetsOf_0 : decode cX1_sheetsOf 0 = .ok (.iconst 0, 1) := by decide +kernel
theorem dX1_sheetsOf_1 : decode cX1_sheetsOf 1 = .ok (.istore_n 2, 1) := by decide +kernel
theorem dX1_sheetsOf_2 : decode cX1_sheetsOf 2 = .ok (.iconst 0, 1) := by decide +kernel
theorem dX1_sheetsOf_3 : decode cX1_sheetsOf 3 = .ok (.istore_n 3, 1) := by decide +kernel
theorem dX1_sheetsOf_4 : decode cX1_sheetsOf 4 = .ok (.iload_n 3, 1) := by decide +kernel
theorem dX1_sheetsOf_5 : decode cX1_sheetsOf 5 = .ok (.aload_n 0, 1) := by decide +kernel
theorem dX1_sheetsOf_6 : decode cX1_sheetsOf 6 = .ok (.getfield 33, 3) := by decide +kernel
theorem dX1_sheetsOf_9 : decode cX1_sheetsOf 9 = .ok (.if_icmp .ge 32, 3) := by decide +kernel
theorem dX1_sheetsOf_12 : decode cX1_sheetsOf 12 = .ok (.iload_n 2, 1) := by decide +kernel
theorem dX1_sheetsOf_13 : decode cX1_sheetsOf 13 = .ok (.aload_n 0, 1) := by decide +kernel
theorem dX1_sheetsOf_14 : decode cX1_sheetsOf 14 = .ok (.getfield 9, 3) := by decide +kernel
theorem dX1_sheetsOf_17 : decode cX1_sheetsOf 17 = .ok (.iload_n 3, 1) := by decide +kernel
theorem dX1_sheetsOf_18 : decode cX1_sheetsOf 18 = .ok (.iaload, 1) := by decide +kernel
theorem dX1_sheetsOf_19 : decode cX1_sheetsOf 19 = .ok (.iload_n 1, 1) := by decide +kernel
theorem dX1_sheetsOf_20 : decode cX1_sheetsOf 20 = .ok (.if_icmp .ne 12, 3) := by decide +kernel
theorem dX1_sheetsOf_23 : decode cX1_sheetsOf 23 = .ok (.aload_n 0, 1) := by decide +kernel
theorem dX1_sheetsOf_24 : decode cX1_sheetsOf 24 = .ok (.getfield 15, 3) := by decide +kernel
theorem dX1_sheetsOf_27 : decode cX1_sheetsOf 27 = .ok (.iload_n 3, 1) := by decide +kernel
theorem dX1_sheetsOf_28 : decode cX1_sheetsOf 28 = .ok (.iaload, 1) := by decide +kernel
theorem dX1_sheetsOf_29 : decode cX1_sheetsOf 29 = .ok (.goto 4, 3) := by decide +kernel
theorem dX1_sheetsOf_32 : decode cX1_sheetsOf 32 = .ok (.iconst 0, 1) := by decide +kernel
theorem dX1_sheetsOf_33 : decode cX1_sheetsOf 33 = .ok (.iadd, 1) := by decide +kernel
theorem dX1_sheetsOf_34 : decode cX1_sheetsOf 34 = .ok (.istore_n 2, 1) := by decide +kernel
theorem dX1_sheetsOf_35 : decode cX1_sheetsOf 35 = .ok (.iinc 3 1, 3) := by decide +kernel
theorem dX1_sheetsOf_38 : decode cX1_sheetsOf 38 = .ok (.goto (-34), 3) := by decide +kernel
theorem dX1_sheetsOf_41 : decode cX1_sheetsOf 41 = .ok (.iload_n 2, 1) := by decide +kernel
theorem dX1_sheetsOf_42 : decode cX1_sheetsOf 42 = .ok (.ireturn, 1) := by decide +kernel
theorem dX1_jobsOf_0 : decode cX1_jobsOf 0 = .ok (.iconst 0, 1) := by decide +kernel
theorem dX1_jobsOf_1 : decode cX1_jobsOf 1 = .ok (.istore_n 2, 1) := by decide +kernel
theorem dX1_jobsOf_2 : decode cX1_jobsOf 2 = .ok (.iconst 0, 1) := by decide +kernel
theorem dX1_jobsOf_3 : decode cX1_jobsOf 3 = .ok (.istore_n 3, 1) := by decide +kernel
theorem dX1_jobsOf_4 : decode cX1_jobsOf 4 = .ok (.iload_n 3, 1) := by decide +kernel
theorem dX1_jobsOf_5 : decode cX1_jobsOf 5 = .ok (.aload_n 0, 1) := by decide +kernel
theorem dX1_jobsOf_6 : decode cX1_jobsOf 6 = .ok (.getfield 33, 3) := by decide +kernel
theorem dX1_jobsOf_9 : decode cX1_jobsOf 9 = .ok (.if_icmp .ge 29, 3) := by decide +kernel
theorem dX1_jobsOf_12 : decode cX1_jobsOf 12 = .ok (.iload_n 2, 1) := by decide +kernel
theorem dX1_jobsOf_13 : decode cX1_jobsOf 13 = .ok (.aload_n 0, 1) := by decide +kernel
theorem dX1_jobsOf_14 : decode cX1_jobsOf 14 = .ok (.getfield 9, 3) := by decide +kernel
theorem dX1_jobsOf_17 : decode cX1_jobsOf 17 = .ok (.iload_n 3, 1) := by decide +kernel
theorem dX1_jobsOf_18 : decode cX1_jobsOf 18 = .ok (.iaload, 1) := by decide +kernel
theorem dX1_jobsOf_19 : decode cX1_jobsOf 19 = .ok (.iload_n 1, 1) := by decide +kernel
theorem dX1_jobsOf_20 : decode cX1_jobsOf 20 = .ok (.if_icmp .ne 9, 3) := by decide +kernel
theorem dX1_jobsOf_23 : decode cX1_jobsOf 23 = .ok (.iconst 1, 1) := by decide +kernel
theorem dX1_jobsOf_24 : decode cX1_jobsOf 24 = .ok (.iload_n 3, 1) := by decide +kernel
theorem dX1_jobsOf_25 : decode cX1_jobsOf 25 = .ok (.ishl, 1) := by decide +kernel
theorem dX1_jobsOf_26 : decode cX1_jobsOf 26 = .ok (.goto 4, 3) := by decide +kernel
theorem dX1_jobsOf_29 : decode cX1_jobsOf 29 = .ok (.iconst 0, 1) := by decide +kernel
theorem dX1_jobsOf_30 : decode cX1_jobsOf 30 = .ok (.ior, 1) := by decide +kernel
theorem dX1_jobsOf_31 : decode cX1_jobsOf 31 = .ok (.istore_n 2, 1) := by decide +kernel
theorem dX1_jobsOf_32 : decode cX1_jobsOf 32 = .ok (.iinc 3 1, 3) := by decide +kernel
theorem dX1_jobsOf_35 : decode cX1_jobsOf 35 = .ok (.goto (-31), 3) := by decide +kernel
theorem dX1_jobsOf_38 : decode cX1_jobsOf 38 = .ok (.iload_n 2, 1) := by decide +kernel
theorem dX1_jobsOf_39 : decode cX1_jobsOf 39 = .ok (.ireturn, 1) := by decide +kernel
theorem dX1_copyFrom_0 : decode cX1_copyFrom 0 = .ok (.aload_n 1, 1) := by decide +kernel
theorem dX1_copyFrom_1 : decode cX1_copyFrom 1 = .ok (.getfield 9, 3) := by decide +kernel
theorem dX1_copyFrom_4 : decode cX1_copyFrom 4 = .ok (.iconst 0, 1) := by decide +kernel
theorem dX1_copyFrom_5 : decode cX1_copyFrom 5 = .ok (.aload_n 0, 1) := by decide +kernel
theorem dX1_copyFrom_6 : decode cX1_copyFrom 6 = .ok (.getfield 9, 3) := by decide +kernel
theorem dX1_copyFrom_9 : decode cX1_copyFrom 9 = .ok (.iconst 0, 1) := by decide +kernel
theorem dX1_copyFrom_10 : decode cX1_copyFrom 10 = .ok (.bipush 6, 2) := by decide +kernel
theorem dX1_copyFrom_12 : decode cX1_copyFrom 12 = .ok (.invokestatic 56, 3) := by decide +kernel
theorem dX1_copyFrom_15 : decode cX1_copyFrom 15 = .ok (.aload_n 1, 1) := by decide +kernel
theorem dX1_copyFrom_16 : decode cX1_copyFrom 16 = .ok (.getfield 15, 3) := by decide +kernel
theorem dX1_copyFrom_19 : decode cX1_copyFrom 19 = .ok (.iconst 0, 1) := by decide +kernel
theorem dX1_copyFrom_20 : decode cX1_copyFrom 20 = .ok (.aload_n 0, 1) := by decide +kernel
theorem dX1_copyFrom_21 : decode cX1_copyFrom 21 = .ok (.getfield 15, 3) := by decide +kernel
theorem dX1_copyFrom_24 : decode cX1_copyFrom 24 = .ok (.iconst 0, 1) := by decide +kernel
theorem dX1_copyFrom_25 : decode cX1_copyFrom 25 = .ok (.bipush 6, 2) := by decide +kernel
theorem dX1_copyFrom_27 : decode cX1_copyFrom 27 = .ok (.invokestatic 56, 3) := by decide +kernel
theorem dX1_copyFrom_30 : decode cX1_copyFrom 30 = .ok (.aload_n 1, 1) := by decide +kernel
theorem dX1_copyFrom_31 : decode cX1_copyFrom 31 = .ok (.getfield 18, 3) := by decide +kernel
theorem dX1_copyFrom_34 : decode cX1_copyFrom 34 = .ok (.iconst 0, 1) := by decide +kernel
theorem dX1_copyFrom_35 : decode cX1_copyFrom 35 = .ok (.aload_n 0, 1) := by decide +kernel
theorem dX1_copyFrom_36 : decode cX1_copyFrom 36 = .ok (.getfield 18, 3) := by decide +kernel
theorem dX1_copyFrom_39 : decode cX1_copyFrom 39 = .ok (.iconst 0, 1) := by decide +kernel
theorem dX1_copyFrom_40 : decode cX1_copyFrom 40 = .ok (.bipush 6, 2) := by decide +kernel
theorem dX1_copyFrom_42 : decode cX1_copyFrom 42 = .ok (.invokestatic 56, 3) := by decide +kernel
theorem dX1_copyFrom_45 : decode cX1_copyFrom 45 = .ok (.aload_n 1, 1) := by decide +kernel
theorem dX1_copyFrom_46 : decode cX1_copyFrom 46 = .ok (.getfield 21, 3) := by decide +kernel
theorem dX1_copyFrom_49 : decode cX1_copyFrom 49 = .ok (.iconst 0, 1) := by decide +kernel
theorem dX1_copyFrom_50 : decode cX1_copyFrom 50 = .ok (.aload_n 0, 1) := by decide +kernel
theorem dX1_copyFrom_51 : decode cX1_copyFrom 51 = .ok (.getfield 21, 3) := by decide +kernel
theorem dX1_copyFrom_54 : decode cX1_copyFrom 54 = .ok (.iconst 0, 1) := by decide +kernel
theorem dX1_copyFrom_55 : decode cX1_copyFrom 55 = .ok (.bipush 6, 2) := by decide +kernel
theorem dX1_copyFrom_57 : decode cX1_copyFrom 57 = .ok (.invokestatic 56, 3) := by decide +kernel
theorem dX1_copyFrom_60 : decode cX1_copyFrom 60 = .ok (.aload_n 1, 1) := by decide +kernel
theorem dX1_copyFrom_61 : decode cX1_copyFrom 61 = .ok (.getfield 24, 3) := by decide +kernel
theorem dX1_copyFrom_64 : decode cX1_copyFrom 64 = .ok (.iconst 0, 1) := by decide +kernel
theorem dX1_copyFrom_65 : decode cX1_copyFrom 65 = .ok (.aload_n 0, 1) := by decide +kernel
theorem dX1_copyFrom_66 : decode cX1_copyFrom 66 = .ok (.getfield 24, 3) := by decide +kernel
theorem dX1_copyFrom_69 : decode cX1_copyFrom 69 = .ok (.iconst 0, 1) := by decide +kernel
theorem dX1_copyFrom_70 : decode cX1_copyFrom 70 = .ok (.bipush 6, 2) := by decide +kernel
theorem dX1_copyFrom_72 : decode cX1_copyFrom 72 = .ok (.invokestatic 56, 3) := by decide +kernel
theorem dX1_copyFrom_75 : decode cX1_copyFrom 75 = .ok (.aload_n 1, 1) := by decide +kernel
theorem dX1_copyFrom_76 : decode cX1_copyFrom 76 = .ok (.getfield 27, 3) := by decide +kernel
theorem dX1_copyFrom_79 : decode cX1_copyFrom 79 = .ok (.iconst 0, 1) := by decide +kernel
theorem dX1_copyFrom_80 : decode cX1_copyFrom 80 = .ok (.aload_n 0, 1) := by decide +kernel
theorem dX1_copyFrom_81 : decode cX1_copyFrom 81 = .ok (.getfield 27, 3) := by decide +kernel
theorem dX1_copyFrom_84 : decode cX1_copyFrom 84 = .ok (.iconst 0, 1) := by decide +kernel
theorem dX1_copyFrom_85 : decode cX1_copyFrom 85 = .ok (.bipush 6, 2) := by decide +kernel
theorem dX1_copyFrom_87 : decode cX1_copyFrom 87 = .ok (.invokestatic 56, 3) := by decide +kernel
theorem dX1_copyFrom_90 : decode cX1_copyFrom 90 = .ok (.aload_n 1, 1) := by decide +kernel
theorem dX1_copyFrom_91 : decode cX1_copyFrom 91 = .ok (.getfield 30, 3) := by decide +kernel
theorem dX1_copyFrom_94 : decode cX1_copyFrom 94 = .ok (.iconst 0, 1) := by decide +kernel
theorem dX1_copyFrom_95 : decode cX1_copyFrom 95 = .ok (.aload_n 0, 1) := by decide +kernel
theorem dX1_copyFrom_96 : decode cX1_copyFrom 96 = .ok (.getfield 30, 3) := by decide +kernel
theorem dX1_copyFrom_99 : decode cX1_copyFrom 99 = .ok (.iconst 0, 1) := by decide +kernel
theorem dX1_copyFrom_100 : decode cX1_copyFrom 100 = .ok (.bipush 6, 2) := by decide +kernel
theorem dX1_copyFrom_102 : decode cX1_copyFrom 102 = .ok (.invokestatic 56, 3) := by decide +kernel
theorem dX1_copyFrom_105 : decode cX1_copyFrom 105 = .ok (.aload_n 0, 1) := by decide +kernel
theorem dX1_copyFrom_106 : decode cX1_copyFrom 106 = .ok (.aload_n 1, 1) := by decide +kernel
theorem dX1_copyFrom_107 : decode cX1_copyFrom 107 = .ok (.getfield 33, 3) := by decide +kernel
theorem dX1_copyFrom_110 : decode cX1_copyFrom 110 = .ok (.putfield 33, 3) := by decide +kernel
theorem dX1_copyFrom_113 : decode cX1_copyFrom 113 = .ok (.aload_n 0, 1) := by decide +kernel
theorem dX1_copyFrom_114 : decode cX1_copyFrom 114 = .ok (.aload_n 1, 1) := by decide +kernel
theorem dX1_copyFrom_115 : decode cX1_copyFrom 115 = .ok (.getfield 37, 3) := by decide +kernel
theorem dX1_copyFrom_118 : decode cX1_copyFrom 118 = .ok (.putfield 37, 3) := by decide +kernel
theorem dX1_copyFrom_121 : decode cX1_copyFrom 121 = .ok (.aload_n 0, 1) := by decide +kernel
theorem dX1_copyFrom_122 : decode cX1_copyFrom 122 = .ok (.aload_n 1, 1) := by decide +kernel
theorem dX1_copyFrom_123 : decode cX1_copyFrom 123 = .ok (.getfield 40, 3) := by decide +kernel
theorem dX1_copyFrom_126 : decode cX1_copyFrom 126 = .ok (.putfield 40, 3) := by decide +kernel
theorem dX1_copyFrom_129 : decode cX1_copyFrom 129 = .ok (.aload_n 0, 1) := by decide +kernel
theorem dX1_copyFrom_130 : decode cX1_copyFrom 130 = .ok (.aload_n 1, 1) := by decide +kernel
theorem dX1_copyFrom_131 : decode cX1_copyFrom 131 = .ok (.getfield 43, 3) := by decide +kernel
theorem dX1_copyFrom_134 : decode cX1_copyFrom 134 = .ok (.putfield 43, 3) := by decide +kernel
theorem dX1_copyFrom_137 : decode cX1_copyFrom 137 = .ok (.return_, 1) := by decide +kernel
theorem dX2_init_0 : decode cX2_init 0 = .ok (.aload_n 0, 1) := by decide +kernel
theorem dX2_init_1 : decode cX2_init 1 = .ok (.invokespecial 3, 3) := by decide +kernel
theorem dX2_init_4 : decode cX2_init 4 = .ok (.aload_n 0, 1) := by decide +kernel
theorem dX2_init_5 : decode cX2_init 5 = .ok (.bipush 6, 2) := by decide +kernel
theorem dX2_init_7 : decode cX2_init 7 = .ok (.newarray .int, 2) := by decide +kernel
theorem dX2_init_9 : decode cX2_init 9 = .ok (.putfield 9, 3) := by decide +kernel
theorem dX2_init_12 : decode cX2_init 12 = .ok (.aload_n 0, 1) := by decide +kernel
theorem dX2_init_13 : decode cX2_init 13 = .ok (.iconst 0, 1) := by decide +kernel
theorem dX2_init_14 : decode cX2_init 14 = .ok (.putfield 15, 3) := by decide +kernel
theorem dX2_init_17 : decode cX2_init 17 = .ok (.aload_n 0, 1) := by decide +kernel
theorem dX2_init_18 : decode cX2_init 18 = .ok (.bipush (-9), 2) := by decide +kernel
theorem dX2_init_20 : decode cX2_init 20 = .ok (.putfield 19, 3) := by decide +kernel
theorem dX2_init_23 : decode cX2_init 23 = .ok (.aload_n 0, 1) := by decide +kernel
theorem dX2_init_24 : decode cX2_init 24 = .ok (.iconst 0, 1) := by decide +kernel
theorem dX2_init_25 : decode cX2_init 25 = .ok (.putfield 22, 3) := by decide +kernel
theorem dX2_init_28 : decode cX2_init 28 = .ok (.aload_n 0, 1) := by decide +kernel
theorem dX2_init_29 : decode cX2_init 29 = .ok (.iconst 0, 1) := by decide +kernel
theorem dX2_init_30 : decode cX2_init 30 = .ok (.putfield 25, 3) := by decide +kernel
theorem dX2_init_33 : decode cX2_init 33 = .ok (.return_, 1) := by decide +kernel
theorem dX2_begin_0 : decode cX2_begin 0 = .ok (.iconst 0, 1) := by decide +kernel
theorem dX2_begin_1 : decode cX2_begin 1 = .ok (.istore_n 2, 1) := by decide +kernel
theorem dX2_begin_2 : decode cX2_begin 2 = .ok (.iload_n 2, 1) := by decide +kernel
theorem dX2_begin_3 : decode cX2_begin 3 = .ok (.aload_n 1, 1) := by decide +kernel
theorem dX2_begin_4 : decode cX2_begin 4 = .ok (.getfield 28, 3) := by decide +kernel
theorem dX2_begin_7 : decode cX2_begin 7 = .ok (.if_icmp .ge 21, 3) := by decide +kernel
theorem dX2_begin_10 : decode cX2_begin 10 = .ok (.aload_n 0, 1) := by decide +kernel
theorem dX2_begin_11 : decode cX2_begin 11 = .ok (.getfield 9, 3) := by decide +kernel
theorem dX2_begin_14 : decode cX2_begin 14 = .ok (.iload_n 2, 1) := by decide +kernel
theorem dX2_begin_15 : decode cX2_begin 15 = .ok (.aload_n 1, 1) := by decide +kernel
theorem dX2_begin_16 : decode cX2_begin 16 = .ok (.getfield 33, 3) := by decide +kernel
theorem dX2_begin_19 : decode cX2_begin 19 = .ok (.iload_n 2, 1) := by decide +kernel
theorem dX2_begin_20 : decode cX2_begin 20 = .ok (.iaload, 1) := by decide +kernel
theorem dX2_begin_21 : decode cX2_begin 21 = .ok (.iastore, 1) := by decide +kernel
theorem dX2_begin_22 : decode cX2_begin 22 = .ok (.iinc 2 1, 3) := by decide +kernel
theorem dX2_begin_25 : decode cX2_begin 25 = .ok (.goto (-23), 3) := by decide +kernel
theorem dX2_begin_28 : decode cX2_begin 28 = .ok (.aload_n 0, 1) := by decide +kernel
theorem dX2_begin_29 : decode cX2_begin 29 = .ok (.aload_n 1, 1) := by decide +kernel
theorem dX2_begin_30 : decode cX2_begin 30 = .ok (.invokevirtual 36, 3) := by decide +kernel
theorem dX2_begin_33 : decode cX2_begin 33 = .ok (.putfield 15, 3) := by decide +kernel
theorem dX2_begin_36 : decode cX2_begin 36 = .ok (.aload_n 0, 1) := by decide +kernel
theorem dX2_begin_37 : decode cX2_begin 37 = .ok (.bipush (-9), 2) := by decide +kernel
theorem dX2_begin_39 : decode cX2_begin 39 = .ok (.putfield 19, 3) := by decide +kernel
theorem dX2_begin_42 : decode cX2_begin 42 = .ok (.aload_n 0, 1) := by decide +kernel
theorem dX2_begin_43 : decode cX2_begin 43 = .ok (.iconst 0, 1) := by decide +kernel
theorem dX2_begin_44 : decode cX2_begin 44 = .ok (.putfield 22, 3) := by decide +kernel
theorem dX2_begin_47 : decode cX2_begin 47 = .ok (.aload_n 0, 1) := by decide +kernel
theorem dX2_begin_48 : decode cX2_begin 48 = .ok (.iconst 0, 1) := by decide +kernel
theorem dX2_begin_49 : decode cX2_begin 49 = .ok (.putfield 25, 3) := by decide +kernel
theorem dX2_begin_52 : decode cX2_begin 52 = .ok (.return_, 1) := by decide +kernel
theorem dX2_putOut_0 : decode cX2_putOut 0 = .ok (.aload_n 1, 1) := by decide +kernel
theorem dX2_putOut_1 : decode cX2_putOut 1 = .ok (.getfield 40, 3) := by decide +kernel
theorem dX2_putOut_4 : decode cX2_putOut 4 = .ok (.iconst 4, 1) := by decide +kernel
theorem dX2_putOut_5 : decode cX2_putOut 5 = .ok (.if_icmp .ne 31, 3) := by decide +kernel
theorem dX2_putOut_8 : decode cX2_putOut 8 = .ok (.aload_n 1, 1) := by decide +kernel
theorem dX2_putOut_9 : decode cX2_putOut 9 = .ok (.getfield 43, 3) := by decide +kernel
theorem dX2_putOut_12 : decode cX2_putOut 12 = .ok (.ifCond .le 24, 3) := by decide +kernel
theorem dX2_putOut_15 : decode cX2_putOut 15 = .ok (.aload_n 0, 1) := by decide +kernel
theorem dX2_putOut_16 : decode cX2_putOut 16 = .ok (.getfield 22, 3) := by decide +kernel
theorem dX2_putOut_19 : decode cX2_putOut 19 = .ok (.aload_n 1, 1) := by decide +kernel
theorem dX2_putOut_20 : decode cX2_putOut 20 = .ok (.getfield 43, 3) := by decide +kernel
theorem dX2_putOut_23 : decode cX2_putOut 23 = .ok (.if_icmp .lt 13, 3) := by decide +kernel
theorem dX2_putOut_26 : decode cX2_putOut 26 = .ok (.aload_n 0, 1) := by decide +kernel
theorem dX2_putOut_27 : decode cX2_putOut 27 = .ok (.iconst 0, 1) := by decide +kernel
theorem dX2_putOut_28 : decode cX2_putOut 28 = .ok (.putfield 22, 3) := by decide +kernel
theorem dX2_putOut_31 : decode cX2_putOut 31 = .ok (.aload_n 0, 1) := by decide +kernel
theorem dX2_putOut_32 : decode cX2_putOut 32 = .ok (.getfield 19, 3) := by decide +kernel
theorem dX2_putOut_35 : decode cX2_putOut 35 = .ok (.ireturn, 1) := by decide +kernel
theorem dX2_putOut_36 : decode cX2_putOut 36 = .ok (.aload_n 0, 1) := by decide +kernel
theorem dX2_putOut_37 : decode cX2_putOut 37 = .ok (.aload_n 1, 1) := by decide +kernel
theorem dX2_putOut_38 : decode cX2_putOut 38 = .ok (.iload_n 2, 1) := by decide +kernel
theorem dX2_putOut_39 : decode cX2_putOut 39 = .ok (.invokevirtual 46, 3) := by decide +kernel
theorem dX2_putOut_42 : decode cX2_putOut 42 = .ok (.istore_n 3, 1) := by decide +kernel
theorem dX2_putOut_43 : decode cX2_putOut 43 = .ok (.iload_n 3, 1) := by decide +kernel
theorem dX2_putOut_44 : decode cX2_putOut 44 = .ok (.bipush (-9), 2) := by decide +kernel
theorem dX2_putOut_46 : decode cX2_putOut 46 = .ok (.if_icmp .ne 6, 3) := by decide +kernel
theorem dX2_putOut_49 : decode cX2_putOut 49 = .ok (.bipush (-9), 2) := by decide +kernel
theorem dX2_putOut_51 : decode cX2_putOut 51 = .ok (.ireturn, 1) := by decide +kernel
theorem dX2_putOut_52 : decode cX2_putOut 52 = .ok (.aload_n 0, 1) := by decide +kernel
theorem dX2_putOut_53 : decode cX2_putOut 53 = .ok (.getfield 19, 3) := by decide +kernel
theorem dX2_putOut_56 : decode cX2_putOut 56 = .ok (.bipush (-9), 2) := by decide +kernel
theorem dX2_putOut_58 : decode cX2_putOut 58 = .ok (.if_icmp .eq 24, 3) := by decide +kernel
theorem dX2_putOut_61 : decode cX2_putOut 61 = .ok (.aload_n 0, 1) := by decide +kernel
theorem dX2_putOut_62 : decode cX2_putOut 62 = .ok (.getfield 19, 3) := by decide +kernel
theorem dX2_putOut_65 : decode cX2_putOut 65 = .ok (.bipush 10, 2) := by decide +kernel
theorem dX2_putOut_67 : decode cX2_putOut 67 = .ok (.idiv, 1) := by decide +kernel
theorem dX2_putOut_68 : decode cX2_putOut 68 = .ok (.iload_n 3, 1) := by decide +kernel
theorem dX2_putOut_69 : decode cX2_putOut 69 = .ok (.if_icmp .eq 13, 3) := by decide +kernel
theorem dX2_putOut_72 : decode cX2_putOut 72 = .ok (.aload_n 0, 1) := by decide +kernel
theorem dX2_putOut_73 : decode cX2_putOut 73 = .ok (.dup, 1) := by decide +kernel
theorem dX2_putOut_74 : decode cX2_putOut 74 = .ok (.getfield 25, 3) := by decide +kernel
theorem dX2_putOut_77 : decode cX2_putOut 77 = .ok (.iconst 1, 1) := by decide +kernel
theorem dX2_putOut_78 : decode cX2_putOut 78 = .ok (.iadd, 1) := by decide +kernel
theorem dX2_putOut_79 : decode cX2_putOut 79 = .ok (.putfield 25, 3) := by decide +kernel
theorem dX2_putOut_82 : decode cX2_putOut 82 = .ok (.aload_n 0, 1) := by decide +kernel
theorem dX2_putOut_83 : decode cX2_putOut 83 = .ok (.bipush 10, 2) := by decide +kernel
theorem dX2_putOut_85 : decode cX2_putOut 85 = .ok (.iload_n 3, 1) := by decide +kernel
theorem dX2_putOut_86 : decode cX2_putOut 86 = .ok (.imul, 1) := by decide +kernel
theorem dX2_putOut_87 : decode cX2_putOut 87 = .ok (.aload_n 1, 1) := by decide +kernel
theorem dX2_putOut_88 : decode cX2_putOut 88 = .ok (.getfield 33, 3) := by decide +kernel
theorem dX2_putOut_91 : decode cX2_putOut 91 = .ok (.iload_n 3, 1) := by decide +kernel
theorem dX2_putOut_92 : decode cX2_putOut 92 = .ok (.iaload, 1) := by decide +kernel
theorem dX2_putOut_93 : decode cX2_putOut 93 = .ok (.iadd, 1) := by decide +kernel
theorem dX2_putOut_94 : decode cX2_putOut 94 = .ok (.aload_n 0, 1) := by decide +kernel
theorem dX2_putOut_95 : decode cX2_putOut 95 = .ok (.getfield 9, 3) := by decide +kernel
theorem dX2_putOut_98 : decode cX2_putOut 98 = .ok (.iload_n 3, 1) := by decide +kernel
theorem dX2_putOut_99 : decode cX2_putOut 99 = .ok (.iaload, 1) := by decide +kernel
theorem dX2_putOut_100 : decode cX2_putOut 100 = .ok (.isub, 1) := by decide +kernel
theorem dX2_putOut_101 : decode cX2_putOut 101 = .ok (.iconst 1, 1) := by decide +kernel
theorem dX2_putOut_102 : decode cX2_putOut 102 = .ok (.iadd, 1) := by decide +kernel
theorem dX2_putOut_103 : decode cX2_putOut 103 = .ok (.putfield 19, 3) := by decide +kernel
theorem dX2_putOut_106 : decode cX2_putOut 106 = .ok (.aload_n 0, 1) := by decide +kernel
theorem dX2_putOut_107 : decode cX2_putOut 107 = .ok (.getfield 9, 3) := by decide +kernel
theorem dX2_putOut_110 : decode cX2_putOut 110 = .ok (.iload_n 3, 1) := by decide +kernel
theorem dX2_putOut_111 : decode cX2_putOut 111 = .ok (.dup2, 1) := by decide +kernel
theorem dX2_putOut_112 : decode cX2_putOut 112 = .ok (.iaload, 1) := by decide +kernel
theorem dX2_putOut_113 : decode cX2_putOut 113 = .ok (.iconst 1, 1) := by decide +kernel
theorem dX2_putOut_114 : decode cX2_putOut 114 = .ok (.isub, 1) := by decide +kernel
theorem dX2_putOut_115 : decode cX2_putOut 115 = .ok (.iastore, 1) := by decide +kernel
theorem dX2_putOut_116 : decode cX2_putOut 116 = .ok (.aload_n 0, 1) := by decide +kernel
theorem dX2_putOut_117 : decode cX2_putOut 117 = .ok (.dup, 1) := by decide +kernel
theorem dX2_putOut_118 : decode cX2_putOut 118 = .ok (.getfield 15, 3) := by decide +kernel
theorem dX2_putOut_121 : decode cX2_putOut 121 = .ok (.iconst 1, 1) := by decide +kernel
theorem dX2_putOut_122 : decode cX2_putOut 122 = .ok (.isub, 1) := by decide +kernel
theorem dX2_putOut_123 : decode cX2_putOut 123 = .ok (.putfield 15, 3) := by decide +kernel
theorem dX2_putOut_126 : decode cX2_putOut 126 = .ok (.aload_n 0, 1) := by decide +kernel
theorem dX2_putOut_127 : decode cX2_putOut 127 = .ok (.dup, 1) := by decide +kernel
theorem dX2_putOut_128 : decode cX2_putOut 128 = .ok (.getfield 22, 3) := by decide +kernel
theorem dX2_putOut_131 : decode cX2_putOut 131 = .ok (.iconst 1, 1) := by decide +kernel
theorem dX2_putOut_132 : decode cX2_putOut 132 = .ok (.iadd, 1) := by decide +kernel
theorem dX2_putOut_133 : decode cX2_putOut 133 = .ok (.putfield 22, 3) := by decide +kernel
theorem dX2_putOut_136 : decode cX2_putOut 136 = .ok (.aload_n 0, 1) := by decide +kernel
theorem dX2_putOut_137 : decode cX2_putOut 137 = .ok (.getfield 19, 3) := by decide +kernel
theorem dX2_putOut_140 : decode cX2_putOut 140 = .ok (.ireturn, 1) := by decide +kernel
theorem dX2_mixedIn_0 : decode cX2_mixedIn 0 = .ok (.aload_n 0, 1) := by decide +kernel
theorem dX2_mixedIn_1 : decode cX2_mixedIn 1 = .ok (.aload_n 1, 1) := by decide +kernel
theorem dX2_mixedIn_2 : decode cX2_mixedIn 2 = .ok (.invokevirtual 50, 3) := by decide +kernel
theorem dX2_mixedIn_5 : decode cX2_mixedIn 5 = .ok (.iconst 0, 1) := by decide +kernel
theorem dX2_mixedIn_6 : decode cX2_mixedIn 6 = .ok (.istore_n 2, 1) := by decide +kernel
theorem dX2_mixedIn_7 : decode cX2_mixedIn 7 = .ok (.iload_n 2, 1) := by decide +kernel
theorem dX2_mixedIn_8 : decode cX2_mixedIn 8 = .ok (.bipush 100, 2) := by decide +kernel
theorem dX2_mixedIn_10 : decode cX2_mixedIn 10 = .ok (.if_icmp .ge 23, 3) := by decide +kernel
theorem dX2_mixedIn_13 : decode cX2_mixedIn 13 = .ok (.aload_n 0, 1) := by decide +kernel
theorem dX2_mixedIn_14 : decode cX2_mixedIn 14 = .ok (.getfield 15, 3) := by decide +kernel
theorem dX2_mixedIn_17 : decode cX2_mixedIn 17 = .ok (.ifCond .le 16, 3) := by decide +kernel
theorem dX2_mixedIn_20 : decode cX2_mixedIn 20 = .ok (.aload_n 0, 1) := by decide +kernel
theorem dX2_mixedIn_21 : decode cX2_mixedIn 21 = .ok (.aload_n 1, 1) := by decide +kernel
theorem dX2_mixedIn_22 : decode cX2_mixedIn 22 = .ok (.iload_n 2, 1) := by decide +kernel
theorem dX2_mixedIn_23 : decode cX2_mixedIn 23 = .ok (.invokevirtual 54, 3) := by decide +kernel
theorem dX2_mixedIn_26 : decode cX2_mixedIn 26 = .ok (.pop, 1) := by decide +kernel
theorem dX2_mixedIn_27 : decode cX2_mixedIn 27 = .ok (.iinc 2 1, 3) := by decide +kernel
theorem dX2_mixedIn_30 : decode cX2_mixedIn 30 = .ok (.goto (-23), 3) := by decide +kernel
theorem dX2_mixedIn_33 : decode cX2_mixedIn 33 = .ok (.aload_n 0, 1) := by decide +kernel
theorem dX2_mixedIn_34 : decode cX2_mixedIn 34 = .ok (.getfield 25, 3) := by decide +kernel
theorem dX2_mixedIn_37 : decode cX2_mixedIn 37 = .ok (.ireturn, 1) := by decide +kernel
theorem dX2_chosenJob_0 : decode cX2_chosenJob 0 = .ok (.bipush (-9), 2) := by decide +kernel
theorem dX2_chosenJob_2 : decode cX2_chosenJob 2 = .ok (.istore_n 3, 1) := by decide +kernel
theorem dX2_chosenJob_3 : decode cX2_chosenJob 3 = .ok (.iconst 0, 1) := by decide +kernel
theorem dX2_chosenJob_4 : decode cX2_chosenJob 4 = .ok (.istore 4, 2) := by decide +kernel
theorem dX2_chosenJob_6 : decode cX2_chosenJob 6 = .ok (.iload 4, 2) := by decide +kernel
theorem dX2_chosenJob_8 : decode cX2_chosenJob 8 = .ok (.aload_n 1, 1) := by decide +kernel
theorem dX2_chosenJob_9 : decode cX2_chosenJob 9 = .ok (.getfield 28, 3) := by decide +kernel
theorem dX2_chosenJob_12 : decode cX2_chosenJob 12 = .ok (.if_icmp .ge 62, 3) := by decide +kernel
theorem dX2_chosenJob_15 : decode cX2_chosenJob 15 = .ok (.aload_n 0, 1) := by decide +kernel
theorem dX2_chosenJob_16 : decode cX2_chosenJob 16 = .ok (.getfield 9, 3) := by decide +kernel
theorem dX2_chosenJob_19 : decode cX2_chosenJob 19 = .ok (.iload 4, 2) := by decide +kernel
theorem dX2_chosenJob_21 : decode cX2_chosenJob 21 = .ok (.iaload, 1) := by decide +kernel
theorem dX2_chosenJob_22 : decode cX2_chosenJob 22 = .ok (.ifCond .le 18, 3) := by decide +kernel
theorem dX2_chosenJob_25 : decode cX2_chosenJob 25 = .ok (.aload_n 1, 1) := by decide +kernel
theorem dX2_chosenJob_26 : decode cX2_chosenJob 26 = .ok (.getfield 57, 3) := by decide +kernel
theorem dX2_chosenJob_29 : decode cX2_chosenJob 29 = .ok (.iload 4, 2) := by decide +kernel
theorem dX2_chosenJob_31 : decode cX2_chosenJob 31 = .ok (.iaload, 1) := by decide +kernel
theorem dX2_chosenJob_32 : decode cX2_chosenJob 32 = .ok (.iload_n 2, 1) := by decide +kernel
theorem dX2_chosenJob_33 : decode cX2_chosenJob 33 = .ok (.if_icmp .gt 7, 3) := by decide +kernel
theorem dX2_chosenJob_36 : decode cX2_chosenJob 36 = .ok (.iconst 1, 1) := by decide +kernel
theorem dX2_chosenJob_37 : decode cX2_chosenJob 37 = .ok (.goto 4, 3) := by decide +kernel
theorem dX2_chosenJob_40 : decode cX2_chosenJob 40 = .ok (.iconst 0, 1) := by decide +kernel
theorem dX2_chosenJob_41 : decode cX2_chosenJob 41 = .ok (.istore 5, 2) := by decide +kernel
theorem dX2_chosenJob_43 : decode cX2_chosenJob 43 = .ok (.iload 5, 2) := by decide +kernel
theorem dX2_chosenJob_45 : decode cX2_chosenJob 45 = .ok (.ifCond .eq 23, 3) := by decide +kernel
theorem dX2_chosenJob_48 : decode cX2_chosenJob 48 = .ok (.iload_n 3, 1) := by decide +kernel
theorem dX2_chosenJob_49 : decode cX2_chosenJob 49 = .ok (.bipush (-9), 2) := by decide +kernel
theorem dX2_chosenJob_51 : decode cX2_chosenJob 51 = .ok (.if_icmp .eq 14, 3) := by decide +kernel
theorem dX2_chosenJob_54 : decode cX2_chosenJob 54 = .ok (.aload_n 0, 1) := by decide +kernel
theorem dX2_chosenJob_55 : decode cX2_chosenJob 55 = .ok (.aload_n 1, 1) := by decide +kernel
theorem dX2_chosenJob_56 : decode cX2_chosenJob 56 = .ok (.iload 4, 2) := by decide +kernel
theorem dX2_chosenJob_58 : decode cX2_chosenJob 58 = .ok (.iload_n 3, 1) := by decide +kernel
theorem dX2_chosenJob_59 : decode cX2_chosenJob 59 = .ok (.invokevirtual 60, 3) := by decide +kernel
theorem dX2_chosenJob_62 : decode cX2_chosenJob 62 = .ok (.ifCond .eq 6, 3) := by decide +kernel
theorem dX2_chosenJob_65 : decode cX2_chosenJob 65 = .ok (.iload 4, 2) := by decide +kernel
theorem dX2_chosenJob_67 : decode cX2_chosenJob 67 = .ok (.istore_n 3, 1) := by decide +kernel
theorem dX2_chosenJob_68 : decode cX2_chosenJob 68 = .ok (.iinc 4 1, 3) := by decide +kernel
theorem dX2_chosenJob_71 : decode cX2_chosenJob 71 = .ok (.goto (-65), 3) := by decide +kernel
theorem dX2_chosenJob_74 : decode cX2_chosenJob 74 = .ok (.iload_n 3, 1) := by decide +kernel
theorem dX2_chosenJob_75 : decode cX2_chosenJob 75 = .ok (.ireturn, 1) := by decide +kernel
theorem dX2_isAhead_0 : decode cX2_isAhead 0 = .ok (.aload_n 1, 1) := by decide +kernel
theorem dX2_isAhead_1 : decode cX2_isAhead 1 = .ok (.getfield 40, 3) := by decide +kernel
theorem dX2_isAhead_4 : decode cX2_isAhead 4 = .ok (.iconst 2, 1) := by decide +kernel
theorem dX2_isAhead_5 : decode cX2_isAhead 5 = .ok (.if_icmp .ne 22, 3) := by decide +kernel
theorem dX2_isAhead_8 : decode cX2_isAhead 8 = .ok (.aload_n 0, 1) := by decide +kernel
theorem dX2_isAhead_9 : decode cX2_isAhead 9 = .ok (.iload_n 2, 1) := by decide +kernel
theorem dX2_isAhead_10 : decode cX2_isAhead 10 = .ok (.invokevirtual 64, 3) := by decide +kernel
theorem dX2_isAhead_13 : decode cX2_isAhead 13 = .ok (.aload_n 0, 1) := by decide +kernel
theorem dX2_isAhead_14 : decode cX2_isAhead 14 = .ok (.iload_n 3, 1) := by decide +kernel
theorem dX2_isAhead_15 : decode cX2_isAhead 15 = .ok (.invokevirtual 64, 3) := by decide +kernel
theorem dX2_isAhead_18 : decode cX2_isAhead 18 = .ok (.if_icmp .ge 7, 3) := by decide +kernel
theorem dX2_isAhead_21 : decode cX2_isAhead 21 = .ok (.iconst 1, 1) := by decide +kernel
theorem dX2_isAhead_22 : decode cX2_isAhead 22 = .ok (.goto 4, 3) := by decide +kernel
theorem dX2_isAhead_25 : decode cX2_isAhead 25 = .ok (.iconst 0, 1) := by decide +kernel
theorem dX2_isAhead_26 : decode cX2_isAhead 26 = .ok (.ireturn, 1) := by decide +kernel
theorem dX2_isAhead_27 : decode cX2_isAhead 27 = .ok (.aload_n 1, 1) := by decide +kernel
theorem dX2_isAhead_28 : decode cX2_isAhead 28 = .ok (.getfield 40, 3) := by decide +kernel
theorem dX2_isAhead_31 : decode cX2_isAhead 31 = .ok (.iconst 5, 1) := by decide +kernel
theorem dX2_isAhead_32 : decode cX2_isAhead 32 = .ok (.if_icmp .ne 39, 3) := by decide +kernel
theorem dX2_isAhead_35 : decode cX2_isAhead 35 = .ok (.aload_n 1, 1) := by decide +kernel
theorem dX2_isAhead_36 : decode cX2_isAhead 36 = .ok (.getfield 68, 3) := by decide +kernel
theorem dX2_isAhead_39 : decode cX2_isAhead 39 = .ok (.iload_n 2, 1) := by decide +kernel
theorem dX2_isAhead_40 : decode cX2_isAhead 40 = .ok (.iaload, 1) := by decide +kernel
theorem dX2_isAhead_41 : decode cX2_isAhead 41 = .ok (.aload_n 1, 1) := by decide +kernel
theorem dX2_isAhead_42 : decode cX2_isAhead 42 = .ok (.getfield 68, 3) := by decide +kernel
theorem dX2_isAhead_45 : decode cX2_isAhead 45 = .ok (.iload_n 3, 1) := by decide +kernel
theorem dX2_isAhead_46 : decode cX2_isAhead 46 = .ok (.iaload, 1) := by decide +kernel
theorem dX2_isAhead_47 : decode cX2_isAhead 47 = .ok (.if_icmp .eq 24, 3) := by decide +kernel
theorem dX2_isAhead_50 : decode cX2_isAhead 50 = .ok (.aload_n 1, 1) := by decide +kernel
theorem dX2_isAhead_51 : decode cX2_isAhead 51 = .ok (.getfield 68, 3) := by decide +kernel
theorem dX2_isAhead_54 : decode cX2_isAhead 54 = .ok (.iload_n 2, 1) := by decide +kernel
theorem dX2_isAhead_55 : decode cX2_isAhead 55 = .ok (.iaload, 1) := by decide +kernel
theorem dX2_isAhead_56 : decode cX2_isAhead 56 = .ok (.aload_n 1, 1) := by decide +kernel
theorem dX2_isAhead_57 : decode cX2_isAhead 57 = .ok (.getfield 68, 3) := by decide +kernel
theorem dX2_isAhead_60 : decode cX2_isAhead 60 = .ok (.iload_n 3, 1) := by decide +kernel
theorem dX2_isAhead_61 : decode cX2_isAhead 61 = .ok (.iaload, 1) := by decide +kernel
theorem dX2_isAhead_62 : decode cX2_isAhead 62 = .ok (.if_icmp .ge 7, 3) := by decide +kernel
theorem dX2_isAhead_65 : decode cX2_isAhead 65 = .ok (.iconst 1, 1) := by decide +kernel
theorem dX2_isAhead_66 : decode cX2_isAhead 66 = .ok (.goto 4, 3) := by decide +kernel
theorem dX2_isAhead_69 : decode cX2_isAhead 69 = .ok (.iconst 0, 1) := by decide +kernel
theorem dX2_isAhead_70 : decode cX2_isAhead 70 = .ok (.ireturn, 1) := by decide +kernel
theorem dX2_isAhead_71 : decode cX2_isAhead 71 = .ok (.aload_n 1, 1) := by decide +kernel
theorem dX2_isAhead_72 : decode cX2_isAhead 72 = .ok (.getfield 40, 3) := by decide +kernel
theorem dX2_isAhead_75 : decode cX2_isAhead 75 = .ok (.iconst 1, 1) := by decide +kernel
theorem dX2_isAhead_76 : decode cX2_isAhead 76 = .ok (.if_icmp .eq 11, 3) := by decide +kernel
theorem dX2_isAhead_79 : decode cX2_isAhead 79 = .ok (.aload_n 1, 1) := by decide +kernel
theorem dX2_isAhead_80 : decode cX2_isAhead 80 = .ok (.getfield 40, 3) := by decide +kernel
theorem dX2_isAhead_83 : decode cX2_isAhead 83 = .ok (.iconst 5, 1) := by decide +kernel
theorem dX2_isAhead_84 : decode cX2_isAhead 84 = .ok (.if_icmp .ne 7, 3) := by decide +kernel
theorem dX2_isAhead_87 : decode cX2_isAhead 87 = .ok (.iconst 1, 1) := by decide +kernel
theorem dX2_isAhead_88 : decode cX2_isAhead 88 = .ok (.goto 4, 3) := by decide +kernel
theorem dX2_isAhead_91 : decode cX2_isAhead 91 = .ok (.iconst 0, 1) := by decide +kernel
theorem dX2_isAhead_92 : decode cX2_isAhead 92 = .ok (.istore 4, 2) := by decide +kernel
theorem dX2_isAhead_94 : decode cX2_isAhead 94 = .ok (.iload 4, 2) := by decide +kernel
theorem dX2_isAhead_96 : decode cX2_isAhead 96 = .ok (.ifCond .eq 39, 3) := by decide +kernel
theorem dX2_isAhead_99 : decode cX2_isAhead 99 = .ok (.aload_n 0, 1) := by decide +kernel
theorem dX2_isAhead_100 : decode cX2_isAhead 100 = .ok (.getfield 9, 3) := by decide +kernel
theorem dX2_isAhead_103 : decode cX2_isAhead 103 = .ok (.iload_n 2, 1) := by decide +kernel
theorem dX2_isAhead_104 : decode cX2_isAhead 104 = .ok (.iaload, 1) := by decide +kernel
theorem dX2_isAhead_105 : decode cX2_isAhead 105 = .ok (.aload_n 0, 1) := by decide +kernel
theorem dX2_isAhead_106 : decode cX2_isAhead 106 = .ok (.getfield 9, 3) := by decide +kernel
theorem dX2_isAhead_109 : decode cX2_isAhead 109 = .ok (.iload_n 3, 1) := by decide +kernel
theorem dX2_isAhead_110 : decode cX2_isAhead 110 = .ok (.iaload, 1) := by decide +kernel
theorem dX2_isAhead_111 : decode cX2_isAhead 111 = .ok (.if_icmp .eq 24, 3) := by decide +kernel
theorem dX2_isAhead_114 : decode cX2_isAhead 114 = .ok (.aload_n 0, 1) := by decide +kernel
theorem dX2_isAhead_115 : decode cX2_isAhead 115 = .ok (.getfield 9, 3) := by decide +kernel
theorem dX2_isAhead_118 : decode cX2_isAhead 118 = .ok (.iload_n 2, 1) := by decide +kernel
theorem dX2_isAhead_119 : decode cX2_isAhead 119 = .ok (.iaload, 1) := by decide +kernel
theorem dX2_isAhead_120 : decode cX2_isAhead 120 = .ok (.aload_n 0, 1) := by decide +kernel
theorem dX2_isAhead_121 : decode cX2_isAhead 121 = .ok (.getfield 9, 3) := by decide +kernel
theorem dX2_isAhead_124 : decode cX2_isAhead 124 = .ok (.iload_n 3, 1) := by decide +kernel
theorem dX2_isAhead_125 : decode cX2_isAhead 125 = .ok (.iaload, 1) := by decide +kernel
theorem dX2_isAhead_126 : decode cX2_isAhead 126 = .ok (.if_icmp .ge 7, 3) := by decide +kernel
theorem dX2_isAhead_129 : decode cX2_isAhead 129 = .ok (.iconst 1, 1) := by decide +kernel
theorem dX2_isAhead_130 : decode cX2_isAhead 130 = .ok (.goto 4, 3) := by decide +kernel
theorem dX2_isAhead_133 : decode cX2_isAhead 133 = .ok (.iconst 0, 1) := by decide +kernel
theorem dX2_isAhead_134 : decode cX2_isAhead 134 = .ok (.ireturn, 1) := by decide +kernel
theorem dX2_isAhead_135 : decode cX2_isAhead 135 = .ok (.aload_n 1, 1) := by decide +kernel
theorem dX2_isAhead_136 : decode cX2_isAhead 136 = .ok (.getfield 57, 3) := by decide +kernel
theorem dX2_isAhead_139 : decode cX2_isAhead 139 = .ok (.iload_n 2, 1) := by decide +kernel
theorem dX2_isAhead_140 : decode cX2_isAhead 140 = .ok (.iaload, 1) := by decide +kernel
theorem dX2_isAhead_141 : decode cX2_isAhead 141 = .ok (.aload_n 1, 1) := by decide +kernel
theorem dX2_isAhead_142 : decode cX2_isAhead 142 = .ok (.getfield 57, 3) := by decide +kernel
theorem dX2_isAhead_145 : decode cX2_isAhead 145 = .ok (.iload_n 3, 1) := by decide +kernel
theorem dX2_isAhead_146 : decode cX2_isAhead 146 = .ok (.iaload, 1) := by decide +kernel
theorem dX2_isAhead_147 : decode cX2_isAhead 147 = .ok (.if_icmp .ge 7, 3) := by decide +kernel
theorem dX2_isAhead_150 : decode cX2_isAhead 150 = .ok (.iconst 1, 1) := by decide +kernel
theorem dX2_isAhead_151 : decode cX2_isAhead 151 = .ok (.goto 4, 3) := by decide +kernel
theorem dX2_isAhead_154 : decode cX2_isAhead 154 = .ok (.iconst 0, 1) := by decide +kernel
theorem dX2_isAhead_155 : decode cX2_isAhead 155 = .ok (.ireturn, 1) := by decide +kernel
theorem dX2_turnsUntil_0 : decode cX2_turnsUntil 0 = .ok (.aload_n 0, 1) := by decide +kernel
theorem dX2_turnsUntil_1 : decode cX2_turnsUntil 1 = .ok (.getfield 19, 3) := by decide +kernel
theorem dX2_turnsUntil_4 : decode cX2_turnsUntil 4 = .ok (.bipush (-9), 2) := by decide +kernel
theorem dX2_turnsUntil_6 : decode cX2_turnsUntil 6 = .ok (.if_icmp .ne 7, 3) := by decide +kernel
theorem dX2_turnsUntil_9 : decode cX2_turnsUntil 9 = .ok (.iload_n 1, 1) := by decide +kernel
theorem dX2_turnsUntil_10 : decode cX2_turnsUntil 10 = .ok (.goto 19, 3) := by decide +kernel
theorem dX2_turnsUntil_13 : decode cX2_turnsUntil 13 = .ok (.iload_n 1, 1) := by decide +kernel
theorem dX2_turnsUntil_14 : decode cX2_turnsUntil 14 = .ok (.aload_n 0, 1) := by decide +kernel
theorem dX2_turnsUntil_15 : decode cX2_turnsUntil 15 = .ok (.getfield 19, 3) := by decide +kernel
theorem dX2_turnsUntil_18 : decode cX2_turnsUntil 18 = .ok (.bipush 10, 2) := by decide +kernel
theorem dX2_turnsUntil_20 : decode cX2_turnsUntil 20 = .ok (.idiv, 1) := by decide +kernel
theorem dX2_turnsUntil_21 : decode cX2_turnsUntil 21 = .ok (.isub, 1) := by decide +kernel
theorem dX2_turnsUntil_22 : decode cX2_turnsUntil 22 = .ok (.iconst 1, 1) := by decide +kernel
theorem dX2_turnsUntil_23 : decode cX2_turnsUntil 23 = .ok (.isub, 1) := by decide +kernel
theorem dX2_turnsUntil_24 : decode cX2_turnsUntil 24 = .ok (.bipush 6, 2) := by decide +kernel
theorem dX2_turnsUntil_26 : decode cX2_turnsUntil 26 = .ok (.invokestatic 71, 3) := by decide +kernel
theorem dX2_turnsUntil_29 : decode cX2_turnsUntil 29 = .ok (.ireturn, 1) := by decide +kernel
theorem dX3_init_0 : decode cX3_init 0 = .ok (.aload_n 0, 1) := by decide +kernel
theorem dX3_init_1 : decode cX3_init 1 = .ok (.invokespecial 3, 3) := by decide +kernel
theorem dX3_init_4 : decode cX3_init 4 = .ok (.aload_n 0, 1) := by decide +kernel
theorem dX3_init_5 : decode cX3_init 5 = .ok (.bipush 20, 2) := by decide +kernel
theorem dX3_init_7 : decode cX3_init 7 = .ok (.newarray .int, 2) := by decide +kernel
theorem dX3_init_9 : decode cX3_init 9 = .ok (.putfield 9, 3) := by decide +kernel
theorem dX3_init_12 : decode cX3_init 12 = .ok (.aload_n 0, 1) := by decide +kernel
theorem dX3_init_13 : decode cX3_init 13 = .ok (.iconst 0, 1) := by decide +kernel
theorem dX3_init_14 : decode cX3_init 14 = .ok (.putfield 15, 3) := by decide +kernel
theorem dX3_init_17 : decode cX3_init 17 = .ok (.aload_n 0, 1) := by decide +kernel
theorem dX3_init_18 : decode cX3_init 18 = .ok (.sipush 1000, 3) := by decide +kernel
theorem dX3_init_21 : decode cX3_init 21 = .ok (.newarray .int, 2) := by decide +kernel
theorem dX3_init_23 : decode cX3_init 23 = .ok (.putfield 19, 3) := by decide +kernel
theorem dX3_init_26 : decode cX3_init 26 = .ok (.aload_n 0, 1) := by decide +kernel
theorem dX3_init_27 : decode cX3_init 27 = .ok (.bipush 10, 2) := by decide +kernel
theorem dX3_init_29 : decode cX3_init 29 = .ok (.newarray .int, 2) := by decide +kernel
theorem dX3_init_31 : decode cX3_init 31 = .ok (.putfield 22, 3) := by decide +kernel
theorem dX3_init_34 : decode cX3_init 34 = .ok (.aload_n 0, 1) := by decide +kernel
theorem dX3_init_35 : decode cX3_init 35 = .ok (.bipush 100, 2) := by decide +kernel
theorem dX3_init_37 : decode cX3_init 37 = .ok (.newarray .int, 2) := by decide +kernel
theorem dX3_init_39 : decode cX3_init 39 = .ok (.putfield 25, 3) := by decide +kernel
theorem dX3_init_42 : decode cX3_init 42 = .ok (.return_, 1) := by decide +kernel
theorem dX3_add_0 : decode cX3_add 0 = .ok (.aload_n 0, 1) := by decide +kernel
theorem dX3_add_1 : decode cX3_add 1 = .ok (.getfield 15, 3) := by decide +kernel
theorem dX3_add_4 : decode cX3_add 4 = .ok (.bipush 20, 2) := by decide +kernel
theorem dX3_add_6 : decode cX3_add 6 = .ok (.if_icmp .ge 23, 3) := by decide +kernel
theorem dX3_add_9 : decode cX3_add 9 = .ok (.aload_n 0, 1) := by decide +kernel
theorem dX3_add_10 : decode cX3_add 10 = .ok (.getfield 9, 3) := by decide +kernel
theorem dX3_add_13 : decode cX3_add 13 = .ok (.aload_n 0, 1) := by decide +kernel
theorem dX3_add_14 : decode cX3_add 14 = .ok (.getfield 15, 3) := by decide +kernel
theorem dX3_add_17 : decode cX3_add 17 = .ok (.iload_n 1, 1) := by decide +kernel
theorem dX3_add_18 : decode cX3_add 18 = .ok (.iastore, 1) := by decide +kernel
theorem dX3_add_19 : decode cX3_add 19 = .ok (.aload_n 0, 1) := by decide +kernel
theorem dX3_add_20 : decode cX3_add 20 = .ok (.dup, 1) := by decide +kernel
theorem dX3_add_21 : decode cX3_add 21 = .ok (.getfield 15, 3) := by decide +kernel
theorem dX3_add_24 : decode cX3_add 24 = .ok (.iconst 1, 1) := by decide +kernel
theorem dX3_add_25 : decode cX3_add 25 = .ok (.iadd, 1) := by decide +kernel
theorem dX3_add_26 : decode cX3_add 26 = .ok (.putfield 15, 3) := by decide +kernel
theorem dX3_add_29 : decode cX3_add 29 = .ok (.aload_n 0, 1) := by decide +kernel
theorem dX3_add_30 : decode cX3_add 30 = .ok (.getfield 15, 3) := by decide +kernel
theorem dX3_add_33 : decode cX3_add 33 = .ok (.ireturn, 1) := by decide +kernel
theorem dX3_clear_0 : decode cX3_clear 0 = .ok (.aload_n 0, 1) := by decide +kernel
theorem dX3_clear_1 : decode cX3_clear 1 = .ok (.iconst 0, 1) := by decide +kernel
theorem dX3_clear_2 : decode cX3_clear 2 = .ok (.putfield 15, 3) := by decide +kernel
theorem dX3_clear_5 : decode cX3_clear 5 = .ok (.return_, 1) := by decide +kernel
theorem dX3_waysOfThree_0 : decode cX3_waysOfThree 0 = .ok (.iload_n 1, 1) := by decide +kernel
theorem dX3_waysOfThree_1 : decode cX3_waysOfThree 1 = .ok (.iload_n 2, 1) := by decide +kernel
theorem dX3_waysOfThree_2 : decode cX3_waysOfThree 2 = .ok (.iadd, 1) := by decide +kernel
theorem dX3_waysOfThree_3 : decode cX3_waysOfThree 3 = .ok (.iload_n 3, 1) := by decide +kernel
theorem dX3_waysOfThree_4 : decode cX3_waysOfThree 4 = .ok (.iadd, 1) := by decide +kernel
theorem dX3_waysOfThree_5 : decode cX3_waysOfThree 5 = .ok (.aload_n 0, 1) := by decide +kernel
theorem dX3_waysOfThree_6 : decode cX3_waysOfThree 6 = .ok (.getfield 15, 3) := by decide +kernel
theorem dX3_waysOfThree_9 : decode cX3_waysOfThree 9 = .ok (.if_icmp .eq 5, 3) := by decide +kernel
theorem dX3_waysOfThree_12 : decode cX3_waysOfThree 12 = .ok (.iconst 0, 1) := by decide +kernel
theorem dX3_waysOfThree_13 : decode cX3_waysOfThree 13 = .ok (.ireturn, 1) := by decide +kernel
theorem dX3_waysOfThree_14 : decode cX3_waysOfThree 14 = .ok (.iconst 0, 1) := by decide +kernel
theorem dX3_waysOfThree_15 : decode cX3_waysOfThree 15 = .ok (.istore 4, 2) := by decide +kernel
theorem dX3_waysOfThree_17 : decode cX3_waysOfThree 17 = .ok (.iload 4, 2) := by decide +kernel
theorem dX3_waysOfThree_19 : decode cX3_waysOfThree 19 = .ok (.iload_n 1, 1) := by decide +kernel
theorem dX3_waysOfThree_20 : decode cX3_waysOfThree 20 = .ok (.if_icmp .gt 63, 3) := by decide +kernel
theorem dX3_waysOfThree_23 : decode cX3_waysOfThree 23 = .ok (.iconst 0, 1) := by decide +kernel
theorem dX3_waysOfThree_24 : decode cX3_waysOfThree 24 = .ok (.istore 5, 2) := by decide +kernel
theorem dX3_waysOfThree_26 : decode cX3_waysOfThree 26 = .ok (.iload 5, 2) := by decide +kernel
theorem dX3_waysOfThree_28 : decode cX3_waysOfThree 28 = .ok (.iload_n 2, 1) := by decide +kernel
theorem dX3_waysOfThree_29 : decode cX3_waysOfThree 29 = .ok (.if_icmp .gt 48, 3) := by decide +kernel
theorem dX3_waysOfThree_32 : decode cX3_waysOfThree 32 = .ok (.iconst 0, 1) := by decide +kernel
theorem dX3_waysOfThree_33 : decode cX3_waysOfThree 33 = .ok (.istore 6, 2) := by decide +kernel
theorem dX3_waysOfThree_35 : decode cX3_waysOfThree 35 = .ok (.iload 6, 2) := by decide +kernel
theorem dX3_waysOfThree_37 : decode cX3_waysOfThree 37 = .ok (.iload_n 3, 1) := by decide +kernel
theorem dX3_waysOfThree_38 : decode cX3_waysOfThree 38 = .ok (.if_icmp .gt 33, 3) := by decide +kernel
theorem dX3_waysOfThree_41 : decode cX3_waysOfThree 41 = .ok (.aload_n 0, 1) := by decide +kernel
theorem dX3_waysOfThree_42 : decode cX3_waysOfThree 42 = .ok (.getfield 19, 3) := by decide +kernel
theorem dX3_waysOfThree_45 : decode cX3_waysOfThree 45 = .ok (.iload 4, 2) := by decide +kernel
theorem dX3_waysOfThree_47 : decode cX3_waysOfThree 47 = .ok (.iload 5, 2) := by decide +kernel
theorem dX3_waysOfThree_49 : decode cX3_waysOfThree 49 = .ok (.iload 6, 2) := by decide +kernel
theorem dX3_waysOfThree_51 : decode cX3_waysOfThree 51 = .ok (.invokestatic 28, 3) := by decide +kernel
theorem dX3_waysOfThree_54 : decode cX3_waysOfThree 54 = .ok (.aload_n 0, 1) := by decide +kernel
theorem dX3_waysOfThree_55 : decode cX3_waysOfThree 55 = .ok (.iload 4, 2) := by decide +kernel
theorem dX3_waysOfThree_57 : decode cX3_waysOfThree 57 = .ok (.iload 5, 2) := by decide +kernel
theorem dX3_waysOfThree_59 : decode cX3_waysOfThree 59 = .ok (.iload 6, 2) := by decide +kernel
theorem dX3_waysOfThree_61 : decode cX3_waysOfThree 61 = .ok (.invokevirtual 32, 3) := by decide +kernel
theorem dX3_waysOfThree_64 : decode cX3_waysOfThree 64 = .ok (.iastore, 1) := by decide +kernel
theorem dX3_waysOfThree_65 : decode cX3_waysOfThree 65 = .ok (.iinc 6 1, 3) := by decide +kernel
theorem dX3_waysOfThree_68 : decode cX3_waysOfThree 68 = .ok (.goto (-33), 3) := by decide +kernel
theorem dX3_waysOfThree_71 : decode cX3_waysOfThree 71 = .ok (.iinc 5 1, 3) := by decide +kernel
theorem dX3_waysOfThree_74 : decode cX3_waysOfThree 74 = .ok (.goto (-48), 3) := by decide +kernel
theorem dX3_waysOfThree_77 : decode cX3_waysOfThree 77 = .ok (.iinc 4 1, 3) := by decide +kernel
theorem dX3_waysOfThree_80 : decode cX3_waysOfThree 80 = .ok (.goto (-63), 3) := by decide +kernel
theorem dX3_waysOfThree_83 : decode cX3_waysOfThree 83 = .ok (.aload_n 0, 1) := by decide +kernel
theorem dX3_waysOfThree_84 : decode cX3_waysOfThree 84 = .ok (.getfield 19, 3) := by decide +kernel
theorem dX3_waysOfThree_87 : decode cX3_waysOfThree 87 = .ok (.iload_n 1, 1) := by decide +kernel
theorem dX3_waysOfThree_88 : decode cX3_waysOfThree 88 = .ok (.iload_n 2, 1) := by decide +kernel
theorem dX3_waysOfThree_89 : decode cX3_waysOfThree 89 = .ok (.iload_n 3, 1) := by decide +kernel
theorem dX3_waysOfThree_90 : decode cX3_waysOfThree 90 = .ok (.invokestatic 28, 3) := by decide +kernel
theorem dX3_waysOfThree_93 : decode cX3_waysOfThree 93 = .ok (.iaload, 1) := by decide +kernel
theorem dX3_waysOfThree_94 : decode cX3_waysOfThree 94 = .ok (.ireturn, 1) := by decide +kernel
theorem dX3_waysTo_0 : decode cX3_waysTo 0 = .ok (.iload_n 1, 1) := by decide +kernel
theorem dX3_waysTo_1 : decode cX3_waysTo 1 = .ok (.iload_n 2, 1) := by decide +kernel
theorem dX3_waysTo_2 : decode cX3_waysTo 2 = .ok (.iadd, 1) := by decide +kernel
theorem dX3_waysTo_3 : decode cX3_waysTo 3 = .ok (.iload_n 3, 1) := by decide +kernel
theorem dX3_waysTo_4 : decode cX3_waysTo 4 = .ok (.iadd, 1) := by decide +kernel
theorem dX3_waysTo_5 : decode cX3_waysTo 5 = .ok (.istore 4, 2) := by decide +kernel
theorem dX3_waysTo_7 : decode cX3_waysTo 7 = .ok (.iload 4, 2) := by decide +kernel
theorem dX3_waysTo_9 : decode cX3_waysTo 9 = .ok (.ifCond .ne 5, 3) := by decide +kernel
theorem dX3_waysTo_12 : decode cX3_waysTo 12 = .ok (.iconst 1, 1) := by decide +kernel
theorem dX3_waysTo_13 : decode cX3_waysTo 13 = .ok (.ireturn, 1) := by decide +kernel
theorem dX3_waysTo_14 : decode cX3_waysTo 14 = .ok (.aload_n 0, 1) := by decide +kernel
theorem dX3_waysTo_15 : decode cX3_waysTo 15 = .ok (.getfield 9, 3) := by decide +kernel
theorem dX3_waysTo_18 : decode cX3_waysTo 18 = .ok (.iload 4, 2) := by decide +kernel
theorem dX3_waysTo_20 : decode cX3_waysTo 20 = .ok (.iconst 1, 1) := by decide +kernel
theorem dX3_waysTo_21 : decode cX3_waysTo 21 = .ok (.isub, 1) := by decide +kernel
theorem dX3_waysTo_22 : decode cX3_waysTo 22 = .ok (.iaload, 1) := by decide +kernel
theorem dX3_waysTo_23 : decode cX3_waysTo 23 = .ok (.bipush 10, 2) := by decide +kernel
theorem dX3_waysTo_25 : decode cX3_waysTo 25 = .ok (.irem, 1) := by decide +kernel
theorem dX3_waysTo_26 : decode cX3_waysTo 26 = .ok (.istore 5, 2) := by decide +kernel
theorem dX3_waysTo_28 : decode cX3_waysTo 28 = .ok (.iconst 0, 1) := by decide +kernel
theorem dX3_waysTo_29 : decode cX3_waysTo 29 = .ok (.istore 6, 2) := by decide +kernel
theorem dX3_waysTo_31 : decode cX3_waysTo 31 = .ok (.iload_n 1, 1) := by decide +kernel
theorem dX3_waysTo_32 : decode cX3_waysTo 32 = .ok (.ifCond .le 27, 3) := by decide +kernel
theorem dX3_waysTo_35 : decode cX3_waysTo 35 = .ok (.iload 5, 2) := by decide +kernel
theorem dX3_waysTo_37 : decode cX3_waysTo 37 = .ok (.iload_n 1, 1) := by decide +kernel
theorem dX3_waysTo_38 : decode cX3_waysTo 38 = .ok (.if_icmp .ne 21, 3) := by decide +kernel
theorem dX3_waysTo_41 : decode cX3_waysTo 41 = .ok (.iload 6, 2) := by decide +kernel
theorem dX3_waysTo_43 : decode cX3_waysTo 43 = .ok (.aload_n 0, 1) := by decide +kernel
theorem dX3_waysTo_44 : decode cX3_waysTo 44 = .ok (.getfield 19, 3) := by decide +kernel
theorem dX3_waysTo_47 : decode cX3_waysTo 47 = .ok (.iload_n 1, 1) := by decide +kernel
theorem dX3_waysTo_48 : decode cX3_waysTo 48 = .ok (.iconst 1, 1) := by decide +kernel
theorem dX3_waysTo_49 : decode cX3_waysTo 49 = .ok (.isub, 1) := by decide +kernel
theorem dX3_waysTo_50 : decode cX3_waysTo 50 = .ok (.iload_n 2, 1) := by decide +kernel
theorem dX3_waysTo_51 : decode cX3_waysTo 51 = .ok (.iload_n 3, 1) := by decide +kernel
theorem dX3_waysTo_52 : decode cX3_waysTo 52 = .ok (.invokestatic 28, 3) := by decide +kernel
theorem dX3_waysTo_55 : decode cX3_waysTo 55 = .ok (.iaload, 1) := by decide +kernel
theorem dX3_waysTo_56 : decode cX3_waysTo 56 = .ok (.iadd, 1) := by decide +kernel
theorem dX3_waysTo_57 : decode cX3_waysTo 57 = .ok (.istore 6, 2) := by decide +kernel
theorem dX3_waysTo_59 : decode cX3_waysTo 59 = .ok (.iload_n 2, 1) := by decide +kernel
theorem dX3_waysTo_60 : decode cX3_waysTo 60 = .ok (.ifCond .le 27, 3) := by decide +kernel
theorem dX3_waysTo_63 : decode cX3_waysTo 63 = .ok (.iload 5, 2) := by decide +kernel
theorem dX3_waysTo_65 : decode cX3_waysTo 65 = .ok (.iload_n 2, 1) := by decide +kernel
theorem dX3_waysTo_66 : decode cX3_waysTo 66 = .ok (.if_icmp .ne 21, 3) := by decide +kernel
theorem dX3_waysTo_69 : decode cX3_waysTo 69 = .ok (.iload 6, 2) := by decide +kernel
theorem dX3_waysTo_71 : decode cX3_waysTo 71 = .ok (.aload_n 0, 1) := by decide +kernel
theorem dX3_waysTo_72 : decode cX3_waysTo 72 = .ok (.getfield 19, 3) := by decide +kernel
theorem dX3_waysTo_75 : decode cX3_waysTo 75 = .ok (.iload_n 1, 1) := by decide +kernel
theorem dX3_waysTo_76 : decode cX3_waysTo 76 = .ok (.iload_n 2, 1) := by decide +kernel
theorem dX3_waysTo_77 : decode cX3_waysTo 77 = .ok (.iconst 1, 1) := by decide +kernel
theorem dX3_waysTo_78 : decode cX3_waysTo 78 = .ok (.isub, 1) := by decide +kernel
theorem dX3_waysTo_79 : decode cX3_waysTo 79 = .ok (.iload_n 3, 1) := by decide +kernel
theorem dX3_waysTo_80 : decode cX3_waysTo 80 = .ok (.invokestatic 28, 3) := by decide +kernel
theorem dX3_waysTo_83 : decode cX3_waysTo 83 = .ok (.iaload, 1) := by decide +kernel
theorem dX3_waysTo_84 : decode cX3_waysTo 84 = .ok (.iadd, 1) := by decide +kernel
theorem dX3_waysTo_85 : decode cX3_waysTo 85 = .ok (.istore 6, 2) := by decide +kernel
theorem dX3_waysTo_87 : decode cX3_waysTo 87 = .ok (.iload_n 3, 1) := by decide +kernel
theorem dX3_waysTo_88 : decode cX3_waysTo 88 = .ok (.ifCond .le 27, 3) := by decide +kernel
theorem dX3_waysTo_91 : decode cX3_waysTo 91 = .ok (.iload 5, 2) := by decide +kernel
theorem dX3_waysTo_93 : decode cX3_waysTo 93 = .ok (.iload_n 3, 1) := by decide +kernel
theorem dX3_waysTo_94 : decode cX3_waysTo 94 = .ok (.if_icmp .ne 21, 3) := by decide +kernel
theorem dX3_waysTo_97 : decode cX3_waysTo 97 = .ok (.iload 6, 2) := by decide +kernel
theorem dX3_waysTo_99 : decode cX3_waysTo 99 = .ok (.aload_n 0, 1) := by decide +kernel
theorem dX3_waysTo_100 : decode cX3_waysTo 100 = .ok (.getfield 19, 3) := by decide +kernel
theorem dX3_waysTo_103 : decode cX3_waysTo 103 = .ok (.iload_n 1, 1) := by decide +kernel
theorem dX3_waysTo_104 : decode cX3_waysTo 104 = .ok (.iload_n 2, 1) := by decide +kernel
theorem dX3_waysTo_105 : decode cX3_waysTo 105 = .ok (.iload_n 3, 1) := by decide +kernel
theorem dX3_waysTo_106 : decode cX3_waysTo 106 = .ok (.iconst 1, 1) := by decide +kernel
theorem dX3_waysTo_107 : decode cX3_waysTo 107 = .ok (.isub, 1) := by decide +kernel
theorem dX3_waysTo_108 : decode cX3_waysTo 108 = .ok (.invokestatic 28, 3) := by decide +kernel
theorem dX3_waysTo_111 : decode cX3_waysTo 111 = .ok (.iaload, 1) := by decide +kernel
theorem dX3_waysTo_112 : decode cX3_waysTo 112 = .ok (.iadd, 1) := by decide +kernel
theorem dX3_waysTo_113 : decode cX3_waysTo 113 = .ok (.istore 6, 2) := by decide +kernel
theorem dX3_waysTo_115 : decode cX3_waysTo 115 = .ok (.iload 6, 2) := by decide +kernel
theorem dX3_waysTo_117 : decode cX3_waysTo 117 = .ok (.ireturn, 1) := by decide +kernel
theorem dX3_at_0 : decode cX3_at 0 = .ok (.iload_n 0, 1) := by decide +kernel
theorem dX3_at_1 : decode cX3_at 1 = .ok (.bipush 10, 2) := by decide +kernel
theorem dX3_at_3 : decode cX3_at 3 = .ok (.imul, 1) := by decide +kernel
theorem dX3_at_4 : decode cX3_at 4 = .ok (.iload_n 1, 1) := by decide +kernel
theorem dX3_at_5 : decode cX3_at 5 = .ok (.iadd, 1) := by decide +kernel
theorem dX3_at_6 : decode cX3_at 6 = .ok (.bipush 10, 2) := by decide +kernel
theorem dX3_at_8 : decode cX3_at 8 = .ok (.imul, 1) := by decide +kernel
theorem dX3_at_9 : decode cX3_at 9 = .ok (.iload_n 2, 1) := by decide +kernel
theorem dX3_at_10 : decode cX3_at 10 = .ok (.iadd, 1) := by decide +kernel
theorem dX3_at_11 : decode cX3_at 11 = .ok (.ireturn, 1) := by decide +kernel
theorem dX3_fewestParts_0 : decode cX3_fewestParts 0 = .ok (.aload_n 0, 1) := by decide +kernel
theorem dX3_fewestParts_1 : decode cX3_fewestParts 1 = .ok (.getfield 22, 3) := by decide +kernel
theorem dX3_fewestParts_4 : decode cX3_fewestParts 4 = .ok (.iconst 0, 1) := by decide +kernel
theorem dX3_fewestParts_5 : decode cX3_fewestParts 5 = .ok (.invokestatic 35, 3) := by decide +kernel
theorem dX3_fewestParts_8 : decode cX3_fewestParts 8 = .ok (.iconst 0, 1) := by decide +kernel
theorem dX3_fewestParts_9 : decode cX3_fewestParts 9 = .ok (.istore_n 1, 1) := by decide +kernel
theorem dX3_fewestParts_10 : decode cX3_fewestParts 10 = .ok (.iconst 0, 1) := by decide +kernel
theorem dX3_fewestParts_11 : decode cX3_fewestParts 11 = .ok (.istore_n 2, 1) := by decide +kernel
theorem dX3_fewestParts_12 : decode cX3_fewestParts 12 = .ok (.iload_n 2, 1) := by decide +kernel
theorem dX3_fewestParts_13 : decode cX3_fewestParts 13 = .ok (.aload_n 0, 1) := by decide +kernel
theorem dX3_fewestParts_14 : decode cX3_fewestParts 14 = .ok (.getfield 15, 3) := by decide +kernel
theorem dX3_fewestParts_17 : decode cX3_fewestParts 17 = .ok (.if_icmp .ge 73, 3) := by decide +kernel
theorem dX3_fewestParts_20 : decode cX3_fewestParts 20 = .ok (.aload_n 0, 1) := by decide +kernel
theorem dX3_fewestParts_21 : decode cX3_fewestParts 21 = .ok (.getfield 9, 3) := by decide +kernel
theorem dX3_fewestParts_24 : decode cX3_fewestParts 24 = .ok (.iload_n 2, 1) := by decide +kernel
theorem dX3_fewestParts_25 : decode cX3_fewestParts 25 = .ok (.iaload, 1) := by decide +kernel
theorem dX3_fewestParts_26 : decode cX3_fewestParts 26 = .ok (.bipush 10, 2) := by decide +kernel
theorem dX3_fewestParts_28 : decode cX3_fewestParts 28 = .ok (.irem, 1) := by decide +kernel
theorem dX3_fewestParts_29 : decode cX3_fewestParts 29 = .ok (.istore_n 3, 1) := by decide +kernel
theorem dX3_fewestParts_30 : decode cX3_fewestParts 30 = .ok (.iconst 0, 1) := by decide +kernel
theorem dX3_fewestParts_31 : decode cX3_fewestParts 31 = .ok (.istore 4, 2) := by decide +kernel
theorem dX3_fewestParts_33 : decode cX3_fewestParts 33 = .ok (.iload_n 3, 1) := by decide +kernel
theorem dX3_fewestParts_34 : decode cX3_fewestParts 34 = .ok (.istore 5, 2) := by decide +kernel
theorem dX3_fewestParts_36 : decode cX3_fewestParts 36 = .ok (.iload 5, 2) := by decide +kernel
theorem dX3_fewestParts_38 : decode cX3_fewestParts 38 = .ok (.bipush 10, 2) := by decide +kernel
theorem dX3_fewestParts_40 : decode cX3_fewestParts 40 = .ok (.if_icmp .ge 23, 3) := by decide +kernel
theorem dX3_fewestParts_43 : decode cX3_fewestParts 43 = .ok (.iload 4, 2) := by decide +kernel
theorem dX3_fewestParts_45 : decode cX3_fewestParts 45 = .ok (.aload_n 0, 1) := by decide +kernel
theorem dX3_fewestParts_46 : decode cX3_fewestParts 46 = .ok (.getfield 22, 3) := by decide +kernel
theorem dX3_fewestParts_49 : decode cX3_fewestParts 49 = .ok (.iload 5, 2) := by decide +kernel
theorem dX3_fewestParts_51 : decode cX3_fewestParts 51 = .ok (.iaload, 1) := by decide +kernel
theorem dX3_fewestParts_52 : decode cX3_fewestParts 52 = .ok (.invokestatic 41, 3) := by decide +kernel
theorem dX3_fewestParts_55 : decode cX3_fewestParts 55 = .ok (.istore 4, 2) := by decide +kernel
theorem dX3_fewestParts_57 : decode cX3_fewestParts 57 = .ok (.iinc 5 1, 3) := by decide +kernel
theorem dX3_fewestParts_60 : decode cX3_fewestParts 60 = .ok (.goto (-24), 3) := by decide +kernel
theorem dX3_fewestParts_63 : decode cX3_fewestParts 63 = .ok (.aload_n 0, 1) := by decide +kernel
theorem dX3_fewestParts_64 : decode cX3_fewestParts 64 = .ok (.getfield 22, 3) := by decide +kernel
theorem dX3_fewestParts_67 : decode cX3_fewestParts 67 = .ok (.iload_n 3, 1) := by decide +kernel
theorem dX3_fewestParts_68 : decode cX3_fewestParts 68 = .ok (.iload 4, 2) := by decide +kernel
theorem dX3_fewestParts_70 : decode cX3_fewestParts 70 = .ok (.iconst 1, 1) := by decide +kernel
theorem dX3_fewestParts_71 : decode cX3_fewestParts 71 = .ok (.iadd, 1) := by decide +kernel
theorem dX3_fewestParts_72 : decode cX3_fewestParts 72 = .ok (.iastore, 1) := by decide +kernel
theorem dX3_fewestParts_73 : decode cX3_fewestParts 73 = .ok (.iload_n 1, 1) := by decide +kernel
theorem dX3_fewestParts_74 : decode cX3_fewestParts 74 = .ok (.aload_n 0, 1) := by decide +kernel
theorem dX3_fewestParts_75 : decode cX3_fewestParts 75 = .ok (.getfield 22, 3) := by decide +kernel
theorem dX3_fewestParts_78 : decode cX3_fewestParts 78 = .ok (.iload_n 3, 1) := by decide +kernel
theorem dX3_fewestParts_79 : decode cX3_fewestParts 79 = .ok (.iaload, 1) := by decide +kernel
theorem dX3_fewestParts_80 : decode cX3_fewestParts 80 = .ok (.invokestatic 41, 3) := by decide +kernel
theorem dX3_fewestParts_83 : decode cX3_fewestParts 83 = .ok (.istore_n 1, 1) := by decide +kernel
theorem dX3_fewestParts_84 : decode cX3_fewestParts 84 = .ok (.iinc 2 1, 3) := by decide +kernel
theorem dX3_fewestParts_87 : decode cX3_fewestParts 87 = .ok (.goto (-75), 3) := by decide +kernel
theorem dX3_fewestParts_90 : decode cX3_fewestParts 90 = .ok (.iload_n 1, 1) := by decide +kernel
theorem dX3_fewestParts_91 : decode cX3_fewestParts 91 = .ok (.ireturn, 1) := by decide +kernel
theorem dX3_numbersLacking_0 : decode cX3_numbersLacking 0 = .ok (.iload_n 2, 1) := by decide +kernel
theorem dX3_numbersLacking_1 : decode cX3_numbersLacking 1 = .ok (.invokestatic 47, 3) := by decide +kernel
theorem dX3_numbersLacking_4 : decode cX3_numbersLacking 4 = .ok (.istore_n 3, 1) := by decide +kernel
theorem dX3_numbersLacking_5 : decode cX3_numbersLacking 5 = .ok (.iconst 0, 1) := by decide +kernel
theorem dX3_numbersLacking_6 : decode cX3_numbersLacking 6 = .ok (.istore 4, 2) := by decide +kernel
theorem dX3_numbersLacking_8 : decode cX3_numbersLacking 8 = .ok (.iload 4, 2) := by decide +kernel
theorem dX3_numbersLacking_10 : decode cX3_numbersLacking 10 = .ok (.aload_n 0, 1) := by decide +kernel
theorem dX3_numbersLacking_11 : decode cX3_numbersLacking 11 = .ok (.getfield 15, 3) := by decide +kernel
theorem dX3_numbersLacking_14 : decode cX3_numbersLacking 14 = .ok (.if_icmp .ge 40, 3) := by decide +kernel
theorem dX3_numbersLacking_17 : decode cX3_numbersLacking 17 = .ok (.aload_n 0, 1) := by decide +kernel
theorem dX3_numbersLacking_18 : decode cX3_numbersLacking 18 = .ok (.getfield 9, 3) := by decide +kernel
theorem dX3_numbersLacking_21 : decode cX3_numbersLacking 21 = .ok (.iload 4, 2) := by decide +kernel
theorem dX3_numbersLacking_23 : decode cX3_numbersLacking 23 = .ok (.iaload, 1) := by decide +kernel
theorem dX3_numbersLacking_24 : decode cX3_numbersLacking 24 = .ok (.bipush 10, 2) := by decide +kernel
theorem dX3_numbersLacking_26 : decode cX3_numbersLacking 26 = .ok (.idiv, 1) := by decide +kernel
theorem dX3_numbersLacking_27 : decode cX3_numbersLacking 27 = .ok (.iload_n 1, 1) := by decide +kernel
theorem dX3_numbersLacking_28 : decode cX3_numbersLacking 28 = .ok (.if_icmp .ne 20, 3) := by decide +kernel
theorem dX3_numbersLacking_31 : decode cX3_numbersLacking 31 = .ok (.iload_n 3, 1) := by decide +kernel
theorem dX3_numbersLacking_32 : decode cX3_numbersLacking 32 = .ok (.iconst 1, 1) := by decide +kernel
theorem dX3_numbersLacking_33 : decode cX3_numbersLacking 33 = .ok (.aload_n 0, 1) := by decide +kernel
theorem dX3_numbersLacking_34 : decode cX3_numbersLacking 34 = .ok (.getfield 9, 3) := by decide +kernel
theorem dX3_numbersLacking_37 : decode cX3_numbersLacking 37 = .ok (.iload 4, 2) := by decide +kernel
theorem dX3_numbersLacking_39 : decode cX3_numbersLacking 39 = .ok (.iaload, 1) := by decide +kernel
theorem dX3_numbersLacking_40 : decode cX3_numbersLacking 40 = .ok (.bipush 10, 2) := by decide +kernel
theorem dX3_numbersLacking_42 : decode cX3_numbersLacking 42 = .ok (.irem, 1) := by decide +kernel
theorem dX3_numbersLacking_43 : decode cX3_numbersLacking 43 = .ok (.ishl, 1) := by decide +kernel
theorem dX3_numbersLacking_44 : decode cX3_numbersLacking 44 = .ok (.iconst (-1), 1) := by decide +kernel
theorem dX3_numbersLacking_45 : decode cX3_numbersLacking 45 = .ok (.ixor, 1) := by decide +kernel
theorem dX3_numbersLacking_46 : decode cX3_numbersLacking 46 = .ok (.iand, 1) := by decide +kernel
theorem dX3_numbersLacking_47 : decode cX3_numbersLacking 47 = .ok (.istore_n 3, 1) := by decide +kernel
theorem dX3_numbersLacking_48 : decode cX3_numbersLacking 48 = .ok (.iinc 4 1, 3) := by decide +kernel
theorem dX3_numbersLacking_51 : decode cX3_numbersLacking 51 = .ok (.goto (-43), 3) := by decide +kernel
theorem dX3_numbersLacking_54 : decode cX3_numbersLacking 54 = .ok (.iload_n 3, 1) := by decide +kernel
theorem dX3_numbersLacking_55 : decode cX3_numbersLacking 55 = .ok (.ireturn, 1) := by decide +kernel
theorem dX3_fewestLaps_0 : decode cX3_fewestLaps 0 = .ok (.aload_n 0, 1) := by decide +kernel
theorem dX3_fewestLaps_1 : decode cX3_fewestLaps 1 = .ok (.invokevirtual 51, 3) := by decide +kernel
theorem dX3_fewestLaps_4 : decode cX3_fewestLaps 4 = .ok (.istore_n 2, 1) := by decide +kernel
theorem dX3_fewestLaps_5 : decode cX3_fewestLaps 5 = .ok (.iconst 0, 1) := by decide +kernel
theorem dX3_fewestLaps_6 : decode cX3_fewestLaps 6 = .ok (.istore_n 3, 1) := by decide +kernel
theorem dX3_fewestLaps_7 : decode cX3_fewestLaps 7 = .ok (.iconst 1, 1) := by decide +kernel
theorem dX3_fewestLaps_8 : decode cX3_fewestLaps 8 = .ok (.istore 4, 2) := by decide +kernel
theorem dX3_fewestLaps_10 : decode cX3_fewestLaps 10 = .ok (.iload 4, 2) := by decide +kernel
theorem dX3_fewestLaps_12 : decode cX3_fewestLaps 12 = .ok (.iload_n 2, 1) := by decide +kernel
theorem dX3_fewestLaps_13 : decode cX3_fewestLaps 13 = .ok (.if_icmp .ge 21, 3) := by decide +kernel
theorem dX3_fewestLaps_16 : decode cX3_fewestLaps 16 = .ok (.iload_n 3, 1) := by decide +kernel
theorem dX3_fewestLaps_17 : decode cX3_fewestLaps 17 = .ok (.bipush 20, 2) := by decide +kernel
theorem dX3_fewestLaps_19 : decode cX3_fewestLaps 19 = .ok (.if_icmp .ge 15, 3) := by decide +kernel
theorem dX3_fewestLaps_22 : decode cX3_fewestLaps 22 = .ok (.iload 4, 2) := by decide +kernel
theorem dX3_fewestLaps_24 : decode cX3_fewestLaps 24 = .ok (.iload_n 1, 1) := by decide +kernel
theorem dX3_fewestLaps_25 : decode cX3_fewestLaps 25 = .ok (.imul, 1) := by decide +kernel
theorem dX3_fewestLaps_26 : decode cX3_fewestLaps 26 = .ok (.istore 4, 2) := by decide +kernel
theorem dX3_fewestLaps_28 : decode cX3_fewestLaps 28 = .ok (.iinc 3 1, 3) := by decide +kernel
theorem dX3_fewestLaps_31 : decode cX3_fewestLaps 31 = .ok (.goto (-21), 3) := by decide +kernel
theorem dX3_fewestLaps_34 : decode cX3_fewestLaps 34 = .ok (.iload_n 3, 1) := by decide +kernel
theorem dX3_fewestLaps_35 : decode cX3_fewestLaps 35 = .ok (.ireturn, 1) := by decide +kernel
theorem dX3_runsBySize_0 : decode cX3_runsBySize 0 = .ok (.aload_n 0, 1) := by decide +kernel
theorem dX3_runsBySize_1 : decode cX3_runsBySize 1 = .ok (.getfield 25, 3) := by decide +kernel
theorem dX3_runsBySize_4 : decode cX3_runsBySize 4 = .ok (.bipush (-9), 2) := by decide +kernel
theorem dX3_runsBySize_6 : decode cX3_runsBySize 6 = .ok (.invokestatic 35, 3) := by decide +kernel
theorem dX3_runsBySize_9 : decode cX3_runsBySize 9 = .ok (.aload_n 0, 1) := by decide +kernel
theorem dX3_runsBySize_10 : decode cX3_runsBySize 10 = .ok (.getfield 15, 3) := by decide +kernel
theorem dX3_runsBySize_13 : decode cX3_runsBySize 13 = .ok (.iconst 1, 1) := by decide +kernel
theorem dX3_runsBySize_14 : decode cX3_runsBySize 14 = .ok (.isub, 1) := by decide +kernel
theorem dX3_runsBySize_15 : decode cX3_runsBySize 15 = .ok (.istore_n 1, 1) := by decide +kernel
theorem dX3_runsBySize_16 : decode cX3_runsBySize 16 = .ok (.iload_n 1, 1) := by decide +kernel
theorem dX3_runsBySize_17 : decode cX3_runsBySize 17 = .ok (.ifCond .lt 21, 3) := by decide +kernel
theorem dX3_runsBySize_20 : decode cX3_runsBySize 20 = .ok (.aload_n 0, 1) := by decide +kernel
theorem dX3_runsBySize_21 : decode cX3_runsBySize 21 = .ok (.getfield 25, 3) := by decide +kernel
theorem dX3_runsBySize_24 : decode cX3_runsBySize 24 = .ok (.aload_n 0, 1) := by decide +kernel
theorem dX3_runsBySize_25 : decode cX3_runsBySize 25 = .ok (.getfield 9, 3) := by decide +kernel
theorem dX3_runsBySize_28 : decode cX3_runsBySize 28 = .ok (.iload_n 1, 1) := by decide +kernel
theorem dX3_runsBySize_29 : decode cX3_runsBySize 29 = .ok (.iaload, 1) := by decide +kernel
theorem dX3_runsBySize_30 : decode cX3_runsBySize 30 = .ok (.iload_n 1, 1) := by decide +kernel
theorem dX3_runsBySize_31 : decode cX3_runsBySize 31 = .ok (.iastore, 1) := by decide +kernel
theorem dX3_runsBySize_32 : decode cX3_runsBySize 32 = .ok (.iinc 1 (-1), 3) := by decide +kernel
theorem dX3_runsBySize_35 : decode cX3_runsBySize 35 = .ok (.goto (-19), 3) := by decide +kernel
theorem dX3_runsBySize_38 : decode cX3_runsBySize 38 = .ok (.iconst 0, 1) := by decide +kernel
theorem dX3_runsBySize_39 : decode cX3_runsBySize 39 = .ok (.istore_n 1, 1) := by decide +kernel
theorem dX3_runsBySize_40 : decode cX3_runsBySize 40 = .ok (.aload_n 0, 1) := by decide +kernel
theorem dX3_runsBySize_41 : decode cX3_runsBySize 41 = .ok (.getfield 15, 3) := by decide +kernel
theorem dX3_runsBySize_44 : decode cX3_runsBySize 44 = .ok (.istore_n 2, 1) := by decide +kernel
theorem dX3_runsBySize_45 : decode cX3_runsBySize 45 = .ok (.iconst 0, 1) := by decide +kernel
theorem dX3_runsBySize_46 : decode cX3_runsBySize 46 = .ok (.istore_n 3, 1) := by decide +kernel
theorem dX3_runsBySize_47 : decode cX3_runsBySize 47 = .ok (.iload_n 3, 1) := by decide +kernel
theorem dX3_runsBySize_48 : decode cX3_runsBySize 48 = .ok (.bipush 100, 2) := by decide +kernel
theorem dX3_runsBySize_50 : decode cX3_runsBySize 50 = .ok (.if_icmp .ge 45, 3) := by decide +kernel
theorem dX3_runsBySize_53 : decode cX3_runsBySize 53 = .ok (.aload_n 0, 1) := by decide +kernel
theorem dX3_runsBySize_54 : decode cX3_runsBySize 54 = .ok (.getfield 25, 3) := by decide +kernel
theorem dX3_runsBySize_57 : decode cX3_runsBySize 57 = .ok (.iload_n 3, 1) := by decide +kernel
theorem dX3_runsBySize_58 : decode cX3_runsBySize 58 = .ok (.iaload, 1) := by decide +kernel
theorem dX3_runsBySize_59 : decode cX3_runsBySize 59 = .ok (.bipush (-9), 2) := by decide +kernel
theorem dX3_runsBySize_61 : decode cX3_runsBySize 61 = .ok (.if_icmp .eq 28, 3) := by decide +kernel
theorem dX3_runsBySize_64 : decode cX3_runsBySize 64 = .ok (.iload_n 1, 1) := by decide +kernel
theorem dX3_runsBySize_65 : decode cX3_runsBySize 65 = .ok (.aload_n 0, 1) := by decide +kernel
theorem dX3_runsBySize_66 : decode cX3_runsBySize 66 = .ok (.getfield 25, 3) := by decide +kernel
theorem dX3_runsBySize_69 : decode cX3_runsBySize 69 = .ok (.iload_n 3, 1) := by decide +kernel
theorem dX3_runsBySize_70 : decode cX3_runsBySize 70 = .ok (.iaload, 1) := by decide +kernel
theorem dX3_runsBySize_71 : decode cX3_runsBySize 71 = .ok (.iload_n 2, 1) := by decide +kernel
theorem dX3_runsBySize_72 : decode cX3_runsBySize 72 = .ok (.if_icmp .ge 7, 3) := by decide +kernel
theorem dX3_runsBySize_75 : decode cX3_runsBySize 75 = .ok (.iconst 1, 1) := by decide +kernel
theorem dX3_runsBySize_76 : decode cX3_runsBySize 76 = .ok (.goto 4, 3) := by decide +kernel
theorem dX3_runsBySize_79 : decode cX3_runsBySize 79 = .ok (.iconst 0, 1) := by decide +kernel
theorem dX3_runsBySize_80 : decode cX3_runsBySize 80 = .ok (.iadd, 1) := by decide +kernel
theorem dX3_runsBySize_81 : decode cX3_runsBySize 81 = .ok (.istore_n 1, 1) := by decide +kernel
theorem dX3_runsBySize_82 : decode cX3_runsBySize 82 = .ok (.aload_n 0, 1) := by decide +kernel
theorem dX3_runsBySize_83 : decode cX3_runsBySize 83 = .ok (.getfield 25, 3) := by decide +kernel
theorem dX3_runsBySize_86 : decode cX3_runsBySize 86 = .ok (.iload_n 3, 1) := by decide +kernel
theorem dX3_runsBySize_87 : decode cX3_runsBySize 87 = .ok (.iaload, 1) := by decide +kernel
theorem dX3_runsBySize_88 : decode cX3_runsBySize 88 = .ok (.istore_n 2, 1) := by decide +kernel
theorem dX3_runsBySize_89 : decode cX3_runsBySize 89 = .ok (.iinc 3 1, 3) := by decide +kernel
theorem dX3_runsBySize_92 : decode cX3_runsBySize 92 = .ok (.goto (-45), 3) := by decide +kernel
theorem dX3_runsBySize_95 : decode cX3_runsBySize 95 = .ok (.iload_n 1, 1) := by decide +kernel
theorem dX3_runsBySize_96 : decode cX3_runsBySize 96 = .ok (.ireturn, 1) := by decide +kernel
theorem dX4_init_0 : decode cX4_init 0 = .ok (.aload_n 0, 1) := by decide +kernel
theorem dX4_init_1 : decode cX4_init 1 = .ok (.invokespecial 3, 3) := by decide +kernel
theorem dX4_init_4 : decode cX4_init 4 = .ok (.aload_n 0, 1) := by decide +kernel
theorem dX4_init_5 : decode cX4_init 5 = .ok (.bipush 80, 2) := by decide +kernel
theorem dX4_init_7 : decode cX4_init 7 = .ok (.newarray .int, 2) := by decide +kernel
theorem dX4_init_9 : decode cX4_init 9 = .ok (.putfield 9, 3) := by decide +kernel
theorem dX4_init_12 : decode cX4_init 12 = .ok (.aload_n 0, 1) := by decide +kernel
theorem dX4_init_13 : decode cX4_init 13 = .ok (.iconst 0, 1) := by decide +kernel
theorem dX4_init_14 : decode cX4_init 14 = .ok (.putfield 15, 3) := by decide +kernel
theorem dX4_init_17 : decode cX4_init 17 = .ok (.aload_n 0, 1) := by decide +kernel
theorem dX4_init_18 : decode cX4_init 18 = .ok (.iconst 0, 1) := by decide +kernel
theorem dX4_init_19 : decode cX4_init 19 = .ok (.putfield 19, 3) := by decide +kernel
theorem dX4_init_22 : decode cX4_init 22 = .ok (.aload_n 0, 1) := by decide +kernel
theorem dX4_init_23 : decode cX4_init 23 = .ok (.iconst 0, 1) := by decide +kernel
theorem dX4_init_24 : decode cX4_init 24 = .ok (.putfield 22, 3) := by decide +kernel
theorem dX4_init_27 : decode cX4_init 27 = .ok (.aload_n 0, 1) := by decide +kernel
theorem dX4_init_28 : decode cX4_init 28 = .ok (.iconst 0, 1) := by decide +kernel
theorem dX4_init_29 : decode cX4_init 29 = .ok (.putfield 25, 3) := by decide +kernel
theorem dX4_init_32 : decode cX4_init 32 = .ok (.aload_n 0, 1) := by decide +kernel
theorem dX4_init_33 : decode cX4_init 33 = .ok (.iconst 0, 1) := by decide +kernel
theorem dX4_init_34 : decode cX4_init 34 = .ok (.putfield 28, 3) := by decide +kernel
theorem dX4_init_37 : decode cX4_init 37 = .ok (.aload_n 0, 1) := by decide +kernel
theorem dX4_init_38 : decode cX4_init 38 = .ok (.iconst 0, 1) := by decide +kernel
theorem dX4_init_39 : decode cX4_init 39 = .ok (.putfield 31, 3) := by decide +kernel
theorem dX4_init_42 : decode cX4_init 42 = .ok (.aload_n 0, 1) := by decide +kernel
theorem dX4_init_43 : decode cX4_init 43 = .ok (.iconst 0, 1) := by decide +kernel
theorem dX4_init_44 : decode cX4_init 44 = .ok (.putfield 34, 3) := by decide +kernel
theorem dX4_init_47 : decode cX4_init 47 = .ok (.return_, 1) := by decide +kernel
theorem dX4_add_0 : decode cX4_add 0 = .ok (.aload_n 0, 1) := by decide +kernel
theorem dX4_add_1 : decode cX4_add 1 = .ok (.getfield 15, 3) := by decide +kernel
theorem dX4_add_4 : decode cX4_add 4 = .ok (.bipush 80, 2) := by decide +kernel
theorem dX4_add_6 : decode cX4_add 6 = .ok (.if_icmp .ge 23, 3) := by decide +kernel
theorem dX4_add_9 : decode cX4_add 9 = .ok (.aload_n 0, 1) := by decide +kernel
theorem dX4_add_10 : decode cX4_add 10 = .ok (.getfield 9, 3) := by decide +kernel
theorem dX4_add_13 : decode cX4_add 13 = .ok (.aload_n 0, 1) := by decide +kernel
theorem dX4_add_14 : decode cX4_add 14 = .ok (.getfield 15, 3) := by decide +kernel
theorem dX4_add_17 : decode cX4_add 17 = .ok (.iload_n 1, 1) := by decide +kernel
theorem dX4_add_18 : decode cX4_add 18 = .ok (.iastore, 1) := by decide +kernel
theorem dX4_add_19 : decode cX4_add 19 = .ok (.aload_n 0, 1) := by decide +kernel
theorem dX4_add_20 : decode cX4_add 20 = .ok (.dup, 1) := by decide +kernel
theorem dX4_add_21 : decode cX4_add 21 = .ok (.getfield 15, 3) := by decide +kernel
theorem dX4_add_24 : decode cX4_add 24 = .ok (.iconst 1, 1) := by decide +kernel
theorem dX4_add_25 : decode cX4_add 25 = .ok (.iadd, 1) := by decide +kernel
theorem dX4_add_26 : decode cX4_add 26 = .ok (.putfield 15, 3) := by decide +kernel
theorem dX4_add_29 : decode cX4_add 29 = .ok (.aload_n 0, 1) := by decide +kernel
theorem dX4_add_30 : decode cX4_add 30 = .ok (.getfield 15, 3) := by decide +kernel
theorem dX4_add_33 : decode cX4_add 33 = .ok (.ireturn, 1) := by decide +kernel
theorem dX4_clear_0 : decode cX4_clear 0 = .ok (.aload_n 0, 1) := by decide +kernel
theorem dX4_clear_1 : decode cX4_clear 1 = .ok (.iconst 0, 1) := by decide +kernel
theorem dX4_clear_2 : decode cX4_clear 2 = .ok (.putfield 15, 3) := by decide +kernel
theorem dX4_clear_5 : decode cX4_clear 5 = .ok (.return_, 1) := by decide +kernel
theorem dX4_wrongPlace_0 : decode cX4_wrongPlace 0 = .ok (.aload_n 0, 1) := by decide +kernel
theorem dX4_wrongPlace_1 : decode cX4_wrongPlace 1 = .ok (.iconst 0, 1) := by decide +kernel
theorem dX4_wrongPlace_2 : decode cX4_wrongPlace 2 = .ok (.putfield 19, 3) := by decide +kernel
theorem dX4_wrongPlace_5 : decode cX4_wrongPlace 5 = .ok (.iconst 0, 1) := by decide +kernel
theorem dX4_wrongPlace_6 : decode cX4_wrongPlace 6 = .ok (.istore_n 1, 1) := by decide +kernel
theorem dX4_wrongPlace_7 : decode cX4_wrongPlace 7 = .ok (.iload_n 1, 1) := by decide +kernel
theorem dX4_wrongPlace_8 : decode cX4_wrongPlace 8 = .ok (.bipush 80, 2) := by decide +kernel
theorem dX4_wrongPlace_10 : decode cX4_wrongPlace 10 = .ok (.if_icmp .ge 35, 3) := by decide +kernel
theorem dX4_wrongPlace_13 : decode cX4_wrongPlace 13 = .ok (.aload_n 0, 1) := by decide +kernel
theorem dX4_wrongPlace_14 : decode cX4_wrongPlace 14 = .ok (.invokevirtual 37, 3) := by decide +kernel
theorem dX4_wrongPlace_17 : decode cX4_wrongPlace 17 = .ok (.ifCond .ne 8, 3) := by decide +kernel
theorem dX4_wrongPlace_20 : decode cX4_wrongPlace 20 = .ok (.aload_n 0, 1) := by decide +kernel
theorem dX4_wrongPlace_21 : decode cX4_wrongPlace 21 = .ok (.getfield 19, 3) := by decide +kernel
theorem dX4_wrongPlace_24 : decode cX4_wrongPlace 24 = .ok (.ireturn, 1) := by decide +kernel
theorem dX4_wrongPlace_25 : decode cX4_wrongPlace 25 = .ok (.aload_n 0, 1) := by decide +kernel
theorem dX4_wrongPlace_26 : decode cX4_wrongPlace 26 = .ok (.getfield 19, 3) := by decide +kernel
theorem dX4_wrongPlace_29 : decode cX4_wrongPlace 29 = .ok (.aload_n 0, 1) := by decide +kernel
theorem dX4_wrongPlace_30 : decode cX4_wrongPlace 30 = .ok (.getfield 15, 3) := by decide +kernel
theorem dX4_wrongPlace_33 : decode cX4_wrongPlace 33 = .ok (.if_icmp .lt 6, 3) := by decide +kernel
theorem dX4_wrongPlace_36 : decode cX4_wrongPlace 36 = .ok (.bipush (-9), 2) := by decide +kernel
theorem dX4_wrongPlace_38 : decode cX4_wrongPlace 38 = .ok (.ireturn, 1) := by decide +kernel
theorem dX4_wrongPlace_39 : decode cX4_wrongPlace 39 = .ok (.iinc 1 1, 3) := by decide +kernel
theorem dX4_wrongPlace_42 : decode cX4_wrongPlace 42 = .ok (.goto (-35), 3) := by decide +kernel
theorem dX4_wrongPlace_45 : decode cX4_wrongPlace 45 = .ok (.bipush (-9), 2) := by decide +kernel
theorem dX4_wrongPlace_47 : decode cX4_wrongPlace 47 = .ok (.ireturn, 1) := by decide +kernel
theorem dX4_readStatement_0 : decode cX4_readStatement 0 = .ok (.aload_n 0, 1) := by decide +kernel
theorem dX4_readStatement_1 : decode cX4_readStatement 1 = .ok (.aload_n 0, 1) := by decide +kernel
theorem dX4_readStatement_2 : decode cX4_readStatement 2 = .ok (.getfield 19, 3) := by decide +kernel
theorem dX4_readStatement_5 : decode cX4_readStatement 5 = .ok (.aload_n 0, 1) := by decide +kernel
theorem dX4_readStatement_6 : decode cX4_readStatement 6 = .ok (.getfield 15, 3) := by decide +kernel
theorem dX4_readStatement_9 : decode cX4_readStatement 9 = .ok (.if_icmp .ge 15, 3) := by decide +kernel
theorem dX4_readStatement_12 : decode cX4_readStatement 12 = .ok (.aload_n 0, 1) := by decide +kernel
theorem dX4_readStatement_13 : decode cX4_readStatement 13 = .ok (.getfield 9, 3) := by decide +kernel
theorem dX4_readStatement_16 : decode cX4_readStatement 16 = .ok (.aload_n 0, 1) := by decide +kernel
theorem dX4_readStatement_17 : decode cX4_readStatement 17 = .ok (.getfield 19, 3) := by decide +kernel
theorem dX4_readStatement_20 : decode cX4_readStatement 20 = .ok (.iaload, 1) := by decide +kernel
theorem dX4_readStatement_21 : decode cX4_readStatement 21 = .ok (.goto 4, 3) := by decide +kernel
theorem dX4_readStatement_24 : decode cX4_readStatement 24 = .ok (.iconst 0, 1) := by decide +kernel
theorem dX4_readStatement_25 : decode cX4_readStatement 25 = .ok (.putfield 22, 3) := by decide +kernel
theorem dX4_readStatement_28 : decode cX4_readStatement 28 = .ok (.aload_n 0, 1) := by decide +kernel
theorem dX4_readStatement_29 : decode cX4_readStatement 29 = .ok (.getfield 22, 3) := by decide +kernel
theorem dX4_readStatement_32 : decode cX4_readStatement 32 = .ok (.lookupswitch 124 #[(106, 36), (109, 51), (116, 92)], 36) := by decide +kernel
theorem dX4_readStatement_68 : decode cX4_readStatement 68 = .ok (.aload_n 0, 1) := by decide +kernel
theorem dX4_readStatement_69 : decode cX4_readStatement 69 = .ok (.dup, 1) := by decide +kernel
theorem dX4_readStatement_70 : decode cX4_readStatement 70 = .ok (.getfield 19, 3) := by decide +kernel
theorem dX4_readStatement_73 : decode cX4_readStatement 73 = .ok (.iconst 1, 1) := by decide +kernel
theorem dX4_readStatement_74 : decode cX4_readStatement 74 = .ok (.iadd, 1) := by decide +kernel
theorem dX4_readStatement_75 : decode cX4_readStatement 75 = .ok (.putfield 19, 3) := by decide +kernel
theorem dX4_readStatement_78 : decode cX4_readStatement 78 = .ok (.aload_n 0, 1) := by decide +kernel
theorem dX4_readStatement_79 : decode cX4_readStatement 79 = .ok (.invokevirtual 41, 3) := by decide +kernel
theorem dX4_readStatement_82 : decode cX4_readStatement 82 = .ok (.ireturn, 1) := by decide +kernel
theorem dX4_readStatement_83 : decode cX4_readStatement 83 = .ok (.aload_n 0, 1) := by decide +kernel
theorem dX4_readStatement_84 : decode cX4_readStatement 84 = .ok (.dup, 1) := by decide +kernel
theorem dX4_readStatement_85 : decode cX4_readStatement 85 = .ok (.getfield 19, 3) := by decide +kernel
theorem dX4_readStatement_88 : decode cX4_readStatement 88 = .ok (.iconst 1, 1) := by decide +kernel
theorem dX4_readStatement_89 : decode cX4_readStatement 89 = .ok (.iadd, 1) := by decide +kernel
theorem dX4_readStatement_90 : decode cX4_readStatement 90 = .ok (.putfield 19, 3) := by decide +kernel
theorem dX4_readStatement_93 : decode cX4_readStatement 93 = .ok (.aload_n 0, 1) := by decide +kernel
theorem dX4_readStatement_94 : decode cX4_readStatement 94 = .ok (.ldc 44, 2) := by decide +kernel
theorem dX4_readStatement_96 : decode cX4_readStatement 96 = .ok (.invokevirtual 46, 3) := by decide +kernel
theorem dX4_readStatement_99 : decode cX4_readStatement 99 = .ok (.ifCond .eq 23, 3) := by decide +kernel
theorem dX4_readStatement_102 : decode cX4_readStatement 102 = .ok (.aload_n 0, 1) := by decide +kernel
theorem dX4_readStatement_103 : decode cX4_readStatement 103 = .ok (.invokevirtual 50, 3) := by decide +kernel
theorem dX4_readStatement_106 : decode cX4_readStatement 106 = .ok (.ifCond .eq 16, 3) := by decide +kernel
theorem dX4_readStatement_109 : decode cX4_readStatement 109 = .ok (.aload_n 0, 1) := by decide +kernel
theorem dX4_readStatement_110 : decode cX4_readStatement 110 = .ok (.bipush 59, 2) := by decide +kernel
theorem dX4_readStatement_112 : decode cX4_readStatement 112 = .ok (.invokevirtual 53, 3) := by decide +kernel
theorem dX4_readStatement_115 : decode cX4_readStatement 115 = .ok (.ifCond .eq 7, 3) := by decide +kernel
theorem dX4_readStatement_118 : decode cX4_readStatement 118 = .ok (.iconst 1, 1) := by decide +kernel
theorem dX4_readStatement_119 : decode cX4_readStatement 119 = .ok (.goto 4, 3) := by decide +kernel
theorem dX4_readStatement_122 : decode cX4_readStatement 122 = .ok (.iconst 0, 1) := by decide +kernel
theorem dX4_readStatement_123 : decode cX4_readStatement 123 = .ok (.ireturn, 1) := by decide +kernel
theorem dX4_readStatement_124 : decode cX4_readStatement 124 = .ok (.aload_n 0, 1) := by decide +kernel
theorem dX4_readStatement_125 : decode cX4_readStatement 125 = .ok (.dup, 1) := by decide +kernel
theorem dX4_readStatement_126 : decode cX4_readStatement 126 = .ok (.getfield 19, 3) := by decide +kernel
theorem dX4_readStatement_129 : decode cX4_readStatement 129 = .ok (.iconst 1, 1) := by decide +kernel
theorem dX4_readStatement_130 : decode cX4_readStatement 130 = .ok (.iadd, 1) := by decide +kernel
theorem dX4_readStatement_131 : decode cX4_readStatement 131 = .ok (.putfield 19, 3) := by decide +kernel
theorem dX4_readStatement_134 : decode cX4_readStatement 134 = .ok (.aload_n 0, 1) := by decide +kernel
theorem dX4_readStatement_135 : decode cX4_readStatement 135 = .ok (.ldc 57, 2) := by decide +kernel
theorem dX4_readStatement_137 : decode cX4_readStatement 137 = .ok (.invokevirtual 46, 3) := by decide +kernel
theorem dX4_readStatement_140 : decode cX4_readStatement 140 = .ok (.ifCond .eq 14, 3) := by decide +kernel
theorem dX4_readStatement_143 : decode cX4_readStatement 143 = .ok (.aload_n 0, 1) := by decide +kernel
theorem dX4_readStatement_144 : decode cX4_readStatement 144 = .ok (.invokevirtual 41, 3) := by decide +kernel
theorem dX4_readStatement_147 : decode cX4_readStatement 147 = .ok (.ifCond .eq 7, 3) := by decide +kernel
theorem dX4_readStatement_150 : decode cX4_readStatement 150 = .ok (.iconst 1, 1) := by decide +kernel
theorem dX4_readStatement_151 : decode cX4_readStatement 151 = .ok (.goto 4, 3) := by decide +kernel
theorem dX4_readStatement_154 : decode cX4_readStatement 154 = .ok (.iconst 0, 1) := by decide +kernel
theorem dX4_readStatement_155 : decode cX4_readStatement 155 = .ok (.ireturn, 1) := by decide +kernel
theorem dX4_readStatement_156 : decode cX4_readStatement 156 = .ok (.iconst 0, 1) := by decide +kernel
theorem dX4_readStatement_157 : decode cX4_readStatement 157 = .ok (.ireturn, 1) := by decide +kernel
theorem dX4_tellTo_0 : decode cX4_tellTo 0 = .ok (.aload_n 0, 1) := by decide +kernel
theorem dX4_tellTo_1 : decode cX4_tellTo 1 = .ok (.getfield 22, 3) := by decide +kernel
theorem dX4_tellTo_4 : decode cX4_tellTo 4 = .ok (.lookupswitch 66 #[(106, 28), (116, 45)], 28) := by decide +kernel
theorem dX4_tellTo_32 : decode cX4_tellTo 32 = .ok (.aload_n 1, 1) := by decide +kernel
theorem dX4_tellTo_33 : decode cX4_tellTo 33 = .ok (.aload_n 0, 1) := by decide +kernel
theorem dX4_tellTo_34 : decode cX4_tellTo 34 = .ok (.getfield 28, 3) := by decide +kernel
theorem dX4_tellTo_37 : decode cX4_tellTo 37 = .ok (.aload_n 0, 1) := by decide +kernel
theorem dX4_tellTo_38 : decode cX4_tellTo 38 = .ok (.getfield 31, 3) := by decide +kernel
theorem dX4_tellTo_41 : decode cX4_tellTo 41 = .ok (.aload_n 0, 1) := by decide +kernel
theorem dX4_tellTo_42 : decode cX4_tellTo 42 = .ok (.getfield 34, 3) := by decide +kernel
theorem dX4_tellTo_45 : decode cX4_tellTo 45 = .ok (.invokevirtual 59, 3) := by decide +kernel
theorem dX4_tellTo_48 : decode cX4_tellTo 48 = .ok (.ireturn, 1) := by decide +kernel
theorem dX4_tellTo_49 : decode cX4_tellTo 49 = .ok (.aload_n 1, 1) := by decide +kernel
theorem dX4_tellTo_50 : decode cX4_tellTo 50 = .ok (.aload_n 0, 1) := by decide +kernel
theorem dX4_tellTo_51 : decode cX4_tellTo 51 = .ok (.getfield 25, 3) := by decide +kernel
theorem dX4_tellTo_54 : decode cX4_tellTo 54 = .ok (.aload_n 0, 1) := by decide +kernel
theorem dX4_tellTo_55 : decode cX4_tellTo 55 = .ok (.getfield 28, 3) := by decide +kernel
theorem dX4_tellTo_58 : decode cX4_tellTo 58 = .ok (.aload_n 0, 1) := by decide +kernel
theorem dX4_tellTo_59 : decode cX4_tellTo 59 = .ok (.getfield 31, 3) := by decide +kernel
theorem dX4_tellTo_62 : decode cX4_tellTo 62 = .ok (.aload_n 0, 1) := by decide +kernel
theorem dX4_tellTo_63 : decode cX4_tellTo 63 = .ok (.getfield 34, 3) := by decide +kernel
theorem dX4_tellTo_66 : decode cX4_tellTo 66 = .ok (.invokevirtual 65, 3) := by decide +kernel
theorem dX4_tellTo_69 : decode cX4_tellTo 69 = .ok (.ireturn, 1) := by decide +kernel
theorem dX4_tellTo_70 : decode cX4_tellTo 70 = .ok (.aload_n 1, 1) := by decide +kernel
theorem dX4_tellTo_71 : decode cX4_tellTo 71 = .ok (.aload_n 0, 1) := by decide +kernel
theorem dX4_tellTo_72 : decode cX4_tellTo 72 = .ok (.getfield 25, 3) := by decide +kernel
theorem dX4_tellTo_75 : decode cX4_tellTo 75 = .ok (.aload_n 0, 1) := by decide +kernel
theorem dX4_tellTo_76 : decode cX4_tellTo 76 = .ok (.getfield 31, 3) := by decide +kernel
theorem dX4_tellTo_79 : decode cX4_tellTo 79 = .ok (.invokevirtual 69, 3) := by decide +kernel
theorem dX4_tellTo_82 : decode cX4_tellTo 82 = .ok (.iconst 1, 1) := by decide +kernel
theorem dX4_tellTo_83 : decode cX4_tellTo 83 = .ok (.ireturn, 1) := by decide +kernel
theorem dX4_readOwnerFigureMinute_0 : decode cX4_readOwnerFigureMinute 0 = .ok (.aload_n 0, 1) := by decide +kernel
theorem dX4_readOwnerFigureMinute_1 : decode cX4_readOwnerFigureMinute 1 = .ok (.aload_n 0, 1) := by decide +kernel
theorem dX4_readOwnerFigureMinute_2 : decode cX4_readOwnerFigureMinute 2 = .ok (.invokevirtual 73, 3) := by decide +kernel
theorem dX4_readOwnerFigureMinute_5 : decode cX4_readOwnerFigureMinute 5 = .ok (.putfield 28, 3) := by decide +kernel
theorem dX4_readOwnerFigureMinute_8 : decode cX4_readOwnerFigureMinute 8 = .ok (.aload_n 0, 1) := by decide +kernel
theorem dX4_readOwnerFigureMinute_9 : decode cX4_readOwnerFigureMinute 9 = .ok (.getfield 28, 3) := by decide +kernel
theorem dX4_readOwnerFigureMinute_12 : decode cX4_readOwnerFigureMinute 12 = .ok (.ifCond .lt 39, 3) := by decide +kernel
theorem dX4_readOwnerFigureMinute_15 : decode cX4_readOwnerFigureMinute 15 = .ok (.aload_n 0, 1) := by decide +kernel
theorem dX4_readOwnerFigureMinute_16 : decode cX4_readOwnerFigureMinute 16 = .ok (.invokevirtual 50, 3) := by decide +kernel
theorem dX4_readOwnerFigureMinute_19 : decode cX4_readOwnerFigureMinute 19 = .ok (.ifCond .eq 32, 3) := by decide +kernel
theorem dX4_readOwnerFigureMinute_22 : decode cX4_readOwnerFigureMinute 22 = .ok (.aload_n 0, 1) := by decide +kernel
theorem dX4_readOwnerFigureMinute_23 : decode cX4_readOwnerFigureMinute 23 = .ok (.bipush 44, 2) := by decide +kernel
theorem dX4_readOwnerFigureMinute_25 : decode cX4_readOwnerFigureMinute 25 = .ok (.invokevirtual 53, 3) := by decide +kernel
theorem dX4_readOwnerFigureMinute_28 : decode cX4_readOwnerFigureMinute 28 = .ok (.ifCond .eq 23, 3) := by decide +kernel
theorem dX4_readOwnerFigureMinute_31 : decode cX4_readOwnerFigureMinute 31 = .ok (.aload_n 0, 1) := by decide +kernel
theorem dX4_readOwnerFigureMinute_32 : decode cX4_readOwnerFigureMinute 32 = .ok (.invokevirtual 77, 3) := by decide +kernel
theorem dX4_readOwnerFigureMinute_35 : decode cX4_readOwnerFigureMinute 35 = .ok (.ifCond .eq 16, 3) := by decide +kernel
theorem dX4_readOwnerFigureMinute_38 : decode cX4_readOwnerFigureMinute 38 = .ok (.aload_n 0, 1) := by decide +kernel
theorem dX4_readOwnerFigureMinute_39 : decode cX4_readOwnerFigureMinute 39 = .ok (.bipush 59, 2) := by decide +kernel
theorem dX4_readOwnerFigureMinute_41 : decode cX4_readOwnerFigureMinute 41 = .ok (.invokevirtual 53, 3) := by decide +kernel
theorem dX4_readOwnerFigureMinute_44 : decode cX4_readOwnerFigureMinute 44 = .ok (.ifCond .eq 7, 3) := by decide +kernel
theorem dX4_readOwnerFigureMinute_47 : decode cX4_readOwnerFigureMinute 47 = .ok (.iconst 1, 1) := by decide +kernel
theorem dX4_readOwnerFigureMinute_48 : decode cX4_readOwnerFigureMinute 48 = .ok (.goto 4, 3) := by decide +kernel
theorem dX4_readOwnerFigureMinute_51 : decode cX4_readOwnerFigureMinute 51 = .ok (.iconst 0, 1) := by decide +kernel
theorem dX4_readOwnerFigureMinute_52 : decode cX4_readOwnerFigureMinute 52 = .ok (.ireturn, 1) := by decide +kernel
theorem dX4_readKind_0 : decode cX4_readKind 0 = .ok (.aload_n 0, 1) := by decide +kernel
theorem dX4_readKind_1 : decode cX4_readKind 1 = .ok (.aload_n 0, 1) := by decide +kernel
theorem dX4_readKind_2 : decode cX4_readKind 2 = .ok (.getfield 19, 3) := by decide +kernel
theorem dX4_readKind_5 : decode cX4_readKind 5 = .ok (.aload_n 0, 1) := by decide +kernel
theorem dX4_readKind_6 : decode cX4_readKind 6 = .ok (.getfield 15, 3) := by decide +kernel
theorem dX4_readKind_9 : decode cX4_readKind 9 = .ok (.if_icmp .ge 20, 3) := by decide +kernel
theorem dX4_readKind_12 : decode cX4_readKind 12 = .ok (.aload_n 1, 1) := by decide +kernel
theorem dX4_readKind_13 : decode cX4_readKind 13 = .ok (.aload_n 0, 1) := by decide +kernel
theorem dX4_readKind_14 : decode cX4_readKind 14 = .ok (.getfield 9, 3) := by decide +kernel
theorem dX4_readKind_17 : decode cX4_readKind 17 = .ok (.aload_n 0, 1) := by decide +kernel
theorem dX4_readKind_18 : decode cX4_readKind 18 = .ok (.getfield 19, 3) := by decide +kernel
theorem dX4_readKind_21 : decode cX4_readKind 21 = .ok (.iaload, 1) := by decide +kernel
theorem dX4_readKind_22 : decode cX4_readKind 22 = .ok (.i2c, 1) := by decide +kernel
theorem dX4_readKind_23 : decode cX4_readKind 23 = .ok (.invokevirtual 80, 3) := by decide +kernel
theorem dX4_readKind_26 : decode cX4_readKind 26 = .ok (.goto 5, 3) := by decide +kernel
theorem dX4_readKind_29 : decode cX4_readKind 29 = .ok (.bipush (-9), 2) := by decide +kernel
theorem dX4_readKind_31 : decode cX4_readKind 31 = .ok (.putfield 25, 3) := by decide +kernel
theorem dX4_readKind_34 : decode cX4_readKind 34 = .ok (.aload_n 0, 1) := by decide +kernel
theorem dX4_readKind_35 : decode cX4_readKind 35 = .ok (.getfield 25, 3) := by decide +kernel
theorem dX4_readKind_38 : decode cX4_readKind 38 = .ok (.ifCond .ge 5, 3) := by decide +kernel
theorem dX4_readKind_41 : decode cX4_readKind 41 = .ok (.iconst 0, 1) := by decide +kernel
theorem dX4_readKind_42 : decode cX4_readKind 42 = .ok (.ireturn, 1) := by decide +kernel
theorem dX4_readKind_43 : decode cX4_readKind 43 = .ok (.aload_n 0, 1) := by decide +kernel
theorem dX4_readKind_44 : decode cX4_readKind 44 = .ok (.dup, 1) := by decide +kernel
theorem dX4_readKind_45 : decode cX4_readKind 45 = .ok (.getfield 19, 3) := by decide +kernel
theorem dX4_readKind_48 : decode cX4_readKind 48 = .ok (.iconst 1, 1) := by decide +kernel
theorem dX4_readKind_49 : decode cX4_readKind 49 = .ok (.iadd, 1) := by decide +kernel
theorem dX4_readKind_50 : decode cX4_readKind 50 = .ok (.putfield 19, 3) := by decide +kernel
theorem dX4_readKind_53 : decode cX4_readKind 53 = .ok (.iconst 1, 1) := by decide +kernel
theorem dX4_readKind_54 : decode cX4_readKind 54 = .ok (.ireturn, 1) := by decide +kernel
theorem dX4_readFigure_0 : decode cX4_readFigure 0 = .ok (.aload_n 0, 1) := by decide +kernel
theorem dX4_readFigure_1 : decode cX4_readFigure 1 = .ok (.aload_n 0, 1) := by decide +kernel
theorem dX4_readFigure_2 : decode cX4_readFigure 2 = .ok (.invokevirtual 73, 3) := by decide +kernel
theorem dX4_readFigure_5 : decode cX4_readFigure 5 = .ok (.putfield 31, 3) := by decide +kernel
theorem dX4_readFigure_8 : decode cX4_readFigure 8 = .ok (.aload_n 0, 1) := by decide +kernel
theorem dX4_readFigure_9 : decode cX4_readFigure 9 = .ok (.getfield 31, 3) := by decide +kernel
theorem dX4_readFigure_12 : decode cX4_readFigure 12 = .ok (.ifCond .lt 7, 3) := by decide +kernel
theorem dX4_readFigure_15 : decode cX4_readFigure 15 = .ok (.iconst 1, 1) := by decide +kernel
theorem dX4_readFigure_16 : decode cX4_readFigure 16 = .ok (.goto 4, 3) := by decide +kernel
theorem dX4_readFigure_19 : decode cX4_readFigure 19 = .ok (.iconst 0, 1) := by decide +kernel
theorem dX4_readFigure_20 : decode cX4_readFigure 20 = .ok (.ireturn, 1) := by decide +kernel
theorem dX4_readMinute_0 : decode cX4_readMinute 0 = .ok (.aload_n 0, 1) := by decide +kernel
theorem dX4_readMinute_1 : decode cX4_readMinute 1 = .ok (.aload_n 0, 1) := by decide +kernel
theorem dX4_readMinute_2 : decode cX4_readMinute 2 = .ok (.invokevirtual 73, 3) := by decide +kernel
theorem dX4_readMinute_5 : decode cX4_readMinute 5 = .ok (.putfield 34, 3) := by decide +kernel
theorem dX4_readMinute_8 : decode cX4_readMinute 8 = .ok (.aload_n 0, 1) := by decide +kernel
theorem dX4_readMinute_9 : decode cX4_readMinute 9 = .ok (.getfield 34, 3) := by decide +kernel
theorem dX4_readMinute_12 : decode cX4_readMinute 12 = .ok (.ifCond .ge 5, 3) := by decide +kernel
theorem dX4_readMinute_15 : decode cX4_readMinute 15 = .ok (.iconst 0, 1) := by decide +kernel
theorem dX4_readMinute_16 : decode cX4_readMinute 16 = .ok (.ireturn, 1) := by decide +kernel
theorem dX4_readMinute_17 : decode cX4_readMinute 17 = .ok (.aload_n 0, 1) := by decide +kernel
theorem dX4_readMinute_18 : decode cX4_readMinute 18 = .ok (.invokevirtual 73, 3) := by decide +kernel
theorem dX4_readMinute_21 : decode cX4_readMinute 21 = .ok (.istore_n 1, 1) := by decide +kernel
theorem dX4_readMinute_22 : decode cX4_readMinute 22 = .ok (.iload_n 1, 1) := by decide +kernel
theorem dX4_readMinute_23 : decode cX4_readMinute 23 = .ok (.ifCond .lt 16, 3) := by decide +kernel
theorem dX4_readMinute_26 : decode cX4_readMinute 26 = .ok (.aload_n 0, 1) := by decide +kernel
theorem dX4_readMinute_27 : decode cX4_readMinute 27 = .ok (.bipush 10, 2) := by decide +kernel
theorem dX4_readMinute_29 : decode cX4_readMinute 29 = .ok (.aload_n 0, 1) := by decide +kernel
theorem dX4_readMinute_30 : decode cX4_readMinute 30 = .ok (.getfield 34, 3) := by decide +kernel
theorem dX4_readMinute_33 : decode cX4_readMinute 33 = .ok (.imul, 1) := by decide +kernel
theorem dX4_readMinute_34 : decode cX4_readMinute 34 = .ok (.iload_n 1, 1) := by decide +kernel
theorem dX4_readMinute_35 : decode cX4_readMinute 35 = .ok (.iadd, 1) := by decide +kernel
theorem dX4_readMinute_36 : decode cX4_readMinute 36 = .ok (.putfield 34, 3) := by decide +kernel
theorem dX4_readMinute_39 : decode cX4_readMinute 39 = .ok (.iconst 1, 1) := by decide +kernel
theorem dX4_readMinute_40 : decode cX4_readMinute 40 = .ok (.ireturn, 1) := by decide +kernel
theorem dX4_readDigit_0 : decode cX4_readDigit 0 = .ok (.aload_n 0, 1) := by decide +kernel
theorem dX4_readDigit_1 : decode cX4_readDigit 1 = .ok (.getfield 19, 3) := by decide +kernel
theorem dX4_readDigit_4 : decode cX4_readDigit 4 = .ok (.aload_n 0, 1) := by decide +kernel
theorem dX4_readDigit_5 : decode cX4_readDigit 5 = .ok (.getfield 15, 3) := by decide +kernel
theorem dX4_readDigit_8 : decode cX4_readDigit 8 = .ok (.if_icmp .ge 31, 3) := by decide +kernel
theorem dX4_readDigit_11 : decode cX4_readDigit 11 = .ok (.aload_n 0, 1) := by decide +kernel
theorem dX4_readDigit_12 : decode cX4_readDigit 12 = .ok (.getfield 9, 3) := by decide +kernel
theorem dX4_readDigit_15 : decode cX4_readDigit 15 = .ok (.aload_n 0, 1) := by decide +kernel
theorem dX4_readDigit_16 : decode cX4_readDigit 16 = .ok (.getfield 19, 3) := by decide +kernel
theorem dX4_readDigit_19 : decode cX4_readDigit 19 = .ok (.iaload, 1) := by decide +kernel
theorem dX4_readDigit_20 : decode cX4_readDigit 20 = .ok (.bipush 48, 2) := by decide +kernel
theorem dX4_readDigit_22 : decode cX4_readDigit 22 = .ok (.if_icmp .lt 17, 3) := by decide +kernel
theorem dX4_readDigit_25 : decode cX4_readDigit 25 = .ok (.aload_n 0, 1) := by decide +kernel
theorem dX4_readDigit_26 : decode cX4_readDigit 26 = .ok (.getfield 9, 3) := by decide +kernel
theorem dX4_readDigit_29 : decode cX4_readDigit 29 = .ok (.aload_n 0, 1) := by decide +kernel
theorem dX4_readDigit_30 : decode cX4_readDigit 30 = .ok (.getfield 19, 3) := by decide +kernel
theorem dX4_readDigit_33 : decode cX4_readDigit 33 = .ok (.iaload, 1) := by decide +kernel
theorem dX4_readDigit_34 : decode cX4_readDigit 34 = .ok (.bipush 57, 2) := by decide +kernel
theorem dX4_readDigit_36 : decode cX4_readDigit 36 = .ok (.if_icmp .le 6, 3) := by decide +kernel
theorem dX4_readDigit_39 : decode cX4_readDigit 39 = .ok (.bipush (-9), 2) := by decide +kernel
theorem dX4_readDigit_41 : decode cX4_readDigit 41 = .ok (.ireturn, 1) := by decide +kernel
theorem dX4_readDigit_42 : decode cX4_readDigit 42 = .ok (.aload_n 0, 1) := by decide +kernel
theorem dX4_readDigit_43 : decode cX4_readDigit 43 = .ok (.getfield 9, 3) := by decide +kernel
theorem dX4_readDigit_46 : decode cX4_readDigit 46 = .ok (.aload_n 0, 1) := by decide +kernel
theorem dX4_readDigit_47 : decode cX4_readDigit 47 = .ok (.getfield 19, 3) := by decide +kernel
theorem dX4_readDigit_50 : decode cX4_readDigit 50 = .ok (.iaload, 1) := by decide +kernel
theorem dX4_readDigit_51 : decode cX4_readDigit 51 = .ok (.bipush 48, 2) := by decide +kernel
theorem dX4_readDigit_53 : decode cX4_readDigit 53 = .ok (.isub, 1) := by decide +kernel
theorem dX4_readDigit_54 : decode cX4_readDigit 54 = .ok (.istore_n 1, 1) := by decide +kernel
theorem dX4_readDigit_55 : decode cX4_readDigit 55 = .ok (.aload_n 0, 1) := by decide +kernel
theorem dX4_readDigit_56 : decode cX4_readDigit 56 = .ok (.dup, 1) := by decide +kernel
theorem dX4_readDigit_57 : decode cX4_readDigit 57 = .ok (.getfield 19, 3) := by decide +kernel
theorem dX4_readDigit_60 : decode cX4_readDigit 60 = .ok (.iconst 1, 1) := by decide +kernel
theorem dX4_readDigit_61 : decode cX4_readDigit 61 = .ok (.iadd, 1) := by decide +kernel
theorem dX4_readDigit_62 : decode cX4_readDigit 62 = .ok (.putfield 19, 3) := by decide +kernel
theorem dX4_readDigit_65 : decode cX4_readDigit 65 = .ok (.iload_n 1, 1) := by decide +kernel
theorem dX4_readDigit_66 : decode cX4_readDigit 66 = .ok (.ireturn, 1) := by decide +kernel
theorem dX4_readSign_0 : decode cX4_readSign 0 = .ok (.aload_n 0, 1) := by decide +kernel
theorem dX4_readSign_1 : decode cX4_readSign 1 = .ok (.getfield 19, 3) := by decide +kernel
theorem dX4_readSign_4 : decode cX4_readSign 4 = .ok (.aload_n 0, 1) := by decide +kernel
theorem dX4_readSign_5 : decode cX4_readSign 5 = .ok (.getfield 15, 3) := by decide +kernel
theorem dX4_readSign_8 : decode cX4_readSign 8 = .ok (.if_icmp .ge 16, 3) := by decide +kernel
theorem dX4_readSign_11 : decode cX4_readSign 11 = .ok (.aload_n 0, 1) := by decide +kernel
theorem dX4_readSign_12 : decode cX4_readSign 12 = .ok (.getfield 9, 3) := by decide +kernel
theorem dX4_readSign_15 : decode cX4_readSign 15 = .ok (.aload_n 0, 1) := by decide +kernel
theorem dX4_readSign_16 : decode cX4_readSign 16 = .ok (.getfield 19, 3) := by decide +kernel
theorem dX4_readSign_19 : decode cX4_readSign 19 = .ok (.iaload, 1) := by decide +kernel
theorem dX4_readSign_20 : decode cX4_readSign 20 = .ok (.iload_n 1, 1) := by decide +kernel
theorem dX4_readSign_21 : decode cX4_readSign 21 = .ok (.if_icmp .eq 5, 3) := by decide +kernel
theorem dX4_readSign_24 : decode cX4_readSign 24 = .ok (.iconst 0, 1) := by decide +kernel
theorem dX4_readSign_25 : decode cX4_readSign 25 = .ok (.ireturn, 1) := by decide +kernel
theorem dX4_readSign_26 : decode cX4_readSign 26 = .ok (.aload_n 0, 1) := by decide +kernel
theorem dX4_readSign_27 : decode cX4_readSign 27 = .ok (.dup, 1) := by decide +kernel
theorem dX4_readSign_28 : decode cX4_readSign 28 = .ok (.getfield 19, 3) := by decide +kernel
theorem dX4_readSign_31 : decode cX4_readSign 31 = .ok (.iconst 1, 1) := by decide +kernel
theorem dX4_readSign_32 : decode cX4_readSign 32 = .ok (.iadd, 1) := by decide +kernel
theorem dX4_readSign_33 : decode cX4_readSign 33 = .ok (.putfield 19, 3) := by decide +kernel
theorem dX4_readSign_36 : decode cX4_readSign 36 = .ok (.iconst 1, 1) := by decide +kernel
theorem dX4_readSign_37 : decode cX4_readSign 37 = .ok (.ireturn, 1) := by decide +kernel
theorem dX5_init_0 : decode cX5_init 0 = .ok (.aload_n 0, 1) := by decide +kernel
theorem dX5_init_1 : decode cX5_init 1 = .ok (.invokespecial 3, 3) := by decide +kernel
theorem dX5_init_4 : decode cX5_init 4 = .ok (.aload_n 0, 1) := by decide +kernel
theorem dX5_init_5 : decode cX5_init 5 = .ok (.bipush 100, 2) := by decide +kernel
theorem dX5_init_7 : decode cX5_init 7 = .ok (.newarray .int, 2) := by decide +kernel
theorem dX5_init_9 : decode cX5_init 9 = .ok (.putfield 9, 3) := by decide +kernel
theorem dX5_init_12 : decode cX5_init 12 = .ok (.aload_n 0, 1) := by decide +kernel
theorem dX5_init_13 : decode cX5_init 13 = .ok (.bipush 6, 2) := by decide +kernel
theorem dX5_init_15 : decode cX5_init 15 = .ok (.newarray .int, 2) := by decide +kernel
theorem dX5_init_17 : decode cX5_init 17 = .ok (.putfield 15, 3) := by decide +kernel
theorem dX5_init_20 : decode cX5_init 20 = .ok (.aload_n 0, 1) := by decide +kernel
theorem dX5_init_21 : decode cX5_init 21 = .ok (.iconst 0, 1) := by decide +kernel
theorem dX5_init_22 : decode cX5_init 22 = .ok (.putfield 18, 3) := by decide +kernel
theorem dX5_init_25 : decode cX5_init 25 = .ok (.return_, 1) := by decide +kernel
theorem dX5_putUpon_0 : decode cX5_putUpon 0 = .ok (.aload_n 0, 1) := by decide +kernel
theorem dX5_putUpon_1 : decode cX5_putUpon 1 = .ok (.getfield 18, 3) := by decide +kernel
theorem dX5_putUpon_4 : decode cX5_putUpon 4 = .ok (.bipush 100, 2) := by decide +kernel
theorem dX5_putUpon_6 : decode cX5_putUpon 6 = .ok (.if_icmp .ge 23, 3) := by decide +kernel
theorem dX5_putUpon_9 : decode cX5_putUpon 9 = .ok (.aload_n 0, 1) := by decide +kernel
theorem dX5_putUpon_10 : decode cX5_putUpon 10 = .ok (.getfield 9, 3) := by decide +kernel
theorem dX5_putUpon_13 : decode cX5_putUpon 13 = .ok (.aload_n 0, 1) := by decide +kernel
theorem dX5_putUpon_14 : decode cX5_putUpon 14 = .ok (.getfield 18, 3) := by decide +kernel
theorem dX5_putUpon_17 : decode cX5_putUpon 17 = .ok (.iload_n 1, 1) := by decide +kernel
theorem dX5_putUpon_18 : decode cX5_putUpon 18 = .ok (.iastore, 1) := by decide +kernel
theorem dX5_putUpon_19 : decode cX5_putUpon 19 = .ok (.aload_n 0, 1) := by decide +kernel
theorem dX5_putUpon_20 : decode cX5_putUpon 20 = .ok (.dup, 1) := by decide +kernel
theorem dX5_putUpon_21 : decode cX5_putUpon 21 = .ok (.getfield 18, 3) := by decide +kernel
theorem dX5_putUpon_24 : decode cX5_putUpon 24 = .ok (.iconst 1, 1) := by decide +kernel
theorem dX5_putUpon_25 : decode cX5_putUpon 25 = .ok (.iadd, 1) := by decide +kernel
theorem dX5_putUpon_26 : decode cX5_putUpon 26 = .ok (.putfield 18, 3) := by decide +kernel
theorem dX5_putUpon_29 : decode cX5_putUpon 29 = .ok (.return_, 1) := by decide +kernel
theorem dX5_putBeneath_0 : decode cX5_putBeneath 0 = .ok (.aload_n 0, 1) := by decide +kernel
theorem dX5_putBeneath_1 : decode cX5_putBeneath 1 = .ok (.getfield 18, 3) := by decide +kernel
theorem dX5_putBeneath_4 : decode cX5_putBeneath 4 = .ok (.bipush 100, 2) := by decide +kernel
theorem dX5_putBeneath_6 : decode cX5_putBeneath 6 = .ok (.if_icmp .ge 37, 3) := by decide +kernel
theorem dX5_putBeneath_9 : decode cX5_putBeneath 9 = .ok (.aload_n 0, 1) := by decide +kernel
theorem dX5_putBeneath_10 : decode cX5_putBeneath 10 = .ok (.getfield 9, 3) := by decide +kernel
theorem dX5_putBeneath_13 : decode cX5_putBeneath 13 = .ok (.iconst 0, 1) := by decide +kernel
theorem dX5_putBeneath_14 : decode cX5_putBeneath 14 = .ok (.aload_n 0, 1) := by decide +kernel
theorem dX5_putBeneath_15 : decode cX5_putBeneath 15 = .ok (.getfield 9, 3) := by decide +kernel
theorem dX5_putBeneath_18 : decode cX5_putBeneath 18 = .ok (.iconst 1, 1) := by decide +kernel
theorem dX5_putBeneath_19 : decode cX5_putBeneath 19 = .ok (.aload_n 0, 1) := by decide +kernel
theorem dX5_putBeneath_20 : decode cX5_putBeneath 20 = .ok (.getfield 18, 3) := by decide +kernel
theorem dX5_putBeneath_23 : decode cX5_putBeneath 23 = .ok (.invokestatic 22, 3) := by decide +kernel
theorem dX5_putBeneath_26 : decode cX5_putBeneath 26 = .ok (.aload_n 0, 1) := by decide +kernel
theorem dX5_putBeneath_27 : decode cX5_putBeneath 27 = .ok (.getfield 9, 3) := by decide +kernel
theorem dX5_putBeneath_30 : decode cX5_putBeneath 30 = .ok (.iconst 0, 1) := by decide +kernel
theorem dX5_putBeneath_31 : decode cX5_putBeneath 31 = .ok (.iload_n 1, 1) := by decide +kernel
theorem dX5_putBeneath_32 : decode cX5_putBeneath 32 = .ok (.iastore, 1) := by decide +kernel
theorem dX5_putBeneath_33 : decode cX5_putBeneath 33 = .ok (.aload_n 0, 1) := by decide +kernel
theorem dX5_putBeneath_34 : decode cX5_putBeneath 34 = .ok (.dup, 1) := by decide +kernel
theorem dX5_putBeneath_35 : decode cX5_putBeneath 35 = .ok (.getfield 18, 3) := by decide +kernel
theorem dX5_putBeneath_38 : decode cX5_putBeneath 38 = .ok (.iconst 1, 1) := by decide +kernel
theorem dX5_putBeneath_39 : decode cX5_putBeneath 39 = .ok (.iadd, 1) := by decide +kernel
theorem dX5_putBeneath_40 : decode cX5_putBeneath 40 = .ok (.putfield 18, 3) := by decide +kernel
theorem dX5_putBeneath_43 : decode cX5_putBeneath 43 = .ok (.return_, 1) := by decide +kernel
theorem dX5_fromTop_0 : decode cX5_fromTop 0 = .ok (.iload_n 1, 1) := by decide +kernel
theorem dX5_fromTop_1 : decode cX5_fromTop 1 = .ok (.ifCond .lt 27, 3) := by decide +kernel
theorem dX5_fromTop_4 : decode cX5_fromTop 4 = .ok (.iload_n 1, 1) := by decide +kernel
theorem dX5_fromTop_5 : decode cX5_fromTop 5 = .ok (.aload_n 0, 1) := by decide +kernel
theorem dX5_fromTop_6 : decode cX5_fromTop 6 = .ok (.getfield 18, 3) := by decide +kernel
theorem dX5_fromTop_9 : decode cX5_fromTop 9 = .ok (.if_icmp .ge 19, 3) := by decide +kernel
theorem dX5_fromTop_12 : decode cX5_fromTop 12 = .ok (.aload_n 0, 1) := by decide +kernel
theorem dX5_fromTop_13 : decode cX5_fromTop 13 = .ok (.getfield 9, 3) := by decide +kernel
theorem dX5_fromTop_16 : decode cX5_fromTop 16 = .ok (.aload_n 0, 1) := by decide +kernel
theorem dX5_fromTop_17 : decode cX5_fromTop 17 = .ok (.getfield 18, 3) := by decide +kernel
theorem dX5_fromTop_20 : decode cX5_fromTop 20 = .ok (.iconst 1, 1) := by decide +kernel
theorem dX5_fromTop_21 : decode cX5_fromTop 21 = .ok (.isub, 1) := by decide +kernel
theorem dX5_fromTop_22 : decode cX5_fromTop 22 = .ok (.iload_n 1, 1) := by decide +kernel
theorem dX5_fromTop_23 : decode cX5_fromTop 23 = .ok (.isub, 1) := by decide +kernel
theorem dX5_fromTop_24 : decode cX5_fromTop 24 = .ok (.iaload, 1) := by decide +kernel
theorem dX5_fromTop_25 : decode cX5_fromTop 25 = .ok (.goto 5, 3) := by decide +kernel
theorem dX5_fromTop_28 : decode cX5_fromTop 28 = .ok (.bipush (-9), 2) := by decide +kernel
theorem dX5_fromTop_30 : decode cX5_fromTop 30 = .ok (.ireturn, 1) := by decide +kernel
theorem dX5_looksAs_0 : decode cX5_looksAs 0 = .ok (.aload_n 1, 1) := by decide +kernel
theorem dX5_looksAs_1 : decode cX5_looksAs 1 = .ok (.getfield 28, 3) := by decide +kernel
theorem dX5_looksAs_4 : decode cX5_looksAs 4 = .ok (.aload_n 0, 1) := by decide +kernel
theorem dX5_looksAs_5 : decode cX5_looksAs 5 = .ok (.getfield 18, 3) := by decide +kernel
theorem dX5_looksAs_8 : decode cX5_looksAs 8 = .ok (.if_icmp .eq 5, 3) := by decide +kernel
theorem dX5_looksAs_11 : decode cX5_looksAs 11 = .ok (.iconst 0, 1) := by decide +kernel
theorem dX5_looksAs_12 : decode cX5_looksAs 12 = .ok (.ireturn, 1) := by decide +kernel
theorem dX5_looksAs_13 : decode cX5_looksAs 13 = .ok (.iconst 0, 1) := by decide +kernel
theorem dX5_looksAs_14 : decode cX5_looksAs 14 = .ok (.istore_n 2, 1) := by decide +kernel
theorem dX5_looksAs_15 : decode cX5_looksAs 15 = .ok (.iload_n 2, 1) := by decide +kernel
theorem dX5_looksAs_16 : decode cX5_looksAs 16 = .ok (.aload_n 0, 1) := by decide +kernel
theorem dX5_looksAs_17 : decode cX5_looksAs 17 = .ok (.getfield 18, 3) := by decide +kernel
theorem dX5_looksAs_20 : decode cX5_looksAs 20 = .ok (.if_icmp .ge 25, 3) := by decide +kernel
theorem dX5_looksAs_23 : decode cX5_looksAs 23 = .ok (.aload_n 0, 1) := by decide +kernel
theorem dX5_looksAs_24 : decode cX5_looksAs 24 = .ok (.iload_n 2, 1) := by decide +kernel
theorem dX5_looksAs_25 : decode cX5_looksAs 25 = .ok (.invokevirtual 31, 3) := by decide +kernel
theorem dX5_looksAs_28 : decode cX5_looksAs 28 = .ok (.aload_n 1, 1) := by decide +kernel
theorem dX5_looksAs_29 : decode cX5_looksAs 29 = .ok (.getfield 35, 3) := by decide +kernel
theorem dX5_looksAs_32 : decode cX5_looksAs 32 = .ok (.iload_n 2, 1) := by decide +kernel
theorem dX5_looksAs_33 : decode cX5_looksAs 33 = .ok (.iaload, 1) := by decide +kernel
theorem dX5_looksAs_34 : decode cX5_looksAs 34 = .ok (.if_icmp .eq 5, 3) := by decide +kernel
theorem dX5_looksAs_37 : decode cX5_looksAs 37 = .ok (.iconst 0, 1) := by decide +kernel
theorem dX5_looksAs_38 : decode cX5_looksAs 38 = .ok (.ireturn, 1) := by decide +kernel
theorem dX5_looksAs_39 : decode cX5_looksAs 39 = .ok (.iinc 2 1, 3) := by decide +kernel
theorem dX5_looksAs_42 : decode cX5_looksAs 42 = .ok (.goto (-27), 3) := by decide +kernel
theorem dX5_looksAs_45 : decode cX5_looksAs 45 = .ok (.iconst 1, 1) := by decide +kernel
theorem dX5_looksAs_46 : decode cX5_looksAs 46 = .ok (.ireturn, 1) := by decide +kernel
theorem dX5_giveTo_0 : decode cX5_giveTo 0 = .ok (.aload_n 1, 1) := by decide +kernel
theorem dX5_giveTo_1 : decode cX5_giveTo 1 = .ok (.getfield 38, 3) := by decide +kernel
theorem dX5_giveTo_4 : decode cX5_giveTo 4 = .ok (.iload_n 2, 1) := by decide +kernel
theorem dX5_giveTo_5 : decode cX5_giveTo 5 = .ok (.iaload, 1) := by decide +kernel
theorem dX5_giveTo_6 : decode cX5_giveTo 6 = .ok (.istore 4, 2) := by decide +kernel
theorem dX5_giveTo_8 : decode cX5_giveTo 8 = .ok (.aload_n 1, 1) := by decide +kernel
theorem dX5_giveTo_9 : decode cX5_giveTo 9 = .ok (.getfield 43, 3) := by decide +kernel
theorem dX5_giveTo_12 : decode cX5_giveTo 12 = .ok (.iload_n 2, 1) := by decide +kernel
theorem dX5_giveTo_13 : decode cX5_giveTo 13 = .ok (.iaload, 1) := by decide +kernel
theorem dX5_giveTo_14 : decode cX5_giveTo 14 = .ok (.istore 5, 2) := by decide +kernel
theorem dX5_giveTo_16 : decode cX5_giveTo 16 = .ok (.aload_n 1, 1) := by decide +kernel
theorem dX5_giveTo_17 : decode cX5_giveTo 17 = .ok (.getfield 46, 3) := by decide +kernel
theorem dX5_giveTo_20 : decode cX5_giveTo 20 = .ok (.iload_n 2, 1) := by decide +kernel
theorem dX5_giveTo_21 : decode cX5_giveTo 21 = .ok (.iaload, 1) := by decide +kernel
theorem dX5_giveTo_22 : decode cX5_giveTo 22 = .ok (.istore 6, 2) := by decide +kernel
theorem dX5_giveTo_24 : decode cX5_giveTo 24 = .ok (.iload 4, 2) := by decide +kernel
theorem dX5_giveTo_26 : decode cX5_giveTo 26 = .ok (.iconst 2, 1) := by decide +kernel
theorem dX5_giveTo_27 : decode cX5_giveTo 27 = .ok (.if_icmp .ne 13, 3) := by decide +kernel
theorem dX5_giveTo_30 : decode cX5_giveTo 30 = .ok (.aload_n 0, 1) := by decide +kernel
theorem dX5_giveTo_31 : decode cX5_giveTo 31 = .ok (.getfield 18, 3) := by decide +kernel
theorem dX5_giveTo_34 : decode cX5_giveTo 34 = .ok (.iload 6, 2) := by decide +kernel
theorem dX5_giveTo_36 : decode cX5_giveTo 36 = .ok (.isub, 1) := by decide +kernel
theorem dX5_giveTo_37 : decode cX5_giveTo 37 = .ok (.goto 4, 3) := by decide +kernel
theorem dX5_giveTo_40 : decode cX5_giveTo 40 = .ok (.iconst 0, 1) := by decide +kernel
theorem dX5_giveTo_41 : decode cX5_giveTo 41 = .ok (.istore 7, 2) := by decide +kernel
theorem dX5_giveTo_43 : decode cX5_giveTo 43 = .ok (.iload 4, 2) := by decide +kernel
theorem dX5_giveTo_45 : decode cX5_giveTo 45 = .ok (.iconst 4, 1) := by decide +kernel
theorem dX5_giveTo_46 : decode cX5_giveTo 46 = .ok (.if_icmp .ne 8, 3) := by decide +kernel
theorem dX5_giveTo_49 : decode cX5_giveTo 49 = .ok (.iload 6, 2) := by decide +kernel
theorem dX5_giveTo_51 : decode cX5_giveTo 51 = .ok (.goto 7, 3) := by decide +kernel
theorem dX5_giveTo_54 : decode cX5_giveTo 54 = .ok (.aload_n 0, 1) := by decide +kernel
theorem dX5_giveTo_55 : decode cX5_giveTo 55 = .ok (.getfield 18, 3) := by decide +kernel
theorem dX5_giveTo_58 : decode cX5_giveTo 58 = .ok (.istore 8, 2) := by decide +kernel
theorem dX5_giveTo_60 : decode cX5_giveTo 60 = .ok (.aload_n 0, 1) := by decide +kernel
theorem dX5_giveTo_61 : decode cX5_giveTo 61 = .ok (.aload_n 1, 1) := by decide +kernel
theorem dX5_giveTo_62 : decode cX5_giveTo 62 = .ok (.iload 4, 2) := by decide +kernel
theorem dX5_giveTo_64 : decode cX5_giveTo 64 = .ok (.iload 5, 2) := by decide +kernel
theorem dX5_giveTo_66 : decode cX5_giveTo 66 = .ok (.invokevirtual 49, 3) := by decide +kernel
theorem dX5_giveTo_69 : decode cX5_giveTo 69 = .ok (.istore 9, 2) := by decide +kernel
theorem dX5_giveTo_71 : decode cX5_giveTo 71 = .ok (.iconst 0, 1) := by decide +kernel
theorem dX5_giveTo_72 : decode cX5_giveTo 72 = .ok (.istore 10, 2) := by decide +kernel
theorem dX5_giveTo_74 : decode cX5_giveTo 74 = .ok (.iconst 0, 1) := by decide +kernel
theorem dX5_giveTo_75 : decode cX5_giveTo 75 = .ok (.istore 11, 2) := by decide +kernel
theorem dX5_giveTo_77 : decode cX5_giveTo 77 = .ok (.iload 11, 2) := by decide +kernel
theorem dX5_giveTo_79 : decode cX5_giveTo 79 = .ok (.aload_n 0, 1) := by decide +kernel
theorem dX5_giveTo_80 : decode cX5_giveTo 80 = .ok (.getfield 18, 3) := by decide +kernel
theorem dX5_giveTo_83 : decode cX5_giveTo 83 = .ok (.if_icmp .ge 66, 3) := by decide +kernel
theorem dX5_giveTo_86 : decode cX5_giveTo 86 = .ok (.aload_n 0, 1) := by decide +kernel
theorem dX5_giveTo_87 : decode cX5_giveTo 87 = .ok (.getfield 9, 3) := by decide +kernel
theorem dX5_giveTo_90 : decode cX5_giveTo 90 = .ok (.iload 11, 2) := by decide +kernel
theorem dX5_giveTo_92 : decode cX5_giveTo 92 = .ok (.iaload, 1) := by decide +kernel
theorem dX5_giveTo_93 : decode cX5_giveTo 93 = .ok (.istore 12, 2) := by decide +kernel
theorem dX5_giveTo_95 : decode cX5_giveTo 95 = .ok (.iload 11, 2) := by decide +kernel
theorem dX5_giveTo_97 : decode cX5_giveTo 97 = .ok (.iload 7, 2) := by decide +kernel
theorem dX5_giveTo_99 : decode cX5_giveTo 99 = .ok (.if_icmp .lt 32, 3) := by decide +kernel
theorem dX5_giveTo_102 : decode cX5_giveTo 102 = .ok (.iload 11, 2) := by decide +kernel
theorem dX5_giveTo_104 : decode cX5_giveTo 104 = .ok (.iload 8, 2) := by decide +kernel
theorem dX5_giveTo_106 : decode cX5_giveTo 106 = .ok (.if_icmp .ge 25, 3) := by decide +kernel
theorem dX5_giveTo_109 : decode cX5_giveTo 109 = .ok (.iload 9, 2) := by decide +kernel
theorem dX5_giveTo_111 : decode cX5_giveTo 111 = .ok (.iload 12, 2) := by decide +kernel
theorem dX5_giveTo_113 : decode cX5_giveTo 113 = .ok (.bipush 10, 2) := by decide +kernel
theorem dX5_giveTo_115 : decode cX5_giveTo 115 = .ok (.idiv, 1) := by decide +kernel
theorem dX5_giveTo_116 : decode cX5_giveTo 116 = .ok (.invokestatic 53, 3) := by decide +kernel
theorem dX5_giveTo_119 : decode cX5_giveTo 119 = .ok (.ifCond .eq 12, 3) := by decide +kernel
theorem dX5_giveTo_122 : decode cX5_giveTo 122 = .ok (.aload_n 3, 1) := by decide +kernel
theorem dX5_giveTo_123 : decode cX5_giveTo 123 = .ok (.iload 12, 2) := by decide +kernel
theorem dX5_giveTo_125 : decode cX5_giveTo 125 = .ok (.iload 5, 2) := by decide +kernel
theorem dX5_giveTo_127 : decode cX5_giveTo 127 = .ok (.iastore, 1) := by decide +kernel
theorem dX5_giveTo_128 : decode cX5_giveTo 128 = .ok (.goto 15, 3) := by decide +kernel
theorem dX5_giveTo_131 : decode cX5_giveTo 131 = .ok (.aload_n 0, 1) := by decide +kernel
theorem dX5_giveTo_132 : decode cX5_giveTo 132 = .ok (.getfield 9, 3) := by decide +kernel
theorem dX5_giveTo_135 : decode cX5_giveTo 135 = .ok (.iload 10, 2) := by decide +kernel
theorem dX5_giveTo_137 : decode cX5_giveTo 137 = .ok (.iload 12, 2) := by decide +kernel
theorem dX5_giveTo_139 : decode cX5_giveTo 139 = .ok (.iastore, 1) := by decide +kernel
theorem dX5_giveTo_140 : decode cX5_giveTo 140 = .ok (.iinc 10 1, 3) := by decide +kernel
theorem dX5_giveTo_143 : decode cX5_giveTo 143 = .ok (.iinc 11 1, 3) := by decide +kernel
theorem dX5_giveTo_146 : decode cX5_giveTo 146 = .ok (.goto (-69), 3) := by decide +kernel
theorem dX5_giveTo_149 : decode cX5_giveTo 149 = .ok (.aload_n 0, 1) := by decide +kernel
theorem dX5_giveTo_150 : decode cX5_giveTo 150 = .ok (.iload 10, 2) := by decide +kernel
theorem dX5_giveTo_152 : decode cX5_giveTo 152 = .ok (.putfield 18, 3) := by decide +kernel
theorem dX5_giveTo_155 : decode cX5_giveTo 155 = .ok (.return_, 1) := by decide +kernel
theorem dX5_jobsWanted_0 : decode cX5_jobsWanted 0 = .ok (.aload_n 1, 1) := by decide +kernel
theorem dX5_jobsWanted_1 : decode cX5_jobsWanted 1 = .ok (.iload_n 3, 1) := by decide +kernel
theorem dX5_jobsWanted_2 : decode cX5_jobsWanted 2 = .ok (.invokevirtual 57, 3) := by decide +kernel
theorem dX5_jobsWanted_5 : decode cX5_jobsWanted 5 = .ok (.istore 4, 2) := by decide +kernel
theorem dX5_jobsWanted_7 : decode cX5_jobsWanted 7 = .ok (.iload_n 2, 1) := by decide +kernel
theorem dX5_jobsWanted_8 : decode cX5_jobsWanted 8 = .ok (.tableswitch 66 1 5 #[36, 66, 39, 66, 57], 36) := by decide +kernel
theorem dX5_jobsWanted_44 : decode cX5_jobsWanted 44 = .ok (.iload 4, 2) := by decide +kernel
theorem dX5_jobsWanted_46 : decode cX5_jobsWanted 46 = .ok (.ireturn, 1) := by decide +kernel
theorem dX5_jobsWanted_47 : decode cX5_jobsWanted 47 = .ok (.aload_n 0, 1) := by decide +kernel
theorem dX5_jobsWanted_48 : decode cX5_jobsWanted 48 = .ok (.aload_n 1, 1) := by decide +kernel
theorem dX5_jobsWanted_49 : decode cX5_jobsWanted 49 = .ok (.invokevirtual 60, 3) := by decide +kernel
theorem dX5_jobsWanted_52 : decode cX5_jobsWanted 52 = .ok (.iload 4, 2) := by decide +kernel
theorem dX5_jobsWanted_54 : decode cX5_jobsWanted 54 = .ok (.iand, 1) := by decide +kernel
theorem dX5_jobsWanted_55 : decode cX5_jobsWanted 55 = .ok (.ifCond .eq 8, 3) := by decide +kernel
theorem dX5_jobsWanted_58 : decode cX5_jobsWanted 58 = .ok (.iload 4, 2) := by decide +kernel
theorem dX5_jobsWanted_60 : decode cX5_jobsWanted 60 = .ok (.goto 4, 3) := by decide +kernel
theorem dX5_jobsWanted_63 : decode cX5_jobsWanted 63 = .ok (.iconst 0, 1) := by decide +kernel
theorem dX5_jobsWanted_64 : decode cX5_jobsWanted 64 = .ok (.ireturn, 1) := by decide +kernel
theorem dX5_jobsWanted_65 : decode cX5_jobsWanted 65 = .ok (.aload_n 0, 1) := by decide +kernel
theorem dX5_jobsWanted_66 : decode cX5_jobsWanted 66 = .ok (.aload_n 1, 1) := by decide +kernel
theorem dX5_jobsWanted_67 : decode cX5_jobsWanted 67 = .ok (.invokevirtual 60, 3) := by decide +kernel
theorem dX5_jobsWanted_70 : decode cX5_jobsWanted 70 = .ok (.iload 4, 2) := by decide +kernel
theorem dX5_jobsWanted_72 : decode cX5_jobsWanted 72 = .ok (.iand, 1) := by decide +kernel
theorem dX5_jobsWanted_73 : decode cX5_jobsWanted 73 = .ok (.ireturn, 1) := by decide +kernel
theorem dX5_jobsWanted_74 : decode cX5_jobsWanted 74 = .ok (.bipush 63, 2) := by decide +kernel
theorem dX5_jobsWanted_76 : decode cX5_jobsWanted 76 = .ok (.ireturn, 1) := by decide +kernel
theorem dX5_wholeJobs_0 : decode cX5_wholeJobs 0 = .ok (.aload_n 0, 1) := by decide +kernel
theorem dX5_wholeJobs_1 : decode cX5_wholeJobs 1 = .ok (.getfield 15, 3) := by decide +kernel
theorem dX5_wholeJobs_4 : decode cX5_wholeJobs 4 = .ok (.iconst 0, 1) := by decide +kernel
theorem dX5_wholeJobs_5 : decode cX5_wholeJobs 5 = .ok (.invokestatic 64, 3) := by decide +kernel
theorem dX5_wholeJobs_8 : decode cX5_wholeJobs 8 = .ok (.iconst 0, 1) := by decide +kernel
theorem dX5_wholeJobs_9 : decode cX5_wholeJobs 9 = .ok (.istore_n 2, 1) := by decide +kernel
theorem dX5_wholeJobs_10 : decode cX5_wholeJobs 10 = .ok (.iload_n 2, 1) := by decide +kernel
theorem dX5_wholeJobs_11 : decode cX5_wholeJobs 11 = .ok (.aload_n 0, 1) := by decide +kernel
theorem dX5_wholeJobs_12 : decode cX5_wholeJobs 12 = .ok (.getfield 18, 3) := by decide +kernel
theorem dX5_wholeJobs_15 : decode cX5_wholeJobs 15 = .ok (.if_icmp .ge 37, 3) := by decide +kernel
theorem dX5_wholeJobs_18 : decode cX5_wholeJobs 18 = .ok (.aload_n 0, 1) := by decide +kernel
theorem dX5_wholeJobs_19 : decode cX5_wholeJobs 19 = .ok (.getfield 15, 3) := by decide +kernel
theorem dX5_wholeJobs_22 : decode cX5_wholeJobs 22 = .ok (.aload_n 0, 1) := by decide +kernel
theorem dX5_wholeJobs_23 : decode cX5_wholeJobs 23 = .ok (.getfield 9, 3) := by decide +kernel
theorem dX5_wholeJobs_26 : decode cX5_wholeJobs 26 = .ok (.iload_n 2, 1) := by decide +kernel
theorem dX5_wholeJobs_27 : decode cX5_wholeJobs 27 = .ok (.iaload, 1) := by decide +kernel
theorem dX5_wholeJobs_28 : decode cX5_wholeJobs 28 = .ok (.bipush 10, 2) := by decide +kernel
theorem dX5_wholeJobs_30 : decode cX5_wholeJobs 30 = .ok (.idiv, 1) := by decide +kernel
theorem dX5_wholeJobs_31 : decode cX5_wholeJobs 31 = .ok (.dup2, 1) := by decide +kernel
theorem dX5_wholeJobs_32 : decode cX5_wholeJobs 32 = .ok (.iaload, 1) := by decide +kernel
theorem dX5_wholeJobs_33 : decode cX5_wholeJobs 33 = .ok (.iconst 1, 1) := by decide +kernel
theorem dX5_wholeJobs_34 : decode cX5_wholeJobs 34 = .ok (.aload_n 0, 1) := by decide +kernel
theorem dX5_wholeJobs_35 : decode cX5_wholeJobs 35 = .ok (.getfield 9, 3) := by decide +kernel
theorem dX5_wholeJobs_38 : decode cX5_wholeJobs 38 = .ok (.iload_n 2, 1) := by decide +kernel
theorem dX5_wholeJobs_39 : decode cX5_wholeJobs 39 = .ok (.iaload, 1) := by decide +kernel
theorem dX5_wholeJobs_40 : decode cX5_wholeJobs 40 = .ok (.bipush 10, 2) := by decide +kernel
theorem dX5_wholeJobs_42 : decode cX5_wholeJobs 42 = .ok (.irem, 1) := by decide +kernel
theorem dX5_wholeJobs_43 : decode cX5_wholeJobs 43 = .ok (.ishl, 1) := by decide +kernel
theorem dX5_wholeJobs_44 : decode cX5_wholeJobs 44 = .ok (.ior, 1) := by decide +kernel
theorem dX5_wholeJobs_45 : decode cX5_wholeJobs 45 = .ok (.iastore, 1) := by decide +kernel
theorem dX5_wholeJobs_46 : decode cX5_wholeJobs 46 = .ok (.iinc 2 1, 3) := by decide +kernel
theorem dX5_wholeJobs_49 : decode cX5_wholeJobs 49 = .ok (.goto (-39), 3) := by decide +kernel
theorem dX5_wholeJobs_52 : decode cX5_wholeJobs 52 = .ok (.iconst 0, 1) := by decide +kernel
theorem dX5_wholeJobs_53 : decode cX5_wholeJobs 53 = .ok (.istore_n 2, 1) := by decide +kernel
theorem dX5_wholeJobs_54 : decode cX5_wholeJobs 54 = .ok (.iconst 0, 1) := by decide +kernel
theorem dX5_wholeJobs_55 : decode cX5_wholeJobs 55 = .ok (.istore_n 3, 1) := by decide +kernel
theorem dX5_wholeJobs_56 : decode cX5_wholeJobs 56 = .ok (.iload_n 3, 1) := by decide +kernel
theorem dX5_wholeJobs_57 : decode cX5_wholeJobs 57 = .ok (.aload_n 1, 1) := by decide +kernel
theorem dX5_wholeJobs_58 : decode cX5_wholeJobs 58 = .ok (.getfield 70, 3) := by decide +kernel
theorem dX5_wholeJobs_61 : decode cX5_wholeJobs 61 = .ok (.if_icmp .ge 37, 3) := by decide +kernel
theorem dX5_wholeJobs_64 : decode cX5_wholeJobs 64 = .ok (.iload_n 2, 1) := by decide +kernel
theorem dX5_wholeJobs_65 : decode cX5_wholeJobs 65 = .ok (.aload_n 0, 1) := by decide +kernel
theorem dX5_wholeJobs_66 : decode cX5_wholeJobs 66 = .ok (.getfield 15, 3) := by decide +kernel
theorem dX5_wholeJobs_69 : decode cX5_wholeJobs 69 = .ok (.iload_n 3, 1) := by decide +kernel
theorem dX5_wholeJobs_70 : decode cX5_wholeJobs 70 = .ok (.iaload, 1) := by decide +kernel
theorem dX5_wholeJobs_71 : decode cX5_wholeJobs 71 = .ok (.aload_n 1, 1) := by decide +kernel
theorem dX5_wholeJobs_72 : decode cX5_wholeJobs 72 = .ok (.getfield 73, 3) := by decide +kernel
theorem dX5_wholeJobs_75 : decode cX5_wholeJobs 75 = .ok (.iload_n 3, 1) := by decide +kernel
theorem dX5_wholeJobs_76 : decode cX5_wholeJobs 76 = .ok (.iaload, 1) := by decide +kernel
theorem dX5_wholeJobs_77 : decode cX5_wholeJobs 77 = .ok (.invokestatic 76, 3) := by decide +kernel
theorem dX5_wholeJobs_80 : decode cX5_wholeJobs 80 = .ok (.if_icmp .ne 9, 3) := by decide +kernel
theorem dX5_wholeJobs_83 : decode cX5_wholeJobs 83 = .ok (.iconst 1, 1) := by decide +kernel
theorem dX5_wholeJobs_84 : decode cX5_wholeJobs 84 = .ok (.iload_n 3, 1) := by decide +kernel
theorem dX5_wholeJobs_85 : decode cX5_wholeJobs 85 = .ok (.ishl, 1) := by decide +kernel
theorem dX5_wholeJobs_86 : decode cX5_wholeJobs 86 = .ok (.goto 4, 3) := by decide +kernel
theorem dX5_wholeJobs_89 : decode cX5_wholeJobs 89 = .ok (.iconst 0, 1) := by decide +kernel
theorem dX5_wholeJobs_90 : decode cX5_wholeJobs 90 = .ok (.ior, 1) := by decide +kernel
theorem dX5_wholeJobs_91 : decode cX5_wholeJobs 91 = .ok (.istore_n 2, 1) := by decide +kernel
theorem dX5_wholeJobs_92 : decode cX5_wholeJobs 92 = .ok (.iinc 3 1, 3) := by decide +kernel
theorem dX5_wholeJobs_95 : decode cX5_wholeJobs 95 = .ok (.goto (-39), 3) := by decide +kernel
theorem dX5_wholeJobs_98 : decode cX5_wholeJobs 98 = .ok (.iload_n 2, 1) := by decide +kernel
theorem dX5_wholeJobs_99 : decode cX5_wholeJobs 99 = .ok (.ireturn, 1) := by decide +kernel
theorem dJ11_isValidCodePoint_9a6ad_0 : decode cJ11_isValidCodePoint_9a6ad 0 = .ok (.iload_n 0, 1) := by decide +kernel
theorem dJ11_isValidCodePoint_9a6ad_1 : decode cJ11_isValidCodePoint_9a6ad 1 = .ok (.bipush 16, 2) := by decide +kernel
theorem dJ11_isValidCodePoint_9a6ad_3 : decode cJ11_isValidCodePoint_9a6ad 3 = .ok (.iushr, 1) := by decide +kernel
theorem dJ11_isValidCodePoint_9a6ad_4 : decode cJ11_isValidCodePoint_9a6ad 4 = .ok (.istore_n 1, 1) := by decide +kernel
theorem dJ11_isValidCodePoint_9a6ad_5 : decode cJ11_isValidCodePoint_9a6ad 5 = .ok (.iload_n 1, 1) := by decide +kernel
theorem dJ11_isValidCodePoint_9a6ad_6 : decode cJ11_isValidCodePoint_9a6ad 6 = .ok (.bipush 17, 2) := by decide +kernel
theorem dJ11_isValidCodePoint_9a6ad_8 : decode cJ11_isValidCodePoint_9a6ad 8 = .ok (.if_icmp .ge 7, 3) := by decide +kernel
theorem dJ11_isValidCodePoint_9a6ad_11 : decode cJ11_isValidCodePoint_9a6ad 11 = .ok (.iconst 1, 1) := by decide +kernel
theorem dJ11_isValidCodePoint_9a6ad_12 : decode cJ11_isValidCodePoint_9a6ad 12 = .ok (.goto 4, 3) := by decide +kernel
theorem dJ11_isValidCodePoint_9a6ad_15 : decode cJ11_isValidCodePoint_9a6ad 15 = .ok (.iconst 0, 1) := by decide +kernel
theorem dJ11_isValidCodePoint_9a6ad_16 : decode cJ11_isValidCodePoint_9a6ad 16 = .ok (.ireturn, 1) := by decide +kernel
theorem dJ11_highSurrogate_5068e_0 : decode cJ11_highSurrogate_5068e 0 = .ok (.iload_n 0, 1) := by decide +kernel
theorem dJ11_highSurrogate_5068e_1 : decode cJ11_highSurrogate_5068e 1 = .ok (.bipush 10, 2) := by decide +kernel
theorem dJ11_highSurrogate_5068e_3 : decode cJ11_highSurrogate_5068e 3 = .ok (.iushr, 1) := by decide +kernel
theorem dJ11_highSurrogate_5068e_4 : decode cJ11_highSurrogate_5068e 4 = .ok (.ldc 110, 2) := by decide +kernel
theorem dJ11_highSurrogate_5068e_6 : decode cJ11_highSurrogate_5068e 6 = .ok (.iadd, 1) := by decide +kernel
theorem dJ11_highSurrogate_5068e_7 : decode cJ11_highSurrogate_5068e 7 = .ok (.i2c, 1) := by decide +kernel
theorem dJ11_highSurrogate_5068e_8 : decode cJ11_highSurrogate_5068e 8 = .ok (.ireturn, 1) := by decide +kernel
theorem dJ11_lowSurrogate_5068e_0 : decode cJ11_lowSurrogate_5068e 0 = .ok (.iload_n 0, 1) := by decide +kernel
theorem dJ11_lowSurrogate_5068e_1 : decode cJ11_lowSurrogate_5068e 1 = .ok (.sipush 1023, 3) := by decide +kernel
theorem dJ11_lowSurrogate_5068e_4 : decode cJ11_lowSurrogate_5068e 4 = .ok (.iand, 1) := by decide +kernel
theorem dJ11_lowSurrogate_5068e_5 : decode cJ11_lowSurrogate_5068e 5 = .ok (.ldc 76, 2) := by decide +kernel
theorem dJ11_lowSurrogate_5068e_7 : decode cJ11_lowSurrogate_5068e 7 = .ok (.iadd, 1) := by decide +kernel
theorem dJ11_lowSurrogate_5068e_8 : decode cJ11_lowSurrogate_5068e 8 = .ok (.i2c, 1) := by decide +kernel
theorem dJ11_lowSurrogate_5068e_9 : decode cJ11_lowSurrogate_5068e 9 = .ok (.ireturn, 1) := by decide +kernel
theorem dJ9_floorMod_7cf53_0 : decode cJ9_floorMod_7cf53 0 = .ok (.iload_n 0, 1) := by decide +kernel
theorem dJ9_floorMod_7cf53_1 : decode cJ9_floorMod_7cf53 1 = .ok (.iload_n 1, 1) := by decide +kernel
theorem dJ9_floorMod_7cf53_2 : decode cJ9_floorMod_7cf53 2 = .ok (.irem, 1) := by decide +kernel
theorem dJ9_floorMod_7cf53_3 : decode cJ9_floorMod_7cf53 3 = .ok (.istore_n 2, 1) := by decide +kernel
theorem dJ9_floorMod_7cf53_4 : decode cJ9_floorMod_7cf53 4 = .ok (.iload_n 0, 1) := by decide +kernel
theorem dJ9_floorMod_7cf53_5 : decode cJ9_floorMod_7cf53 5 = .ok (.iload_n 1, 1) := by decide +kernel
theorem dJ9_floorMod_7cf53_6 : decode cJ9_floorMod_7cf53 6 = .ok (.ixor, 1) := by decide +kernel
theorem dJ9_floorMod_7cf53_7 : decode cJ9_floorMod_7cf53 7 = .ok (.ifCond .ge 11, 3) := by decide +kernel
theorem dJ9_floorMod_7cf53_10 : decode cJ9_floorMod_7cf53 10 = .ok (.iload_n 2, 1) := by decide +kernel
theorem dJ9_floorMod_7cf53_11 : decode cJ9_floorMod_7cf53 11 = .ok (.ifCond .eq 7, 3) := by decide +kernel
theorem dJ9_floorMod_7cf53_14 : decode cJ9_floorMod_7cf53 14 = .ok (.iload_n 2, 1) := by decide +kernel
theorem dJ9_floorMod_7cf53_15 : decode cJ9_floorMod_7cf53 15 = .ok (.iload_n 1, 1) := by decide +kernel
theorem dJ9_floorMod_7cf53_16 : decode cJ9_floorMod_7cf53 16 = .ok (.iadd, 1) := by decide +kernel
theorem dJ9_floorMod_7cf53_17 : decode cJ9_floorMod_7cf53 17 = .ok (.ireturn, 1) := by decide +kernel
theorem dJ9_floorMod_7cf53_18 : decode cJ9_floorMod_7cf53 18 = .ok (.iload_n 2, 1) := by decide +kernel
theorem dJ9_floorMod_7cf53_19 : decode cJ9_floorMod_7cf53 19 = .ok (.ireturn, 1) := by decide +kernel
theorem dJ9_max_7cf53_0 : decode cJ9_max_7cf53 0 = .ok (.iload_n 0, 1) := by decide +kernel
theorem dJ9_max_7cf53_1 : decode cJ9_max_7cf53 1 = .ok (.iload_n 1, 1) := by decide +kernel
theorem dJ9_max_7cf53_2 : decode cJ9_max_7cf53 2 = .ok (.if_icmp .lt 7, 3) := by decide +kernel
theorem dJ9_max_7cf53_5 : decode cJ9_max_7cf53 5 = .ok (.iload_n 0, 1) := by decide +kernel
theorem dJ9_max_7cf53_6 : decode cJ9_max_7cf53 6 = .ok (.goto 4, 3) := by decide +kernel
theorem dJ9_max_7cf53_9 : decode cJ9_max_7cf53 9 = .ok (.iload_n 1, 1) := by decide +kernel
theorem dJ9_max_7cf53_10 : decode cJ9_max_7cf53 10 = .ok (.ireturn, 1) := by decide +kernel
theorem dJ9_min_7cf53_0 : decode cJ9_min_7cf53 0 = .ok (.iload_n 0, 1) := by decide +kernel
theorem dJ9_min_7cf53_1 : decode cJ9_min_7cf53 1 = .ok (.iload_n 1, 1) := by decide +kernel
theorem dJ9_min_7cf53_2 : decode cJ9_min_7cf53 2 = .ok (.if_icmp .gt 7, 3) := by decide +kernel
theorem dJ9_min_7cf53_5 : decode cJ9_min_7cf53 5 = .ok (.iload_n 0, 1) := by decide +kernel
theorem dJ9_min_7cf53_6 : decode cJ9_min_7cf53 6 = .ok (.goto 4, 3) := by decide +kernel
theorem dJ9_min_7cf53_9 : decode cJ9_min_7cf53 9 = .ok (.iload_n 1, 1) := by decide +kernel
theorem dJ9_min_7cf53_10 : decode cJ9_min_7cf53 10 = .ok (.ireturn, 1) := by decide +kernel
theorem dJ0_length_8abf5_0 : decode cJ0_length_8abf5 0 = .ok (.aload_n 0, 1) := by decide +kernel
theorem dJ0_length_8abf5_1 : decode cJ0_length_8abf5 1 = .ok (.getfield 9, 3) := by decide +kernel
theorem dJ0_length_8abf5_4 : decode cJ0_length_8abf5 4 = .ok (.arraylength, 1) := by decide +kernel
theorem dJ0_length_8abf5_5 : decode cJ0_length_8abf5 5 = .ok (.aload_n 0, 1) := by decide +kernel
theorem dJ0_length_8abf5_6 : decode cJ0_length_8abf5 6 = .ok (.invokevirtual 335, 3) := by decide +kernel
theorem dJ0_length_8abf5_9 : decode cJ0_length_8abf5 9 = .ok (.ishr, 1) := by decide +kernel
theorem dJ0_length_8abf5_10 : decode cJ0_length_8abf5 10 = .ok (.ireturn, 1) := by decide +kernel
theorem dJ0_indexOf_0f7a4_0 : decode cJ0_indexOf_0f7a4 0 = .ok (.aload_n 0, 1) := by decide +kernel
theorem dJ0_indexOf_0f7a4_1 : decode cJ0_indexOf_0f7a4 1 = .ok (.iload_n 1, 1) := by decide +kernel
theorem dJ0_indexOf_0f7a4_2 : decode cJ0_indexOf_0f7a4 2 = .ok (.iconst 0, 1) := by decide +kernel
theorem dJ0_indexOf_0f7a4_3 : decode cJ0_indexOf_0f7a4 3 = .ok (.invokevirtual 633, 3) := by decide +kernel
theorem dJ0_indexOf_0f7a4_6 : decode cJ0_indexOf_0f7a4 6 = .ok (.ireturn, 1) := by decide +kernel
theorem dJ0_indexOf_7cf53_0 : decode cJ0_indexOf_7cf53 0 = .ok (.aload_n 0, 1) := by decide +kernel
theorem dJ0_indexOf_7cf53_1 : decode cJ0_indexOf_7cf53 1 = .ok (.invokevirtual 492, 3) := by decide +kernel
theorem dJ0_indexOf_7cf53_4 : decode cJ0_indexOf_7cf53 4 = .ok (.ifCond .eq 19, 3) := by decide +kernel
theorem dJ0_indexOf_7cf53_7 : decode cJ0_indexOf_7cf53 7 = .ok (.aload_n 0, 1) := by decide +kernel
theorem dJ0_indexOf_7cf53_8 : decode cJ0_indexOf_7cf53 8 = .ok (.getfield 9, 3) := by decide +kernel
theorem dJ0_indexOf_7cf53_11 : decode cJ0_indexOf_7cf53 11 = .ok (.iload_n 1, 1) := by decide +kernel
theorem dJ0_indexOf_7cf53_12 : decode cJ0_indexOf_7cf53 12 = .ok (.iload_n 2, 1) := by decide +kernel
theorem dJ0_indexOf_7cf53_13 : decode cJ0_indexOf_7cf53 13 = .ok (.aload_n 0, 1) := by decide +kernel
theorem dJ0_indexOf_7cf53_14 : decode cJ0_indexOf_7cf53 14 = .ok (.invokevirtual 505, 3) := by decide +kernel
theorem dJ0_indexOf_7cf53_17 : decode cJ0_indexOf_7cf53 17 = .ok (.invokestatic 637, 3) := by decide +kernel
theorem dJ0_indexOf_7cf53_20 : decode cJ0_indexOf_7cf53 20 = .ok (.goto 16, 3) := by decide +kernel
theorem dJ0_indexOf_7cf53_23 : decode cJ0_indexOf_7cf53 23 = .ok (.aload_n 0, 1) := by decide +kernel
theorem dJ0_indexOf_7cf53_24 : decode cJ0_indexOf_7cf53 24 = .ok (.getfield 9, 3) := by decide +kernel
theorem dJ0_indexOf_7cf53_27 : decode cJ0_indexOf_7cf53 27 = .ok (.iload_n 1, 1) := by decide +kernel
theorem dJ0_indexOf_7cf53_28 : decode cJ0_indexOf_7cf53 28 = .ok (.iload_n 2, 1) := by decide +kernel
theorem dJ0_indexOf_7cf53_29 : decode cJ0_indexOf_7cf53 29 = .ok (.aload_n 0, 1) := by decide +kernel
theorem dJ0_indexOf_7cf53_30 : decode cJ0_indexOf_7cf53 30 = .ok (.invokevirtual 505, 3) := by decide +kernel
theorem dJ0_indexOf_7cf53_33 : decode cJ0_indexOf_7cf53 33 = .ok (.invokestatic 640, 3) := by decide +kernel
theorem dJ0_indexOf_7cf53_36 : decode cJ0_indexOf_7cf53 36 = .ok (.ireturn, 1) := by decide +kernel
theorem dJ0_coder_7d493_0 : decode cJ0_coder_7d493 0 = .ok (.getstatic 38, 3) := by decide +kernel
theorem dJ0_coder_7d493_3 : decode cJ0_coder_7d493 3 = .ok (.ifCond .eq 10, 3) := by decide +kernel
theorem dJ0_coder_7d493_6 : decode cJ0_coder_7d493 6 = .ok (.aload_n 0, 1) := by decide +kernel
theorem dJ0_coder_7d493_7 : decode cJ0_coder_7d493 7 = .ok (.getfield 15, 3) := by decide +kernel
theorem dJ0_coder_7d493_10 : decode cJ0_coder_7d493 10 = .ok (.goto 4, 3) := by decide +kernel
theorem dJ0_coder_7d493_13 : decode cJ0_coder_7d493 13 = .ok (.iconst 1, 1) := by decide +kernel
theorem dJ0_coder_7d493_14 : decode cJ0_coder_7d493 14 = .ok (.ireturn, 1) := by decide +kernel
theorem dJ0_isLatin1_aae02_0 : decode cJ0_isLatin1_aae02 0 = .ok (.getstatic 38, 3) := by decide +kernel
theorem dJ0_isLatin1_aae02_3 : decode cJ0_isLatin1_aae02 3 = .ok (.ifCond .eq 14, 3) := by decide +kernel
theorem dJ0_isLatin1_aae02_6 : decode cJ0_isLatin1_aae02 6 = .ok (.aload_n 0, 1) := by decide +kernel
theorem dJ0_isLatin1_aae02_7 : decode cJ0_isLatin1_aae02 7 = .ok (.getfield 15, 3) := by decide +kernel
theorem dJ0_isLatin1_aae02_10 : decode cJ0_isLatin1_aae02 10 = .ok (.ifCond .ne 7, 3) := by decide +kernel
theorem dJ0_isLatin1_aae02_13 : decode cJ0_isLatin1_aae02 13 = .ok (.iconst 1, 1) := by decide +kernel
theorem dJ0_isLatin1_aae02_14 : decode cJ0_isLatin1_aae02 14 = .ok (.goto 4, 3) := by decide +kernel
theorem dJ0_isLatin1_aae02_17 : decode cJ0_isLatin1_aae02 17 = .ok (.iconst 0, 1) := by decide +kernel
theorem dJ0_isLatin1_aae02_18 : decode cJ0_isLatin1_aae02 18 = .ok (.ireturn, 1) := by decide +kernel
theorem dJ0_checkBoundsBeginEnd_23922_0 : decode cJ0_checkBoundsBeginEnd_23922 0 = .ok (.iload_n 0, 1) := by decide +kernel
theorem dJ0_checkBoundsBeginEnd_23922_1 : decode cJ0_checkBoundsBeginEnd_23922 1 = .ok (.iload_n 1, 1) := by decide +kernel
theorem dJ0_checkBoundsBeginEnd_23922_2 : decode cJ0_checkBoundsBeginEnd_23922 2 = .ok (.iload_n 2, 1) := by decide +kernel
theorem dJ0_checkBoundsBeginEnd_23922_3 : decode cJ0_checkBoundsBeginEnd_23922 3 = .ok (.getstatic 1053, 3) := by decide +kernel
theorem dJ0_checkBoundsBeginEnd_23922_6 : decode cJ0_checkBoundsBeginEnd_23922 6 = .ok (.invokestatic 1062, 3) := by decide +kernel
theorem dJ0_checkBoundsBeginEnd_23922_9 : decode cJ0_checkBoundsBeginEnd_23922 9 = .ok (.pop, 1) := by decide +kernel
theorem dJ0_checkBoundsBeginEnd_23922_10 : decode cJ0_checkBoundsBeginEnd_23922 10 = .ok (.return_, 1) := by decide +kernel
theorem dJ1_canEncode_9a6ad_0 : decode cJ1_canEncode_9a6ad 0 = .ok (.iload_n 0, 1) := by decide +kernel
theorem dJ1_canEncode_9a6ad_1 : decode cJ1_canEncode_9a6ad 1 = .ok (.ifCond .lt 14, 3) := by decide +kernel
theorem dJ1_canEncode_9a6ad_4 : decode cJ1_canEncode_9a6ad 4 = .ok (.iload_n 0, 1) := by decide +kernel
theorem dJ1_canEncode_9a6ad_5 : decode cJ1_canEncode_9a6ad 5 = .ok (.sipush 255, 3) := by decide +kernel
theorem dJ1_canEncode_9a6ad_8 : decode cJ1_canEncode_9a6ad 8 = .ok (.if_icmp .gt 7, 3) := by decide +kernel
theorem dJ1_canEncode_9a6ad_11 : decode cJ1_canEncode_9a6ad 11 = .ok (.iconst 1, 1) := by decide +kernel
theorem dJ1_canEncode_9a6ad_12 : decode cJ1_canEncode_9a6ad 12 = .ok (.goto 4, 3) := by decide +kernel
theorem dJ1_canEncode_9a6ad_15 : decode cJ1_canEncode_9a6ad 15 = .ok (.iconst 0, 1) := by decide +kernel
theorem dJ1_canEncode_9a6ad_16 : decode cJ1_canEncode_9a6ad 16 = .ok (.ireturn, 1) := by decide +kernel
theorem dJ1_indexOf_4cfef_0 : decode cJ1_indexOf_4cfef 0 = .ok (.iload_n 1, 1) := by decide +kernel
theorem dJ1_indexOf_4cfef_1 : decode cJ1_indexOf_4cfef 1 = .ok (.invokestatic 88, 3) := by decide +kernel
theorem dJ1_indexOf_4cfef_4 : decode cJ1_indexOf_4cfef 4 = .ok (.ifCond .ne 5, 3) := by decide +kernel
theorem dJ1_indexOf_4cfef_7 : decode cJ1_indexOf_4cfef 7 = .ok (.iconst (-1), 1) := by decide +kernel
theorem dJ1_indexOf_4cfef_8 : decode cJ1_indexOf_4cfef 8 = .ok (.ireturn, 1) := by decide +kernel
theorem dJ1_indexOf_4cfef_9 : decode cJ1_indexOf_4cfef 9 = .ok (.iload_n 2, 1) := by decide +kernel
theorem dJ1_indexOf_4cfef_10 : decode cJ1_indexOf_4cfef 10 = .ok (.iconst 0, 1) := by decide +kernel
theorem dJ1_indexOf_4cfef_11 : decode cJ1_indexOf_4cfef 11 = .ok (.invokestatic 92, 3) := by decide +kernel
theorem dJ1_indexOf_4cfef_14 : decode cJ1_indexOf_4cfef 14 = .ok (.istore_n 2, 1) := by decide +kernel
theorem dJ1_indexOf_4cfef_15 : decode cJ1_indexOf_4cfef 15 = .ok (.iload_n 3, 1) := by decide +kernel
theorem dJ1_indexOf_4cfef_16 : decode cJ1_indexOf_4cfef 16 = .ok (.aload_n 0, 1) := by decide +kernel
theorem dJ1_indexOf_4cfef_17 : decode cJ1_indexOf_4cfef 17 = .ok (.arraylength, 1) := by decide +kernel
theorem dJ1_indexOf_4cfef_18 : decode cJ1_indexOf_4cfef 18 = .ok (.invokestatic 38, 3) := by decide +kernel
theorem dJ1_indexOf_4cfef_21 : decode cJ1_indexOf_4cfef 21 = .ok (.istore_n 3, 1) := by decide +kernel
theorem dJ1_indexOf_4cfef_22 : decode cJ1_indexOf_4cfef 22 = .ok (.iload_n 2, 1) := by decide +kernel
theorem dJ1_indexOf_4cfef_23 : decode cJ1_indexOf_4cfef 23 = .ok (.iload_n 3, 1) := by decide +kernel
theorem dJ1_indexOf_4cfef_24 : decode cJ1_indexOf_4cfef 24 = .ok (.if_icmp .lt 5, 3) := by decide +kernel
theorem dJ1_indexOf_4cfef_27 : decode cJ1_indexOf_4cfef 27 = .ok (.iconst (-1), 1) := by decide +kernel
theorem dJ1_indexOf_4cfef_28 : decode cJ1_indexOf_4cfef 28 = .ok (.ireturn, 1) := by decide +kernel
theorem dJ1_indexOf_4cfef_29 : decode cJ1_indexOf_4cfef 29 = .ok (.aload_n 0, 1) := by decide +kernel
theorem dJ1_indexOf_4cfef_30 : decode cJ1_indexOf_4cfef 30 = .ok (.iload_n 1, 1) := by decide +kernel
theorem dJ1_indexOf_4cfef_31 : decode cJ1_indexOf_4cfef 31 = .ok (.iload_n 2, 1) := by decide +kernel
theorem dJ1_indexOf_4cfef_32 : decode cJ1_indexOf_4cfef 32 = .ok (.iload_n 3, 1) := by decide +kernel
theorem dJ1_indexOf_4cfef_33 : decode cJ1_indexOf_4cfef 33 = .ok (.invokestatic 95, 3) := by decide +kernel
theorem dJ1_indexOf_4cfef_36 : decode cJ1_indexOf_4cfef 36 = .ok (.ireturn, 1) := by decide +kernel
theorem dJ1_indexOfChar_4cfef_0 : decode cJ1_indexOfChar_4cfef 0 = .ok (.iload_n 1, 1) := by decide +kernel
theorem dJ1_indexOfChar_4cfef_1 : decode cJ1_indexOfChar_4cfef 1 = .ok (.i2b, 1) := by decide +kernel
theorem dJ1_indexOfChar_4cfef_2 : decode cJ1_indexOfChar_4cfef 2 = .ok (.istore 4, 2) := by decide +kernel
theorem dJ1_indexOfChar_4cfef_4 : decode cJ1_indexOfChar_4cfef 4 = .ok (.iload_n 2, 1) := by decide +kernel
theorem dJ1_indexOfChar_4cfef_5 : decode cJ1_indexOfChar_4cfef 5 = .ok (.istore 5, 2) := by decide +kernel
theorem dJ1_indexOfChar_4cfef_7 : decode cJ1_indexOfChar_4cfef 7 = .ok (.iload 5, 2) := by decide +kernel
theorem dJ1_indexOfChar_4cfef_9 : decode cJ1_indexOfChar_4cfef 9 = .ok (.iload_n 3, 1) := by decide +kernel
theorem dJ1_indexOfChar_4cfef_10 : decode cJ1_indexOfChar_4cfef 10 = .ok (.if_icmp .ge 21, 3) := by decide +kernel
theorem dJ1_indexOfChar_4cfef_13 : decode cJ1_indexOfChar_4cfef 13 = .ok (.aload_n 0, 1) := by decide +kernel
theorem dJ1_indexOfChar_4cfef_14 : decode cJ1_indexOfChar_4cfef 14 = .ok (.iload 5, 2) := by decide +kernel
theorem dJ1_indexOfChar_4cfef_16 : decode cJ1_indexOfChar_4cfef 16 = .ok (.baload, 1) := by decide +kernel
theorem dJ1_indexOfChar_4cfef_17 : decode cJ1_indexOfChar_4cfef 17 = .ok (.iload 4, 2) := by decide +kernel
theorem dJ1_indexOfChar_4cfef_19 : decode cJ1_indexOfChar_4cfef 19 = .ok (.if_icmp .ne 6, 3) := by decide +kernel
theorem dJ1_indexOfChar_4cfef_22 : decode cJ1_indexOfChar_4cfef 22 = .ok (.iload 5, 2) := by decide +kernel
theorem dJ1_indexOfChar_4cfef_24 : decode cJ1_indexOfChar_4cfef 24 = .ok (.ireturn, 1) := by decide +kernel
theorem dJ1_indexOfChar_4cfef_25 : decode cJ1_indexOfChar_4cfef 25 = .ok (.iinc 5 1, 3) := by decide +kernel
theorem dJ1_indexOfChar_4cfef_28 : decode cJ1_indexOfChar_4cfef 28 = .ok (.goto (-21), 3) := by decide +kernel
theorem dJ1_indexOfChar_4cfef_31 : decode cJ1_indexOfChar_4cfef 31 = .ok (.iconst (-1), 1) := by decide +kernel
theorem dJ1_indexOfChar_4cfef_32 : decode cJ1_indexOfChar_4cfef 32 = .ok (.ireturn, 1) := by decide +kernel
theorem dJ2_getChar_3b067_0 : decode cJ2_getChar_3b067 0 = .ok (.getstatic 44, 3) := by decide +kernel
theorem dJ2_getChar_3b067_3 : decode cJ2_getChar_3b067 3 = .ok (.ifCond .ne 25, 3) := by decide +kernel
theorem dJ2_getChar_3b067_6 : decode cJ2_getChar_3b067 6 = .ok (.iload_n 1, 1) := by decide +kernel
theorem dJ2_getChar_3b067_7 : decode cJ2_getChar_3b067 7 = .ok (.ifCond .lt 11, 3) := by decide +kernel
theorem dJ2_getChar_3b067_10 : decode cJ2_getChar_3b067 10 = .ok (.iload_n 1, 1) := by decide +kernel
theorem dJ2_getChar_3b067_11 : decode cJ2_getChar_3b067 11 = .ok (.aload_n 0, 1) := by decide +kernel
theorem dJ2_getChar_3b067_12 : decode cJ2_getChar_3b067 12 = .ok (.invokestatic 48, 3) := by decide +kernel
theorem dJ2_getChar_3b067_15 : decode cJ2_getChar_3b067 15 = .ok (.if_icmp .lt 13, 3) := by decide +kernel
theorem dJ2_getChar_3b067_18 : decode cJ2_getChar_3b067 18 = .ok (.new 52, 3) := by decide +kernel
theorem dJ2_getChar_3b067_21 : decode cJ2_getChar_3b067 21 = .ok (.dup, 1) := by decide +kernel
theorem dJ2_getChar_3b067_22 : decode cJ2_getChar_3b067 22 = .ok (.ldc 54, 2) := by decide +kernel
theorem dJ2_getChar_3b067_24 : decode cJ2_getChar_3b067 24 = .ok (.invokespecial 56, 3) := by decide +kernel
theorem dJ2_getChar_3b067_27 : decode cJ2_getChar_3b067 27 = .ok (.athrow, 1) := by decide +kernel
theorem dJ2_getChar_3b067_28 : decode cJ2_getChar_3b067 28 = .ok (.iload_n 1, 1) := by decide +kernel
theorem dJ2_getChar_3b067_29 : decode cJ2_getChar_3b067 29 = .ok (.iconst 1, 1) := by decide +kernel
theorem dJ2_getChar_3b067_30 : decode cJ2_getChar_3b067 30 = .ok (.ishl, 1) := by decide +kernel
theorem dJ2_getChar_3b067_31 : decode cJ2_getChar_3b067 31 = .ok (.istore_n 1, 1) := by decide +kernel
theorem dJ2_getChar_3b067_32 : decode cJ2_getChar_3b067 32 = .ok (.aload_n 0, 1) := by decide +kernel
theorem dJ2_getChar_3b067_33 : decode cJ2_getChar_3b067 33 = .ok (.iload_n 1, 1) := by decide +kernel
theorem dJ2_getChar_3b067_34 : decode cJ2_getChar_3b067 34 = .ok (.iinc 1 1, 3) := by decide +kernel
theorem dJ2_getChar_3b067_37 : decode cJ2_getChar_3b067 37 = .ok (.baload, 1) := by decide +kernel
theorem dJ2_getChar_3b067_38 : decode cJ2_getChar_3b067 38 = .ok (.sipush 255, 3) := by decide +kernel
theorem dJ2_getChar_3b067_41 : decode cJ2_getChar_3b067 41 = .ok (.iand, 1) := by decide +kernel
theorem dJ2_getChar_3b067_42 : decode cJ2_getChar_3b067 42 = .ok (.getstatic 59, 3) := by decide +kernel
theorem dJ2_getChar_3b067_45 : decode cJ2_getChar_3b067 45 = .ok (.ishl, 1) := by decide +kernel
theorem dJ2_getChar_3b067_46 : decode cJ2_getChar_3b067 46 = .ok (.aload_n 0, 1) := by decide +kernel
theorem dJ2_getChar_3b067_47 : decode cJ2_getChar_3b067 47 = .ok (.iload_n 1, 1) := by decide +kernel
theorem dJ2_getChar_3b067_48 : decode cJ2_getChar_3b067 48 = .ok (.baload, 1) := by decide +kernel
theorem dJ2_getChar_3b067_49 : decode cJ2_getChar_3b067 49 = .ok (.sipush 255, 3) := by decide +kernel
theorem dJ2_getChar_3b067_52 : decode cJ2_getChar_3b067 52 = .ok (.iand, 1) := by decide +kernel
theorem dJ2_getChar_3b067_53 : decode cJ2_getChar_3b067 53 = .ok (.getstatic 63, 3) := by decide +kernel
theorem dJ2_getChar_3b067_56 : decode cJ2_getChar_3b067 56 = .ok (.ishl, 1) := by decide +kernel
theorem dJ2_getChar_3b067_57 : decode cJ2_getChar_3b067 57 = .ok (.ior, 1) := by decide +kernel
theorem dJ2_getChar_3b067_58 : decode cJ2_getChar_3b067 58 = .ok (.i2c, 1) := by decide +kernel
theorem dJ2_getChar_3b067_59 : decode cJ2_getChar_3b067 59 = .ok (.ireturn, 1) := by decide +kernel
theorem dJ2_length_9d52b_0 : decode cJ2_length_9d52b 0 = .ok (.aload_n 0, 1) := by decide +kernel
theorem dJ2_length_9d52b_1 : decode cJ2_length_9d52b 1 = .ok (.arraylength, 1) := by decide +kernel
theorem dJ2_length_9d52b_2 : decode cJ2_length_9d52b 2 = .ok (.iconst 1, 1) := by decide +kernel
theorem dJ2_length_9d52b_3 : decode cJ2_length_9d52b 3 = .ok (.ishr, 1) := by decide +kernel
theorem dJ2_length_9d52b_4 : decode cJ2_length_9d52b 4 = .ok (.ireturn, 1) := by decide +kernel
theorem dJ2_indexOf_4cfef_0 : decode cJ2_indexOf_4cfef 0 = .ok (.iload_n 2, 1) := by decide +kernel
theorem dJ2_indexOf_4cfef_1 : decode cJ2_indexOf_4cfef 1 = .ok (.iconst 0, 1) := by decide +kernel
theorem dJ2_indexOf_4cfef_2 : decode cJ2_indexOf_4cfef 2 = .ok (.invokestatic 224, 3) := by decide +kernel
theorem dJ2_indexOf_4cfef_5 : decode cJ2_indexOf_4cfef 5 = .ok (.istore_n 2, 1) := by decide +kernel
theorem dJ2_indexOf_4cfef_6 : decode cJ2_indexOf_4cfef 6 = .ok (.iload_n 3, 1) := by decide +kernel
theorem dJ2_indexOf_4cfef_7 : decode cJ2_indexOf_4cfef 7 = .ok (.aload_n 0, 1) := by decide +kernel
theorem dJ2_indexOf_4cfef_8 : decode cJ2_indexOf_4cfef 8 = .ok (.arraylength, 1) := by decide +kernel
theorem dJ2_indexOf_4cfef_9 : decode cJ2_indexOf_4cfef 9 = .ok (.iconst 1, 1) := by decide +kernel
theorem dJ2_indexOf_4cfef_10 : decode cJ2_indexOf_4cfef 10 = .ok (.ishr, 1) := by decide +kernel
theorem dJ2_indexOf_4cfef_11 : decode cJ2_indexOf_4cfef 11 = .ok (.invokestatic 183, 3) := by decide +kernel
theorem dJ2_indexOf_4cfef_14 : decode cJ2_indexOf_4cfef 14 = .ok (.istore_n 3, 1) := by decide +kernel
theorem dJ2_indexOf_4cfef_15 : decode cJ2_indexOf_4cfef 15 = .ok (.iload_n 2, 1) := by decide +kernel
theorem dJ2_indexOf_4cfef_16 : decode cJ2_indexOf_4cfef 16 = .ok (.iload_n 3, 1) := by decide +kernel
theorem dJ2_indexOf_4cfef_17 : decode cJ2_indexOf_4cfef 17 = .ok (.if_icmp .lt 5, 3) := by decide +kernel
theorem dJ2_indexOf_4cfef_20 : decode cJ2_indexOf_4cfef 20 = .ok (.iconst (-1), 1) := by decide +kernel
theorem dJ2_indexOf_4cfef_21 : decode cJ2_indexOf_4cfef 21 = .ok (.ireturn, 1) := by decide +kernel
theorem dJ2_indexOf_4cfef_22 : decode cJ2_indexOf_4cfef 22 = .ok (.iload_n 1, 1) := by decide +kernel
theorem dJ2_indexOf_4cfef_23 : decode cJ2_indexOf_4cfef 23 = .ok (.ldc 227, 2) := by decide +kernel
theorem dJ2_indexOf_4cfef_25 : decode cJ2_indexOf_4cfef 25 = .ok (.if_icmp .ge 11, 3) := by decide +kernel
theorem dJ2_indexOf_4cfef_28 : decode cJ2_indexOf_4cfef 28 = .ok (.aload_n 0, 1) := by decide +kernel
theorem dJ2_indexOf_4cfef_29 : decode cJ2_indexOf_4cfef 29 = .ok (.iload_n 1, 1) := by decide +kernel
theorem dJ2_indexOf_4cfef_30 : decode cJ2_indexOf_4cfef 30 = .ok (.iload_n 2, 1) := by decide +kernel
theorem dJ2_indexOf_4cfef_31 : decode cJ2_indexOf_4cfef 31 = .ok (.iload_n 3, 1) := by decide +kernel
theorem dJ2_indexOf_4cfef_32 : decode cJ2_indexOf_4cfef 32 = .ok (.invokestatic 228, 3) := by decide +kernel
theorem dJ2_indexOf_4cfef_35 : decode cJ2_indexOf_4cfef 35 = .ok (.ireturn, 1) := by decide +kernel
theorem dJ2_indexOf_4cfef_36 : decode cJ2_indexOf_4cfef 36 = .ok (.aload_n 0, 1) := by decide +kernel
theorem dJ2_indexOf_4cfef_37 : decode cJ2_indexOf_4cfef 37 = .ok (.iload_n 1, 1) := by decide +kernel
theorem dJ2_indexOf_4cfef_38 : decode cJ2_indexOf_4cfef 38 = .ok (.iload_n 2, 1) := by decide +kernel
theorem dJ2_indexOf_4cfef_39 : decode cJ2_indexOf_4cfef 39 = .ok (.iload_n 3, 1) := by decide +kernel
theorem dJ2_indexOf_4cfef_40 : decode cJ2_indexOf_4cfef 40 = .ok (.invokestatic 232, 3) := by decide +kernel
theorem dJ2_indexOf_4cfef_43 : decode cJ2_indexOf_4cfef 43 = .ok (.ireturn, 1) := by decide +kernel
theorem dJ2_indexOfChar_4cfef_0 : decode cJ2_indexOfChar_4cfef 0 = .ok (.iload_n 2, 1) := by decide +kernel
theorem dJ2_indexOfChar_4cfef_1 : decode cJ2_indexOfChar_4cfef 1 = .ok (.iload_n 3, 1) := by decide +kernel
theorem dJ2_indexOfChar_4cfef_2 : decode cJ2_indexOfChar_4cfef 2 = .ok (.aload_n 0, 1) := by decide +kernel
theorem dJ2_indexOfChar_4cfef_3 : decode cJ2_indexOfChar_4cfef 3 = .ok (.invokestatic 96, 3) := by decide +kernel
theorem dJ2_indexOfChar_4cfef_6 : decode cJ2_indexOfChar_4cfef 6 = .ok (.aload_n 0, 1) := by decide +kernel
theorem dJ2_indexOfChar_4cfef_7 : decode cJ2_indexOfChar_4cfef 7 = .ok (.iload_n 1, 1) := by decide +kernel
theorem dJ2_indexOfChar_4cfef_8 : decode cJ2_indexOfChar_4cfef 8 = .ok (.iload_n 2, 1) := by decide +kernel
theorem dJ2_indexOfChar_4cfef_9 : decode cJ2_indexOfChar_4cfef 9 = .ok (.iload_n 3, 1) := by decide +kernel
theorem dJ2_indexOfChar_4cfef_10 : decode cJ2_indexOfChar_4cfef 10 = .ok (.invokestatic 244, 3) := by decide +kernel
theorem dJ2_indexOfChar_4cfef_13 : decode cJ2_indexOfChar_4cfef 13 = .ok (.ireturn, 1) := by decide +kernel
theorem dJ2_indexOfCharUnsafe_4cfef_0 : decode cJ2_indexOfCharUnsafe_4cfef 0 = .ok (.iload_n 2, 1) := by decide +kernel
theorem dJ2_indexOfCharUnsafe_4cfef_1 : decode cJ2_indexOfCharUnsafe_4cfef 1 = .ok (.istore 4, 2) := by decide +kernel
theorem dJ2_indexOfCharUnsafe_4cfef_3 : decode cJ2_indexOfCharUnsafe_4cfef 3 = .ok (.iload 4, 2) := by decide +kernel
theorem dJ2_indexOfCharUnsafe_4cfef_5 : decode cJ2_indexOfCharUnsafe_4cfef 5 = .ok (.iload_n 3, 1) := by decide +kernel
theorem dJ2_indexOfCharUnsafe_4cfef_6 : decode cJ2_indexOfCharUnsafe_4cfef 6 = .ok (.if_icmp .ge 22, 3) := by decide +kernel
theorem dJ2_indexOfCharUnsafe_4cfef_9 : decode cJ2_indexOfCharUnsafe_4cfef 9 = .ok (.aload_n 0, 1) := by decide +kernel
theorem dJ2_indexOfCharUnsafe_4cfef_10 : decode cJ2_indexOfCharUnsafe_4cfef 10 = .ok (.iload 4, 2) := by decide +kernel
theorem dJ2_indexOfCharUnsafe_4cfef_12 : decode cJ2_indexOfCharUnsafe_4cfef 12 = .ok (.invokestatic 71, 3) := by decide +kernel
theorem dJ2_indexOfCharUnsafe_4cfef_15 : decode cJ2_indexOfCharUnsafe_4cfef 15 = .ok (.iload_n 1, 1) := by decide +kernel
theorem dJ2_indexOfCharUnsafe_4cfef_16 : decode cJ2_indexOfCharUnsafe_4cfef 16 = .ok (.if_icmp .ne 6, 3) := by decide +kernel
theorem dJ2_indexOfCharUnsafe_4cfef_19 : decode cJ2_indexOfCharUnsafe_4cfef 19 = .ok (.iload 4, 2) := by decide +kernel
theorem dJ2_indexOfCharUnsafe_4cfef_21 : decode cJ2_indexOfCharUnsafe_4cfef 21 = .ok (.ireturn, 1) := by decide +kernel
theorem dJ2_indexOfCharUnsafe_4cfef_22 : decode cJ2_indexOfCharUnsafe_4cfef 22 = .ok (.iinc 4 1, 3) := by decide +kernel
theorem dJ2_indexOfCharUnsafe_4cfef_25 : decode cJ2_indexOfCharUnsafe_4cfef 25 = .ok (.goto (-22), 3) := by decide +kernel
theorem dJ2_indexOfCharUnsafe_4cfef_28 : decode cJ2_indexOfCharUnsafe_4cfef 28 = .ok (.iconst (-1), 1) := by decide +kernel
theorem dJ2_indexOfCharUnsafe_4cfef_29 : decode cJ2_indexOfCharUnsafe_4cfef 29 = .ok (.ireturn, 1) := by decide +kernel
theorem dJ2_indexOfSupplementary_4cfef_0 : decode cJ2_indexOfSupplementary_4cfef 0 = .ok (.iload_n 1, 1) := by decide +kernel
theorem dJ2_indexOfSupplementary_4cfef_1 : decode cJ2_indexOfSupplementary_4cfef 1 = .ok (.invokestatic 164, 3) := by decide +kernel
theorem dJ2_indexOfSupplementary_4cfef_4 : decode cJ2_indexOfSupplementary_4cfef 4 = .ok (.ifCond .eq 65, 3) := by decide +kernel
theorem dJ2_indexOfSupplementary_4cfef_7 : decode cJ2_indexOfSupplementary_4cfef 7 = .ok (.iload_n 1, 1) := by decide +kernel
theorem dJ2_indexOfSupplementary_4cfef_8 : decode cJ2_indexOfSupplementary_4cfef 8 = .ok (.invokestatic 157, 3) := by decide +kernel
theorem dJ2_indexOfSupplementary_4cfef_11 : decode cJ2_indexOfSupplementary_4cfef 11 = .ok (.istore 4, 2) := by decide +kernel
theorem dJ2_indexOfSupplementary_4cfef_13 : decode cJ2_indexOfSupplementary_4cfef 13 = .ok (.iload_n 1, 1) := by decide +kernel
theorem dJ2_indexOfSupplementary_4cfef_14 : decode cJ2_indexOfSupplementary_4cfef 14 = .ok (.invokestatic 161, 3) := by decide +kernel
theorem dJ2_indexOfSupplementary_4cfef_17 : decode cJ2_indexOfSupplementary_4cfef 17 = .ok (.istore 5, 2) := by decide +kernel
theorem dJ2_indexOfSupplementary_4cfef_19 : decode cJ2_indexOfSupplementary_4cfef 19 = .ok (.iload_n 2, 1) := by decide +kernel
theorem dJ2_indexOfSupplementary_4cfef_20 : decode cJ2_indexOfSupplementary_4cfef 20 = .ok (.iload_n 3, 1) := by decide +kernel
theorem dJ2_indexOfSupplementary_4cfef_21 : decode cJ2_indexOfSupplementary_4cfef 21 = .ok (.aload_n 0, 1) := by decide +kernel
theorem dJ2_indexOfSupplementary_4cfef_22 : decode cJ2_indexOfSupplementary_4cfef 22 = .ok (.invokestatic 96, 3) := by decide +kernel
theorem dJ2_indexOfSupplementary_4cfef_25 : decode cJ2_indexOfSupplementary_4cfef 25 = .ok (.iload_n 2, 1) := by decide +kernel
theorem dJ2_indexOfSupplementary_4cfef_26 : decode cJ2_indexOfSupplementary_4cfef 26 = .ok (.istore 6, 2) := by decide +kernel
theorem dJ2_indexOfSupplementary_4cfef_28 : decode cJ2_indexOfSupplementary_4cfef 28 = .ok (.iload 6, 2) := by decide +kernel
theorem dJ2_indexOfSupplementary_4cfef_30 : decode cJ2_indexOfSupplementary_4cfef 30 = .ok (.iload_n 3, 1) := by decide +kernel
theorem dJ2_indexOfSupplementary_4cfef_31 : decode cJ2_indexOfSupplementary_4cfef 31 = .ok (.iconst 1, 1) := by decide +kernel
theorem dJ2_indexOfSupplementary_4cfef_32 : decode cJ2_indexOfSupplementary_4cfef 32 = .ok (.isub, 1) := by decide +kernel
theorem dJ2_indexOfSupplementary_4cfef_33 : decode cJ2_indexOfSupplementary_4cfef 33 = .ok (.if_icmp .ge 36, 3) := by decide +kernel
theorem dJ2_indexOfSupplementary_4cfef_36 : decode cJ2_indexOfSupplementary_4cfef 36 = .ok (.aload_n 0, 1) := by decide +kernel
theorem dJ2_indexOfSupplementary_4cfef_37 : decode cJ2_indexOfSupplementary_4cfef 37 = .ok (.iload 6, 2) := by decide +kernel
theorem dJ2_indexOfSupplementary_4cfef_39 : decode cJ2_indexOfSupplementary_4cfef 39 = .ok (.invokestatic 71, 3) := by decide +kernel
theorem dJ2_indexOfSupplementary_4cfef_42 : decode cJ2_indexOfSupplementary_4cfef 42 = .ok (.iload 4, 2) := by decide +kernel
theorem dJ2_indexOfSupplementary_4cfef_44 : decode cJ2_indexOfSupplementary_4cfef 44 = .ok (.if_icmp .ne 19, 3) := by decide +kernel
theorem dJ2_indexOfSupplementary_4cfef_47 : decode cJ2_indexOfSupplementary_4cfef 47 = .ok (.aload_n 0, 1) := by decide +kernel
theorem dJ2_indexOfSupplementary_4cfef_48 : decode cJ2_indexOfSupplementary_4cfef 48 = .ok (.iload 6, 2) := by decide +kernel
theorem dJ2_indexOfSupplementary_4cfef_50 : decode cJ2_indexOfSupplementary_4cfef 50 = .ok (.iconst 1, 1) := by decide +kernel
theorem dJ2_indexOfSupplementary_4cfef_51 : decode cJ2_indexOfSupplementary_4cfef 51 = .ok (.iadd, 1) := by decide +kernel
theorem dJ2_indexOfSupplementary_4cfef_52 : decode cJ2_indexOfSupplementary_4cfef 52 = .ok (.invokestatic 71, 3) := by decide +kernel
theorem dJ2_indexOfSupplementary_4cfef_55 : decode cJ2_indexOfSupplementary_4cfef 55 = .ok (.iload 5, 2) := by decide +kernel
theorem dJ2_indexOfSupplementary_4cfef_57 : decode cJ2_indexOfSupplementary_4cfef 57 = .ok (.if_icmp .ne 6, 3) := by decide +kernel
theorem dJ2_indexOfSupplementary_4cfef_60 : decode cJ2_indexOfSupplementary_4cfef 60 = .ok (.iload 6, 2) := by decide +kernel
theorem dJ2_indexOfSupplementary_4cfef_62 : decode cJ2_indexOfSupplementary_4cfef 62 = .ok (.ireturn, 1) := by decide +kernel
theorem dJ2_indexOfSupplementary_4cfef_63 : decode cJ2_indexOfSupplementary_4cfef 63 = .ok (.iinc 6 1, 3) := by decide +kernel
theorem dJ2_indexOfSupplementary_4cfef_66 : decode cJ2_indexOfSupplementary_4cfef 66 = .ok (.goto (-38), 3) := by decide +kernel
theorem dJ2_indexOfSupplementary_4cfef_69 : decode cJ2_indexOfSupplementary_4cfef 69 = .ok (.iconst (-1), 1) := by decide +kernel
theorem dJ2_indexOfSupplementary_4cfef_70 : decode cJ2_indexOfSupplementary_4cfef 70 = .ok (.ireturn, 1) := by decide +kernel
theorem dJ2_checkBoundsBeginEnd_d044e_0 : decode cJ2_checkBoundsBeginEnd_d044e 0 = .ok (.iload_n 0, 1) := by decide +kernel
theorem dJ2_checkBoundsBeginEnd_d044e_1 : decode cJ2_checkBoundsBeginEnd_d044e 1 = .ok (.iload_n 1, 1) := by decide +kernel
theorem dJ2_checkBoundsBeginEnd_d044e_2 : decode cJ2_checkBoundsBeginEnd_d044e 2 = .ok (.aload_n 2, 1) := by decide +kernel
theorem dJ2_checkBoundsBeginEnd_d044e_3 : decode cJ2_checkBoundsBeginEnd_d044e 3 = .ok (.invokestatic 48, 3) := by decide +kernel
theorem dJ2_checkBoundsBeginEnd_d044e_6 : decode cJ2_checkBoundsBeginEnd_d044e 6 = .ok (.invokestatic 241, 3) := by decide +kernel
theorem dJ2_checkBoundsBeginEnd_d044e_9 : decode cJ2_checkBoundsBeginEnd_d044e 9 = .ok (.return_, 1) := by decide +kernel
theorem dJ7_fill_53178_0 : decode cJ7_fill_53178 0 = .ok (.iconst 0, 1) := by decide +kernel
theorem dJ7_fill_53178_1 : decode cJ7_fill_53178 1 = .ok (.istore_n 2, 1) := by decide +kernel
theorem dJ7_fill_53178_2 : decode cJ7_fill_53178 2 = .ok (.aload_n 0, 1) := by decide +kernel
theorem dJ7_fill_53178_3 : decode cJ7_fill_53178 3 = .ok (.arraylength, 1) := by decide +kernel
theorem dJ7_fill_53178_4 : decode cJ7_fill_53178 4 = .ok (.istore_n 3, 1) := by decide +kernel
theorem dJ7_fill_53178_5 : decode cJ7_fill_53178 5 = .ok (.iload_n 2, 1) := by decide +kernel
theorem dJ7_fill_53178_6 : decode cJ7_fill_53178 6 = .ok (.iload_n 3, 1) := by decide +kernel
theorem dJ7_fill_53178_7 : decode cJ7_fill_53178 7 = .ok (.if_icmp .ge 13, 3) := by decide +kernel
theorem dJ7_fill_53178_10 : decode cJ7_fill_53178 10 = .ok (.aload_n 0, 1) := by decide +kernel
theorem dJ7_fill_53178_11 : decode cJ7_fill_53178 11 = .ok (.iload_n 2, 1) := by decide +kernel
theorem dJ7_fill_53178_12 : decode cJ7_fill_53178 12 = .ok (.iload_n 1, 1) := by decide +kernel
theorem dJ7_fill_53178_13 : decode cJ7_fill_53178 13 = .ok (.iastore, 1) := by decide +kernel
theorem dJ7_fill_53178_14 : decode cJ7_fill_53178 14 = .ok (.iinc 2 1, 3) := by decide +kernel
theorem dJ7_fill_53178_17 : decode cJ7_fill_53178 17 = .ok (.goto (-12), 3) := by decide +kernel
theorem dJ7_fill_53178_20 : decode cJ7_fill_53178 20 = .ok (.return_, 1) := by decide +kernel
theorem dJ3_checkFromToIndex_8c36e_0 : decode cJ3_checkFromToIndex_8c36e 0 = .ok (.iload_n 0, 1) := by decide +kernel
theorem dJ3_checkFromToIndex_8c36e_1 : decode cJ3_checkFromToIndex_8c36e 1 = .ok (.ifCond .lt 13, 3) := by decide +kernel
theorem dJ3_checkFromToIndex_8c36e_4 : decode cJ3_checkFromToIndex_8c36e 4 = .ok (.iload_n 0, 1) := by decide +kernel
theorem dJ3_checkFromToIndex_8c36e_5 : decode cJ3_checkFromToIndex_8c36e 5 = .ok (.iload_n 1, 1) := by decide +kernel
theorem dJ3_checkFromToIndex_8c36e_6 : decode cJ3_checkFromToIndex_8c36e 6 = .ok (.if_icmp .gt 8, 3) := by decide +kernel
theorem dJ3_checkFromToIndex_8c36e_9 : decode cJ3_checkFromToIndex_8c36e 9 = .ok (.iload_n 1, 1) := by decide +kernel
theorem dJ3_checkFromToIndex_8c36e_10 : decode cJ3_checkFromToIndex_8c36e 10 = .ok (.iload_n 2, 1) := by decide +kernel
theorem dJ3_checkFromToIndex_8c36e_11 : decode cJ3_checkFromToIndex_8c36e 11 = .ok (.if_icmp .le 11, 3) := by decide +kernel
theorem dJ3_checkFromToIndex_8c36e_14 : decode cJ3_checkFromToIndex_8c36e 14 = .ok (.aload_n 3, 1) := by decide +kernel
theorem dJ3_checkFromToIndex_8c36e_15 : decode cJ3_checkFromToIndex_8c36e 15 = .ok (.iload_n 0, 1) := by decide +kernel
theorem dJ3_checkFromToIndex_8c36e_16 : decode cJ3_checkFromToIndex_8c36e 16 = .ok (.iload_n 1, 1) := by decide +kernel
theorem dJ3_checkFromToIndex_8c36e_17 : decode cJ3_checkFromToIndex_8c36e 17 = .ok (.iload_n 2, 1) := by decide +kernel
theorem dJ3_checkFromToIndex_8c36e_18 : decode cJ3_checkFromToIndex_8c36e 18 = .ok (.invokestatic 99, 3) := by decide +kernel
theorem dJ3_checkFromToIndex_8c36e_21 : decode cJ3_checkFromToIndex_8c36e 21 = .ok (.athrow, 1) := by decide +kernel
theorem dJ3_checkFromToIndex_8c36e_22 : decode cJ3_checkFromToIndex_8c36e 22 = .ok (.iload_n 0, 1) := by decide +kernel
theorem dJ3_checkFromToIndex_8c36e_23 : decode cJ3_checkFromToIndex_8c36e 23 = .ok (.ireturn, 1) := by decide +kernel
end
section
theorem dX6_init_0 : decode cX6_init 0 = .ok (.aload_n 0, 1) := by decide +kernel
theorem dX6_init_1 : decode cX6_init 1 = .ok (.invokespecial 3, 3) := by decide +kernel
theorem dX6_init_4 : decode cX6_init 4 = .ok (.aload_n 0, 1) := by decide +kernel
theorem dX6_init_5 : decode cX6_init 5 = .ok (.new 9, 3) := by decide +kernel
theorem dX6_init_8 : decode cX6_init 8 = .ok (.dup, 1) := by decide +kernel
theorem dX6_init_9 : decode cX6_init 9 = .ok (.invokespecial 11, 3) := by decide +kernel
theorem dX6_init_12 : decode cX6_init 12 = .ok (.putfield 12, 3) := by decide +kernel
theorem dX6_init_15 : decode cX6_init 15 = .ok (.aload_n 0, 1) := by decide +kernel
theorem dX6_init_16 : decode cX6_init 16 = .ok (.new 9, 3) := by decide +kernel
theorem dX6_init_19 : decode cX6_init 19 = .ok (.dup, 1) := by decide +kernel
theorem dX6_init_20 : decode cX6_init 20 = .ok (.invokespecial 11, 3) := by decide +kernel
theorem dX6_init_23 : decode cX6_init 23 = .ok (.putfield 16, 3) := by decide +kernel
theorem dX6_init_26 : decode cX6_init 26 = .ok (.aload_n 0, 1) := by decide +kernel
theorem dX6_init_27 : decode cX6_init 27 = .ok (.new 9, 3) := by decide +kernel
theorem dX6_init_30 : decode cX6_init 30 = .ok (.dup, 1) := by decide +kernel
theorem dX6_init_31 : decode cX6_init 31 = .ok (.invokespecial 11, 3) := by decide +kernel
theorem dX6_init_34 : decode cX6_init 34 = .ok (.putfield 19, 3) := by decide +kernel
theorem dX6_init_37 : decode cX6_init 37 = .ok (.aload_n 0, 1) := by decide +kernel
theorem dX6_init_38 : decode cX6_init 38 = .ok (.new 22, 3) := by decide +kernel
theorem dX6_init_41 : decode cX6_init 41 = .ok (.dup, 1) := by decide +kernel
theorem dX6_init_42 : decode cX6_init 42 = .ok (.invokespecial 24, 3) := by decide +kernel
theorem dX6_init_45 : decode cX6_init 45 = .ok (.putfield 25, 3) := by decide +kernel
theorem dX6_init_48 : decode cX6_init 48 = .ok (.aload_n 0, 1) := by decide +kernel
theorem dX6_init_49 : decode cX6_init 49 = .ok (.new 29, 3) := by decide +kernel
theorem dX6_init_52 : decode cX6_init 52 = .ok (.dup, 1) := by decide +kernel
theorem dX6_init_53 : decode cX6_init 53 = .ok (.invokespecial 31, 3) := by decide +kernel
theorem dX6_init_56 : decode cX6_init 56 = .ok (.putfield 32, 3) := by decide +kernel
theorem dX6_init_59 : decode cX6_init 59 = .ok (.aload_n 0, 1) := by decide +kernel
theorem dX6_init_60 : decode cX6_init 60 = .ok (.new 36, 3) := by decide +kernel
theorem dX6_init_63 : decode cX6_init 63 = .ok (.dup, 1) := by decide +kernel
theorem dX6_init_64 : decode cX6_init 64 = .ok (.invokespecial 38, 3) := by decide +kernel
theorem dX6_init_67 : decode cX6_init 67 = .ok (.putfield 39, 3) := by decide +kernel
theorem dX6_init_70 : decode cX6_init 70 = .ok (.aload_n 0, 1) := by decide +kernel
theorem dX6_init_71 : decode cX6_init 71 = .ok (.new 43, 3) := by decide +kernel
theorem dX6_init_74 : decode cX6_init 74 = .ok (.dup, 1) := by decide +kernel
theorem dX6_init_75 : decode cX6_init 75 = .ok (.invokespecial 45, 3) := by decide +kernel
theorem dX6_init_78 : decode cX6_init 78 = .ok (.putfield 46, 3) := by decide +kernel
theorem dX6_init_81 : decode cX6_init 81 = .ok (.aload_n 0, 1) := by decide +kernel
theorem dX6_init_82 : decode cX6_init 82 = .ok (.bipush 7, 2) := by decide +kernel
theorem dX6_init_84 : decode cX6_init 84 = .ok (.newarray .int, 2) := by decide +kernel
theorem dX6_init_86 : decode cX6_init 86 = .ok (.putfield 50, 3) := by decide +kernel
theorem dX6_init_89 : decode cX6_init 89 = .ok (.aload_n 0, 1) := by decide +kernel
theorem dX6_init_90 : decode cX6_init 90 = .ok (.iconst 0, 1) := by decide +kernel
theorem dX6_init_91 : decode cX6_init 91 = .ok (.putfield 54, 3) := by decide +kernel
theorem dX6_init_94 : decode cX6_init 94 = .ok (.return_, 1) := by decide +kernel
theorem dX6_letter_0 : decode cX6_letter 0 = .ok (.iload_n 1, 1) := by decide +kernel
theorem dX6_letter_1 : decode cX6_letter 1 = .ok (.ifCond .ge 10, 3) := by decide +kernel
theorem dX6_letter_4 : decode cX6_letter 4 = .ok (.aload_n 0, 1) := by decide +kernel
theorem dX6_letter_5 : decode cX6_letter 5 = .ok (.bipush (-4), 2) := by decide +kernel
theorem dX6_letter_7 : decode cX6_letter 7 = .ok (.invokevirtual 58, 3) := by decide +kernel
theorem dX6_letter_10 : decode cX6_letter 10 = .ok (.ireturn, 1) := by decide +kernel
theorem dX6_letter_11 : decode cX6_letter 11 = .ok (.iload_n 1, 1) := by decide +kernel
theorem dX6_letter_12 : decode cX6_letter 12 = .ok (.sipush 255, 3) := by decide +kernel
theorem dX6_letter_15 : decode cX6_letter 15 = .ok (.if_icmp .gt 15, 3) := by decide +kernel
theorem dX6_letter_18 : decode cX6_letter 18 = .ok (.aload_n 0, 1) := by decide +kernel
theorem dX6_letter_19 : decode cX6_letter 19 = .ok (.getfield 25, 3) := by decide +kernel
theorem dX6_letter_22 : decode cX6_letter 22 = .ok (.getfield 62, 3) := by decide +kernel
theorem dX6_letter_25 : decode cX6_letter 25 = .ok (.bipush 80, 2) := by decide +kernel
theorem dX6_letter_27 : decode cX6_letter 27 = .ok (.if_icmp .lt 10, 3) := by decide +kernel
theorem dX6_letter_30 : decode cX6_letter 30 = .ok (.aload_n 0, 1) := by decide +kernel
theorem dX6_letter_31 : decode cX6_letter 31 = .ok (.bipush (-6), 2) := by decide +kernel
theorem dX6_letter_33 : decode cX6_letter 33 = .ok (.invokevirtual 58, 3) := by decide +kernel
theorem dX6_letter_36 : decode cX6_letter 36 = .ok (.ireturn, 1) := by decide +kernel
theorem dX6_letter_37 : decode cX6_letter 37 = .ok (.aload_n 0, 1) := by decide +kernel
theorem dX6_letter_38 : decode cX6_letter 38 = .ok (.getfield 25, 3) := by decide +kernel
theorem dX6_letter_41 : decode cX6_letter 41 = .ok (.iload_n 1, 1) := by decide +kernel
theorem dX6_letter_42 : decode cX6_letter 42 = .ok (.invokevirtual 66, 3) := by decide +kernel
theorem dX6_letter_45 : decode cX6_letter 45 = .ok (.ireturn, 1) := by decide +kernel
theorem dX6_floor_0 : decode cX6_floor 0 = .ok (.aload_n 0, 1) := by decide +kernel
theorem dX6_floor_1 : decode cX6_floor 1 = .ok (.getfield 25, 3) := by decide +kernel
theorem dX6_floor_4 : decode cX6_floor 4 = .ok (.invokevirtual 69, 3) := by decide +kernel
theorem dX6_floor_7 : decode cX6_floor 7 = .ok (.istore_n 1, 1) := by decide +kernel
theorem dX6_floor_8 : decode cX6_floor 8 = .ok (.iload_n 1, 1) := by decide +kernel
theorem dX6_floor_9 : decode cX6_floor 9 = .ok (.ifCond .lt 11, 3) := by decide +kernel
theorem dX6_floor_12 : decode cX6_floor 12 = .ok (.sipush (-1000), 3) := by decide +kernel
theorem dX6_floor_15 : decode cX6_floor 15 = .ok (.iload_n 1, 1) := by decide +kernel
theorem dX6_floor_16 : decode cX6_floor 16 = .ok (.isub, 1) := by decide +kernel
theorem dX6_floor_17 : decode cX6_floor 17 = .ok (.goto 7, 3) := by decide +kernel
theorem dX6_floor_20 : decode cX6_floor 20 = .ok (.aload_n 0, 1) := by decide +kernel
theorem dX6_floor_21 : decode cX6_floor 21 = .ok (.invokevirtual 73, 3) := by decide +kernel
theorem dX6_floor_24 : decode cX6_floor 24 = .ok (.istore_n 2, 1) := by decide +kernel
theorem dX6_floor_25 : decode cX6_floor 25 = .ok (.aload_n 0, 1) := by decide +kernel
theorem dX6_floor_26 : decode cX6_floor 26 = .ok (.getfield 25, 3) := by decide +kernel
theorem dX6_floor_29 : decode cX6_floor 29 = .ok (.invokevirtual 76, 3) := by decide +kernel
theorem dX6_floor_32 : decode cX6_floor 32 = .ok (.iload_n 2, 1) := by decide +kernel
theorem dX6_floor_33 : decode cX6_floor 33 = .ok (.ireturn, 1) := by decide +kernel
theorem dX6_job_0 : decode cX6_job 0 = .ok (.aload_n 0, 1) := by decide +kernel
theorem dX6_job_1 : decode cX6_job 1 = .ok (.getfield 12, 3) := by decide +kernel
theorem dX6_job_4 : decode cX6_job 4 = .ok (.iload_n 1, 1) := by decide +kernel
theorem dX6_job_5 : decode cX6_job 5 = .ok (.invokevirtual 79, 3) := by decide +kernel
theorem dX6_job_8 : decode cX6_job 8 = .ok (.ifCond .ne 9, 3) := by decide +kernel
theorem dX6_job_11 : decode cX6_job 11 = .ok (.aload_n 0, 1) := by decide +kernel
theorem dX6_job_12 : decode cX6_job 12 = .ok (.iconst (-1), 1) := by decide +kernel
theorem dX6_job_13 : decode cX6_job 13 = .ok (.invokevirtual 58, 3) := by decide +kernel
theorem dX6_job_16 : decode cX6_job 16 = .ok (.ireturn, 1) := by decide +kernel
theorem dX6_job_17 : decode cX6_job 17 = .ok (.iload_n 2, 1) := by decide +kernel
theorem dX6_job_18 : decode cX6_job 18 = .ok (.tableswitch 56 0 2 #[26, 36, 46], 26) := by decide +kernel
theorem dX6_job_44 : decode cX6_job 44 = .ok (.aload_n 0, 1) := by decide +kernel
theorem dX6_job_45 : decode cX6_job 45 = .ok (.getfield 12, 3) := by decide +kernel
theorem dX6_job_48 : decode cX6_job 48 = .ok (.getfield 83, 3) := by decide +kernel
theorem dX6_job_51 : decode cX6_job 51 = .ok (.iload_n 1, 1) := by decide +kernel
theorem dX6_job_52 : decode cX6_job 52 = .ok (.iaload, 1) := by decide +kernel
theorem dX6_job_53 : decode cX6_job 53 = .ok (.ireturn, 1) := by decide +kernel
theorem dX6_job_54 : decode cX6_job 54 = .ok (.aload_n 0, 1) := by decide +kernel
theorem dX6_job_55 : decode cX6_job 55 = .ok (.getfield 12, 3) := by decide +kernel
theorem dX6_job_58 : decode cX6_job 58 = .ok (.getfield 86, 3) := by decide +kernel
theorem dX6_job_61 : decode cX6_job 61 = .ok (.iload_n 1, 1) := by decide +kernel
theorem dX6_job_62 : decode cX6_job 62 = .ok (.iaload, 1) := by decide +kernel
theorem dX6_job_63 : decode cX6_job 63 = .ok (.ireturn, 1) := by decide +kernel
theorem dX6_job_64 : decode cX6_job 64 = .ok (.aload_n 0, 1) := by decide +kernel
theorem dX6_job_65 : decode cX6_job 65 = .ok (.getfield 12, 3) := by decide +kernel
theorem dX6_job_68 : decode cX6_job 68 = .ok (.getfield 89, 3) := by decide +kernel
theorem dX6_job_71 : decode cX6_job 71 = .ok (.iload_n 1, 1) := by decide +kernel
theorem dX6_job_72 : decode cX6_job 72 = .ok (.iaload, 1) := by decide +kernel
theorem dX6_job_73 : decode cX6_job 73 = .ok (.ireturn, 1) := by decide +kernel
theorem dX6_job_74 : decode cX6_job 74 = .ok (.aload_n 0, 1) := by decide +kernel
theorem dX6_job_75 : decode cX6_job 75 = .ok (.bipush (-2), 2) := by decide +kernel
theorem dX6_job_77 : decode cX6_job 77 = .ok (.invokevirtual 58, 3) := by decide +kernel
theorem dX6_job_80 : decode cX6_job 80 = .ok (.ireturn, 1) := by decide +kernel
theorem dX6_taker_0 : decode cX6_taker 0 = .ok (.aload_n 0, 1) := by decide +kernel
theorem dX6_taker_1 : decode cX6_taker 1 = .ok (.getfield 12, 3) := by decide +kernel
theorem dX6_taker_4 : decode cX6_taker 4 = .ok (.iload_n 1, 1) := by decide +kernel
theorem dX6_taker_5 : decode cX6_taker 5 = .ok (.invokevirtual 92, 3) := by decide +kernel
theorem dX6_taker_8 : decode cX6_taker 8 = .ok (.ifCond .ne 9, 3) := by decide +kernel
theorem dX6_taker_11 : decode cX6_taker 11 = .ok (.aload_n 0, 1) := by decide +kernel
theorem dX6_taker_12 : decode cX6_taker 12 = .ok (.iconst (-1), 1) := by decide +kernel
theorem dX6_taker_13 : decode cX6_taker 13 = .ok (.invokevirtual 58, 3) := by decide +kernel
theorem dX6_taker_16 : decode cX6_taker 16 = .ok (.ireturn, 1) := by decide +kernel
theorem dX6_taker_17 : decode cX6_taker 17 = .ok (.iload_n 2, 1) := by decide +kernel
theorem dX6_taker_18 : decode cX6_taker 18 = .ok (.tableswitch 70 0 3 #[30, 40, 50, 60], 30) := by decide +kernel
theorem dX6_taker_48 : decode cX6_taker 48 = .ok (.aload_n 0, 1) := by decide +kernel
theorem dX6_taker_49 : decode cX6_taker 49 = .ok (.getfield 12, 3) := by decide +kernel
theorem dX6_taker_52 : decode cX6_taker 52 = .ok (.getfield 95, 3) := by decide +kernel
theorem dX6_taker_55 : decode cX6_taker 55 = .ok (.iload_n 1, 1) := by decide +kernel
theorem dX6_taker_56 : decode cX6_taker 56 = .ok (.iaload, 1) := by decide +kernel
theorem dX6_taker_57 : decode cX6_taker 57 = .ok (.ireturn, 1) := by decide +kernel
theorem dX6_taker_58 : decode cX6_taker 58 = .ok (.aload_n 0, 1) := by decide +kernel
theorem dX6_taker_59 : decode cX6_taker 59 = .ok (.getfield 12, 3) := by decide +kernel
theorem dX6_taker_62 : decode cX6_taker 62 = .ok (.getfield 98, 3) := by decide +kernel
theorem dX6_taker_65 : decode cX6_taker 65 = .ok (.iload_n 1, 1) := by decide +kernel
theorem dX6_taker_66 : decode cX6_taker 66 = .ok (.iaload, 1) := by decide +kernel
theorem dX6_taker_67 : decode cX6_taker 67 = .ok (.ireturn, 1) := by decide +kernel
theorem dX6_taker_68 : decode cX6_taker 68 = .ok (.aload_n 0, 1) := by decide +kernel
theorem dX6_taker_69 : decode cX6_taker 69 = .ok (.getfield 12, 3) := by decide +kernel
theorem dX6_taker_72 : decode cX6_taker 72 = .ok (.getfield 101, 3) := by decide +kernel
theorem dX6_taker_75 : decode cX6_taker 75 = .ok (.iload_n 1, 1) := by decide +kernel
theorem dX6_taker_76 : decode cX6_taker 76 = .ok (.iaload, 1) := by decide +kernel
theorem dX6_taker_77 : decode cX6_taker 77 = .ok (.ireturn, 1) := by decide +kernel
theorem dX6_taker_78 : decode cX6_taker 78 = .ok (.aload_n 0, 1) := by decide +kernel
theorem dX6_taker_79 : decode cX6_taker 79 = .ok (.getfield 12, 3) := by decide +kernel
theorem dX6_taker_82 : decode cX6_taker 82 = .ok (.getfield 104, 3) := by decide +kernel
theorem dX6_taker_85 : decode cX6_taker 85 = .ok (.iload_n 1, 1) := by decide +kernel
theorem dX6_taker_86 : decode cX6_taker 86 = .ok (.iaload, 1) := by decide +kernel
theorem dX6_taker_87 : decode cX6_taker 87 = .ok (.ireturn, 1) := by decide +kernel
theorem dX6_taker_88 : decode cX6_taker 88 = .ok (.aload_n 0, 1) := by decide +kernel
theorem dX6_taker_89 : decode cX6_taker 89 = .ok (.bipush (-2), 2) := by decide +kernel
theorem dX6_taker_91 : decode cX6_taker 91 = .ok (.invokevirtual 58, 3) := by decide +kernel
theorem dX6_taker_94 : decode cX6_taker 94 = .ok (.ireturn, 1) := by decide +kernel
theorem dX6_sent_0 : decode cX6_sent 0 = .ok (.aload_n 0, 1) := by decide +kernel
theorem dX6_sent_1 : decode cX6_sent 1 = .ok (.getfield 12, 3) := by decide +kernel
theorem dX6_sent_4 : decode cX6_sent 4 = .ok (.iload_n 1, 1) := by decide +kernel
theorem dX6_sent_5 : decode cX6_sent 5 = .ok (.invokevirtual 79, 3) := by decide +kernel
theorem dX6_sent_8 : decode cX6_sent 8 = .ok (.ifCond .ne 9, 3) := by decide +kernel
theorem dX6_sent_11 : decode cX6_sent 11 = .ok (.aload_n 0, 1) := by decide +kernel
theorem dX6_sent_12 : decode cX6_sent 12 = .ok (.iconst (-1), 1) := by decide +kernel
theorem dX6_sent_13 : decode cX6_sent 13 = .ok (.invokevirtual 58, 3) := by decide +kernel
theorem dX6_sent_16 : decode cX6_sent 16 = .ok (.ireturn, 1) := by decide +kernel
theorem dX6_sent_17 : decode cX6_sent 17 = .ok (.iload_n 2, 1) := by decide +kernel
theorem dX6_sent_18 : decode cX6_sent 18 = .ok (.ifCond .ge 10, 3) := by decide +kernel
theorem dX6_sent_21 : decode cX6_sent 21 = .ok (.aload_n 0, 1) := by decide +kernel
theorem dX6_sent_22 : decode cX6_sent 22 = .ok (.bipush (-4), 2) := by decide +kernel
theorem dX6_sent_24 : decode cX6_sent 24 = .ok (.invokevirtual 58, 3) := by decide +kernel
theorem dX6_sent_27 : decode cX6_sent 27 = .ok (.ireturn, 1) := by decide +kernel
theorem dX6_sent_28 : decode cX6_sent 28 = .ok (.iload_n 2, 1) := by decide +kernel
theorem dX6_sent_29 : decode cX6_sent 29 = .ok (.bipush 60, 2) := by decide +kernel
theorem dX6_sent_31 : decode cX6_sent 31 = .ok (.if_icmp .lt 10, 3) := by decide +kernel
theorem dX6_sent_34 : decode cX6_sent 34 = .ok (.aload_n 0, 1) := by decide +kernel
theorem dX6_sent_35 : decode cX6_sent 35 = .ok (.bipush (-6), 2) := by decide +kernel
theorem dX6_sent_37 : decode cX6_sent 37 = .ok (.invokevirtual 58, 3) := by decide +kernel
theorem dX6_sent_40 : decode cX6_sent 40 = .ok (.ireturn, 1) := by decide +kernel
theorem dX6_sent_41 : decode cX6_sent 41 = .ok (.aload_n 0, 1) := by decide +kernel
theorem dX6_sent_42 : decode cX6_sent 42 = .ok (.getfield 12, 3) := by decide +kernel
theorem dX6_sent_45 : decode cX6_sent 45 = .ok (.getfield 89, 3) := by decide +kernel
theorem dX6_sent_48 : decode cX6_sent 48 = .ok (.iload_n 1, 1) := by decide +kernel
theorem dX6_sent_49 : decode cX6_sent 49 = .ok (.iaload, 1) := by decide +kernel
theorem dX6_sent_50 : decode cX6_sent 50 = .ok (.istore_n 3, 1) := by decide +kernel
theorem dX6_sent_51 : decode cX6_sent 51 = .ok (.aload_n 0, 1) := by decide +kernel
theorem dX6_sent_52 : decode cX6_sent 52 = .ok (.getfield 12, 3) := by decide +kernel
theorem dX6_sent_55 : decode cX6_sent 55 = .ok (.getfield 89, 3) := by decide +kernel
theorem dX6_sent_58 : decode cX6_sent 58 = .ok (.iload_n 1, 1) := by decide +kernel
theorem dX6_sent_59 : decode cX6_sent 59 = .ok (.iload_n 2, 1) := by decide +kernel
theorem dX6_sent_60 : decode cX6_sent 60 = .ok (.iastore, 1) := by decide +kernel
theorem dX6_sent_61 : decode cX6_sent 61 = .ok (.iload_n 3, 1) := by decide +kernel
theorem dX6_sent_62 : decode cX6_sent 62 = .ok (.ireturn, 1) := by decide +kernel
theorem dX6_machine_0 : decode cX6_machine 0 = .ok (.iload_n 1, 1) := by decide +kernel
theorem dX6_machine_1 : decode cX6_machine 1 = .ok (.ifCond .lt 12, 3) := by decide +kernel
theorem dX6_machine_4 : decode cX6_machine 4 = .ok (.iload_n 1, 1) := by decide +kernel
theorem dX6_machine_5 : decode cX6_machine 5 = .ok (.ldc 107, 2) := by decide +kernel
theorem dX6_machine_7 : decode cX6_machine 7 = .ok (.invokevirtual 109, 3) := by decide +kernel
theorem dX6_machine_10 : decode cX6_machine 10 = .ok (.if_icmp .lt 10, 3) := by decide +kernel
theorem dX6_machine_13 : decode cX6_machine 13 = .ok (.aload_n 0, 1) := by decide +kernel
theorem dX6_machine_14 : decode cX6_machine 14 = .ok (.bipush (-2), 2) := by decide +kernel
theorem dX6_machine_16 : decode cX6_machine 16 = .ok (.invokevirtual 58, 3) := by decide +kernel
theorem dX6_machine_19 : decode cX6_machine 19 = .ok (.ireturn, 1) := by decide +kernel
theorem dX6_machine_20 : decode cX6_machine 20 = .ok (.iload_n 2, 1) := by decide +kernel
theorem dX6_machine_21 : decode cX6_machine 21 = .ok (.ifCond .ge 10, 3) := by decide +kernel
theorem dX6_machine_24 : decode cX6_machine 24 = .ok (.aload_n 0, 1) := by decide +kernel
theorem dX6_machine_25 : decode cX6_machine 25 = .ok (.bipush (-4), 2) := by decide +kernel
theorem dX6_machine_27 : decode cX6_machine 27 = .ok (.invokevirtual 58, 3) := by decide +kernel
theorem dX6_machine_30 : decode cX6_machine 30 = .ok (.ireturn, 1) := by decide +kernel
theorem dX6_machine_31 : decode cX6_machine 31 = .ok (.iload_n 2, 1) := by decide +kernel
theorem dX6_machine_32 : decode cX6_machine 32 = .ok (.bipush 9, 2) := by decide +kernel
theorem dX6_machine_34 : decode cX6_machine 34 = .ok (.if_icmp .le 10, 3) := by decide +kernel
theorem dX6_machine_37 : decode cX6_machine 37 = .ok (.aload_n 0, 1) := by decide +kernel
theorem dX6_machine_38 : decode cX6_machine 38 = .ok (.bipush (-6), 2) := by decide +kernel
theorem dX6_machine_40 : decode cX6_machine 40 = .ok (.invokevirtual 58, 3) := by decide +kernel
theorem dX6_machine_43 : decode cX6_machine 43 = .ok (.ireturn, 1) := by decide +kernel
theorem dX6_machine_44 : decode cX6_machine 44 = .ok (.bipush 10, 2) := by decide +kernel
theorem dX6_machine_46 : decode cX6_machine 46 = .ok (.aload_n 0, 1) := by decide +kernel
theorem dX6_machine_47 : decode cX6_machine 47 = .ok (.getfield 12, 3) := by decide +kernel
theorem dX6_machine_50 : decode cX6_machine 50 = .ok (.getfield 114, 3) := by decide +kernel
theorem dX6_machine_53 : decode cX6_machine 53 = .ok (.imul, 1) := by decide +kernel
theorem dX6_machine_54 : decode cX6_machine 54 = .ok (.aload_n 0, 1) := by decide +kernel
theorem dX6_machine_55 : decode cX6_machine 55 = .ok (.getfield 12, 3) := by decide +kernel
theorem dX6_machine_58 : decode cX6_machine 58 = .ok (.getfield 117, 3) := by decide +kernel
theorem dX6_machine_61 : decode cX6_machine 61 = .ok (.iadd, 1) := by decide +kernel
theorem dX6_machine_62 : decode cX6_machine 62 = .ok (.istore_n 3, 1) := by decide +kernel
theorem dX6_machine_63 : decode cX6_machine 63 = .ok (.aload_n 0, 1) := by decide +kernel
theorem dX6_machine_64 : decode cX6_machine 64 = .ok (.getfield 12, 3) := by decide +kernel
theorem dX6_machine_67 : decode cX6_machine 67 = .ok (.iload_n 1, 1) := by decide +kernel
theorem dX6_machine_68 : decode cX6_machine 68 = .ok (.iload_n 2, 1) := by decide +kernel
theorem dX6_machine_69 : decode cX6_machine 69 = .ok (.invokevirtual 120, 3) := by decide +kernel
theorem dX6_machine_72 : decode cX6_machine 72 = .ok (.iload_n 3, 1) := by decide +kernel
theorem dX6_machine_73 : decode cX6_machine 73 = .ok (.ireturn, 1) := by decide +kernel
theorem dX6_comes_0 : decode cX6_comes 0 = .ok (.aload_n 0, 1) := by decide +kernel
theorem dX6_comes_1 : decode cX6_comes 1 = .ok (.getfield 12, 3) := by decide +kernel
theorem dX6_comes_4 : decode cX6_comes 4 = .ok (.iload_n 1, 1) := by decide +kernel
theorem dX6_comes_5 : decode cX6_comes 5 = .ok (.invokevirtual 92, 3) := by decide +kernel
theorem dX6_comes_8 : decode cX6_comes 8 = .ok (.ifCond .ne 9, 3) := by decide +kernel
theorem dX6_comes_11 : decode cX6_comes 11 = .ok (.aload_n 0, 1) := by decide +kernel
theorem dX6_comes_12 : decode cX6_comes 12 = .ok (.iconst (-1), 1) := by decide +kernel
theorem dX6_comes_13 : decode cX6_comes 13 = .ok (.invokevirtual 58, 3) := by decide +kernel
theorem dX6_comes_16 : decode cX6_comes 16 = .ok (.ireturn, 1) := by decide +kernel
theorem dX6_comes_17 : decode cX6_comes 17 = .ok (.iload_n 2, 1) := by decide +kernel
theorem dX6_comes_18 : decode cX6_comes 18 = .ok (.ifCond .ge 10, 3) := by decide +kernel
theorem dX6_comes_21 : decode cX6_comes 21 = .ok (.aload_n 0, 1) := by decide +kernel
theorem dX6_comes_22 : decode cX6_comes 22 = .ok (.bipush (-4), 2) := by decide +kernel
theorem dX6_comes_24 : decode cX6_comes 24 = .ok (.invokevirtual 58, 3) := by decide +kernel
theorem dX6_comes_27 : decode cX6_comes 27 = .ok (.ireturn, 1) := by decide +kernel
theorem dX6_comes_28 : decode cX6_comes 28 = .ok (.iload_n 2, 1) := by decide +kernel
theorem dX6_comes_29 : decode cX6_comes 29 = .ok (.bipush 100, 2) := by decide +kernel
theorem dX6_comes_31 : decode cX6_comes 31 = .ok (.if_icmp .lt 10, 3) := by decide +kernel
theorem dX6_comes_34 : decode cX6_comes 34 = .ok (.aload_n 0, 1) := by decide +kernel
theorem dX6_comes_35 : decode cX6_comes 35 = .ok (.bipush (-6), 2) := by decide +kernel
theorem dX6_comes_37 : decode cX6_comes 37 = .ok (.invokevirtual 58, 3) := by decide +kernel
theorem dX6_comes_40 : decode cX6_comes 40 = .ok (.ireturn, 1) := by decide +kernel
theorem dX6_comes_41 : decode cX6_comes 41 = .ok (.aload_n 0, 1) := by decide +kernel
theorem dX6_comes_42 : decode cX6_comes 42 = .ok (.getfield 12, 3) := by decide +kernel
theorem dX6_comes_45 : decode cX6_comes 45 = .ok (.getfield 104, 3) := by decide +kernel
theorem dX6_comes_48 : decode cX6_comes 48 = .ok (.iload_n 1, 1) := by decide +kernel
theorem dX6_comes_49 : decode cX6_comes 49 = .ok (.iaload, 1) := by decide +kernel
theorem dX6_comes_50 : decode cX6_comes 50 = .ok (.istore_n 3, 1) := by decide +kernel
theorem dX6_comes_51 : decode cX6_comes 51 = .ok (.aload_n 0, 1) := by decide +kernel
theorem dX6_comes_52 : decode cX6_comes 52 = .ok (.getfield 12, 3) := by decide +kernel
theorem dX6_comes_55 : decode cX6_comes 55 = .ok (.getfield 104, 3) := by decide +kernel
theorem dX6_comes_58 : decode cX6_comes 58 = .ok (.iload_n 1, 1) := by decide +kernel
theorem dX6_comes_59 : decode cX6_comes 59 = .ok (.iload_n 2, 1) := by decide +kernel
theorem dX6_comes_60 : decode cX6_comes 60 = .ok (.iastore, 1) := by decide +kernel
theorem dX6_comes_61 : decode cX6_comes 61 = .ok (.iload_n 3, 1) := by decide +kernel
theorem dX6_comes_62 : decode cX6_comes 62 = .ok (.ireturn, 1) := by decide +kernel
theorem dX6_out_0 : decode cX6_out 0 = .ok (.iload_n 1, 1) := by decide +kernel
theorem dX6_out_1 : decode cX6_out 1 = .ok (.ifCond .ge 10, 3) := by decide +kernel
theorem dX6_out_4 : decode cX6_out 4 = .ok (.aload_n 0, 1) := by decide +kernel
theorem dX6_out_5 : decode cX6_out 5 = .ok (.bipush (-4), 2) := by decide +kernel
theorem dX6_out_7 : decode cX6_out 7 = .ok (.invokevirtual 58, 3) := by decide +kernel
theorem dX6_out_10 : decode cX6_out 10 = .ok (.ireturn, 1) := by decide +kernel
theorem dX6_out_11 : decode cX6_out 11 = .ok (.iload_n 2, 1) := by decide +kernel
theorem dX6_out_12 : decode cX6_out 12 = .ok (.invokestatic 124, 3) := by decide +kernel
theorem dX6_out_15 : decode cX6_out 15 = .ok (.ifCond .ne 10, 3) := by decide +kernel
theorem dX6_out_18 : decode cX6_out 18 = .ok (.aload_n 0, 1) := by decide +kernel
theorem dX6_out_19 : decode cX6_out 19 = .ok (.bipush (-2), 2) := by decide +kernel
theorem dX6_out_21 : decode cX6_out 21 = .ok (.invokevirtual 58, 3) := by decide +kernel
theorem dX6_out_24 : decode cX6_out 24 = .ok (.ireturn, 1) := by decide +kernel
theorem dX6_out_25 : decode cX6_out 25 = .ok (.aload_n 0, 1) := by decide +kernel
theorem dX6_out_26 : decode cX6_out 26 = .ok (.getfield 39, 3) := by decide +kernel
theorem dX6_out_29 : decode cX6_out 29 = .ok (.aload_n 0, 1) := by decide +kernel
theorem dX6_out_30 : decode cX6_out 30 = .ok (.getfield 12, 3) := by decide +kernel
theorem dX6_out_33 : decode cX6_out 33 = .ok (.invokevirtual 127, 3) := by decide +kernel
theorem dX6_out_36 : decode cX6_out 36 = .ok (.iload_n 2, 1) := by decide +kernel
theorem dX6_out_37 : decode cX6_out 37 = .ok (.ifCond .ne 14, 3) := by decide +kernel
theorem dX6_out_40 : decode cX6_out 40 = .ok (.aload_n 0, 1) := by decide +kernel
theorem dX6_out_41 : decode cX6_out 41 = .ok (.getfield 39, 3) := by decide +kernel
theorem dX6_out_44 : decode cX6_out 44 = .ok (.iload_n 1, 1) := by decide +kernel
theorem dX6_out_45 : decode cX6_out 45 = .ok (.invokevirtual 131, 3) := by decide +kernel
theorem dX6_out_48 : decode cX6_out 48 = .ok (.goto 11, 3) := by decide +kernel
theorem dX6_out_51 : decode cX6_out 51 = .ok (.aload_n 0, 1) := by decide +kernel
theorem dX6_out_52 : decode cX6_out 52 = .ok (.getfield 39, 3) := by decide +kernel
theorem dX6_out_55 : decode cX6_out 55 = .ok (.iload_n 1, 1) := by decide +kernel
theorem dX6_out_56 : decode cX6_out 56 = .ok (.invokevirtual 134, 3) := by decide +kernel
theorem dX6_out_59 : decode cX6_out 59 = .ok (.ireturn, 1) := by decide +kernel
theorem dX6_outMany_0 : decode cX6_outMany 0 = .ok (.aload_n 0, 1) := by decide +kernel
theorem dX6_outMany_1 : decode cX6_outMany 1 = .ok (.getfield 39, 3) := by decide +kernel
theorem dX6_outMany_4 : decode cX6_outMany 4 = .ok (.aload_n 0, 1) := by decide +kernel
theorem dX6_outMany_5 : decode cX6_outMany 5 = .ok (.getfield 12, 3) := by decide +kernel
theorem dX6_outMany_8 : decode cX6_outMany 8 = .ok (.invokevirtual 127, 3) := by decide +kernel
theorem dX6_outMany_11 : decode cX6_outMany 11 = .ok (.aload_n 0, 1) := by decide +kernel
theorem dX6_outMany_12 : decode cX6_outMany 12 = .ok (.getfield 39, 3) := by decide +kernel
theorem dX6_outMany_15 : decode cX6_outMany 15 = .ok (.getfield 137, 3) := by decide +kernel
theorem dX6_outMany_18 : decode cX6_outMany 18 = .ok (.ireturn, 1) := by decide +kernel
theorem dX6_lies_0 : decode cX6_lies 0 = .ok (.iload_n 1, 1) := by decide +kernel
theorem dX6_lies_1 : decode cX6_lies 1 = .ok (.ifCond .lt 8, 3) := by decide +kernel
theorem dX6_lies_4 : decode cX6_lies 4 = .ok (.iload_n 2, 1) := by decide +kernel
theorem dX6_lies_5 : decode cX6_lies 5 = .ok (.iconst (-1), 1) := by decide +kernel
theorem dX6_lies_6 : decode cX6_lies 6 = .ok (.if_icmp .ge 10, 3) := by decide +kernel
theorem dX6_lies_9 : decode cX6_lies 9 = .ok (.aload_n 0, 1) := by decide +kernel
theorem dX6_lies_10 : decode cX6_lies 10 = .ok (.bipush (-4), 2) := by decide +kernel
theorem dX6_lies_12 : decode cX6_lies 12 = .ok (.invokevirtual 58, 3) := by decide +kernel
theorem dX6_lies_15 : decode cX6_lies 15 = .ok (.ireturn, 1) := by decide +kernel
theorem dX6_lies_16 : decode cX6_lies 16 = .ok (.iload_n 1, 1) := by decide +kernel
theorem dX6_lies_17 : decode cX6_lies 17 = .ok (.bipush 100, 2) := by decide +kernel
theorem dX6_lies_19 : decode cX6_lies 19 = .ok (.if_icmp .lt 10, 3) := by decide +kernel
theorem dX6_lies_22 : decode cX6_lies 22 = .ok (.aload_n 0, 1) := by decide +kernel
theorem dX6_lies_23 : decode cX6_lies 23 = .ok (.bipush (-6), 2) := by decide +kernel
theorem dX6_lies_25 : decode cX6_lies 25 = .ok (.invokevirtual 58, 3) := by decide +kernel
theorem dX6_lies_28 : decode cX6_lies 28 = .ok (.ireturn, 1) := by decide +kernel
theorem dX6_lies_29 : decode cX6_lies 29 = .ok (.aload_n 0, 1) := by decide +kernel
theorem dX6_lies_30 : decode cX6_lies 30 = .ok (.getfield 39, 3) := by decide +kernel
theorem dX6_lies_33 : decode cX6_lies 33 = .ok (.aload_n 0, 1) := by decide +kernel
theorem dX6_lies_34 : decode cX6_lies 34 = .ok (.getfield 12, 3) := by decide +kernel
theorem dX6_lies_37 : decode cX6_lies 37 = .ok (.iload_n 1, 1) := by decide +kernel
theorem dX6_lies_38 : decode cX6_lies 38 = .ok (.invokevirtual 140, 3) := by decide +kernel
theorem dX6_lies_41 : decode cX6_lies 41 = .ok (.iload_n 2, 1) := by decide +kernel
theorem dX6_lies_42 : decode cX6_lies 42 = .ok (.iconst (-1), 1) := by decide +kernel
theorem dX6_lies_43 : decode cX6_lies 43 = .ok (.if_icmp .ne 16, 3) := by decide +kernel
theorem dX6_lies_46 : decode cX6_lies 46 = .ok (.aload_n 0, 1) := by decide +kernel
theorem dX6_lies_47 : decode cX6_lies 47 = .ok (.getfield 39, 3) := by decide +kernel
theorem dX6_lies_50 : decode cX6_lies 50 = .ok (.getfield 144, 3) := by decide +kernel
theorem dX6_lies_53 : decode cX6_lies 53 = .ok (.getfield 148, 3) := by decide +kernel
theorem dX6_lies_56 : decode cX6_lies 56 = .ok (.goto 14, 3) := by decide +kernel
theorem dX6_lies_59 : decode cX6_lies 59 = .ok (.aload_n 0, 1) := by decide +kernel
theorem dX6_lies_60 : decode cX6_lies 60 = .ok (.getfield 39, 3) := by decide +kernel
theorem dX6_lies_63 : decode cX6_lies 63 = .ok (.getfield 144, 3) := by decide +kernel
theorem dX6_lies_66 : decode cX6_lies 66 = .ok (.iload_n 2, 1) := by decide +kernel
theorem dX6_lies_67 : decode cX6_lies 67 = .ok (.invokevirtual 151, 3) := by decide +kernel
theorem dX6_lies_70 : decode cX6_lies 70 = .ok (.ireturn, 1) := by decide +kernel
theorem dX6_held_0 : decode cX6_held 0 = .ok (.iload_n 1, 1) := by decide +kernel
theorem dX6_held_1 : decode cX6_held 1 = .ok (.invokestatic 154, 3) := by decide +kernel
theorem dX6_held_4 : decode cX6_held 4 = .ok (.ifCond .ne 9, 3) := by decide +kernel
theorem dX6_held_7 : decode cX6_held 7 = .ok (.aload_n 0, 1) := by decide +kernel
theorem dX6_held_8 : decode cX6_held 8 = .ok (.iconst (-1), 1) := by decide +kernel
theorem dX6_held_9 : decode cX6_held 9 = .ok (.invokevirtual 58, 3) := by decide +kernel
theorem dX6_held_12 : decode cX6_held 12 = .ok (.ireturn, 1) := by decide +kernel
theorem dX6_held_13 : decode cX6_held 13 = .ok (.iload_n 2, 1) := by decide +kernel
theorem dX6_held_14 : decode cX6_held 14 = .ok (.invokestatic 124, 3) := by decide +kernel
theorem dX6_held_17 : decode cX6_held 17 = .ok (.ifCond .ne 10, 3) := by decide +kernel
theorem dX6_held_20 : decode cX6_held 20 = .ok (.aload_n 0, 1) := by decide +kernel
theorem dX6_held_21 : decode cX6_held 21 = .ok (.bipush (-2), 2) := by decide +kernel
theorem dX6_held_23 : decode cX6_held 23 = .ok (.invokevirtual 58, 3) := by decide +kernel
theorem dX6_held_26 : decode cX6_held 26 = .ok (.ireturn, 1) := by decide +kernel
theorem dX6_held_27 : decode cX6_held 27 = .ok (.aload_n 0, 1) := by decide +kernel
theorem dX6_held_28 : decode cX6_held 28 = .ok (.getfield 39, 3) := by decide +kernel
theorem dX6_held_31 : decode cX6_held 31 = .ok (.aload_n 0, 1) := by decide +kernel
theorem dX6_held_32 : decode cX6_held 32 = .ok (.getfield 12, 3) := by decide +kernel
theorem dX6_held_35 : decode cX6_held 35 = .ok (.invokevirtual 127, 3) := by decide +kernel
theorem dX6_held_38 : decode cX6_held 38 = .ok (.aload_n 0, 1) := by decide +kernel
theorem dX6_held_39 : decode cX6_held 39 = .ok (.getfield 39, 3) := by decide +kernel
theorem dX6_held_42 : decode cX6_held 42 = .ok (.aload_n 0, 1) := by decide +kernel
theorem dX6_held_43 : decode cX6_held 43 = .ok (.getfield 12, 3) := by decide +kernel
theorem dX6_held_46 : decode cX6_held 46 = .ok (.iload_n 1, 1) := by decide +kernel
theorem dX6_held_47 : decode cX6_held 47 = .ok (.iload_n 2, 1) := by decide +kernel
theorem dX6_held_48 : decode cX6_held 48 = .ok (.ifCond .ne 7, 3) := by decide +kernel
theorem dX6_held_51 : decode cX6_held 51 = .ok (.iconst 1, 1) := by decide +kernel
theorem dX6_held_52 : decode cX6_held 52 = .ok (.goto 4, 3) := by decide +kernel
theorem dX6_held_55 : decode cX6_held 55 = .ok (.iconst 0, 1) := by decide +kernel
theorem dX6_held_56 : decode cX6_held 56 = .ok (.invokevirtual 157, 3) := by decide +kernel
theorem dX6_held_59 : decode cX6_held 59 = .ok (.ireturn, 1) := by decide +kernel
theorem dX6_who_0 : decode cX6_who 0 = .ok (.aload_n 0, 1) := by decide +kernel
theorem dX6_who_1 : decode cX6_who 1 = .ok (.getfield 12, 3) := by decide +kernel
theorem dX6_who_4 : decode cX6_who 4 = .ok (.iload_n 1, 1) := by decide +kernel
theorem dX6_who_5 : decode cX6_who 5 = .ok (.invokevirtual 161, 3) := by decide +kernel
theorem dX6_who_8 : decode cX6_who 8 = .ok (.ifCond .ne 9, 3) := by decide +kernel
theorem dX6_who_11 : decode cX6_who 11 = .ok (.aload_n 0, 1) := by decide +kernel
theorem dX6_who_12 : decode cX6_who 12 = .ok (.iconst (-1), 1) := by decide +kernel
theorem dX6_who_13 : decode cX6_who 13 = .ok (.invokevirtual 58, 3) := by decide +kernel
theorem dX6_who_16 : decode cX6_who 16 = .ok (.ireturn, 1) := by decide +kernel
theorem dX6_who_17 : decode cX6_who 17 = .ok (.aload_n 0, 1) := by decide +kernel
theorem dX6_who_18 : decode cX6_who 18 = .ok (.getfield 39, 3) := by decide +kernel
theorem dX6_who_21 : decode cX6_who 21 = .ok (.aload_n 0, 1) := by decide +kernel
theorem dX6_who_22 : decode cX6_who 22 = .ok (.getfield 12, 3) := by decide +kernel
theorem dX6_who_25 : decode cX6_who 25 = .ok (.invokevirtual 127, 3) := by decide +kernel
theorem dX6_who_28 : decode cX6_who 28 = .ok (.aload_n 0, 1) := by decide +kernel
theorem dX6_who_29 : decode cX6_who 29 = .ok (.getfield 39, 3) := by decide +kernel
theorem dX6_who_32 : decode cX6_who 32 = .ok (.iload_n 1, 1) := by decide +kernel
theorem dX6_who_33 : decode cX6_who 33 = .ok (.invokevirtual 164, 3) := by decide +kernel
theorem dX6_who_36 : decode cX6_who 36 = .ok (.ireturn, 1) := by decide +kernel
theorem dX6_missing_0 : decode cX6_missing 0 = .ok (.iload_n 1, 1) := by decide +kernel
theorem dX6_missing_1 : decode cX6_missing 1 = .ok (.invokestatic 154, 3) := by decide +kernel
theorem dX6_missing_4 : decode cX6_missing 4 = .ok (.ifCond .ne 9, 3) := by decide +kernel
theorem dX6_missing_7 : decode cX6_missing 7 = .ok (.aload_n 0, 1) := by decide +kernel
theorem dX6_missing_8 : decode cX6_missing 8 = .ok (.iconst (-1), 1) := by decide +kernel
theorem dX6_missing_9 : decode cX6_missing 9 = .ok (.invokevirtual 58, 3) := by decide +kernel
theorem dX6_missing_12 : decode cX6_missing 12 = .ok (.ireturn, 1) := by decide +kernel
theorem dX6_missing_13 : decode cX6_missing 13 = .ok (.aload_n 0, 1) := by decide +kernel
theorem dX6_missing_14 : decode cX6_missing 14 = .ok (.getfield 39, 3) := by decide +kernel
theorem dX6_missing_17 : decode cX6_missing 17 = .ok (.aload_n 0, 1) := by decide +kernel
theorem dX6_missing_18 : decode cX6_missing 18 = .ok (.getfield 12, 3) := by decide +kernel
theorem dX6_missing_21 : decode cX6_missing 21 = .ok (.invokevirtual 127, 3) := by decide +kernel
theorem dX6_missing_24 : decode cX6_missing 24 = .ok (.aload_n 0, 1) := by decide +kernel
theorem dX6_missing_25 : decode cX6_missing 25 = .ok (.getfield 12, 3) := by decide +kernel
theorem dX6_missing_28 : decode cX6_missing 28 = .ok (.iload_n 1, 1) := by decide +kernel
theorem dX6_missing_29 : decode cX6_missing 29 = .ok (.invokevirtual 167, 3) := by decide +kernel
theorem dX6_missing_32 : decode cX6_missing 32 = .ok (.aload_n 0, 1) := by decide +kernel
theorem dX6_missing_33 : decode cX6_missing 33 = .ok (.getfield 39, 3) := by decide +kernel
theorem dX6_missing_36 : decode cX6_missing 36 = .ok (.aload_n 0, 1) := by decide +kernel
theorem dX6_missing_37 : decode cX6_missing 37 = .ok (.getfield 12, 3) := by decide +kernel
theorem dX6_missing_40 : decode cX6_missing 40 = .ok (.iload_n 1, 1) := by decide +kernel
theorem dX6_missing_41 : decode cX6_missing 41 = .ok (.iconst 1, 1) := by decide +kernel
theorem dX6_missing_42 : decode cX6_missing 42 = .ok (.invokevirtual 157, 3) := by decide +kernel
theorem dX6_missing_45 : decode cX6_missing 45 = .ok (.isub, 1) := by decide +kernel
theorem dX6_missing_46 : decode cX6_missing 46 = .ok (.ireturn, 1) := by decide +kernel
theorem dX6_ask_0 : decode cX6_ask 0 = .ok (.iload_n 1, 1) := by decide +kernel
theorem dX6_ask_1 : decode cX6_ask 1 = .ok (.invokestatic 154, 3) := by decide +kernel
theorem dX6_ask_4 : decode cX6_ask 4 = .ok (.ifCond .ne 9, 3) := by decide +kernel
theorem dX6_ask_7 : decode cX6_ask 7 = .ok (.aload_n 0, 1) := by decide +kernel
theorem dX6_ask_8 : decode cX6_ask 8 = .ok (.iconst (-1), 1) := by decide +kernel
theorem dX6_ask_9 : decode cX6_ask 9 = .ok (.invokevirtual 58, 3) := by decide +kernel
theorem dX6_ask_12 : decode cX6_ask 12 = .ok (.ireturn, 1) := by decide +kernel
theorem dX6_ask_13 : decode cX6_ask 13 = .ok (.aload_n 0, 1) := by decide +kernel
theorem dX6_ask_14 : decode cX6_ask 14 = .ok (.getfield 39, 3) := by decide +kernel
theorem dX6_ask_17 : decode cX6_ask 17 = .ok (.aload_n 0, 1) := by decide +kernel
theorem dX6_ask_18 : decode cX6_ask 18 = .ok (.getfield 12, 3) := by decide +kernel
theorem dX6_ask_21 : decode cX6_ask 21 = .ok (.invokevirtual 127, 3) := by decide +kernel
theorem dX6_ask_24 : decode cX6_ask 24 = .ok (.aload_n 0, 1) := by decide +kernel
theorem dX6_ask_25 : decode cX6_ask 25 = .ok (.getfield 39, 3) := by decide +kernel
theorem dX6_ask_28 : decode cX6_ask 28 = .ok (.aload_n 0, 1) := by decide +kernel
theorem dX6_ask_29 : decode cX6_ask 29 = .ok (.getfield 12, 3) := by decide +kernel
theorem dX6_ask_32 : decode cX6_ask 32 = .ok (.iload_n 1, 1) := by decide +kernel
theorem dX6_ask_33 : decode cX6_ask 33 = .ok (.invokevirtual 170, 3) := by decide +kernel
theorem dX6_ask_36 : decode cX6_ask 36 = .ok (.ireturn, 1) := by decide +kernel
theorem dX6_ready_0 : decode cX6_ready 0 = .ok (.iload_n 1, 1) := by decide +kernel
theorem dX6_ready_1 : decode cX6_ready 1 = .ok (.invokestatic 154, 3) := by decide +kernel
theorem dX6_ready_4 : decode cX6_ready 4 = .ok (.ifCond .ne 9, 3) := by decide +kernel
theorem dX6_ready_7 : decode cX6_ready 7 = .ok (.aload_n 0, 1) := by decide +kernel
theorem dX6_ready_8 : decode cX6_ready 8 = .ok (.iconst (-1), 1) := by decide +kernel
theorem dX6_ready_9 : decode cX6_ready 9 = .ok (.invokevirtual 58, 3) := by decide +kernel
theorem dX6_ready_12 : decode cX6_ready 12 = .ok (.ireturn, 1) := by decide +kernel
theorem dX6_ready_13 : decode cX6_ready 13 = .ok (.aload_n 0, 1) := by decide +kernel
theorem dX6_ready_14 : decode cX6_ready 14 = .ok (.iload_n 1, 1) := by decide +kernel
theorem dX6_ready_15 : decode cX6_ready 15 = .ok (.invokevirtual 174, 3) := by decide +kernel
theorem dX6_ready_18 : decode cX6_ready 18 = .ok (.ireturn, 1) := by decide +kernel
theorem dX6_mixed_0 : decode cX6_mixed 0 = .ok (.aload_n 0, 1) := by decide +kernel
theorem dX6_mixed_1 : decode cX6_mixed 1 = .ok (.getfield 32, 3) := by decide +kernel
theorem dX6_mixed_4 : decode cX6_mixed 4 = .ok (.aload_n 0, 1) := by decide +kernel
theorem dX6_mixed_5 : decode cX6_mixed 5 = .ok (.getfield 12, 3) := by decide +kernel
theorem dX6_mixed_8 : decode cX6_mixed 8 = .ok (.invokevirtual 177, 3) := by decide +kernel
theorem dX6_mixed_11 : decode cX6_mixed 11 = .ok (.ireturn, 1) := by decide +kernel
theorem dX6_byKind_0 : decode cX6_byKind 0 = .ok (.aload_n 0, 1) := by decide +kernel
theorem dX6_byKind_1 : decode cX6_byKind 1 = .ok (.getfield 19, 3) := by decide +kernel
theorem dX6_byKind_4 : decode cX6_byKind 4 = .ok (.aload_n 0, 1) := by decide +kernel
theorem dX6_byKind_5 : decode cX6_byKind 5 = .ok (.getfield 12, 3) := by decide +kernel
theorem dX6_byKind_8 : decode cX6_byKind 8 = .ok (.invokevirtual 181, 3) := by decide +kernel
theorem dX6_byKind_11 : decode cX6_byKind 11 = .ok (.iconst 0, 1) := by decide +kernel
theorem dX6_byKind_12 : decode cX6_byKind 12 = .ok (.istore_n 1, 1) := by decide +kernel
theorem dX6_byKind_13 : decode cX6_byKind 13 = .ok (.ldc 186, 2) := by decide +kernel
theorem dX6_byKind_15 : decode cX6_byKind 15 = .ok (.istore_n 2, 1) := by decide +kernel
theorem dX6_byKind_16 : decode cX6_byKind 16 = .ok (.iconst 0, 1) := by decide +kernel
theorem dX6_byKind_17 : decode cX6_byKind 17 = .ok (.istore_n 3, 1) := by decide +kernel
theorem dX6_byKind_18 : decode cX6_byKind 18 = .ok (.iload_n 3, 1) := by decide +kernel
theorem dX6_byKind_19 : decode cX6_byKind 19 = .ok (.ldc 107, 2) := by decide +kernel
theorem dX6_byKind_21 : decode cX6_byKind 21 = .ok (.invokevirtual 109, 3) := by decide +kernel
theorem dX6_byKind_24 : decode cX6_byKind 24 = .ok (.if_icmp .ge 48, 3) := by decide +kernel
theorem dX6_byKind_27 : decode cX6_byKind 27 = .ok (.aload_n 0, 1) := by decide +kernel
theorem dX6_byKind_28 : decode cX6_byKind 28 = .ok (.getfield 19, 3) := by decide +kernel
theorem dX6_byKind_31 : decode cX6_byKind 31 = .ok (.iload_n 3, 1) := by decide +kernel
theorem dX6_byKind_32 : decode cX6_byKind 32 = .ok (.aload_n 0, 1) := by decide +kernel
theorem dX6_byKind_33 : decode cX6_byKind 33 = .ok (.getfield 12, 3) := by decide +kernel
theorem dX6_byKind_36 : decode cX6_byKind 36 = .ok (.getfield 117, 3) := by decide +kernel
theorem dX6_byKind_39 : decode cX6_byKind 39 = .ok (.invokevirtual 120, 3) := by decide +kernel
theorem dX6_byKind_42 : decode cX6_byKind 42 = .ok (.aload_n 0, 1) := by decide +kernel
theorem dX6_byKind_43 : decode cX6_byKind 43 = .ok (.getfield 32, 3) := by decide +kernel
theorem dX6_byKind_46 : decode cX6_byKind 46 = .ok (.aload_n 0, 1) := by decide +kernel
theorem dX6_byKind_47 : decode cX6_byKind 47 = .ok (.getfield 19, 3) := by decide +kernel
theorem dX6_byKind_50 : decode cX6_byKind 50 = .ok (.invokevirtual 177, 3) := by decide +kernel
theorem dX6_byKind_53 : decode cX6_byKind 53 = .ok (.istore 4, 2) := by decide +kernel
theorem dX6_byKind_55 : decode cX6_byKind 55 = .ok (.iload 4, 2) := by decide +kernel
theorem dX6_byKind_57 : decode cX6_byKind 57 = .ok (.iload_n 2, 1) := by decide +kernel
theorem dX6_byKind_58 : decode cX6_byKind 58 = .ok (.if_icmp .ge 8, 3) := by decide +kernel
theorem dX6_byKind_61 : decode cX6_byKind 61 = .ok (.iload_n 3, 1) := by decide +kernel
theorem dX6_byKind_62 : decode cX6_byKind 62 = .ok (.istore_n 1, 1) := by decide +kernel
theorem dX6_byKind_63 : decode cX6_byKind 63 = .ok (.iload 4, 2) := by decide +kernel
theorem dX6_byKind_65 : decode cX6_byKind 65 = .ok (.istore_n 2, 1) := by decide +kernel
theorem dX6_byKind_66 : decode cX6_byKind 66 = .ok (.iinc 3 1, 3) := by decide +kernel
theorem dX6_byKind_69 : decode cX6_byKind 69 = .ok (.goto (-51), 3) := by decide +kernel
theorem dX6_byKind_72 : decode cX6_byKind 72 = .ok (.iload_n 1, 1) := by decide +kernel
theorem dX6_byKind_73 : decode cX6_byKind 73 = .ok (.ireturn, 1) := by decide +kernel
theorem dX6_send_0 : decode cX6_send 0 = .ok (.aload_n 0, 1) := by decide +kernel
theorem dX6_send_1 : decode cX6_send 1 = .ok (.getfield 12, 3) := by decide +kernel
theorem dX6_send_4 : decode cX6_send 4 = .ok (.iload_n 1, 1) := by decide +kernel
theorem dX6_send_5 : decode cX6_send 5 = .ok (.invokevirtual 79, 3) := by decide +kernel
theorem dX6_send_8 : decode cX6_send 8 = .ok (.ifCond .ne 9, 3) := by decide +kernel
theorem dX6_send_11 : decode cX6_send 11 = .ok (.aload_n 0, 1) := by decide +kernel
theorem dX6_send_12 : decode cX6_send 12 = .ok (.iconst (-1), 1) := by decide +kernel
theorem dX6_send_13 : decode cX6_send 13 = .ok (.invokevirtual 58, 3) := by decide +kernel
theorem dX6_send_16 : decode cX6_send 16 = .ok (.ireturn, 1) := by decide +kernel
theorem dX6_send_17 : decode cX6_send 17 = .ok (.iload_n 2, 1) := by decide +kernel
theorem dX6_send_18 : decode cX6_send 18 = .ok (.invokestatic 124, 3) := by decide +kernel
theorem dX6_send_21 : decode cX6_send 21 = .ok (.ifCond .ne 10, 3) := by decide +kernel
theorem dX6_send_24 : decode cX6_send 24 = .ok (.aload_n 0, 1) := by decide +kernel
theorem dX6_send_25 : decode cX6_send 25 = .ok (.bipush (-2), 2) := by decide +kernel
theorem dX6_send_27 : decode cX6_send 27 = .ok (.invokevirtual 58, 3) := by decide +kernel
theorem dX6_send_30 : decode cX6_send 30 = .ok (.ireturn, 1) := by decide +kernel
theorem dX6_send_31 : decode cX6_send 31 = .ok (.aload_n 0, 1) := by decide +kernel
theorem dX6_send_32 : decode cX6_send 32 = .ok (.getfield 19, 3) := by decide +kernel
theorem dX6_send_35 : decode cX6_send 35 = .ok (.aload_n 0, 1) := by decide +kernel
theorem dX6_send_36 : decode cX6_send 36 = .ok (.getfield 12, 3) := by decide +kernel
theorem dX6_send_39 : decode cX6_send 39 = .ok (.invokevirtual 181, 3) := by decide +kernel
theorem dX6_send_42 : decode cX6_send 42 = .ok (.iconst 0, 1) := by decide +kernel
theorem dX6_send_43 : decode cX6_send 43 = .ok (.istore_n 3, 1) := by decide +kernel
theorem dX6_send_44 : decode cX6_send 44 = .ok (.ldc 186, 2) := by decide +kernel
theorem dX6_send_46 : decode cX6_send 46 = .ok (.istore 4, 2) := by decide +kernel
theorem dX6_send_48 : decode cX6_send 48 = .ok (.iconst 0, 1) := by decide +kernel
theorem dX6_send_49 : decode cX6_send 49 = .ok (.istore 5, 2) := by decide +kernel
theorem dX6_send_51 : decode cX6_send 51 = .ok (.iload 5, 2) := by decide +kernel
theorem dX6_send_53 : decode cX6_send 53 = .ok (.bipush 60, 2) := by decide +kernel
theorem dX6_send_55 : decode cX6_send 55 = .ok (.if_icmp .ge 47, 3) := by decide +kernel
theorem dX6_send_58 : decode cX6_send 58 = .ok (.aload_n 0, 1) := by decide +kernel
theorem dX6_send_59 : decode cX6_send 59 = .ok (.getfield 19, 3) := by decide +kernel
theorem dX6_send_62 : decode cX6_send 62 = .ok (.getfield 89, 3) := by decide +kernel
theorem dX6_send_65 : decode cX6_send 65 = .ok (.iload_n 1, 1) := by decide +kernel
theorem dX6_send_66 : decode cX6_send 66 = .ok (.iload 5, 2) := by decide +kernel
theorem dX6_send_68 : decode cX6_send 68 = .ok (.iastore, 1) := by decide +kernel
theorem dX6_send_69 : decode cX6_send 69 = .ok (.aload_n 0, 1) := by decide +kernel
theorem dX6_send_70 : decode cX6_send 70 = .ok (.getfield 32, 3) := by decide +kernel
theorem dX6_send_73 : decode cX6_send 73 = .ok (.aload_n 0, 1) := by decide +kernel
theorem dX6_send_74 : decode cX6_send 74 = .ok (.getfield 19, 3) := by decide +kernel
theorem dX6_send_77 : decode cX6_send 77 = .ok (.invokevirtual 177, 3) := by decide +kernel
theorem dX6_send_80 : decode cX6_send 80 = .ok (.istore 6, 2) := by decide +kernel
theorem dX6_send_82 : decode cX6_send 82 = .ok (.iload 6, 2) := by decide +kernel
theorem dX6_send_84 : decode cX6_send 84 = .ok (.iload 4, 2) := by decide +kernel
theorem dX6_send_86 : decode cX6_send 86 = .ok (.if_icmp .ge 10, 3) := by decide +kernel
theorem dX6_send_89 : decode cX6_send 89 = .ok (.iload 5, 2) := by decide +kernel
theorem dX6_send_91 : decode cX6_send 91 = .ok (.istore_n 3, 1) := by decide +kernel
theorem dX6_send_92 : decode cX6_send 92 = .ok (.iload 6, 2) := by decide +kernel
theorem dX6_send_94 : decode cX6_send 94 = .ok (.istore 4, 2) := by decide +kernel
theorem dX6_send_96 : decode cX6_send 96 = .ok (.iinc 5 1, 3) := by decide +kernel
theorem dX6_send_99 : decode cX6_send 99 = .ok (.goto (-48), 3) := by decide +kernel
theorem dX6_send_102 : decode cX6_send 102 = .ok (.iload_n 2, 1) := by decide +kernel
theorem dX6_send_103 : decode cX6_send 103 = .ok (.ifCond .ne 7, 3) := by decide +kernel
theorem dX6_send_106 : decode cX6_send 106 = .ok (.iload_n 3, 1) := by decide +kernel
theorem dX6_send_107 : decode cX6_send 107 = .ok (.goto 5, 3) := by decide +kernel
theorem dX6_send_110 : decode cX6_send 110 = .ok (.iload 4, 2) := by decide +kernel
theorem dX6_send_112 : decode cX6_send 112 = .ok (.ireturn, 1) := by decide +kernel
theorem dX6_two_0 : decode cX6_two 0 = .ok (.aload_n 0, 1) := by decide +kernel
theorem dX6_two_1 : decode cX6_two 1 = .ok (.iload_n 1, 1) := by decide +kernel
theorem dX6_two_2 : decode cX6_two 2 = .ok (.iload_n 2, 1) := by decide +kernel
theorem dX6_two_3 : decode cX6_two 3 = .ok (.invokevirtual 187, 3) := by decide +kernel
theorem dX6_two_6 : decode cX6_two 6 = .ok (.ifCond .ne 9, 3) := by decide +kernel
theorem dX6_two_9 : decode cX6_two 9 = .ok (.aload_n 0, 1) := by decide +kernel
theorem dX6_two_10 : decode cX6_two 10 = .ok (.iconst (-1), 1) := by decide +kernel
theorem dX6_two_11 : decode cX6_two 11 = .ok (.invokevirtual 58, 3) := by decide +kernel
theorem dX6_two_14 : decode cX6_two 14 = .ok (.ireturn, 1) := by decide +kernel
theorem dX6_two_15 : decode cX6_two 15 = .ok (.aload_n 0, 1) := by decide +kernel
theorem dX6_two_16 : decode cX6_two 16 = .ok (.getfield 46, 3) := by decide +kernel
theorem dX6_two_19 : decode cX6_two 19 = .ok (.aload_n 0, 1) := by decide +kernel
theorem dX6_two_20 : decode cX6_two 20 = .ok (.getfield 12, 3) := by decide +kernel
theorem dX6_two_23 : decode cX6_two 23 = .ok (.getfield 86, 3) := by decide +kernel
theorem dX6_two_26 : decode cX6_two 26 = .ok (.iload_n 1, 1) := by decide +kernel
theorem dX6_two_27 : decode cX6_two 27 = .ok (.iaload, 1) := by decide +kernel
theorem dX6_two_28 : decode cX6_two 28 = .ok (.aload_n 0, 1) := by decide +kernel
theorem dX6_two_29 : decode cX6_two 29 = .ok (.getfield 12, 3) := by decide +kernel
theorem dX6_two_32 : decode cX6_two 32 = .ok (.getfield 86, 3) := by decide +kernel
theorem dX6_two_35 : decode cX6_two 35 = .ok (.iload_n 2, 1) := by decide +kernel
theorem dX6_two_36 : decode cX6_two 36 = .ok (.iaload, 1) := by decide +kernel
theorem dX6_two_37 : decode cX6_two 37 = .ok (.iconst 0, 1) := by decide +kernel
theorem dX6_two_38 : decode cX6_two 38 = .ok (.invokevirtual 191, 3) := by decide +kernel
theorem dX6_two_41 : decode cX6_two 41 = .ok (.ireturn, 1) := by decide +kernel
theorem dX6_three_0 : decode cX6_three 0 = .ok (.aload_n 0, 1) := by decide +kernel
theorem dX6_three_1 : decode cX6_three 1 = .ok (.iload_n 1, 1) := by decide +kernel
theorem dX6_three_2 : decode cX6_three 2 = .ok (.iload_n 2, 1) := by decide +kernel
theorem dX6_three_3 : decode cX6_three 3 = .ok (.invokevirtual 187, 3) := by decide +kernel
theorem dX6_three_6 : decode cX6_three 6 = .ok (.ifCond .eq 21, 3) := by decide +kernel
theorem dX6_three_9 : decode cX6_three 9 = .ok (.aload_n 0, 1) := by decide +kernel
theorem dX6_three_10 : decode cX6_three 10 = .ok (.iload_n 1, 1) := by decide +kernel
theorem dX6_three_11 : decode cX6_three 11 = .ok (.iload_n 3, 1) := by decide +kernel
theorem dX6_three_12 : decode cX6_three 12 = .ok (.invokevirtual 187, 3) := by decide +kernel
theorem dX6_three_15 : decode cX6_three 15 = .ok (.ifCond .eq 12, 3) := by decide +kernel
theorem dX6_three_18 : decode cX6_three 18 = .ok (.aload_n 0, 1) := by decide +kernel
theorem dX6_three_19 : decode cX6_three 19 = .ok (.iload_n 2, 1) := by decide +kernel
theorem dX6_three_20 : decode cX6_three 20 = .ok (.iload_n 3, 1) := by decide +kernel
theorem dX6_three_21 : decode cX6_three 21 = .ok (.invokevirtual 187, 3) := by decide +kernel
theorem dX6_three_24 : decode cX6_three 24 = .ok (.ifCond .ne 9, 3) := by decide +kernel
theorem dX6_three_27 : decode cX6_three 27 = .ok (.aload_n 0, 1) := by decide +kernel
theorem dX6_three_28 : decode cX6_three 28 = .ok (.iconst (-1), 1) := by decide +kernel
theorem dX6_three_29 : decode cX6_three 29 = .ok (.invokevirtual 58, 3) := by decide +kernel
theorem dX6_three_32 : decode cX6_three 32 = .ok (.ireturn, 1) := by decide +kernel
theorem dX6_three_33 : decode cX6_three 33 = .ok (.aload_n 0, 1) := by decide +kernel
theorem dX6_three_34 : decode cX6_three 34 = .ok (.getfield 46, 3) := by decide +kernel
theorem dX6_three_37 : decode cX6_three 37 = .ok (.aload_n 0, 1) := by decide +kernel
theorem dX6_three_38 : decode cX6_three 38 = .ok (.getfield 12, 3) := by decide +kernel
theorem dX6_three_41 : decode cX6_three 41 = .ok (.getfield 86, 3) := by decide +kernel
theorem dX6_three_44 : decode cX6_three 44 = .ok (.iload_n 1, 1) := by decide +kernel
theorem dX6_three_45 : decode cX6_three 45 = .ok (.iaload, 1) := by decide +kernel
theorem dX6_three_46 : decode cX6_three 46 = .ok (.aload_n 0, 1) := by decide +kernel
theorem dX6_three_47 : decode cX6_three 47 = .ok (.getfield 12, 3) := by decide +kernel
theorem dX6_three_50 : decode cX6_three 50 = .ok (.getfield 86, 3) := by decide +kernel
theorem dX6_three_53 : decode cX6_three 53 = .ok (.iload_n 2, 1) := by decide +kernel
theorem dX6_three_54 : decode cX6_three 54 = .ok (.iaload, 1) := by decide +kernel
theorem dX6_three_55 : decode cX6_three 55 = .ok (.aload_n 0, 1) := by decide +kernel
theorem dX6_three_56 : decode cX6_three 56 = .ok (.getfield 12, 3) := by decide +kernel
theorem dX6_three_59 : decode cX6_three 59 = .ok (.getfield 86, 3) := by decide +kernel
theorem dX6_three_62 : decode cX6_three 62 = .ok (.iload_n 3, 1) := by decide +kernel
theorem dX6_three_63 : decode cX6_three 63 = .ok (.iaload, 1) := by decide +kernel
theorem dX6_three_64 : decode cX6_three 64 = .ok (.invokevirtual 191, 3) := by decide +kernel
theorem dX6_three_67 : decode cX6_three 67 = .ok (.ireturn, 1) := by decide +kernel
theorem dX6_parts_0 : decode cX6_parts 0 = .ok (.aload_n 0, 1) := by decide +kernel
theorem dX6_parts_1 : decode cX6_parts 1 = .ok (.getfield 46, 3) := by decide +kernel
theorem dX6_parts_4 : decode cX6_parts 4 = .ok (.invokevirtual 195, 3) := by decide +kernel
theorem dX6_parts_7 : decode cX6_parts 7 = .ok (.ireturn, 1) := by decide +kernel
theorem dX6_lacks_0 : decode cX6_lacks 0 = .ok (.aload_n 0, 1) := by decide +kernel
theorem dX6_lacks_1 : decode cX6_lacks 1 = .ok (.getfield 12, 3) := by decide +kernel
theorem dX6_lacks_4 : decode cX6_lacks 4 = .ok (.iload_n 1, 1) := by decide +kernel
theorem dX6_lacks_5 : decode cX6_lacks 5 = .ok (.invokevirtual 79, 3) := by decide +kernel
theorem dX6_lacks_8 : decode cX6_lacks 8 = .ok (.ifCond .ne 9, 3) := by decide +kernel
theorem dX6_lacks_11 : decode cX6_lacks 11 = .ok (.aload_n 0, 1) := by decide +kernel
theorem dX6_lacks_12 : decode cX6_lacks 12 = .ok (.iconst (-1), 1) := by decide +kernel
theorem dX6_lacks_13 : decode cX6_lacks 13 = .ok (.invokevirtual 58, 3) := by decide +kernel
theorem dX6_lacks_16 : decode cX6_lacks 16 = .ok (.ireturn, 1) := by decide +kernel
theorem dX6_lacks_17 : decode cX6_lacks 17 = .ok (.aload_n 0, 1) := by decide +kernel
theorem dX6_lacks_18 : decode cX6_lacks 18 = .ok (.getfield 46, 3) := by decide +kernel
theorem dX6_lacks_21 : decode cX6_lacks 21 = .ok (.iload_n 1, 1) := by decide +kernel
theorem dX6_lacks_22 : decode cX6_lacks 22 = .ok (.aload_n 0, 1) := by decide +kernel
theorem dX6_lacks_23 : decode cX6_lacks 23 = .ok (.getfield 12, 3) := by decide +kernel
theorem dX6_lacks_26 : decode cX6_lacks 26 = .ok (.getfield 86, 3) := by decide +kernel
theorem dX6_lacks_29 : decode cX6_lacks 29 = .ok (.iload_n 1, 1) := by decide +kernel
theorem dX6_lacks_30 : decode cX6_lacks 30 = .ok (.iaload, 1) := by decide +kernel
theorem dX6_lacks_31 : decode cX6_lacks 31 = .ok (.invokevirtual 198, 3) := by decide +kernel
theorem dX6_lacks_34 : decode cX6_lacks 34 = .ok (.ireturn, 1) := by decide +kernel
theorem dX6_laps_0 : decode cX6_laps 0 = .ok (.iload_n 1, 1) := by decide +kernel
theorem dX6_laps_1 : decode cX6_laps 1 = .ok (.iconst 2, 1) := by decide +kernel
theorem dX6_laps_2 : decode cX6_laps 2 = .ok (.if_icmp .ge 10, 3) := by decide +kernel
theorem dX6_laps_5 : decode cX6_laps 5 = .ok (.aload_n 0, 1) := by decide +kernel
theorem dX6_laps_6 : decode cX6_laps 6 = .ok (.bipush (-4), 2) := by decide +kernel
theorem dX6_laps_8 : decode cX6_laps 8 = .ok (.invokevirtual 58, 3) := by decide +kernel
theorem dX6_laps_11 : decode cX6_laps 11 = .ok (.ireturn, 1) := by decide +kernel
theorem dX6_laps_12 : decode cX6_laps 12 = .ok (.iload_n 1, 1) := by decide +kernel
theorem dX6_laps_13 : decode cX6_laps 13 = .ok (.bipush 9, 2) := by decide +kernel
theorem dX6_laps_15 : decode cX6_laps 15 = .ok (.if_icmp .le 10, 3) := by decide +kernel
theorem dX6_laps_18 : decode cX6_laps 18 = .ok (.aload_n 0, 1) := by decide +kernel
theorem dX6_laps_19 : decode cX6_laps 19 = .ok (.bipush (-6), 2) := by decide +kernel
theorem dX6_laps_21 : decode cX6_laps 21 = .ok (.invokevirtual 58, 3) := by decide +kernel
theorem dX6_laps_24 : decode cX6_laps 24 = .ok (.ireturn, 1) := by decide +kernel
theorem dX6_laps_25 : decode cX6_laps 25 = .ok (.aload_n 0, 1) := by decide +kernel
theorem dX6_laps_26 : decode cX6_laps 26 = .ok (.getfield 46, 3) := by decide +kernel
theorem dX6_laps_29 : decode cX6_laps 29 = .ok (.iload_n 1, 1) := by decide +kernel
theorem dX6_laps_30 : decode cX6_laps 30 = .ok (.invokevirtual 202, 3) := by decide +kernel
theorem dX6_laps_33 : decode cX6_laps 33 = .ok (.ireturn, 1) := by decide +kernel
theorem dX6_waits_0 : decode cX6_waits 0 = .ok (.iload_n 1, 1) := by decide +kernel
theorem dX6_waits_1 : decode cX6_waits 1 = .ok (.invokestatic 154, 3) := by decide +kernel
theorem dX6_waits_4 : decode cX6_waits 4 = .ok (.ifCond .ne 9, 3) := by decide +kernel
theorem dX6_waits_7 : decode cX6_waits 7 = .ok (.aload_n 0, 1) := by decide +kernel
theorem dX6_waits_8 : decode cX6_waits 8 = .ok (.iconst (-1), 1) := by decide +kernel
theorem dX6_waits_9 : decode cX6_waits 9 = .ok (.invokevirtual 58, 3) := by decide +kernel
theorem dX6_waits_12 : decode cX6_waits 12 = .ok (.ireturn, 1) := by decide +kernel
theorem dX6_waits_13 : decode cX6_waits 13 = .ok (.iload_n 2, 1) := by decide +kernel
theorem dX6_waits_14 : decode cX6_waits 14 = .ok (.ifCond .lt 7, 3) := by decide +kernel
theorem dX6_waits_17 : decode cX6_waits 17 = .ok (.iload_n 3, 1) := by decide +kernel
theorem dX6_waits_18 : decode cX6_waits 18 = .ok (.ifCond .ge 10, 3) := by decide +kernel
theorem dX6_waits_21 : decode cX6_waits 21 = .ok (.aload_n 0, 1) := by decide +kernel
theorem dX6_waits_22 : decode cX6_waits 22 = .ok (.bipush (-4), 2) := by decide +kernel
theorem dX6_waits_24 : decode cX6_waits 24 = .ok (.invokevirtual 58, 3) := by decide +kernel
theorem dX6_waits_27 : decode cX6_waits 27 = .ok (.ireturn, 1) := by decide +kernel
theorem dX6_waits_28 : decode cX6_waits 28 = .ok (.iload_n 2, 1) := by decide +kernel
theorem dX6_waits_29 : decode cX6_waits 29 = .ok (.bipush 100, 2) := by decide +kernel
theorem dX6_waits_31 : decode cX6_waits 31 = .ok (.if_icmp .ge 9, 3) := by decide +kernel
theorem dX6_waits_34 : decode cX6_waits 34 = .ok (.iload_n 3, 1) := by decide +kernel
theorem dX6_waits_35 : decode cX6_waits 35 = .ok (.bipush 30, 2) := by decide +kernel
theorem dX6_waits_37 : decode cX6_waits 37 = .ok (.if_icmp .le 10, 3) := by decide +kernel
theorem dX6_waits_40 : decode cX6_waits 40 = .ok (.aload_n 0, 1) := by decide +kernel
theorem dX6_waits_41 : decode cX6_waits 41 = .ok (.bipush (-6), 2) := by decide +kernel
theorem dX6_waits_43 : decode cX6_waits 43 = .ok (.invokevirtual 58, 3) := by decide +kernel
theorem dX6_waits_46 : decode cX6_waits 46 = .ok (.ireturn, 1) := by decide +kernel
theorem dX6_waits_47 : decode cX6_waits 47 = .ok (.aload_n 0, 1) := by decide +kernel
theorem dX6_waits_48 : decode cX6_waits 48 = .ok (.iload_n 1, 1) := by decide +kernel
theorem dX6_waits_49 : decode cX6_waits 49 = .ok (.invokevirtual 174, 3) := by decide +kernel
theorem dX6_waits_52 : decode cX6_waits 52 = .ok (.istore 4, 2) := by decide +kernel
theorem dX6_waits_54 : decode cX6_waits 54 = .ok (.iload 4, 2) := by decide +kernel
theorem dX6_waits_56 : decode cX6_waits 56 = .ok (.ifCond .ge 8, 3) := by decide +kernel
theorem dX6_waits_59 : decode cX6_waits 59 = .ok (.bipush (-9), 2) := by decide +kernel
theorem dX6_waits_61 : decode cX6_waits 61 = .ok (.goto 13, 3) := by decide +kernel
theorem dX6_waits_64 : decode cX6_waits 64 = .ok (.iconst 0, 1) := by decide +kernel
theorem dX6_waits_65 : decode cX6_waits 65 = .ok (.iload 4, 2) := by decide +kernel
theorem dX6_waits_67 : decode cX6_waits 67 = .ok (.iload_n 2, 1) := by decide +kernel
theorem dX6_waits_68 : decode cX6_waits 68 = .ok (.isub, 1) := by decide +kernel
theorem dX6_waits_69 : decode cX6_waits 69 = .ok (.iload_n 3, 1) := by decide +kernel
theorem dX6_waits_70 : decode cX6_waits 70 = .ok (.isub, 1) := by decide +kernel
theorem dX6_waits_71 : decode cX6_waits 71 = .ok (.invokestatic 205, 3) := by decide +kernel
theorem dX6_waits_74 : decode cX6_waits 74 = .ok (.ireturn, 1) := by decide +kernel
theorem dX6_vain_0 : decode cX6_vain 0 = .ok (.iload_n 1, 1) := by decide +kernel
theorem dX6_vain_1 : decode cX6_vain 1 = .ok (.invokestatic 154, 3) := by decide +kernel
theorem dX6_vain_4 : decode cX6_vain 4 = .ok (.ifCond .ne 9, 3) := by decide +kernel
theorem dX6_vain_7 : decode cX6_vain 7 = .ok (.aload_n 0, 1) := by decide +kernel
theorem dX6_vain_8 : decode cX6_vain 8 = .ok (.iconst (-1), 1) := by decide +kernel
theorem dX6_vain_9 : decode cX6_vain 9 = .ok (.invokevirtual 58, 3) := by decide +kernel
theorem dX6_vain_12 : decode cX6_vain 12 = .ok (.ireturn, 1) := by decide +kernel
theorem dX6_vain_13 : decode cX6_vain 13 = .ok (.iload_n 2, 1) := by decide +kernel
theorem dX6_vain_14 : decode cX6_vain 14 = .ok (.ifCond .lt 8, 3) := by decide +kernel
theorem dX6_vain_17 : decode cX6_vain 17 = .ok (.iload_n 3, 1) := by decide +kernel
theorem dX6_vain_18 : decode cX6_vain 18 = .ok (.iconst 1, 1) := by decide +kernel
theorem dX6_vain_19 : decode cX6_vain 19 = .ok (.if_icmp .ge 10, 3) := by decide +kernel
theorem dX6_vain_22 : decode cX6_vain 22 = .ok (.aload_n 0, 1) := by decide +kernel
theorem dX6_vain_23 : decode cX6_vain 23 = .ok (.bipush (-4), 2) := by decide +kernel
theorem dX6_vain_25 : decode cX6_vain 25 = .ok (.invokevirtual 58, 3) := by decide +kernel
theorem dX6_vain_28 : decode cX6_vain 28 = .ok (.ireturn, 1) := by decide +kernel
theorem dX6_vain_29 : decode cX6_vain 29 = .ok (.iload_n 2, 1) := by decide +kernel
theorem dX6_vain_30 : decode cX6_vain 30 = .ok (.bipush 100, 2) := by decide +kernel
theorem dX6_vain_32 : decode cX6_vain 32 = .ok (.if_icmp .ge 9, 3) := by decide +kernel
theorem dX6_vain_35 : decode cX6_vain 35 = .ok (.iload_n 3, 1) := by decide +kernel
theorem dX6_vain_36 : decode cX6_vain 36 = .ok (.bipush 30, 2) := by decide +kernel
theorem dX6_vain_38 : decode cX6_vain 38 = .ok (.if_icmp .le 10, 3) := by decide +kernel
theorem dX6_vain_41 : decode cX6_vain 41 = .ok (.aload_n 0, 1) := by decide +kernel
theorem dX6_vain_42 : decode cX6_vain 42 = .ok (.bipush (-6), 2) := by decide +kernel
theorem dX6_vain_44 : decode cX6_vain 44 = .ok (.invokevirtual 58, 3) := by decide +kernel
theorem dX6_vain_47 : decode cX6_vain 47 = .ok (.ireturn, 1) := by decide +kernel
theorem dX6_vain_48 : decode cX6_vain 48 = .ok (.aload_n 0, 1) := by decide +kernel
theorem dX6_vain_49 : decode cX6_vain 49 = .ok (.iload_n 1, 1) := by decide +kernel
theorem dX6_vain_50 : decode cX6_vain 50 = .ok (.invokevirtual 174, 3) := by decide +kernel
theorem dX6_vain_53 : decode cX6_vain 53 = .ok (.istore 4, 2) := by decide +kernel
theorem dX6_vain_55 : decode cX6_vain 55 = .ok (.iload 4, 2) := by decide +kernel
theorem dX6_vain_57 : decode cX6_vain 57 = .ok (.ifCond .ge 6, 3) := by decide +kernel
theorem dX6_vain_60 : decode cX6_vain 60 = .ok (.bipush (-9), 2) := by decide +kernel
theorem dX6_vain_62 : decode cX6_vain 62 = .ok (.ireturn, 1) := by decide +kernel
theorem dX6_vain_63 : decode cX6_vain 63 = .ok (.iconst 0, 1) := by decide +kernel
theorem dX6_vain_64 : decode cX6_vain 64 = .ok (.istore 5, 2) := by decide +kernel
theorem dX6_vain_66 : decode cX6_vain 66 = .ok (.iload_n 2, 1) := by decide +kernel
theorem dX6_vain_67 : decode cX6_vain 67 = .ok (.istore 6, 2) := by decide +kernel
theorem dX6_vain_69 : decode cX6_vain 69 = .ok (.iload 6, 2) := by decide +kernel
theorem dX6_vain_71 : decode cX6_vain 71 = .ok (.iload 4, 2) := by decide +kernel
theorem dX6_vain_73 : decode cX6_vain 73 = .ok (.if_icmp .ge 15, 3) := by decide +kernel
theorem dX6_vain_76 : decode cX6_vain 76 = .ok (.iinc 5 1, 3) := by decide +kernel
theorem dX6_vain_79 : decode cX6_vain 79 = .ok (.iload 6, 2) := by decide +kernel
theorem dX6_vain_81 : decode cX6_vain 81 = .ok (.iload_n 3, 1) := by decide +kernel
theorem dX6_vain_82 : decode cX6_vain 82 = .ok (.iadd, 1) := by decide +kernel
theorem dX6_vain_83 : decode cX6_vain 83 = .ok (.istore 6, 2) := by decide +kernel
theorem dX6_vain_85 : decode cX6_vain 85 = .ok (.goto (-16), 3) := by decide +kernel
theorem dX6_vain_88 : decode cX6_vain 88 = .ok (.iload 5, 2) := by decide +kernel
theorem dX6_vain_90 : decode cX6_vain 90 = .ok (.ireturn, 1) := by decide +kernel
theorem dX6_seen_0 : decode cX6_seen 0 = .ok (.iload_n 1, 1) := by decide +kernel
theorem dX6_seen_1 : decode cX6_seen 1 = .ok (.invokestatic 124, 3) := by decide +kernel
theorem dX6_seen_4 : decode cX6_seen 4 = .ok (.ifCond .ne 10, 3) := by decide +kernel
theorem dX6_seen_7 : decode cX6_seen 7 = .ok (.aload_n 0, 1) := by decide +kernel
theorem dX6_seen_8 : decode cX6_seen 8 = .ok (.bipush (-2), 2) := by decide +kernel
theorem dX6_seen_10 : decode cX6_seen 10 = .ok (.invokevirtual 58, 3) := by decide +kernel
theorem dX6_seen_13 : decode cX6_seen 13 = .ok (.ireturn, 1) := by decide +kernel
theorem dX6_seen_14 : decode cX6_seen 14 = .ok (.iconst 0, 1) := by decide +kernel
theorem dX6_seen_15 : decode cX6_seen 15 = .ok (.istore_n 2, 1) := by decide +kernel
theorem dX6_seen_16 : decode cX6_seen 16 = .ok (.bipush (-9), 2) := by decide +kernel
theorem dX6_seen_18 : decode cX6_seen 18 = .ok (.istore_n 3, 1) := by decide +kernel
theorem dX6_seen_19 : decode cX6_seen 19 = .ok (.aload_n 0, 1) := by decide +kernel
theorem dX6_seen_20 : decode cX6_seen 20 = .ok (.getfield 39, 3) := by decide +kernel
theorem dX6_seen_23 : decode cX6_seen 23 = .ok (.aload_n 0, 1) := by decide +kernel
theorem dX6_seen_24 : decode cX6_seen 24 = .ok (.getfield 12, 3) := by decide +kernel
theorem dX6_seen_27 : decode cX6_seen 27 = .ok (.invokevirtual 210, 3) := by decide +kernel
theorem dX6_seen_30 : decode cX6_seen 30 = .ok (.iconst 0, 1) := by decide +kernel
theorem dX6_seen_31 : decode cX6_seen 31 = .ok (.istore 4, 2) := by decide +kernel
theorem dX6_seen_33 : decode cX6_seen 33 = .ok (.iload 4, 2) := by decide +kernel
theorem dX6_seen_35 : decode cX6_seen 35 = .ok (.bipush 100, 2) := by decide +kernel
theorem dX6_seen_37 : decode cX6_seen 37 = .ok (.if_icmp .ge 55, 3) := by decide +kernel
theorem dX6_seen_40 : decode cX6_seen 40 = .ok (.aload_n 0, 1) := by decide +kernel
theorem dX6_seen_41 : decode cX6_seen 41 = .ok (.getfield 39, 3) := by decide +kernel
theorem dX6_seen_44 : decode cX6_seen 44 = .ok (.aload_n 0, 1) := by decide +kernel
theorem dX6_seen_45 : decode cX6_seen 45 = .ok (.getfield 12, 3) := by decide +kernel
theorem dX6_seen_48 : decode cX6_seen 48 = .ok (.iload 4, 2) := by decide +kernel
theorem dX6_seen_50 : decode cX6_seen 50 = .ok (.invokevirtual 213, 3) := by decide +kernel
theorem dX6_seen_53 : decode cX6_seen 53 = .ok (.aload_n 0, 1) := by decide +kernel
theorem dX6_seen_54 : decode cX6_seen 54 = .ok (.getfield 39, 3) := by decide +kernel
theorem dX6_seen_57 : decode cX6_seen 57 = .ok (.getfield 144, 3) := by decide +kernel
theorem dX6_seen_60 : decode cX6_seen 60 = .ok (.aload_n 0, 1) := by decide +kernel
theorem dX6_seen_61 : decode cX6_seen 61 = .ok (.getfield 46, 3) := by decide +kernel
theorem dX6_seen_64 : decode cX6_seen 64 = .ok (.invokevirtual 216, 3) := by decide +kernel
theorem dX6_seen_67 : decode cX6_seen 67 = .ok (.ifCond .eq 19, 3) := by decide +kernel
theorem dX6_seen_70 : decode cX6_seen 70 = .ok (.iinc 2 1, 3) := by decide +kernel
theorem dX6_seen_73 : decode cX6_seen 73 = .ok (.iload_n 3, 1) := by decide +kernel
theorem dX6_seen_74 : decode cX6_seen 74 = .ok (.bipush (-9), 2) := by decide +kernel
theorem dX6_seen_76 : decode cX6_seen 76 = .ok (.if_icmp .ne 8, 3) := by decide +kernel
theorem dX6_seen_79 : decode cX6_seen 79 = .ok (.iload 4, 2) := by decide +kernel
theorem dX6_seen_81 : decode cX6_seen 81 = .ok (.goto 4, 3) := by decide +kernel
theorem dX6_seen_84 : decode cX6_seen 84 = .ok (.iload_n 3, 1) := by decide +kernel
theorem dX6_seen_85 : decode cX6_seen 85 = .ok (.istore_n 3, 1) := by decide +kernel
theorem dX6_seen_86 : decode cX6_seen 86 = .ok (.iinc 4 1, 3) := by decide +kernel
theorem dX6_seen_89 : decode cX6_seen 89 = .ok (.goto (-56), 3) := by decide +kernel
theorem dX6_seen_92 : decode cX6_seen 92 = .ok (.iload_n 1, 1) := by decide +kernel
theorem dX6_seen_93 : decode cX6_seen 93 = .ok (.ifCond .ne 7, 3) := by decide +kernel
theorem dX6_seen_96 : decode cX6_seen 96 = .ok (.iload_n 2, 1) := by decide +kernel
theorem dX6_seen_97 : decode cX6_seen 97 = .ok (.goto 4, 3) := by decide +kernel
theorem dX6_seen_100 : decode cX6_seen 100 = .ok (.iload_n 3, 1) := by decide +kernel
theorem dX6_seen_101 : decode cX6_seen 101 = .ok (.ireturn, 1) := by decide +kernel
theorem dX6_row_0 : decode cX6_row 0 = .ok (.iload_n 1, 1) := by decide +kernel
theorem dX6_row_1 : decode cX6_row 1 = .ok (.ifCond .ge 10, 3) := by decide +kernel
theorem dX6_row_4 : decode cX6_row 4 = .ok (.aload_n 0, 1) := by decide +kernel
theorem dX6_row_5 : decode cX6_row 5 = .ok (.bipush (-4), 2) := by decide +kernel
theorem dX6_row_7 : decode cX6_row 7 = .ok (.invokevirtual 58, 3) := by decide +kernel
theorem dX6_row_10 : decode cX6_row 10 = .ok (.ireturn, 1) := by decide +kernel
theorem dX6_row_11 : decode cX6_row 11 = .ok (.iload_n 1, 1) := by decide +kernel
theorem dX6_row_12 : decode cX6_row 12 = .ok (.bipush 100, 2) := by decide +kernel
theorem dX6_row_14 : decode cX6_row 14 = .ok (.if_icmp .ge 15, 3) := by decide +kernel
theorem dX6_row_17 : decode cX6_row 17 = .ok (.aload_n 0, 1) := by decide +kernel
theorem dX6_row_18 : decode cX6_row 18 = .ok (.getfield 46, 3) := by decide +kernel
theorem dX6_row_21 : decode cX6_row 21 = .ok (.getfield 220, 3) := by decide +kernel
theorem dX6_row_24 : decode cX6_row 24 = .ok (.bipush 20, 2) := by decide +kernel
theorem dX6_row_26 : decode cX6_row 26 = .ok (.if_icmp .lt 10, 3) := by decide +kernel
theorem dX6_row_29 : decode cX6_row 29 = .ok (.aload_n 0, 1) := by decide +kernel
theorem dX6_row_30 : decode cX6_row 30 = .ok (.bipush (-6), 2) := by decide +kernel
theorem dX6_row_32 : decode cX6_row 32 = .ok (.invokevirtual 58, 3) := by decide +kernel
theorem dX6_row_35 : decode cX6_row 35 = .ok (.ireturn, 1) := by decide +kernel
theorem dX6_row_36 : decode cX6_row 36 = .ok (.aload_n 0, 1) := by decide +kernel
theorem dX6_row_37 : decode cX6_row 37 = .ok (.getfield 46, 3) := by decide +kernel
theorem dX6_row_40 : decode cX6_row 40 = .ok (.iload_n 1, 1) := by decide +kernel
theorem dX6_row_41 : decode cX6_row 41 = .ok (.invokevirtual 221, 3) := by decide +kernel
theorem dX6_row_44 : decode cX6_row 44 = .ok (.ireturn, 1) := by decide +kernel
theorem dX6_judge_0 : decode cX6_judge 0 = .ok (.aload_n 0, 1) := by decide +kernel
theorem dX6_judge_1 : decode cX6_judge 1 = .ok (.getfield 39, 3) := by decide +kernel
theorem dX6_judge_4 : decode cX6_judge 4 = .ok (.aload_n 0, 1) := by decide +kernel
theorem dX6_judge_5 : decode cX6_judge 5 = .ok (.getfield 12, 3) := by decide +kernel
theorem dX6_judge_8 : decode cX6_judge 8 = .ok (.invokevirtual 127, 3) := by decide +kernel
theorem dX6_judge_11 : decode cX6_judge 11 = .ok (.bipush (-9), 2) := by decide +kernel
theorem dX6_judge_13 : decode cX6_judge 13 = .ok (.istore_n 1, 1) := by decide +kernel
theorem dX6_judge_14 : decode cX6_judge 14 = .ok (.iconst 0, 1) := by decide +kernel
theorem dX6_judge_15 : decode cX6_judge 15 = .ok (.istore_n 2, 1) := by decide +kernel
theorem dX6_judge_16 : decode cX6_judge 16 = .ok (.iload_n 2, 1) := by decide +kernel
theorem dX6_judge_17 : decode cX6_judge 17 = .ok (.aload_n 0, 1) := by decide +kernel
theorem dX6_judge_18 : decode cX6_judge 18 = .ok (.getfield 46, 3) := by decide +kernel
theorem dX6_judge_21 : decode cX6_judge 21 = .ok (.getfield 220, 3) := by decide +kernel
theorem dX6_judge_24 : decode cX6_judge 24 = .ok (.if_icmp .ge 37, 3) := by decide +kernel
theorem dX6_judge_27 : decode cX6_judge 27 = .ok (.iload_n 1, 1) := by decide +kernel
theorem dX6_judge_28 : decode cX6_judge 28 = .ok (.bipush (-9), 2) := by decide +kernel
theorem dX6_judge_30 : decode cX6_judge 30 = .ok (.if_icmp .ne 31, 3) := by decide +kernel
theorem dX6_judge_33 : decode cX6_judge 33 = .ok (.aload_n 0, 1) := by decide +kernel
theorem dX6_judge_34 : decode cX6_judge 34 = .ok (.getfield 39, 3) := by decide +kernel
theorem dX6_judge_37 : decode cX6_judge 37 = .ok (.iload_n 2, 1) := by decide +kernel
theorem dX6_judge_38 : decode cX6_judge 38 = .ok (.invokevirtual 131, 3) := by decide +kernel
theorem dX6_judge_41 : decode cX6_judge 41 = .ok (.aload_n 0, 1) := by decide +kernel
theorem dX6_judge_42 : decode cX6_judge 42 = .ok (.getfield 46, 3) := by decide +kernel
theorem dX6_judge_45 : decode cX6_judge 45 = .ok (.getfield 222, 3) := by decide +kernel
theorem dX6_judge_48 : decode cX6_judge 48 = .ok (.iload_n 2, 1) := by decide +kernel
theorem dX6_judge_49 : decode cX6_judge 49 = .ok (.iaload, 1) := by decide +kernel
theorem dX6_judge_50 : decode cX6_judge 50 = .ok (.if_icmp .eq 5, 3) := by decide +kernel
theorem dX6_judge_53 : decode cX6_judge 53 = .ok (.iload_n 2, 1) := by decide +kernel
theorem dX6_judge_54 : decode cX6_judge 54 = .ok (.istore_n 1, 1) := by decide +kernel
theorem dX6_judge_55 : decode cX6_judge 55 = .ok (.iinc 2 1, 3) := by decide +kernel
theorem dX6_judge_58 : decode cX6_judge 58 = .ok (.goto (-42), 3) := by decide +kernel
theorem dX6_judge_61 : decode cX6_judge 61 = .ok (.aload_n 0, 1) := by decide +kernel
theorem dX6_judge_62 : decode cX6_judge 62 = .ok (.getfield 46, 3) := by decide +kernel
theorem dX6_judge_65 : decode cX6_judge 65 = .ok (.invokevirtual 225, 3) := by decide +kernel
theorem dX6_judge_68 : decode cX6_judge 68 = .ok (.iload_n 1, 1) := by decide +kernel
theorem dX6_judge_69 : decode cX6_judge 69 = .ok (.ireturn, 1) := by decide +kernel
theorem dX6_lots_0 : decode cX6_lots 0 = .ok (.iload_n 1, 1) := by decide +kernel
theorem dX6_lots_1 : decode cX6_lots 1 = .ok (.iconst 1, 1) := by decide +kernel
theorem dX6_lots_2 : decode cX6_lots 2 = .ok (.if_icmp .ge 10, 3) := by decide +kernel
theorem dX6_lots_5 : decode cX6_lots 5 = .ok (.aload_n 0, 1) := by decide +kernel
theorem dX6_lots_6 : decode cX6_lots 6 = .ok (.bipush (-4), 2) := by decide +kernel
theorem dX6_lots_8 : decode cX6_lots 8 = .ok (.invokevirtual 58, 3) := by decide +kernel
theorem dX6_lots_11 : decode cX6_lots 11 = .ok (.ireturn, 1) := by decide +kernel
theorem dX6_lots_12 : decode cX6_lots 12 = .ok (.iload_n 1, 1) := by decide +kernel
theorem dX6_lots_13 : decode cX6_lots 13 = .ok (.bipush 20, 2) := by decide +kernel
theorem dX6_lots_15 : decode cX6_lots 15 = .ok (.if_icmp .le 10, 3) := by decide +kernel
theorem dX6_lots_18 : decode cX6_lots 18 = .ok (.aload_n 0, 1) := by decide +kernel
theorem dX6_lots_19 : decode cX6_lots 19 = .ok (.bipush (-6), 2) := by decide +kernel
theorem dX6_lots_21 : decode cX6_lots 21 = .ok (.invokevirtual 58, 3) := by decide +kernel
theorem dX6_lots_24 : decode cX6_lots 24 = .ok (.ireturn, 1) := by decide +kernel
theorem dX6_lots_25 : decode cX6_lots 25 = .ok (.aload_n 0, 1) := by decide +kernel
theorem dX6_lots_26 : decode cX6_lots 26 = .ok (.getfield 19, 3) := by decide +kernel
theorem dX6_lots_29 : decode cX6_lots 29 = .ok (.aload_n 0, 1) := by decide +kernel
theorem dX6_lots_30 : decode cX6_lots 30 = .ok (.getfield 12, 3) := by decide +kernel
theorem dX6_lots_33 : decode cX6_lots 33 = .ok (.invokevirtual 181, 3) := by decide +kernel
theorem dX6_lots_36 : decode cX6_lots 36 = .ok (.iload_n 2, 1) := by decide +kernel
theorem dX6_lots_37 : decode cX6_lots 37 = .ok (.istore_n 3, 1) := by decide +kernel
theorem dX6_lots_38 : decode cX6_lots 38 = .ok (.iconst 0, 1) := by decide +kernel
theorem dX6_lots_39 : decode cX6_lots 39 = .ok (.istore 4, 2) := by decide +kernel
theorem dX6_lots_41 : decode cX6_lots 41 = .ok (.iconst 0, 1) := by decide +kernel
theorem dX6_lots_42 : decode cX6_lots 42 = .ok (.istore 5, 2) := by decide +kernel
theorem dX6_lots_44 : decode cX6_lots 44 = .ok (.iload 5, 2) := by decide +kernel
theorem dX6_lots_46 : decode cX6_lots 46 = .ok (.iload_n 1, 1) := by decide +kernel
theorem dX6_lots_47 : decode cX6_lots 47 = .ok (.if_icmp .ge 75, 3) := by decide +kernel
theorem dX6_lots_50 : decode cX6_lots 50 = .ok (.iconst 0, 1) := by decide +kernel
theorem dX6_lots_51 : decode cX6_lots 51 = .ok (.istore 6, 2) := by decide +kernel
theorem dX6_lots_53 : decode cX6_lots 53 = .ok (.iload 6, 2) := by decide +kernel
theorem dX6_lots_55 : decode cX6_lots 55 = .ok (.aload_n 0, 1) := by decide +kernel
theorem dX6_lots_56 : decode cX6_lots 56 = .ok (.getfield 19, 3) := by decide +kernel
theorem dX6_lots_59 : decode cX6_lots 59 = .ok (.getfield 226, 3) := by decide +kernel
theorem dX6_lots_62 : decode cX6_lots 62 = .ok (.if_icmp .ge 38, 3) := by decide +kernel
theorem dX6_lots_65 : decode cX6_lots 65 = .ok (.iload_n 3, 1) := by decide +kernel
theorem dX6_lots_66 : decode cX6_lots 66 = .ok (.ldc 229, 2) := by decide +kernel
theorem dX6_lots_68 : decode cX6_lots 68 = .ok (.imul, 1) := by decide +kernel
theorem dX6_lots_69 : decode cX6_lots 69 = .ok (.ldc 230, 2) := by decide +kernel
theorem dX6_lots_71 : decode cX6_lots 71 = .ok (.iadd, 1) := by decide +kernel
theorem dX6_lots_72 : decode cX6_lots 72 = .ok (.istore_n 3, 1) := by decide +kernel
theorem dX6_lots_73 : decode cX6_lots 73 = .ok (.aload_n 0, 1) := by decide +kernel
theorem dX6_lots_74 : decode cX6_lots 74 = .ok (.getfield 19, 3) := by decide +kernel
theorem dX6_lots_77 : decode cX6_lots 77 = .ok (.getfield 89, 3) := by decide +kernel
theorem dX6_lots_80 : decode cX6_lots 80 = .ok (.iload 6, 2) := by decide +kernel
theorem dX6_lots_82 : decode cX6_lots 82 = .ok (.iload_n 3, 1) := by decide +kernel
theorem dX6_lots_83 : decode cX6_lots 83 = .ok (.ldc 186, 2) := by decide +kernel
theorem dX6_lots_85 : decode cX6_lots 85 = .ok (.iand, 1) := by decide +kernel
theorem dX6_lots_86 : decode cX6_lots 86 = .ok (.sipush 256, 3) := by decide +kernel
theorem dX6_lots_89 : decode cX6_lots 89 = .ok (.idiv, 1) := by decide +kernel
theorem dX6_lots_90 : decode cX6_lots 90 = .ok (.bipush 60, 2) := by decide +kernel
theorem dX6_lots_92 : decode cX6_lots 92 = .ok (.irem, 1) := by decide +kernel
theorem dX6_lots_93 : decode cX6_lots 93 = .ok (.iastore, 1) := by decide +kernel
theorem dX6_lots_94 : decode cX6_lots 94 = .ok (.iinc 6 1, 3) := by decide +kernel
theorem dX6_lots_97 : decode cX6_lots 97 = .ok (.goto (-44), 3) := by decide +kernel
theorem dX6_lots_100 : decode cX6_lots 100 = .ok (.iload 4, 2) := by decide +kernel
theorem dX6_lots_102 : decode cX6_lots 102 = .ok (.aload_n 0, 1) := by decide +kernel
theorem dX6_lots_103 : decode cX6_lots 103 = .ok (.getfield 32, 3) := by decide +kernel
theorem dX6_lots_106 : decode cX6_lots 106 = .ok (.aload_n 0, 1) := by decide +kernel
theorem dX6_lots_107 : decode cX6_lots 107 = .ok (.getfield 19, 3) := by decide +kernel
theorem dX6_lots_110 : decode cX6_lots 110 = .ok (.invokevirtual 177, 3) := by decide +kernel
theorem dX6_lots_113 : decode cX6_lots 113 = .ok (.iadd, 1) := by decide +kernel
theorem dX6_lots_114 : decode cX6_lots 114 = .ok (.istore 4, 2) := by decide +kernel
theorem dX6_lots_116 : decode cX6_lots 116 = .ok (.iinc 5 1, 3) := by decide +kernel
theorem dX6_lots_119 : decode cX6_lots 119 = .ok (.goto (-75), 3) := by decide +kernel
theorem dX6_lots_122 : decode cX6_lots 122 = .ok (.iload 4, 2) := by decide +kernel
theorem dX6_lots_124 : decode cX6_lots 124 = .ok (.ireturn, 1) := by decide +kernel
theorem dX6_image_0 : decode cX6_image 0 = .ok (.aload_n 0, 1) := by decide +kernel
theorem dX6_image_1 : decode cX6_image 1 = .ok (.getfield 16, 3) := by decide +kernel
theorem dX6_image_4 : decode cX6_image 4 = .ok (.aload_n 0, 1) := by decide +kernel
theorem dX6_image_5 : decode cX6_image 5 = .ok (.getfield 12, 3) := by decide +kernel
theorem dX6_image_8 : decode cX6_image 8 = .ok (.invokevirtual 181, 3) := by decide +kernel
theorem dX6_image_11 : decode cX6_image 11 = .ok (.aload_n 0, 1) := by decide +kernel
theorem dX6_image_12 : decode cX6_image 12 = .ok (.iconst 1, 1) := by decide +kernel
theorem dX6_image_13 : decode cX6_image 13 = .ok (.putfield 54, 3) := by decide +kernel
theorem dX6_image_16 : decode cX6_image 16 = .ok (.aload_n 0, 1) := by decide +kernel
theorem dX6_image_17 : decode cX6_image 17 = .ok (.getfield 12, 3) := by decide +kernel
theorem dX6_image_20 : decode cX6_image 20 = .ok (.getfield 226, 3) := by decide +kernel
theorem dX6_image_23 : decode cX6_image 23 = .ok (.ireturn, 1) := by decide +kernel
theorem dX6_on_0 : decode cX6_on 0 = .ok (.aload_n 0, 1) := by decide +kernel
theorem dX6_on_1 : decode cX6_on 1 = .ok (.getfield 54, 3) := by decide +kernel
theorem dX6_on_4 : decode cX6_on 4 = .ok (.ifCond .ne 10, 3) := by decide +kernel
theorem dX6_on_7 : decode cX6_on 7 = .ok (.aload_n 0, 1) := by decide +kernel
theorem dX6_on_8 : decode cX6_on 8 = .ok (.bipush (-3), 2) := by decide +kernel
theorem dX6_on_10 : decode cX6_on 10 = .ok (.invokevirtual 58, 3) := by decide +kernel
theorem dX6_on_13 : decode cX6_on 13 = .ok (.ireturn, 1) := by decide +kernel
theorem dX6_on_14 : decode cX6_on 14 = .ok (.aload_n 0, 1) := by decide +kernel
theorem dX6_on_15 : decode cX6_on 15 = .ok (.getfield 12, 3) := by decide +kernel
theorem dX6_on_18 : decode cX6_on 18 = .ok (.aload_n 0, 1) := by decide +kernel
theorem dX6_on_19 : decode cX6_on 19 = .ok (.getfield 16, 3) := by decide +kernel
theorem dX6_on_22 : decode cX6_on 22 = .ok (.invokevirtual 181, 3) := by decide +kernel
theorem dX6_on_25 : decode cX6_on 25 = .ok (.aload_n 0, 1) := by decide +kernel
theorem dX6_on_26 : decode cX6_on 26 = .ok (.getfield 12, 3) := by decide +kernel
theorem dX6_on_29 : decode cX6_on 29 = .ok (.getfield 226, 3) := by decide +kernel
theorem dX6_on_32 : decode cX6_on 32 = .ok (.ireturn, 1) := by decide +kernel
theorem dX6_count_0 : decode cX6_count 0 = .ok (.iload_n 1, 1) := by decide +kernel
theorem dX6_count_1 : decode cX6_count 1 = .ok (.tableswitch 99 0 6 #[43, 51, 59, 67, 75, 83, 91], 43) := by decide +kernel
theorem dX6_count_44 : decode cX6_count 44 = .ok (.aload_n 0, 1) := by decide +kernel
theorem dX6_count_45 : decode cX6_count 45 = .ok (.getfield 12, 3) := by decide +kernel
theorem dX6_count_48 : decode cX6_count 48 = .ok (.getfield 226, 3) := by decide +kernel
theorem dX6_count_51 : decode cX6_count 51 = .ok (.ireturn, 1) := by decide +kernel
theorem dX6_count_52 : decode cX6_count 52 = .ok (.aload_n 0, 1) := by decide +kernel
theorem dX6_count_53 : decode cX6_count 53 = .ok (.getfield 12, 3) := by decide +kernel
theorem dX6_count_56 : decode cX6_count 56 = .ok (.invokevirtual 231, 3) := by decide +kernel
theorem dX6_count_59 : decode cX6_count 59 = .ok (.ireturn, 1) := by decide +kernel
theorem dX6_count_60 : decode cX6_count 60 = .ok (.aload_n 0, 1) := by decide +kernel
theorem dX6_count_61 : decode cX6_count 61 = .ok (.getfield 12, 3) := by decide +kernel
theorem dX6_count_64 : decode cX6_count 64 = .ok (.getfield 234, 3) := by decide +kernel
theorem dX6_count_67 : decode cX6_count 67 = .ok (.ireturn, 1) := by decide +kernel
theorem dX6_count_68 : decode cX6_count 68 = .ok (.aload_n 0, 1) := by decide +kernel
theorem dX6_count_69 : decode cX6_count 69 = .ok (.getfield 12, 3) := by decide +kernel
theorem dX6_count_72 : decode cX6_count 72 = .ok (.getfield 114, 3) := by decide +kernel
theorem dX6_count_75 : decode cX6_count 75 = .ok (.ireturn, 1) := by decide +kernel
theorem dX6_count_76 : decode cX6_count 76 = .ok (.aload_n 0, 1) := by decide +kernel
theorem dX6_count_77 : decode cX6_count 77 = .ok (.getfield 12, 3) := by decide +kernel
theorem dX6_count_80 : decode cX6_count 80 = .ok (.getfield 117, 3) := by decide +kernel
theorem dX6_count_83 : decode cX6_count 83 = .ok (.ireturn, 1) := by decide +kernel
theorem dX6_count_84 : decode cX6_count 84 = .ok (.aload_n 0, 1) := by decide +kernel
theorem dX6_count_85 : decode cX6_count 85 = .ok (.getfield 46, 3) := by decide +kernel
theorem dX6_count_88 : decode cX6_count 88 = .ok (.getfield 220, 3) := by decide +kernel
theorem dX6_count_91 : decode cX6_count 91 = .ok (.ireturn, 1) := by decide +kernel
theorem dX6_count_92 : decode cX6_count 92 = .ok (.aload_n 0, 1) := by decide +kernel
theorem dX6_count_93 : decode cX6_count 93 = .ok (.getfield 25, 3) := by decide +kernel
theorem dX6_count_96 : decode cX6_count 96 = .ok (.getfield 62, 3) := by decide +kernel
theorem dX6_count_99 : decode cX6_count 99 = .ok (.ireturn, 1) := by decide +kernel
theorem dX6_count_100 : decode cX6_count 100 = .ok (.aload_n 0, 1) := by decide +kernel
theorem dX6_count_101 : decode cX6_count 101 = .ok (.iload_n 1, 1) := by decide +kernel
theorem dX6_count_102 : decode cX6_count 102 = .ok (.bipush 10, 2) := by decide +kernel
theorem dX6_count_104 : decode cX6_count 104 = .ok (.isub, 1) := by decide +kernel
theorem dX6_count_105 : decode cX6_count 105 = .ok (.invokevirtual 237, 3) := by decide +kernel
theorem dX6_count_108 : decode cX6_count 108 = .ok (.ireturn, 1) := by decide +kernel
theorem dX6_refusalsCounted_0 : decode cX6_refusalsCounted 0 = .ok (.iload_n 1, 1) := by decide +kernel
theorem dX6_refusalsCounted_1 : decode cX6_refusalsCounted 1 = .ok (.iconst 1, 1) := by decide +kernel
theorem dX6_refusalsCounted_2 : decode cX6_refusalsCounted 2 = .ok (.if_icmp .lt 18, 3) := by decide +kernel
theorem dX6_refusalsCounted_5 : decode cX6_refusalsCounted 5 = .ok (.iload_n 1, 1) := by decide +kernel
theorem dX6_refusalsCounted_6 : decode cX6_refusalsCounted 6 = .ok (.bipush 7, 2) := by decide +kernel
theorem dX6_refusalsCounted_8 : decode cX6_refusalsCounted 8 = .ok (.if_icmp .ge 12, 3) := by decide +kernel
theorem dX6_refusalsCounted_11 : decode cX6_refusalsCounted 11 = .ok (.aload_n 0, 1) := by decide +kernel
theorem dX6_refusalsCounted_12 : decode cX6_refusalsCounted 12 = .ok (.getfield 50, 3) := by decide +kernel
theorem dX6_refusalsCounted_15 : decode cX6_refusalsCounted 15 = .ok (.iload_n 1, 1) := by decide +kernel
theorem dX6_refusalsCounted_16 : decode cX6_refusalsCounted 16 = .ok (.iaload, 1) := by decide +kernel
theorem dX6_refusalsCounted_17 : decode cX6_refusalsCounted 17 = .ok (.goto 5, 3) := by decide +kernel
theorem dX6_refusalsCounted_20 : decode cX6_refusalsCounted 20 = .ok (.bipush (-9), 2) := by decide +kernel
theorem dX6_refusalsCounted_22 : decode cX6_refusalsCounted 22 = .ok (.ireturn, 1) := by decide +kernel
theorem dX6_refuse_0 : decode cX6_refuse 0 = .ok (.iload_n 1, 1) := by decide +kernel
theorem dX6_refuse_1 : decode cX6_refuse 1 = .ok (.ineg, 1) := by decide +kernel
theorem dX6_refuse_2 : decode cX6_refuse 2 = .ok (.istore_n 2, 1) := by decide +kernel
theorem dX6_refuse_3 : decode cX6_refuse 3 = .ok (.iload_n 2, 1) := by decide +kernel
theorem dX6_refuse_4 : decode cX6_refuse 4 = .ok (.iconst 1, 1) := by decide +kernel
theorem dX6_refuse_5 : decode cX6_refuse 5 = .ok (.if_icmp .lt 19, 3) := by decide +kernel
theorem dX6_refuse_8 : decode cX6_refuse 8 = .ok (.iload_n 2, 1) := by decide +kernel
theorem dX6_refuse_9 : decode cX6_refuse 9 = .ok (.bipush 7, 2) := by decide +kernel
theorem dX6_refuse_11 : decode cX6_refuse 11 = .ok (.if_icmp .ge 13, 3) := by decide +kernel
theorem dX6_refuse_14 : decode cX6_refuse 14 = .ok (.aload_n 0, 1) := by decide +kernel
theorem dX6_refuse_15 : decode cX6_refuse 15 = .ok (.getfield 50, 3) := by decide +kernel
theorem dX6_refuse_18 : decode cX6_refuse 18 = .ok (.iload_n 2, 1) := by decide +kernel
theorem dX6_refuse_19 : decode cX6_refuse 19 = .ok (.dup2, 1) := by decide +kernel
theorem dX6_refuse_20 : decode cX6_refuse 20 = .ok (.iaload, 1) := by decide +kernel
theorem dX6_refuse_21 : decode cX6_refuse 21 = .ok (.iconst 1, 1) := by decide +kernel
theorem dX6_refuse_22 : decode cX6_refuse 22 = .ok (.iadd, 1) := by decide +kernel
theorem dX6_refuse_23 : decode cX6_refuse 23 = .ok (.iastore, 1) := by decide +kernel
theorem dX6_refuse_24 : decode cX6_refuse 24 = .ok (.iload_n 1, 1) := by decide +kernel
theorem dX6_refuse_25 : decode cX6_refuse 25 = .ok (.ireturn, 1) := by decide +kernel
theorem dX6_tellStatements_0 : decode cX6_tellStatements 0 = .ok (.aload_n 0, 1) := by decide +kernel
theorem dX6_tellStatements_1 : decode cX6_tellStatements 1 = .ok (.getfield 19, 3) := by decide +kernel
theorem dX6_tellStatements_4 : decode cX6_tellStatements 4 = .ok (.aload_n 0, 1) := by decide +kernel
theorem dX6_tellStatements_5 : decode cX6_tellStatements 5 = .ok (.getfield 12, 3) := by decide +kernel
theorem dX6_tellStatements_8 : decode cX6_tellStatements 8 = .ok (.invokevirtual 181, 3) := by decide +kernel
theorem dX6_tellStatements_11 : decode cX6_tellStatements 11 = .ok (.aload_n 0, 1) := by decide +kernel
theorem dX6_tellStatements_12 : decode cX6_tellStatements 12 = .ok (.getfield 25, 3) := by decide +kernel
theorem dX6_tellStatements_15 : decode cX6_tellStatements 15 = .ok (.iconst 0, 1) := by decide +kernel
theorem dX6_tellStatements_16 : decode cX6_tellStatements 16 = .ok (.putfield 240, 3) := by decide +kernel
theorem dX6_tellStatements_19 : decode cX6_tellStatements 19 = .ok (.iconst 0, 1) := by decide +kernel
theorem dX6_tellStatements_20 : decode cX6_tellStatements 20 = .ok (.istore_n 1, 1) := by decide +kernel
theorem dX6_tellStatements_21 : decode cX6_tellStatements 21 = .ok (.iload_n 1, 1) := by decide +kernel
theorem dX6_tellStatements_22 : decode cX6_tellStatements 22 = .ok (.bipush 80, 2) := by decide +kernel
theorem dX6_tellStatements_24 : decode cX6_tellStatements 24 = .ok (.if_icmp .ge 64, 3) := by decide +kernel
theorem dX6_tellStatements_27 : decode cX6_tellStatements 27 = .ok (.aload_n 0, 1) := by decide +kernel
theorem dX6_tellStatements_28 : decode cX6_tellStatements 28 = .ok (.getfield 25, 3) := by decide +kernel
theorem dX6_tellStatements_31 : decode cX6_tellStatements 31 = .ok (.getfield 240, 3) := by decide +kernel
theorem dX6_tellStatements_34 : decode cX6_tellStatements 34 = .ok (.aload_n 0, 1) := by decide +kernel
theorem dX6_tellStatements_35 : decode cX6_tellStatements 35 = .ok (.getfield 25, 3) := by decide +kernel
theorem dX6_tellStatements_38 : decode cX6_tellStatements 38 = .ok (.getfield 62, 3) := by decide +kernel
theorem dX6_tellStatements_41 : decode cX6_tellStatements 41 = .ok (.if_icmp .ge 47, 3) := by decide +kernel
theorem dX6_tellStatements_44 : decode cX6_tellStatements 44 = .ok (.aload_n 0, 1) := by decide +kernel
theorem dX6_tellStatements_45 : decode cX6_tellStatements 45 = .ok (.getfield 25, 3) := by decide +kernel
theorem dX6_tellStatements_48 : decode cX6_tellStatements 48 = .ok (.getfield 240, 3) := by decide +kernel
theorem dX6_tellStatements_51 : decode cX6_tellStatements 51 = .ok (.istore_n 2, 1) := by decide +kernel
theorem dX6_tellStatements_52 : decode cX6_tellStatements 52 = .ok (.aload_n 0, 1) := by decide +kernel
theorem dX6_tellStatements_53 : decode cX6_tellStatements 53 = .ok (.getfield 25, 3) := by decide +kernel
theorem dX6_tellStatements_56 : decode cX6_tellStatements 56 = .ok (.invokevirtual 243, 3) := by decide +kernel
theorem dX6_tellStatements_59 : decode cX6_tellStatements 59 = .ok (.ifCond .eq 17, 3) := by decide +kernel
theorem dX6_tellStatements_62 : decode cX6_tellStatements 62 = .ok (.aload_n 0, 1) := by decide +kernel
theorem dX6_tellStatements_63 : decode cX6_tellStatements 63 = .ok (.getfield 25, 3) := by decide +kernel
theorem dX6_tellStatements_66 : decode cX6_tellStatements 66 = .ok (.aload_n 0, 1) := by decide +kernel
theorem dX6_tellStatements_67 : decode cX6_tellStatements 67 = .ok (.getfield 19, 3) := by decide +kernel
theorem dX6_tellStatements_70 : decode cX6_tellStatements 70 = .ok (.invokevirtual 247, 3) := by decide +kernel
theorem dX6_tellStatements_73 : decode cX6_tellStatements 73 = .ok (.ifCond .ne 9, 3) := by decide +kernel
theorem dX6_tellStatements_76 : decode cX6_tellStatements 76 = .ok (.sipush (-2000), 3) := by decide +kernel
theorem dX6_tellStatements_79 : decode cX6_tellStatements 79 = .ok (.iload_n 2, 1) := by decide +kernel
theorem dX6_tellStatements_80 : decode cX6_tellStatements 80 = .ok (.isub, 1) := by decide +kernel
theorem dX6_tellStatements_81 : decode cX6_tellStatements 81 = .ok (.ireturn, 1) := by decide +kernel
theorem dX6_tellStatements_82 : decode cX6_tellStatements 82 = .ok (.iinc 1 1, 3) := by decide +kernel
theorem dX6_tellStatements_85 : decode cX6_tellStatements 85 = .ok (.goto (-64), 3) := by decide +kernel
theorem dX6_tellStatements_88 : decode cX6_tellStatements 88 = .ok (.aload_n 0, 1) := by decide +kernel
theorem dX6_tellStatements_89 : decode cX6_tellStatements 89 = .ok (.getfield 12, 3) := by decide +kernel
theorem dX6_tellStatements_92 : decode cX6_tellStatements 92 = .ok (.aload_n 0, 1) := by decide +kernel
theorem dX6_tellStatements_93 : decode cX6_tellStatements 93 = .ok (.getfield 19, 3) := by decide +kernel
theorem dX6_tellStatements_96 : decode cX6_tellStatements 96 = .ok (.invokevirtual 181, 3) := by decide +kernel
theorem dX6_tellStatements_99 : decode cX6_tellStatements 99 = .ok (.iload_n 1, 1) := by decide +kernel
theorem dX6_tellStatements_100 : decode cX6_tellStatements 100 = .ok (.ireturn, 1) := by decide +kernel
theorem dX6_readyMinute_0 : decode cX6_readyMinute 0 = .ok (.aload_n 0, 1) := by decide +kernel
theorem dX6_readyMinute_1 : decode cX6_readyMinute 1 = .ok (.getfield 39, 3) := by decide +kernel
theorem dX6_readyMinute_4 : decode cX6_readyMinute 4 = .ok (.aload_n 0, 1) := by decide +kernel
theorem dX6_readyMinute_5 : decode cX6_readyMinute 5 = .ok (.getfield 12, 3) := by decide +kernel
theorem dX6_readyMinute_8 : decode cX6_readyMinute 8 = .ok (.invokevirtual 127, 3) := by decide +kernel
theorem dX6_readyMinute_11 : decode cX6_readyMinute 11 = .ok (.aload_n 0, 1) := by decide +kernel
theorem dX6_readyMinute_12 : decode cX6_readyMinute 12 = .ok (.getfield 39, 3) := by decide +kernel
theorem dX6_readyMinute_15 : decode cX6_readyMinute 15 = .ok (.aload_n 0, 1) := by decide +kernel
theorem dX6_readyMinute_16 : decode cX6_readyMinute 16 = .ok (.getfield 12, 3) := by decide +kernel
theorem dX6_readyMinute_19 : decode cX6_readyMinute 19 = .ok (.iload_n 1, 1) := by decide +kernel
theorem dX6_readyMinute_20 : decode cX6_readyMinute 20 = .ok (.invokevirtual 251, 3) := by decide +kernel
theorem dX6_readyMinute_23 : decode cX6_readyMinute 23 = .ok (.ireturn, 1) := by decide +kernel
theorem dX6_areTwoJobs_0 : decode cX6_areTwoJobs 0 = .ok (.aload_n 0, 1) := by decide +kernel
theorem dX6_areTwoJobs_1 : decode cX6_areTwoJobs 1 = .ok (.getfield 12, 3) := by decide +kernel
theorem dX6_areTwoJobs_4 : decode cX6_areTwoJobs 4 = .ok (.iload_n 1, 1) := by decide +kernel
theorem dX6_areTwoJobs_5 : decode cX6_areTwoJobs 5 = .ok (.invokevirtual 79, 3) := by decide +kernel
theorem dX6_areTwoJobs_8 : decode cX6_areTwoJobs 8 = .ok (.ifCond .eq 23, 3) := by decide +kernel
theorem dX6_areTwoJobs_11 : decode cX6_areTwoJobs 11 = .ok (.aload_n 0, 1) := by decide +kernel
theorem dX6_areTwoJobs_12 : decode cX6_areTwoJobs 12 = .ok (.getfield 12, 3) := by decide +kernel
theorem dX6_areTwoJobs_15 : decode cX6_areTwoJobs 15 = .ok (.iload_n 2, 1) := by decide +kernel
theorem dX6_areTwoJobs_16 : decode cX6_areTwoJobs 16 = .ok (.invokevirtual 79, 3) := by decide +kernel
theorem dX6_areTwoJobs_19 : decode cX6_areTwoJobs 19 = .ok (.ifCond .eq 12, 3) := by decide +kernel
theorem dX6_areTwoJobs_22 : decode cX6_areTwoJobs 22 = .ok (.iload_n 1, 1) := by decide +kernel
theorem dX6_areTwoJobs_23 : decode cX6_areTwoJobs 23 = .ok (.iload_n 2, 1) := by decide +kernel
theorem dX6_areTwoJobs_24 : decode cX6_areTwoJobs 24 = .ok (.if_icmp .eq 7, 3) := by decide +kernel
theorem dX6_areTwoJobs_27 : decode cX6_areTwoJobs 27 = .ok (.iconst 1, 1) := by decide +kernel
theorem dX6_areTwoJobs_28 : decode cX6_areTwoJobs 28 = .ok (.goto 4, 3) := by decide +kernel
theorem dX6_areTwoJobs_31 : decode cX6_areTwoJobs 31 = .ok (.iconst 0, 1) := by decide +kernel
theorem dX6_areTwoJobs_32 : decode cX6_areTwoJobs 32 = .ok (.ireturn, 1) := by decide +kernel
theorem dX6_isOwner_0 : decode cX6_isOwner 0 = .ok (.iload_n 0, 1) := by decide +kernel
theorem dX6_isOwner_1 : decode cX6_isOwner 1 = .ok (.ifCond .lt 12, 3) := by decide +kernel
theorem dX6_isOwner_4 : decode cX6_isOwner 4 = .ok (.iload_n 0, 1) := by decide +kernel
theorem dX6_isOwner_5 : decode cX6_isOwner 5 = .ok (.iconst 4, 1) := by decide +kernel
theorem dX6_isOwner_6 : decode cX6_isOwner 6 = .ok (.if_icmp .ge 7, 3) := by decide +kernel
theorem dX6_isOwner_9 : decode cX6_isOwner 9 = .ok (.iconst 1, 1) := by decide +kernel
theorem dX6_isOwner_10 : decode cX6_isOwner 10 = .ok (.goto 4, 3) := by decide +kernel
theorem dX6_isOwner_13 : decode cX6_isOwner 13 = .ok (.iconst 0, 1) := by decide +kernel
theorem dX6_isOwner_14 : decode cX6_isOwner 14 = .ok (.ireturn, 1) := by decide +kernel
theorem dX6_isZeroOrOne_0 : decode cX6_isZeroOrOne 0 = .ok (.iload_n 0, 1) := by decide +kernel
theorem dX6_isZeroOrOne_1 : decode cX6_isZeroOrOne 1 = .ok (.ifCond .eq 8, 3) := by decide +kernel
theorem dX6_isZeroOrOne_4 : decode cX6_isZeroOrOne 4 = .ok (.iload_n 0, 1) := by decide +kernel
theorem dX6_isZeroOrOne_5 : decode cX6_isZeroOrOne 5 = .ok (.iconst 1, 1) := by decide +kernel
theorem dX6_isZeroOrOne_6 : decode cX6_isZeroOrOne 6 = .ok (.if_icmp .ne 7, 3) := by decide +kernel
theorem dX6_isZeroOrOne_9 : decode cX6_isZeroOrOne 9 = .ok (.iconst 1, 1) := by decide +kernel
theorem dX6_isZeroOrOne_10 : decode cX6_isZeroOrOne 10 = .ok (.goto 4, 3) := by decide +kernel
theorem dX6_isZeroOrOne_13 : decode cX6_isZeroOrOne 13 = .ok (.iconst 0, 1) := by decide +kernel
theorem dX6_isZeroOrOne_14 : decode cX6_isZeroOrOne 14 = .ok (.ireturn, 1) := by decide +kernel
theorem dX6_hasBit_0 : decode cX6_hasBit 0 = .ok (.iload_n 0, 1) := by decide +kernel
theorem dX6_hasBit_1 : decode cX6_hasBit 1 = .ok (.iload_n 1, 1) := by decide +kernel
theorem dX6_hasBit_2 : decode cX6_hasBit 2 = .ok (.ishr, 1) := by decide +kernel
theorem dX6_hasBit_3 : decode cX6_hasBit 3 = .ok (.iconst 1, 1) := by decide +kernel
theorem dX6_hasBit_4 : decode cX6_hasBit 4 = .ok (.iand, 1) := by decide +kernel
theorem dX6_hasBit_5 : decode cX6_hasBit 5 = .ok (.iconst 1, 1) := by decide +kernel
theorem dX6_hasBit_6 : decode cX6_hasBit 6 = .ok (.if_icmp .ne 7, 3) := by decide +kernel
theorem dX6_hasBit_9 : decode cX6_hasBit 9 = .ok (.iconst 1, 1) := by decide +kernel
theorem dX6_hasBit_10 : decode cX6_hasBit 10 = .ok (.goto 4, 3) := by decide +kernel
theorem dX6_hasBit_13 : decode cX6_hasBit 13 = .ok (.iconst 0, 1) := by decide +kernel
theorem dX6_hasBit_14 : decode cX6_hasBit 14 = .ok (.ireturn, 1) := by decide +kernel
theorem dX6_bitsUpTo_0 : decode cX6_bitsUpTo 0 = .ok (.iconst 1, 1) := by decide +kernel
theorem dX6_bitsUpTo_1 : decode cX6_bitsUpTo 1 = .ok (.iload_n 0, 1) := by decide +kernel
theorem dX6_bitsUpTo_2 : decode cX6_bitsUpTo 2 = .ok (.iconst 1, 1) := by decide +kernel
theorem dX6_bitsUpTo_3 : decode cX6_bitsUpTo 3 = .ok (.iadd, 1) := by decide +kernel
theorem dX6_bitsUpTo_4 : decode cX6_bitsUpTo 4 = .ok (.ishl, 1) := by decide +kernel
theorem dX6_bitsUpTo_5 : decode cX6_bitsUpTo 5 = .ok (.iconst 2, 1) := by decide +kernel
theorem dX6_bitsUpTo_6 : decode cX6_bitsUpTo 6 = .ok (.isub, 1) := by decide +kernel
theorem dX6_bitsUpTo_7 : decode cX6_bitsUpTo 7 = .ok (.ireturn, 1) := by decide +kernel
end
section
theorem dX7_no_0 : decode cX7_no 0 = .ok (.aload_n 0, 1) := by decide +kernel
theorem dX7_no_1 : decode cX7_no 1 = .ok (.getfield 1, 3) := by decide +kernel
theorem dX7_no_4 : decode cX7_no 4 = .ok (.iload_n 1, 1) := by decide +kernel
theorem dX7_no_5 : decode cX7_no 5 = .ok (.ineg, 1) := by decide +kernel
theorem dX7_no_6 : decode cX7_no 6 = .ok (.dup2, 1) := by decide +kernel
theorem dX7_no_7 : decode cX7_no 7 = .ok (.iaload, 1) := by decide +kernel
theorem dX7_no_8 : decode cX7_no 8 = .ok (.iconst 1, 1) := by decide +kernel
theorem dX7_no_9 : decode cX7_no 9 = .ok (.iadd, 1) := by decide +kernel
theorem dX7_no_10 : decode cX7_no 10 = .ok (.iastore, 1) := by decide +kernel
theorem dX7_no_11 : decode cX7_no 11 = .ok (.iload_n 1, 1) := by decide +kernel
theorem dX7_no_12 : decode cX7_no 12 = .ok (.ireturn, 1) := by decide +kernel
theorem dX7_init_0 : decode cX7_init 0 = .ok (.aload_n 0, 1) := by decide +kernel
theorem dX7_init_1 : decode cX7_init 1 = .ok (.invokespecial 7, 3) := by decide +kernel
theorem dX7_init_4 : decode cX7_init 4 = .ok (.aload_n 0, 1) := by decide +kernel
theorem dX7_init_5 : decode cX7_init 5 = .ok (.bipush 7, 2) := by decide +kernel
theorem dX7_init_7 : decode cX7_init 7 = .ok (.newarray .int, 2) := by decide +kernel
theorem dX7_init_9 : decode cX7_init 9 = .ok (.putfield 1, 3) := by decide +kernel
theorem dX7_init_12 : decode cX7_init 12 = .ok (.aload_n 0, 1) := by decide +kernel
theorem dX7_init_13 : decode cX7_init 13 = .ok (.bipush 80, 2) := by decide +kernel
theorem dX7_init_15 : decode cX7_init 15 = .ok (.newarray .int, 2) := by decide +kernel
theorem dX7_init_17 : decode cX7_init 17 = .ok (.putfield 13, 3) := by decide +kernel
theorem dX7_init_20 : decode cX7_init 20 = .ok (.aload_n 0, 1) := by decide +kernel
theorem dX7_init_21 : decode cX7_init 21 = .ok (.bipush 80, 2) := by decide +kernel
theorem dX7_init_23 : decode cX7_init 23 = .ok (.newarray .int, 2) := by decide +kernel
theorem dX7_init_25 : decode cX7_init 25 = .ok (.putfield 16, 3) := by decide +kernel
theorem dX7_init_28 : decode cX7_init 28 = .ok (.aload_n 0, 1) := by decide +kernel
theorem dX7_init_29 : decode cX7_init 29 = .ok (.bipush 80, 2) := by decide +kernel
theorem dX7_init_31 : decode cX7_init 31 = .ok (.newarray .int, 2) := by decide +kernel
theorem dX7_init_33 : decode cX7_init 33 = .ok (.putfield 19, 3) := by decide +kernel
theorem dX7_init_36 : decode cX7_init 36 = .ok (.aload_n 0, 1) := by decide +kernel
theorem dX7_init_37 : decode cX7_init 37 = .ok (.iconst 3, 1) := by decide +kernel
theorem dX7_init_38 : decode cX7_init 38 = .ok (.newarray .char, 2) := by decide +kernel
theorem dX7_init_40 : decode cX7_init 40 = .ok (.dup, 1) := by decide +kernel
theorem dX7_init_41 : decode cX7_init 41 = .ok (.iconst 0, 1) := by decide +kernel
theorem dX7_init_42 : decode cX7_init 42 = .ok (.bipush 106, 2) := by decide +kernel
theorem dX7_init_44 : decode cX7_init 44 = .ok (.castore, 1) := by decide +kernel
theorem dX7_init_45 : decode cX7_init 45 = .ok (.dup, 1) := by decide +kernel
theorem dX7_init_46 : decode cX7_init 46 = .ok (.iconst 1, 1) := by decide +kernel
theorem dX7_init_47 : decode cX7_init 47 = .ok (.bipush 109, 2) := by decide +kernel
theorem dX7_init_49 : decode cX7_init 49 = .ok (.castore, 1) := by decide +kernel
theorem dX7_init_50 : decode cX7_init 50 = .ok (.dup, 1) := by decide +kernel
theorem dX7_init_51 : decode cX7_init 51 = .ok (.iconst 2, 1) := by decide +kernel
theorem dX7_init_52 : decode cX7_init 52 = .ok (.bipush 116, 2) := by decide +kernel
theorem dX7_init_54 : decode cX7_init 54 = .ok (.castore, 1) := by decide +kernel
theorem dX7_init_55 : decode cX7_init 55 = .ok (.putfield 22, 3) := by decide +kernel
theorem dX7_init_58 : decode cX7_init 58 = .ok (.aload_n 0, 1) := by decide +kernel
theorem dX7_init_59 : decode cX7_init 59 = .ok (.bipush 6, 2) := by decide +kernel
theorem dX7_init_61 : decode cX7_init 61 = .ok (.newarray .char, 2) := by decide +kernel
theorem dX7_init_63 : decode cX7_init 63 = .ok (.dup, 1) := by decide +kernel
theorem dX7_init_64 : decode cX7_init 64 = .ok (.iconst 0, 1) := by decide +kernel
theorem dX7_init_65 : decode cX7_init 65 = .ok (.bipush 102, 2) := by decide +kernel
theorem dX7_init_67 : decode cX7_init 67 = .ok (.castore, 1) := by decide +kernel
theorem dX7_init_68 : decode cX7_init 68 = .ok (.dup, 1) := by decide +kernel
theorem dX7_init_69 : decode cX7_init 69 = .ok (.iconst 1, 1) := by decide +kernel
theorem dX7_init_70 : decode cX7_init 70 = .ok (.bipush 115, 2) := by decide +kernel
theorem dX7_init_72 : decode cX7_init 72 = .ok (.castore, 1) := by decide +kernel
theorem dX7_init_73 : decode cX7_init 73 = .ok (.dup, 1) := by decide +kernel
theorem dX7_init_74 : decode cX7_init 74 = .ok (.iconst 2, 1) := by decide +kernel
theorem dX7_init_75 : decode cX7_init 75 = .ok (.bipush 116, 2) := by decide +kernel
theorem dX7_init_77 : decode cX7_init 77 = .ok (.castore, 1) := by decide +kernel
theorem dX7_init_78 : decode cX7_init 78 = .ok (.dup, 1) := by decide +kernel
theorem dX7_init_79 : decode cX7_init 79 = .ok (.iconst 3, 1) := by decide +kernel
theorem dX7_init_80 : decode cX7_init 80 = .ok (.bipush 111, 2) := by decide +kernel
theorem dX7_init_82 : decode cX7_init 82 = .ok (.castore, 1) := by decide +kernel
theorem dX7_init_83 : decode cX7_init 83 = .ok (.dup, 1) := by decide +kernel
theorem dX7_init_84 : decode cX7_init 84 = .ok (.iconst 4, 1) := by decide +kernel
theorem dX7_init_85 : decode cX7_init 85 = .ok (.bipush 97, 2) := by decide +kernel
theorem dX7_init_87 : decode cX7_init 87 = .ok (.castore, 1) := by decide +kernel
theorem dX7_init_88 : decode cX7_init 88 = .ok (.dup, 1) := by decide +kernel
theorem dX7_init_89 : decode cX7_init 89 = .ok (.iconst 5, 1) := by decide +kernel
theorem dX7_init_90 : decode cX7_init 90 = .ok (.bipush 98, 2) := by decide +kernel
theorem dX7_init_92 : decode cX7_init 92 = .ok (.castore, 1) := by decide +kernel
theorem dX7_init_93 : decode cX7_init 93 = .ok (.putfield 26, 3) := by decide +kernel
theorem dX7_init_96 : decode cX7_init 96 = .ok (.aload_n 0, 1) := by decide +kernel
theorem dX7_init_97 : decode cX7_init 97 = .ok (.bipush 6, 2) := by decide +kernel
theorem dX7_init_99 : decode cX7_init 99 = .ok (.newarray .char, 2) := by decide +kernel
theorem dX7_init_101 : decode cX7_init 101 = .ok (.dup, 1) := by decide +kernel
theorem dX7_init_102 : decode cX7_init 102 = .ok (.iconst 0, 1) := by decide +kernel
theorem dX7_init_103 : decode cX7_init 103 = .ok (.bipush 97, 2) := by decide +kernel
theorem dX7_init_105 : decode cX7_init 105 = .ok (.castore, 1) := by decide +kernel
theorem dX7_init_106 : decode cX7_init 106 = .ok (.dup, 1) := by decide +kernel
theorem dX7_init_107 : decode cX7_init 107 = .ok (.iconst 1, 1) := by decide +kernel
theorem dX7_init_108 : decode cX7_init 108 = .ok (.bipush 111, 2) := by decide +kernel
theorem dX7_init_110 : decode cX7_init 110 = .ok (.castore, 1) := by decide +kernel
theorem dX7_init_111 : decode cX7_init 111 = .ok (.dup, 1) := by decide +kernel
theorem dX7_init_112 : decode cX7_init 112 = .ok (.iconst 2, 1) := by decide +kernel
theorem dX7_init_113 : decode cX7_init 113 = .ok (.bipush 104, 2) := by decide +kernel
theorem dX7_init_115 : decode cX7_init 115 = .ok (.castore, 1) := by decide +kernel
theorem dX7_init_116 : decode cX7_init 116 = .ok (.dup, 1) := by decide +kernel
theorem dX7_init_117 : decode cX7_init 117 = .ok (.iconst 3, 1) := by decide +kernel
theorem dX7_init_118 : decode cX7_init 118 = .ok (.bipush 110, 2) := by decide +kernel
theorem dX7_init_120 : decode cX7_init 120 = .ok (.castore, 1) := by decide +kernel
theorem dX7_init_121 : decode cX7_init 121 = .ok (.dup, 1) := by decide +kernel
theorem dX7_init_122 : decode cX7_init 122 = .ok (.iconst 4, 1) := by decide +kernel
theorem dX7_init_123 : decode cX7_init 123 = .ok (.bipush 100, 2) := by decide +kernel
theorem dX7_init_125 : decode cX7_init 125 = .ok (.castore, 1) := by decide +kernel
theorem dX7_init_126 : decode cX7_init 126 = .ok (.dup, 1) := by decide +kernel
theorem dX7_init_127 : decode cX7_init 127 = .ok (.iconst 5, 1) := by decide +kernel
theorem dX7_init_128 : decode cX7_init 128 = .ok (.bipush 99, 2) := by decide +kernel
theorem dX7_init_130 : decode cX7_init 130 = .ok (.castore, 1) := by decide +kernel
theorem dX7_init_131 : decode cX7_init 131 = .ok (.putfield 29, 3) := by decide +kernel
theorem dX7_init_134 : decode cX7_init 134 = .ok (.aload_n 0, 1) := by decide +kernel
theorem dX7_init_135 : decode cX7_init 135 = .ok (.iconst 4, 1) := by decide +kernel
theorem dX7_init_136 : decode cX7_init 136 = .ok (.newarray .int, 2) := by decide +kernel
theorem dX7_init_138 : decode cX7_init 138 = .ok (.putfield 32, 3) := by decide +kernel
theorem dX7_init_141 : decode cX7_init 141 = .ok (.aload_n 0, 1) := by decide +kernel
theorem dX7_init_142 : decode cX7_init 142 = .ok (.bipush 6, 2) := by decide +kernel
theorem dX7_init_144 : decode cX7_init 144 = .ok (.newarray .int, 2) := by decide +kernel
theorem dX7_init_146 : decode cX7_init 146 = .ok (.putfield 35, 3) := by decide +kernel
theorem dX7_init_149 : decode cX7_init 149 = .ok (.aload_n 0, 1) := by decide +kernel
theorem dX7_init_150 : decode cX7_init 150 = .ok (.bipush 100, 2) := by decide +kernel
theorem dX7_init_152 : decode cX7_init 152 = .ok (.newarray .int, 2) := by decide +kernel
theorem dX7_init_154 : decode cX7_init 154 = .ok (.putfield 38, 3) := by decide +kernel
theorem dX7_init_157 : decode cX7_init 157 = .ok (.aload_n 0, 1) := by decide +kernel
theorem dX7_init_158 : decode cX7_init 158 = .ok (.bipush 100, 2) := by decide +kernel
theorem dX7_init_160 : decode cX7_init 160 = .ok (.newarray .int, 2) := by decide +kernel
theorem dX7_init_162 : decode cX7_init 162 = .ok (.putfield 41, 3) := by decide +kernel
theorem dX7_init_165 : decode cX7_init 165 = .ok (.aload_n 0, 1) := by decide +kernel
theorem dX7_init_166 : decode cX7_init 166 = .ok (.bipush 100, 2) := by decide +kernel
theorem dX7_init_168 : decode cX7_init 168 = .ok (.newarray .int, 2) := by decide +kernel
theorem dX7_init_170 : decode cX7_init 170 = .ok (.putfield 44, 3) := by decide +kernel
theorem dX7_init_173 : decode cX7_init 173 = .ok (.aload_n 0, 1) := by decide +kernel
theorem dX7_init_174 : decode cX7_init 174 = .ok (.bipush 60, 2) := by decide +kernel
theorem dX7_init_176 : decode cX7_init 176 = .ok (.newarray .int, 2) := by decide +kernel
theorem dX7_init_178 : decode cX7_init 178 = .ok (.putfield 47, 3) := by decide +kernel
theorem dX7_init_181 : decode cX7_init 181 = .ok (.aload_n 0, 1) := by decide +kernel
theorem dX7_init_182 : decode cX7_init 182 = .ok (.bipush 6, 2) := by decide +kernel
theorem dX7_init_184 : decode cX7_init 184 = .ok (.newarray .boolean, 2) := by decide +kernel
theorem dX7_init_186 : decode cX7_init 186 = .ok (.putfield 50, 3) := by decide +kernel
theorem dX7_init_189 : decode cX7_init 189 = .ok (.aload_n 0, 1) := by decide +kernel
theorem dX7_init_190 : decode cX7_init 190 = .ok (.bipush 20, 2) := by decide +kernel
theorem dX7_init_192 : decode cX7_init 192 = .ok (.newarray .int, 2) := by decide +kernel
theorem dX7_init_194 : decode cX7_init 194 = .ok (.putfield 54, 3) := by decide +kernel
theorem dX7_init_197 : decode cX7_init 197 = .ok (.aload_n 0, 1) := by decide +kernel
theorem dX7_init_198 : decode cX7_init 198 = .ok (.sipush 1000, 3) := by decide +kernel
theorem dX7_init_201 : decode cX7_init 201 = .ok (.newarray .int, 2) := by decide +kernel
theorem dX7_init_203 : decode cX7_init 203 = .ok (.putfield 57, 3) := by decide +kernel
theorem dX7_init_206 : decode cX7_init 206 = .ok (.return_, 1) := by decide +kernel
theorem dX7_image_0 : decode cX7_image 0 = .ok (.aload_n 0, 1) := by decide +kernel
theorem dX7_image_1 : decode cX7_image 1 = .ok (.iconst 1, 1) := by decide +kernel
theorem dX7_image_2 : decode cX7_image 2 = .ok (.putfield 60, 3) := by decide +kernel
theorem dX7_image_5 : decode cX7_image 5 = .ok (.iconst 0, 1) := by decide +kernel
theorem dX7_image_6 : decode cX7_image 6 = .ok (.istore_n 1, 1) := by decide +kernel
theorem dX7_image_7 : decode cX7_image 7 = .ok (.iload_n 1, 1) := by decide +kernel
theorem dX7_image_8 : decode cX7_image 8 = .ok (.bipush 80, 2) := by decide +kernel
theorem dX7_image_10 : decode cX7_image 10 = .ok (.if_icmp .ge 21, 3) := by decide +kernel
theorem dX7_image_13 : decode cX7_image 13 = .ok (.aload_n 0, 1) := by decide +kernel
theorem dX7_image_14 : decode cX7_image 14 = .ok (.getfield 16, 3) := by decide +kernel
theorem dX7_image_17 : decode cX7_image 17 = .ok (.iload_n 1, 1) := by decide +kernel
theorem dX7_image_18 : decode cX7_image 18 = .ok (.aload_n 0, 1) := by decide +kernel
theorem dX7_image_19 : decode cX7_image 19 = .ok (.getfield 13, 3) := by decide +kernel
theorem dX7_image_22 : decode cX7_image 22 = .ok (.iload_n 1, 1) := by decide +kernel
theorem dX7_image_23 : decode cX7_image 23 = .ok (.iaload, 1) := by decide +kernel
theorem dX7_image_24 : decode cX7_image 24 = .ok (.iastore, 1) := by decide +kernel
theorem dX7_image_25 : decode cX7_image 25 = .ok (.iinc 1 1, 3) := by decide +kernel
theorem dX7_image_28 : decode cX7_image 28 = .ok (.goto (-21), 3) := by decide +kernel
theorem dX7_image_31 : decode cX7_image 31 = .ok (.aload_n 0, 1) := by decide +kernel
theorem dX7_image_32 : decode cX7_image 32 = .ok (.getfield 13, 3) := by decide +kernel
theorem dX7_image_35 : decode cX7_image 35 = .ok (.iconst 0, 1) := by decide +kernel
theorem dX7_image_36 : decode cX7_image 36 = .ok (.iaload, 1) := by decide +kernel
theorem dX7_image_37 : decode cX7_image 37 = .ok (.ireturn, 1) := by decide +kernel
theorem dX7_on_0 : decode cX7_on 0 = .ok (.aload_n 0, 1) := by decide +kernel
theorem dX7_on_1 : decode cX7_on 1 = .ok (.getfield 60, 3) := by decide +kernel
theorem dX7_on_4 : decode cX7_on 4 = .ok (.ifCond .ne 10, 3) := by decide +kernel
theorem dX7_on_7 : decode cX7_on 7 = .ok (.aload_n 0, 1) := by decide +kernel
theorem dX7_on_8 : decode cX7_on 8 = .ok (.bipush (-3), 2) := by decide +kernel
theorem dX7_on_10 : decode cX7_on 10 = .ok (.invokevirtual 64, 3) := by decide +kernel
theorem dX7_on_13 : decode cX7_on 13 = .ok (.ireturn, 1) := by decide +kernel
theorem dX7_on_14 : decode cX7_on 14 = .ok (.iconst 0, 1) := by decide +kernel
theorem dX7_on_15 : decode cX7_on 15 = .ok (.istore_n 1, 1) := by decide +kernel
theorem dX7_on_16 : decode cX7_on 16 = .ok (.iload_n 1, 1) := by decide +kernel
theorem dX7_on_17 : decode cX7_on 17 = .ok (.bipush 80, 2) := by decide +kernel
theorem dX7_on_19 : decode cX7_on 19 = .ok (.if_icmp .ge 21, 3) := by decide +kernel
theorem dX7_on_22 : decode cX7_on 22 = .ok (.aload_n 0, 1) := by decide +kernel
theorem dX7_on_23 : decode cX7_on 23 = .ok (.getfield 13, 3) := by decide +kernel
theorem dX7_on_26 : decode cX7_on 26 = .ok (.iload_n 1, 1) := by decide +kernel
theorem dX7_on_27 : decode cX7_on 27 = .ok (.aload_n 0, 1) := by decide +kernel
theorem dX7_on_28 : decode cX7_on 28 = .ok (.getfield 16, 3) := by decide +kernel
theorem dX7_on_31 : decode cX7_on 31 = .ok (.iload_n 1, 1) := by decide +kernel
theorem dX7_on_32 : decode cX7_on 32 = .ok (.iaload, 1) := by decide +kernel
theorem dX7_on_33 : decode cX7_on 33 = .ok (.iastore, 1) := by decide +kernel
theorem dX7_on_34 : decode cX7_on 34 = .ok (.iinc 1 1, 3) := by decide +kernel
theorem dX7_on_37 : decode cX7_on 37 = .ok (.goto (-21), 3) := by decide +kernel
theorem dX7_on_40 : decode cX7_on 40 = .ok (.aload_n 0, 1) := by decide +kernel
theorem dX7_on_41 : decode cX7_on 41 = .ok (.getfield 13, 3) := by decide +kernel
theorem dX7_on_44 : decode cX7_on 44 = .ok (.iconst 0, 1) := by decide +kernel
theorem dX7_on_45 : decode cX7_on 45 = .ok (.iaload, 1) := by decide +kernel
theorem dX7_on_46 : decode cX7_on 46 = .ok (.ireturn, 1) := by decide +kernel
theorem dX7_letter_0 : decode cX7_letter 0 = .ok (.iload_n 1, 1) := by decide +kernel
theorem dX7_letter_1 : decode cX7_letter 1 = .ok (.ifCond .ge 10, 3) := by decide +kernel
theorem dX7_letter_4 : decode cX7_letter 4 = .ok (.aload_n 0, 1) := by decide +kernel
theorem dX7_letter_5 : decode cX7_letter 5 = .ok (.bipush (-4), 2) := by decide +kernel
theorem dX7_letter_7 : decode cX7_letter 7 = .ok (.invokevirtual 64, 3) := by decide +kernel
theorem dX7_letter_10 : decode cX7_letter 10 = .ok (.ireturn, 1) := by decide +kernel
theorem dX7_letter_11 : decode cX7_letter 11 = .ok (.iload_n 1, 1) := by decide +kernel
theorem dX7_letter_12 : decode cX7_letter 12 = .ok (.sipush 255, 3) := by decide +kernel
theorem dX7_letter_15 : decode cX7_letter 15 = .ok (.if_icmp .gt 12, 3) := by decide +kernel
theorem dX7_letter_18 : decode cX7_letter 18 = .ok (.aload_n 0, 1) := by decide +kernel
theorem dX7_letter_19 : decode cX7_letter 19 = .ok (.getfield 68, 3) := by decide +kernel
theorem dX7_letter_22 : decode cX7_letter 22 = .ok (.bipush 80, 2) := by decide +kernel
theorem dX7_letter_24 : decode cX7_letter 24 = .ok (.if_icmp .ne 10, 3) := by decide +kernel
theorem dX7_letter_27 : decode cX7_letter 27 = .ok (.aload_n 0, 1) := by decide +kernel
theorem dX7_letter_28 : decode cX7_letter 28 = .ok (.bipush (-6), 2) := by decide +kernel
theorem dX7_letter_30 : decode cX7_letter 30 = .ok (.invokevirtual 64, 3) := by decide +kernel
theorem dX7_letter_33 : decode cX7_letter 33 = .ok (.ireturn, 1) := by decide +kernel
theorem dX7_letter_34 : decode cX7_letter 34 = .ok (.aload_n 0, 1) := by decide +kernel
theorem dX7_letter_35 : decode cX7_letter 35 = .ok (.getfield 19, 3) := by decide +kernel
theorem dX7_letter_38 : decode cX7_letter 38 = .ok (.aload_n 0, 1) := by decide +kernel
theorem dX7_letter_39 : decode cX7_letter 39 = .ok (.getfield 68, 3) := by decide +kernel
theorem dX7_letter_42 : decode cX7_letter 42 = .ok (.iload_n 1, 1) := by decide +kernel
theorem dX7_letter_43 : decode cX7_letter 43 = .ok (.iastore, 1) := by decide +kernel
theorem dX7_letter_44 : decode cX7_letter 44 = .ok (.aload_n 0, 1) := by decide +kernel
theorem dX7_letter_45 : decode cX7_letter 45 = .ok (.dup, 1) := by decide +kernel
theorem dX7_letter_46 : decode cX7_letter 46 = .ok (.getfield 68, 3) := by decide +kernel
theorem dX7_letter_49 : decode cX7_letter 49 = .ok (.iconst 1, 1) := by decide +kernel
theorem dX7_letter_50 : decode cX7_letter 50 = .ok (.iadd, 1) := by decide +kernel
theorem dX7_letter_51 : decode cX7_letter 51 = .ok (.putfield 68, 3) := by decide +kernel
theorem dX7_letter_54 : decode cX7_letter 54 = .ok (.aload_n 0, 1) := by decide +kernel
theorem dX7_letter_55 : decode cX7_letter 55 = .ok (.getfield 68, 3) := by decide +kernel
theorem dX7_letter_58 : decode cX7_letter 58 = .ok (.ireturn, 1) := by decide +kernel
theorem dX7_expect_0 : decode cX7_expect 0 = .ok (.aload_n 0, 1) := by decide +kernel
theorem dX7_expect_1 : decode cX7_expect 1 = .ok (.getfield 72, 3) := by decide +kernel
theorem dX7_expect_4 : decode cX7_expect 4 = .ok (.ifCond .eq 40, 3) := by decide +kernel
theorem dX7_expect_7 : decode cX7_expect 7 = .ok (.aload_n 0, 1) := by decide +kernel
theorem dX7_expect_8 : decode cX7_expect 8 = .ok (.getfield 75, 3) := by decide +kernel
theorem dX7_expect_11 : decode cX7_expect 11 = .ok (.aload_n 0, 1) := by decide +kernel
theorem dX7_expect_12 : decode cX7_expect 12 = .ok (.getfield 68, 3) := by decide +kernel
theorem dX7_expect_15 : decode cX7_expect 15 = .ok (.if_icmp .ge 29, 3) := by decide +kernel
theorem dX7_expect_18 : decode cX7_expect 18 = .ok (.aload_n 0, 1) := by decide +kernel
theorem dX7_expect_19 : decode cX7_expect 19 = .ok (.getfield 19, 3) := by decide +kernel
theorem dX7_expect_22 : decode cX7_expect 22 = .ok (.aload_n 0, 1) := by decide +kernel
theorem dX7_expect_23 : decode cX7_expect 23 = .ok (.getfield 75, 3) := by decide +kernel
theorem dX7_expect_26 : decode cX7_expect 26 = .ok (.iaload, 1) := by decide +kernel
theorem dX7_expect_27 : decode cX7_expect 27 = .ok (.iload_n 1, 1) := by decide +kernel
theorem dX7_expect_28 : decode cX7_expect 28 = .ok (.if_icmp .ne 16, 3) := by decide +kernel
theorem dX7_expect_31 : decode cX7_expect 31 = .ok (.aload_n 0, 1) := by decide +kernel
theorem dX7_expect_32 : decode cX7_expect 32 = .ok (.dup, 1) := by decide +kernel
theorem dX7_expect_33 : decode cX7_expect 33 = .ok (.getfield 75, 3) := by decide +kernel
theorem dX7_expect_36 : decode cX7_expect 36 = .ok (.iconst 1, 1) := by decide +kernel
theorem dX7_expect_37 : decode cX7_expect 37 = .ok (.iadd, 1) := by decide +kernel
theorem dX7_expect_38 : decode cX7_expect 38 = .ok (.putfield 75, 3) := by decide +kernel
theorem dX7_expect_41 : decode cX7_expect 41 = .ok (.goto 8, 3) := by decide +kernel
theorem dX7_expect_44 : decode cX7_expect 44 = .ok (.aload_n 0, 1) := by decide +kernel
theorem dX7_expect_45 : decode cX7_expect 45 = .ok (.iconst 0, 1) := by decide +kernel
theorem dX7_expect_46 : decode cX7_expect 46 = .ok (.putfield 72, 3) := by decide +kernel
theorem dX7_expect_49 : decode cX7_expect 49 = .ok (.return_, 1) := by decide +kernel
theorem dX7_oneOf_0 : decode cX7_oneOf 0 = .ok (.iconst 0, 1) := by decide +kernel
theorem dX7_oneOf_1 : decode cX7_oneOf 1 = .ok (.istore_n 2, 1) := by decide +kernel
theorem dX7_oneOf_2 : decode cX7_oneOf 2 = .ok (.iload_n 2, 1) := by decide +kernel
theorem dX7_oneOf_3 : decode cX7_oneOf 3 = .ok (.aload_n 1, 1) := by decide +kernel
theorem dX7_oneOf_4 : decode cX7_oneOf 4 = .ok (.arraylength, 1) := by decide +kernel
theorem dX7_oneOf_5 : decode cX7_oneOf 5 = .ok (.if_icmp .ge 54, 3) := by decide +kernel
theorem dX7_oneOf_8 : decode cX7_oneOf 8 = .ok (.aload_n 0, 1) := by decide +kernel
theorem dX7_oneOf_9 : decode cX7_oneOf 9 = .ok (.getfield 72, 3) := by decide +kernel
theorem dX7_oneOf_12 : decode cX7_oneOf 12 = .ok (.ifCond .eq 41, 3) := by decide +kernel
theorem dX7_oneOf_15 : decode cX7_oneOf 15 = .ok (.aload_n 0, 1) := by decide +kernel
theorem dX7_oneOf_16 : decode cX7_oneOf 16 = .ok (.getfield 75, 3) := by decide +kernel
theorem dX7_oneOf_19 : decode cX7_oneOf 19 = .ok (.aload_n 0, 1) := by decide +kernel
theorem dX7_oneOf_20 : decode cX7_oneOf 20 = .ok (.getfield 68, 3) := by decide +kernel
theorem dX7_oneOf_23 : decode cX7_oneOf 23 = .ok (.if_icmp .ge 30, 3) := by decide +kernel
theorem dX7_oneOf_26 : decode cX7_oneOf 26 = .ok (.aload_n 0, 1) := by decide +kernel
theorem dX7_oneOf_27 : decode cX7_oneOf 27 = .ok (.getfield 19, 3) := by decide +kernel
theorem dX7_oneOf_30 : decode cX7_oneOf 30 = .ok (.aload_n 0, 1) := by decide +kernel
theorem dX7_oneOf_31 : decode cX7_oneOf 31 = .ok (.getfield 75, 3) := by decide +kernel
theorem dX7_oneOf_34 : decode cX7_oneOf 34 = .ok (.iaload, 1) := by decide +kernel
theorem dX7_oneOf_35 : decode cX7_oneOf 35 = .ok (.aload_n 1, 1) := by decide +kernel
theorem dX7_oneOf_36 : decode cX7_oneOf 36 = .ok (.iload_n 2, 1) := by decide +kernel
theorem dX7_oneOf_37 : decode cX7_oneOf 37 = .ok (.caload, 1) := by decide +kernel
theorem dX7_oneOf_38 : decode cX7_oneOf 38 = .ok (.if_icmp .ne 15, 3) := by decide +kernel
theorem dX7_oneOf_41 : decode cX7_oneOf 41 = .ok (.aload_n 0, 1) := by decide +kernel
theorem dX7_oneOf_42 : decode cX7_oneOf 42 = .ok (.dup, 1) := by decide +kernel
theorem dX7_oneOf_43 : decode cX7_oneOf 43 = .ok (.getfield 75, 3) := by decide +kernel
theorem dX7_oneOf_46 : decode cX7_oneOf 46 = .ok (.iconst 1, 1) := by decide +kernel
theorem dX7_oneOf_47 : decode cX7_oneOf 47 = .ok (.iadd, 1) := by decide +kernel
theorem dX7_oneOf_48 : decode cX7_oneOf 48 = .ok (.putfield 75, 3) := by decide +kernel
theorem dX7_oneOf_51 : decode cX7_oneOf 51 = .ok (.iload_n 2, 1) := by decide +kernel
theorem dX7_oneOf_52 : decode cX7_oneOf 52 = .ok (.ireturn, 1) := by decide +kernel
theorem dX7_oneOf_53 : decode cX7_oneOf 53 = .ok (.iinc 2 1, 3) := by decide +kernel
theorem dX7_oneOf_56 : decode cX7_oneOf 56 = .ok (.goto (-54), 3) := by decide +kernel
theorem dX7_oneOf_59 : decode cX7_oneOf 59 = .ok (.aload_n 0, 1) := by decide +kernel
theorem dX7_oneOf_60 : decode cX7_oneOf 60 = .ok (.iconst 0, 1) := by decide +kernel
theorem dX7_oneOf_61 : decode cX7_oneOf 61 = .ok (.putfield 72, 3) := by decide +kernel
theorem dX7_oneOf_64 : decode cX7_oneOf 64 = .ok (.iconst 0, 1) := by decide +kernel
theorem dX7_oneOf_65 : decode cX7_oneOf 65 = .ok (.ireturn, 1) := by decide +kernel
theorem dX7_figures_0 : decode cX7_figures 0 = .ok (.iconst 0, 1) := by decide +kernel
theorem dX7_figures_1 : decode cX7_figures 1 = .ok (.istore_n 2, 1) := by decide +kernel
theorem dX7_figures_2 : decode cX7_figures 2 = .ok (.iconst 0, 1) := by decide +kernel
theorem dX7_figures_3 : decode cX7_figures 3 = .ok (.istore_n 3, 1) := by decide +kernel
theorem dX7_figures_4 : decode cX7_figures 4 = .ok (.aload_n 0, 1) := by decide +kernel
theorem dX7_figures_5 : decode cX7_figures 5 = .ok (.getfield 72, 3) := by decide +kernel
theorem dX7_figures_8 : decode cX7_figures 8 = .ok (.ifCond .eq 81, 3) := by decide +kernel
theorem dX7_figures_11 : decode cX7_figures 11 = .ok (.iload_n 3, 1) := by decide +kernel
theorem dX7_figures_12 : decode cX7_figures 12 = .ok (.iload_n 1, 1) := by decide +kernel
theorem dX7_figures_13 : decode cX7_figures 13 = .ok (.if_icmp .ge 76, 3) := by decide +kernel
theorem dX7_figures_16 : decode cX7_figures 16 = .ok (.aload_n 0, 1) := by decide +kernel
theorem dX7_figures_17 : decode cX7_figures 17 = .ok (.getfield 75, 3) := by decide +kernel
theorem dX7_figures_20 : decode cX7_figures 20 = .ok (.aload_n 0, 1) := by decide +kernel
theorem dX7_figures_21 : decode cX7_figures 21 = .ok (.getfield 68, 3) := by decide +kernel
theorem dX7_figures_24 : decode cX7_figures 24 = .ok (.if_icmp .ge 65, 3) := by decide +kernel
theorem dX7_figures_27 : decode cX7_figures 27 = .ok (.aload_n 0, 1) := by decide +kernel
theorem dX7_figures_28 : decode cX7_figures 28 = .ok (.getfield 19, 3) := by decide +kernel
theorem dX7_figures_31 : decode cX7_figures 31 = .ok (.aload_n 0, 1) := by decide +kernel
theorem dX7_figures_32 : decode cX7_figures 32 = .ok (.getfield 75, 3) := by decide +kernel
theorem dX7_figures_35 : decode cX7_figures 35 = .ok (.iaload, 1) := by decide +kernel
theorem dX7_figures_36 : decode cX7_figures 36 = .ok (.bipush 48, 2) := by decide +kernel
theorem dX7_figures_38 : decode cX7_figures 38 = .ok (.if_icmp .lt 51, 3) := by decide +kernel
theorem dX7_figures_41 : decode cX7_figures 41 = .ok (.aload_n 0, 1) := by decide +kernel
theorem dX7_figures_42 : decode cX7_figures 42 = .ok (.getfield 19, 3) := by decide +kernel
theorem dX7_figures_45 : decode cX7_figures 45 = .ok (.aload_n 0, 1) := by decide +kernel
theorem dX7_figures_46 : decode cX7_figures 46 = .ok (.getfield 75, 3) := by decide +kernel
theorem dX7_figures_49 : decode cX7_figures 49 = .ok (.iaload, 1) := by decide +kernel
theorem dX7_figures_50 : decode cX7_figures 50 = .ok (.bipush 57, 2) := by decide +kernel
theorem dX7_figures_52 : decode cX7_figures 52 = .ok (.if_icmp .gt 37, 3) := by decide +kernel
theorem dX7_figures_55 : decode cX7_figures 55 = .ok (.bipush 10, 2) := by decide +kernel
theorem dX7_figures_57 : decode cX7_figures 57 = .ok (.iload_n 2, 1) := by decide +kernel
theorem dX7_figures_58 : decode cX7_figures 58 = .ok (.imul, 1) := by decide +kernel
theorem dX7_figures_59 : decode cX7_figures 59 = .ok (.aload_n 0, 1) := by decide +kernel
theorem dX7_figures_60 : decode cX7_figures 60 = .ok (.getfield 19, 3) := by decide +kernel
theorem dX7_figures_63 : decode cX7_figures 63 = .ok (.aload_n 0, 1) := by decide +kernel
theorem dX7_figures_64 : decode cX7_figures 64 = .ok (.getfield 75, 3) := by decide +kernel
theorem dX7_figures_67 : decode cX7_figures 67 = .ok (.iaload, 1) := by decide +kernel
theorem dX7_figures_68 : decode cX7_figures 68 = .ok (.iadd, 1) := by decide +kernel
theorem dX7_figures_69 : decode cX7_figures 69 = .ok (.bipush 48, 2) := by decide +kernel
theorem dX7_figures_71 : decode cX7_figures 71 = .ok (.isub, 1) := by decide +kernel
theorem dX7_figures_72 : decode cX7_figures 72 = .ok (.istore_n 2, 1) := by decide +kernel
theorem dX7_figures_73 : decode cX7_figures 73 = .ok (.aload_n 0, 1) := by decide +kernel
theorem dX7_figures_74 : decode cX7_figures 74 = .ok (.dup, 1) := by decide +kernel
theorem dX7_figures_75 : decode cX7_figures 75 = .ok (.getfield 75, 3) := by decide +kernel
theorem dX7_figures_78 : decode cX7_figures 78 = .ok (.iconst 1, 1) := by decide +kernel
theorem dX7_figures_79 : decode cX7_figures 79 = .ok (.iadd, 1) := by decide +kernel
theorem dX7_figures_80 : decode cX7_figures 80 = .ok (.putfield 75, 3) := by decide +kernel
theorem dX7_figures_83 : decode cX7_figures 83 = .ok (.iinc 3 1, 3) := by decide +kernel
theorem dX7_figures_86 : decode cX7_figures 86 = .ok (.goto (-82), 3) := by decide +kernel
theorem dX7_figures_89 : decode cX7_figures 89 = .ok (.aload_n 0, 1) := by decide +kernel
theorem dX7_figures_90 : decode cX7_figures 90 = .ok (.aload_n 0, 1) := by decide +kernel
theorem dX7_figures_91 : decode cX7_figures 91 = .ok (.getfield 72, 3) := by decide +kernel
theorem dX7_figures_94 : decode cX7_figures 94 = .ok (.ifCond .eq 11, 3) := by decide +kernel
theorem dX7_figures_97 : decode cX7_figures 97 = .ok (.iload_n 3, 1) := by decide +kernel
theorem dX7_figures_98 : decode cX7_figures 98 = .ok (.ifCond .le 7, 3) := by decide +kernel
theorem dX7_figures_101 : decode cX7_figures 101 = .ok (.iconst 1, 1) := by decide +kernel
theorem dX7_figures_102 : decode cX7_figures 102 = .ok (.goto 4, 3) := by decide +kernel
theorem dX7_figures_105 : decode cX7_figures 105 = .ok (.iconst 0, 1) := by decide +kernel
theorem dX7_figures_106 : decode cX7_figures 106 = .ok (.putfield 72, 3) := by decide +kernel
theorem dX7_figures_109 : decode cX7_figures 109 = .ok (.iload_n 2, 1) := by decide +kernel
theorem dX7_figures_110 : decode cX7_figures 110 = .ok (.ireturn, 1) := by decide +kernel
theorem dX7_statement_0 : decode cX7_statement 0 = .ok (.aload_n 0, 1) := by decide +kernel
theorem dX7_statement_1 : decode cX7_statement 1 = .ok (.aload_n 0, 1) := by decide +kernel
theorem dX7_statement_2 : decode cX7_statement 2 = .ok (.aload_n 0, 1) := by decide +kernel
theorem dX7_statement_3 : decode cX7_statement 3 = .ok (.getfield 22, 3) := by decide +kernel
theorem dX7_statement_6 : decode cX7_statement 6 = .ok (.invokevirtual 78, 3) := by decide +kernel
theorem dX7_statement_9 : decode cX7_statement 9 = .ok (.putfield 82, 3) := by decide +kernel
theorem dX7_statement_12 : decode cX7_statement 12 = .ok (.aload_n 0, 1) := by decide +kernel
theorem dX7_statement_13 : decode cX7_statement 13 = .ok (.getfield 82, 3) := by decide +kernel
theorem dX7_statement_16 : decode cX7_statement 16 = .ok (.iconst 1, 1) := by decide +kernel
theorem dX7_statement_17 : decode cX7_statement 17 = .ok (.if_icmp .ne 31, 3) := by decide +kernel
theorem dX7_statement_20 : decode cX7_statement 20 = .ok (.aload_n 0, 1) := by decide +kernel
theorem dX7_statement_21 : decode cX7_statement 21 = .ok (.getfield 32, 3) := by decide +kernel
theorem dX7_statement_24 : decode cX7_statement 24 = .ok (.iconst 0, 1) := by decide +kernel
theorem dX7_statement_25 : decode cX7_statement 25 = .ok (.aload_n 0, 1) := by decide +kernel
theorem dX7_statement_26 : decode cX7_statement 26 = .ok (.aload_n 0, 1) := by decide +kernel
theorem dX7_statement_27 : decode cX7_statement 27 = .ok (.getfield 26, 3) := by decide +kernel
theorem dX7_statement_30 : decode cX7_statement 30 = .ok (.invokevirtual 78, 3) := by decide +kernel
theorem dX7_statement_33 : decode cX7_statement 33 = .ok (.iastore, 1) := by decide +kernel
theorem dX7_statement_34 : decode cX7_statement 34 = .ok (.aload_n 0, 1) := by decide +kernel
theorem dX7_statement_35 : decode cX7_statement 35 = .ok (.getfield 32, 3) := by decide +kernel
theorem dX7_statement_38 : decode cX7_statement 38 = .ok (.iconst 1, 1) := by decide +kernel
theorem dX7_statement_39 : decode cX7_statement 39 = .ok (.aload_n 0, 1) := by decide +kernel
theorem dX7_statement_40 : decode cX7_statement 40 = .ok (.iconst 1, 1) := by decide +kernel
theorem dX7_statement_41 : decode cX7_statement 41 = .ok (.invokevirtual 85, 3) := by decide +kernel
theorem dX7_statement_44 : decode cX7_statement 44 = .ok (.iastore, 1) := by decide +kernel
theorem dX7_statement_45 : decode cX7_statement 45 = .ok (.goto 68, 3) := by decide +kernel
theorem dX7_statement_48 : decode cX7_statement 48 = .ok (.aload_n 0, 1) := by decide +kernel
theorem dX7_statement_49 : decode cX7_statement 49 = .ok (.getfield 32, 3) := by decide +kernel
theorem dX7_statement_52 : decode cX7_statement 52 = .ok (.iconst 0, 1) := by decide +kernel
theorem dX7_statement_53 : decode cX7_statement 53 = .ok (.aload_n 0, 1) := by decide +kernel
theorem dX7_statement_54 : decode cX7_statement 54 = .ok (.getfield 82, 3) := by decide +kernel
theorem dX7_statement_57 : decode cX7_statement 57 = .ok (.iconst 2, 1) := by decide +kernel
theorem dX7_statement_58 : decode cX7_statement 58 = .ok (.if_icmp .ne 14, 3) := by decide +kernel
theorem dX7_statement_61 : decode cX7_statement 61 = .ok (.aload_n 0, 1) := by decide +kernel
theorem dX7_statement_62 : decode cX7_statement 62 = .ok (.aload_n 0, 1) := by decide +kernel
theorem dX7_statement_63 : decode cX7_statement 63 = .ok (.getfield 29, 3) := by decide +kernel
theorem dX7_statement_66 : decode cX7_statement 66 = .ok (.invokevirtual 78, 3) := by decide +kernel
theorem dX7_statement_69 : decode cX7_statement 69 = .ok (.goto 4, 3) := by decide +kernel
theorem dX7_statement_72 : decode cX7_statement 72 = .ok (.iconst 0, 1) := by decide +kernel
theorem dX7_statement_73 : decode cX7_statement 73 = .ok (.iastore, 1) := by decide +kernel
theorem dX7_statement_74 : decode cX7_statement 74 = .ok (.aload_n 0, 1) := by decide +kernel
theorem dX7_statement_75 : decode cX7_statement 75 = .ok (.getfield 32, 3) := by decide +kernel
theorem dX7_statement_78 : decode cX7_statement 78 = .ok (.iconst 1, 1) := by decide +kernel
theorem dX7_statement_79 : decode cX7_statement 79 = .ok (.aload_n 0, 1) := by decide +kernel
theorem dX7_statement_80 : decode cX7_statement 80 = .ok (.iconst 1, 1) := by decide +kernel
theorem dX7_statement_81 : decode cX7_statement 81 = .ok (.invokevirtual 85, 3) := by decide +kernel
theorem dX7_statement_84 : decode cX7_statement 84 = .ok (.iastore, 1) := by decide +kernel
theorem dX7_statement_85 : decode cX7_statement 85 = .ok (.aload_n 0, 1) := by decide +kernel
theorem dX7_statement_86 : decode cX7_statement 86 = .ok (.getfield 32, 3) := by decide +kernel
theorem dX7_statement_89 : decode cX7_statement 89 = .ok (.iconst 2, 1) := by decide +kernel
theorem dX7_statement_90 : decode cX7_statement 90 = .ok (.aload_n 0, 1) := by decide +kernel
theorem dX7_statement_91 : decode cX7_statement 91 = .ok (.iconst 1, 1) := by decide +kernel
theorem dX7_statement_92 : decode cX7_statement 92 = .ok (.invokevirtual 85, 3) := by decide +kernel
theorem dX7_statement_95 : decode cX7_statement 95 = .ok (.iastore, 1) := by decide +kernel
theorem dX7_statement_96 : decode cX7_statement 96 = .ok (.aload_n 0, 1) := by decide +kernel
theorem dX7_statement_97 : decode cX7_statement 97 = .ok (.bipush 44, 2) := by decide +kernel
theorem dX7_statement_99 : decode cX7_statement 99 = .ok (.invokevirtual 88, 3) := by decide +kernel
theorem dX7_statement_102 : decode cX7_statement 102 = .ok (.aload_n 0, 1) := by decide +kernel
theorem dX7_statement_103 : decode cX7_statement 103 = .ok (.getfield 32, 3) := by decide +kernel
theorem dX7_statement_106 : decode cX7_statement 106 = .ok (.iconst 3, 1) := by decide +kernel
theorem dX7_statement_107 : decode cX7_statement 107 = .ok (.aload_n 0, 1) := by decide +kernel
theorem dX7_statement_108 : decode cX7_statement 108 = .ok (.iconst 2, 1) := by decide +kernel
theorem dX7_statement_109 : decode cX7_statement 109 = .ok (.invokevirtual 85, 3) := by decide +kernel
theorem dX7_statement_112 : decode cX7_statement 112 = .ok (.iastore, 1) := by decide +kernel
theorem dX7_statement_113 : decode cX7_statement 113 = .ok (.aload_n 0, 1) := by decide +kernel
theorem dX7_statement_114 : decode cX7_statement 114 = .ok (.bipush 59, 2) := by decide +kernel
theorem dX7_statement_116 : decode cX7_statement 116 = .ok (.invokevirtual 88, 3) := by decide +kernel
theorem dX7_statement_119 : decode cX7_statement 119 = .ok (.return_, 1) := by decide +kernel
theorem dX7_isAsItMustBe_0 : decode cX7_isAsItMustBe 0 = .ok (.aload_n 0, 1) := by decide +kernel
theorem dX7_isAsItMustBe_1 : decode cX7_isAsItMustBe 1 = .ok (.getfield 82, 3) := by decide +kernel
theorem dX7_isAsItMustBe_4 : decode cX7_isAsItMustBe 4 = .ok (.iconst 1, 1) := by decide +kernel
theorem dX7_isAsItMustBe_5 : decode cX7_isAsItMustBe 5 = .ok (.if_icmp .ne 5, 3) := by decide +kernel
theorem dX7_isAsItMustBe_8 : decode cX7_isAsItMustBe 8 = .ok (.iconst 1, 1) := by decide +kernel
theorem dX7_isAsItMustBe_9 : decode cX7_isAsItMustBe 9 = .ok (.ireturn, 1) := by decide +kernel
theorem dX7_isAsItMustBe_10 : decode cX7_isAsItMustBe 10 = .ok (.aload_n 0, 1) := by decide +kernel
theorem dX7_isAsItMustBe_11 : decode cX7_isAsItMustBe 11 = .ok (.getfield 32, 3) := by decide +kernel
theorem dX7_isAsItMustBe_14 : decode cX7_isAsItMustBe 14 = .ok (.iconst 1, 1) := by decide +kernel
theorem dX7_isAsItMustBe_15 : decode cX7_isAsItMustBe 15 = .ok (.iaload, 1) := by decide +kernel
theorem dX7_isAsItMustBe_16 : decode cX7_isAsItMustBe 16 = .ok (.iconst 4, 1) := by decide +kernel
theorem dX7_isAsItMustBe_17 : decode cX7_isAsItMustBe 17 = .ok (.if_icmp .ge 49, 3) := by decide +kernel
theorem dX7_isAsItMustBe_20 : decode cX7_isAsItMustBe 20 = .ok (.aload_n 0, 1) := by decide +kernel
theorem dX7_isAsItMustBe_21 : decode cX7_isAsItMustBe 21 = .ok (.getfield 82, 3) := by decide +kernel
theorem dX7_isAsItMustBe_24 : decode cX7_isAsItMustBe 24 = .ok (.ifCond .ne 32, 3) := by decide +kernel
theorem dX7_isAsItMustBe_27 : decode cX7_isAsItMustBe 27 = .ok (.aload_n 0, 1) := by decide +kernel
theorem dX7_isAsItMustBe_28 : decode cX7_isAsItMustBe 28 = .ok (.getfield 32, 3) := by decide +kernel
theorem dX7_isAsItMustBe_31 : decode cX7_isAsItMustBe 31 = .ok (.iconst 2, 1) := by decide +kernel
theorem dX7_isAsItMustBe_32 : decode cX7_isAsItMustBe 32 = .ok (.iaload, 1) := by decide +kernel
theorem dX7_isAsItMustBe_33 : decode cX7_isAsItMustBe 33 = .ok (.ifCond .le 33, 3) := by decide +kernel
theorem dX7_isAsItMustBe_36 : decode cX7_isAsItMustBe 36 = .ok (.aload_n 0, 1) := by decide +kernel
theorem dX7_isAsItMustBe_37 : decode cX7_isAsItMustBe 37 = .ok (.getfield 32, 3) := by decide +kernel
theorem dX7_isAsItMustBe_40 : decode cX7_isAsItMustBe 40 = .ok (.iconst 3, 1) := by decide +kernel
theorem dX7_isAsItMustBe_41 : decode cX7_isAsItMustBe 41 = .ok (.iaload, 1) := by decide +kernel
theorem dX7_isAsItMustBe_42 : decode cX7_isAsItMustBe 42 = .ok (.bipush 60, 2) := by decide +kernel
theorem dX7_isAsItMustBe_44 : decode cX7_isAsItMustBe 44 = .ok (.if_icmp .ge 22, 3) := by decide +kernel
theorem dX7_isAsItMustBe_47 : decode cX7_isAsItMustBe 47 = .ok (.iload_n 1, 1) := by decide +kernel
theorem dX7_isAsItMustBe_48 : decode cX7_isAsItMustBe 48 = .ok (.bipush 6, 2) := by decide +kernel
theorem dX7_isAsItMustBe_50 : decode cX7_isAsItMustBe 50 = .ok (.if_icmp .ge 16, 3) := by decide +kernel
theorem dX7_isAsItMustBe_53 : decode cX7_isAsItMustBe 53 = .ok (.goto 9, 3) := by decide +kernel
theorem dX7_isAsItMustBe_56 : decode cX7_isAsItMustBe 56 = .ok (.iload_n 2, 1) := by decide +kernel
theorem dX7_isAsItMustBe_57 : decode cX7_isAsItMustBe 57 = .ok (.bipush 6, 2) := by decide +kernel
theorem dX7_isAsItMustBe_59 : decode cX7_isAsItMustBe 59 = .ok (.if_icmp .ge 7, 3) := by decide +kernel
theorem dX7_isAsItMustBe_62 : decode cX7_isAsItMustBe 62 = .ok (.iconst 1, 1) := by decide +kernel
theorem dX7_isAsItMustBe_63 : decode cX7_isAsItMustBe 63 = .ok (.goto 4, 3) := by decide +kernel
theorem dX7_isAsItMustBe_66 : decode cX7_isAsItMustBe 66 = .ok (.iconst 0, 1) := by decide +kernel
theorem dX7_isAsItMustBe_67 : decode cX7_isAsItMustBe 67 = .ok (.ireturn, 1) := by decide +kernel
theorem dX7_come_0 : decode cX7_come 0 = .ok (.aload_n 0, 1) := by decide +kernel
theorem dX7_come_1 : decode cX7_come 1 = .ok (.getfield 82, 3) := by decide +kernel
theorem dX7_come_4 : decode cX7_come 4 = .ok (.lookupswitch 128 #[(0, 28), (1, 101)], 28) := by decide +kernel
theorem dX7_come_32 : decode cX7_come 32 = .ok (.aload_n 0, 1) := by decide +kernel
theorem dX7_come_33 : decode cX7_come 33 = .ok (.getfield 13, 3) := by decide +kernel
theorem dX7_come_36 : decode cX7_come 36 = .ok (.bipush 10, 2) := by decide +kernel
theorem dX7_come_38 : decode cX7_come 38 = .ok (.aload_n 0, 1) := by decide +kernel
theorem dX7_come_39 : decode cX7_come 39 = .ok (.getfield 13, 3) := by decide +kernel
theorem dX7_come_42 : decode cX7_come 42 = .ok (.iconst 0, 1) := by decide +kernel
theorem dX7_come_43 : decode cX7_come 43 = .ok (.iaload, 1) := by decide +kernel
theorem dX7_come_44 : decode cX7_come 44 = .ok (.iadd, 1) := by decide +kernel
theorem dX7_come_45 : decode cX7_come 45 = .ok (.aload_n 0, 1) := by decide +kernel
theorem dX7_come_46 : decode cX7_come 46 = .ok (.getfield 32, 3) := by decide +kernel
theorem dX7_come_49 : decode cX7_come 49 = .ok (.iconst 1, 1) := by decide +kernel
theorem dX7_come_50 : decode cX7_come 50 = .ok (.iaload, 1) := by decide +kernel
theorem dX7_come_51 : decode cX7_come 51 = .ok (.iastore, 1) := by decide +kernel
theorem dX7_come_52 : decode cX7_come 52 = .ok (.aload_n 0, 1) := by decide +kernel
theorem dX7_come_53 : decode cX7_come 53 = .ok (.getfield 13, 3) := by decide +kernel
theorem dX7_come_56 : decode cX7_come 56 = .ok (.bipush 20, 2) := by decide +kernel
theorem dX7_come_58 : decode cX7_come 58 = .ok (.aload_n 0, 1) := by decide +kernel
theorem dX7_come_59 : decode cX7_come 59 = .ok (.getfield 13, 3) := by decide +kernel
theorem dX7_come_62 : decode cX7_come 62 = .ok (.iconst 0, 1) := by decide +kernel
theorem dX7_come_63 : decode cX7_come 63 = .ok (.iaload, 1) := by decide +kernel
theorem dX7_come_64 : decode cX7_come 64 = .ok (.iadd, 1) := by decide +kernel
theorem dX7_come_65 : decode cX7_come 65 = .ok (.aload_n 0, 1) := by decide +kernel
theorem dX7_come_66 : decode cX7_come 66 = .ok (.getfield 32, 3) := by decide +kernel
theorem dX7_come_69 : decode cX7_come 69 = .ok (.iconst 2, 1) := by decide +kernel
theorem dX7_come_70 : decode cX7_come 70 = .ok (.iaload, 1) := by decide +kernel
theorem dX7_come_71 : decode cX7_come 71 = .ok (.iastore, 1) := by decide +kernel
theorem dX7_come_72 : decode cX7_come 72 = .ok (.aload_n 0, 1) := by decide +kernel
theorem dX7_come_73 : decode cX7_come 73 = .ok (.getfield 13, 3) := by decide +kernel
theorem dX7_come_76 : decode cX7_come 76 = .ok (.bipush 30, 2) := by decide +kernel
theorem dX7_come_78 : decode cX7_come 78 = .ok (.aload_n 0, 1) := by decide +kernel
theorem dX7_come_79 : decode cX7_come 79 = .ok (.getfield 13, 3) := by decide +kernel
theorem dX7_come_82 : decode cX7_come 82 = .ok (.iconst 0, 1) := by decide +kernel
theorem dX7_come_83 : decode cX7_come 83 = .ok (.iaload, 1) := by decide +kernel
theorem dX7_come_84 : decode cX7_come 84 = .ok (.iadd, 1) := by decide +kernel
theorem dX7_come_85 : decode cX7_come 85 = .ok (.aload_n 0, 1) := by decide +kernel
theorem dX7_come_86 : decode cX7_come 86 = .ok (.getfield 32, 3) := by decide +kernel
theorem dX7_come_89 : decode cX7_come 89 = .ok (.iconst 3, 1) := by decide +kernel
theorem dX7_come_90 : decode cX7_come 90 = .ok (.iaload, 1) := by decide +kernel
theorem dX7_come_91 : decode cX7_come 91 = .ok (.iastore, 1) := by decide +kernel
theorem dX7_come_92 : decode cX7_come 92 = .ok (.aload_n 0, 1) := by decide +kernel
theorem dX7_come_93 : decode cX7_come 93 = .ok (.getfield 13, 3) := by decide +kernel
theorem dX7_come_96 : decode cX7_come 96 = .ok (.iconst 0, 1) := by decide +kernel
theorem dX7_come_97 : decode cX7_come 97 = .ok (.dup2, 1) := by decide +kernel
theorem dX7_come_98 : decode cX7_come 98 = .ok (.iaload, 1) := by decide +kernel
theorem dX7_come_99 : decode cX7_come 99 = .ok (.iconst 1, 1) := by decide +kernel
theorem dX7_come_100 : decode cX7_come 100 = .ok (.iadd, 1) := by decide +kernel
theorem dX7_come_101 : decode cX7_come 101 = .ok (.iastore, 1) := by decide +kernel
theorem dX7_come_102 : decode cX7_come 102 = .ok (.goto 120, 3) := by decide +kernel
theorem dX7_come_105 : decode cX7_come 105 = .ok (.aload_n 0, 1) := by decide +kernel
theorem dX7_come_106 : decode cX7_come 106 = .ok (.getfield 13, 3) := by decide +kernel
theorem dX7_come_109 : decode cX7_come 109 = .ok (.iconst 2, 1) := by decide +kernel
theorem dX7_come_110 : decode cX7_come 110 = .ok (.aload_n 0, 1) := by decide +kernel
theorem dX7_come_111 : decode cX7_come 111 = .ok (.getfield 32, 3) := by decide +kernel
theorem dX7_come_114 : decode cX7_come 114 = .ok (.iconst 0, 1) := by decide +kernel
theorem dX7_come_115 : decode cX7_come 115 = .ok (.iaload, 1) := by decide +kernel
theorem dX7_come_116 : decode cX7_come 116 = .ok (.iastore, 1) := by decide +kernel
theorem dX7_come_117 : decode cX7_come 117 = .ok (.aload_n 0, 1) := by decide +kernel
theorem dX7_come_118 : decode cX7_come 118 = .ok (.getfield 13, 3) := by decide +kernel
theorem dX7_come_121 : decode cX7_come 121 = .ok (.iconst 3, 1) := by decide +kernel
theorem dX7_come_122 : decode cX7_come 122 = .ok (.aload_n 0, 1) := by decide +kernel
theorem dX7_come_123 : decode cX7_come 123 = .ok (.getfield 32, 3) := by decide +kernel
theorem dX7_come_126 : decode cX7_come 126 = .ok (.iconst 1, 1) := by decide +kernel
theorem dX7_come_127 : decode cX7_come 127 = .ok (.iaload, 1) := by decide +kernel
theorem dX7_come_128 : decode cX7_come 128 = .ok (.iastore, 1) := by decide +kernel
theorem dX7_come_129 : decode cX7_come 129 = .ok (.goto 93, 3) := by decide +kernel
theorem dX7_come_132 : decode cX7_come 132 = .ok (.aload_n 0, 1) := by decide +kernel
theorem dX7_come_133 : decode cX7_come 133 = .ok (.getfield 13, 3) := by decide +kernel
theorem dX7_come_136 : decode cX7_come 136 = .ok (.bipush 40, 2) := by decide +kernel
theorem dX7_come_138 : decode cX7_come 138 = .ok (.aload_n 0, 1) := by decide +kernel
theorem dX7_come_139 : decode cX7_come 139 = .ok (.getfield 13, 3) := by decide +kernel
theorem dX7_come_142 : decode cX7_come 142 = .ok (.iconst 1, 1) := by decide +kernel
theorem dX7_come_143 : decode cX7_come 143 = .ok (.iaload, 1) := by decide +kernel
theorem dX7_come_144 : decode cX7_come 144 = .ok (.iadd, 1) := by decide +kernel
theorem dX7_come_145 : decode cX7_come 145 = .ok (.aload_n 0, 1) := by decide +kernel
theorem dX7_come_146 : decode cX7_come 146 = .ok (.getfield 32, 3) := by decide +kernel
theorem dX7_come_149 : decode cX7_come 149 = .ok (.iconst 0, 1) := by decide +kernel
theorem dX7_come_150 : decode cX7_come 150 = .ok (.iaload, 1) := by decide +kernel
theorem dX7_come_151 : decode cX7_come 151 = .ok (.iastore, 1) := by decide +kernel
theorem dX7_come_152 : decode cX7_come 152 = .ok (.aload_n 0, 1) := by decide +kernel
theorem dX7_come_153 : decode cX7_come 153 = .ok (.getfield 13, 3) := by decide +kernel
theorem dX7_come_156 : decode cX7_come 156 = .ok (.bipush 50, 2) := by decide +kernel
theorem dX7_come_158 : decode cX7_come 158 = .ok (.aload_n 0, 1) := by decide +kernel
theorem dX7_come_159 : decode cX7_come 159 = .ok (.getfield 13, 3) := by decide +kernel
theorem dX7_come_162 : decode cX7_come 162 = .ok (.iconst 1, 1) := by decide +kernel
theorem dX7_come_163 : decode cX7_come 163 = .ok (.iaload, 1) := by decide +kernel
theorem dX7_come_164 : decode cX7_come 164 = .ok (.iadd, 1) := by decide +kernel
theorem dX7_come_165 : decode cX7_come 165 = .ok (.aload_n 0, 1) := by decide +kernel
theorem dX7_come_166 : decode cX7_come 166 = .ok (.getfield 32, 3) := by decide +kernel
theorem dX7_come_169 : decode cX7_come 169 = .ok (.iconst 1, 1) := by decide +kernel
theorem dX7_come_170 : decode cX7_come 170 = .ok (.iaload, 1) := by decide +kernel
theorem dX7_come_171 : decode cX7_come 171 = .ok (.iastore, 1) := by decide +kernel
theorem dX7_come_172 : decode cX7_come 172 = .ok (.aload_n 0, 1) := by decide +kernel
theorem dX7_come_173 : decode cX7_come 173 = .ok (.getfield 13, 3) := by decide +kernel
theorem dX7_come_176 : decode cX7_come 176 = .ok (.bipush 60, 2) := by decide +kernel
theorem dX7_come_178 : decode cX7_come 178 = .ok (.aload_n 0, 1) := by decide +kernel
theorem dX7_come_179 : decode cX7_come 179 = .ok (.getfield 13, 3) := by decide +kernel
theorem dX7_come_182 : decode cX7_come 182 = .ok (.iconst 1, 1) := by decide +kernel
theorem dX7_come_183 : decode cX7_come 183 = .ok (.iaload, 1) := by decide +kernel
theorem dX7_come_184 : decode cX7_come 184 = .ok (.iadd, 1) := by decide +kernel
theorem dX7_come_185 : decode cX7_come 185 = .ok (.aload_n 0, 1) := by decide +kernel
theorem dX7_come_186 : decode cX7_come 186 = .ok (.getfield 32, 3) := by decide +kernel
theorem dX7_come_189 : decode cX7_come 189 = .ok (.iconst 2, 1) := by decide +kernel
theorem dX7_come_190 : decode cX7_come 190 = .ok (.iaload, 1) := by decide +kernel
theorem dX7_come_191 : decode cX7_come 191 = .ok (.iastore, 1) := by decide +kernel
theorem dX7_come_192 : decode cX7_come 192 = .ok (.aload_n 0, 1) := by decide +kernel
theorem dX7_come_193 : decode cX7_come 193 = .ok (.getfield 13, 3) := by decide +kernel
theorem dX7_come_196 : decode cX7_come 196 = .ok (.bipush 70, 2) := by decide +kernel
theorem dX7_come_198 : decode cX7_come 198 = .ok (.aload_n 0, 1) := by decide +kernel
theorem dX7_come_199 : decode cX7_come 199 = .ok (.getfield 13, 3) := by decide +kernel
theorem dX7_come_202 : decode cX7_come 202 = .ok (.iconst 1, 1) := by decide +kernel
theorem dX7_come_203 : decode cX7_come 203 = .ok (.iaload, 1) := by decide +kernel
theorem dX7_come_204 : decode cX7_come 204 = .ok (.iadd, 1) := by decide +kernel
theorem dX7_come_205 : decode cX7_come 205 = .ok (.aload_n 0, 1) := by decide +kernel
theorem dX7_come_206 : decode cX7_come 206 = .ok (.getfield 32, 3) := by decide +kernel
theorem dX7_come_209 : decode cX7_come 209 = .ok (.iconst 3, 1) := by decide +kernel
theorem dX7_come_210 : decode cX7_come 210 = .ok (.iaload, 1) := by decide +kernel
theorem dX7_come_211 : decode cX7_come 211 = .ok (.iastore, 1) := by decide +kernel
theorem dX7_come_212 : decode cX7_come 212 = .ok (.aload_n 0, 1) := by decide +kernel
theorem dX7_come_213 : decode cX7_come 213 = .ok (.getfield 13, 3) := by decide +kernel
theorem dX7_come_216 : decode cX7_come 216 = .ok (.iconst 1, 1) := by decide +kernel
theorem dX7_come_217 : decode cX7_come 217 = .ok (.dup2, 1) := by decide +kernel
theorem dX7_come_218 : decode cX7_come 218 = .ok (.iaload, 1) := by decide +kernel
theorem dX7_come_219 : decode cX7_come 219 = .ok (.iconst 1, 1) := by decide +kernel
theorem dX7_come_220 : decode cX7_come 220 = .ok (.iadd, 1) := by decide +kernel
theorem dX7_come_221 : decode cX7_come 221 = .ok (.iastore, 1) := by decide +kernel
theorem dX7_come_222 : decode cX7_come 222 = .ok (.return_, 1) := by decide +kernel
theorem dX7_read_0 : decode cX7_read 0 = .ok (.iconst 0, 1) := by decide +kernel
theorem dX7_read_1 : decode cX7_read 1 = .ok (.istore_n 1, 1) := by decide +kernel
theorem dX7_read_2 : decode cX7_read 2 = .ok (.aload_n 0, 1) := by decide +kernel
theorem dX7_read_3 : decode cX7_read 3 = .ok (.iconst 0, 1) := by decide +kernel
theorem dX7_read_4 : decode cX7_read 4 = .ok (.putfield 75, 3) := by decide +kernel
theorem dX7_read_7 : decode cX7_read 7 = .ok (.aload_n 0, 1) := by decide +kernel
theorem dX7_read_8 : decode cX7_read 8 = .ok (.iconst 1, 1) := by decide +kernel
theorem dX7_read_9 : decode cX7_read 9 = .ok (.putfield 72, 3) := by decide +kernel
theorem dX7_read_12 : decode cX7_read 12 = .ok (.aload_n 0, 1) := by decide +kernel
theorem dX7_read_13 : decode cX7_read 13 = .ok (.invokevirtual 92, 3) := by decide +kernel
theorem dX7_read_16 : decode cX7_read 16 = .ok (.iinc 1 1, 3) := by decide +kernel
theorem dX7_read_19 : decode cX7_read 19 = .ok (.aload_n 0, 1) := by decide +kernel
theorem dX7_read_20 : decode cX7_read 20 = .ok (.getfield 72, 3) := by decide +kernel
theorem dX7_read_23 : decode cX7_read 23 = .ok (.ifCond .eq 14, 3) := by decide +kernel
theorem dX7_read_26 : decode cX7_read 26 = .ok (.aload_n 0, 1) := by decide +kernel
theorem dX7_read_27 : decode cX7_read 27 = .ok (.getfield 75, 3) := by decide +kernel
theorem dX7_read_30 : decode cX7_read 30 = .ok (.aload_n 0, 1) := by decide +kernel
theorem dX7_read_31 : decode cX7_read 31 = .ok (.getfield 68, 3) := by decide +kernel
theorem dX7_read_34 : decode cX7_read 34 = .ok (.if_icmp .lt (-22), 3) := by decide +kernel
theorem dX7_read_37 : decode cX7_read 37 = .ok (.aload_n 0, 1) := by decide +kernel
theorem dX7_read_38 : decode cX7_read 38 = .ok (.getfield 72, 3) := by decide +kernel
theorem dX7_read_41 : decode cX7_read 41 = .ok (.ifCond .ne 12, 3) := by decide +kernel
theorem dX7_read_44 : decode cX7_read 44 = .ok (.sipush (-1000), 3) := by decide +kernel
theorem dX7_read_47 : decode cX7_read 47 = .ok (.aload_n 0, 1) := by decide +kernel
theorem dX7_read_48 : decode cX7_read 48 = .ok (.getfield 75, 3) := by decide +kernel
theorem dX7_read_51 : decode cX7_read 51 = .ok (.isub, 1) := by decide +kernel
theorem dX7_read_52 : decode cX7_read 52 = .ok (.ireturn, 1) := by decide +kernel
theorem dX7_read_53 : decode cX7_read 53 = .ok (.aload_n 0, 1) := by decide +kernel
theorem dX7_read_54 : decode cX7_read 54 = .ok (.iconst 0, 1) := by decide +kernel
theorem dX7_read_55 : decode cX7_read 55 = .ok (.putfield 75, 3) := by decide +kernel
theorem dX7_read_58 : decode cX7_read 58 = .ok (.aload_n 0, 1) := by decide +kernel
theorem dX7_read_59 : decode cX7_read 59 = .ok (.getfield 13, 3) := by decide +kernel
theorem dX7_read_62 : decode cX7_read 62 = .ok (.iconst 0, 1) := by decide +kernel
theorem dX7_read_63 : decode cX7_read 63 = .ok (.iaload, 1) := by decide +kernel
theorem dX7_read_64 : decode cX7_read 64 = .ok (.istore_n 2, 1) := by decide +kernel
theorem dX7_read_65 : decode cX7_read 65 = .ok (.aload_n 0, 1) := by decide +kernel
theorem dX7_read_66 : decode cX7_read 66 = .ok (.getfield 13, 3) := by decide +kernel
theorem dX7_read_69 : decode cX7_read 69 = .ok (.iconst 1, 1) := by decide +kernel
theorem dX7_read_70 : decode cX7_read 70 = .ok (.iaload, 1) := by decide +kernel
theorem dX7_read_71 : decode cX7_read 71 = .ok (.istore_n 3, 1) := by decide +kernel
theorem dX7_read_72 : decode cX7_read 72 = .ok (.aload_n 0, 1) := by decide +kernel
theorem dX7_read_73 : decode cX7_read 73 = .ok (.getfield 75, 3) := by decide +kernel
theorem dX7_read_76 : decode cX7_read 76 = .ok (.aload_n 0, 1) := by decide +kernel
theorem dX7_read_77 : decode cX7_read 77 = .ok (.getfield 68, 3) := by decide +kernel
theorem dX7_read_80 : decode cX7_read 80 = .ok (.if_icmp .ge 63, 3) := by decide +kernel
theorem dX7_read_83 : decode cX7_read 83 = .ok (.aload_n 0, 1) := by decide +kernel
theorem dX7_read_84 : decode cX7_read 84 = .ok (.getfield 75, 3) := by decide +kernel
theorem dX7_read_87 : decode cX7_read 87 = .ok (.istore 4, 2) := by decide +kernel
theorem dX7_read_89 : decode cX7_read 89 = .ok (.aload_n 0, 1) := by decide +kernel
theorem dX7_read_90 : decode cX7_read 90 = .ok (.invokevirtual 92, 3) := by decide +kernel
theorem dX7_read_93 : decode cX7_read 93 = .ok (.aload_n 0, 1) := by decide +kernel
theorem dX7_read_94 : decode cX7_read 94 = .ok (.iload_n 2, 1) := by decide +kernel
theorem dX7_read_95 : decode cX7_read 95 = .ok (.iload_n 3, 1) := by decide +kernel
theorem dX7_read_96 : decode cX7_read 96 = .ok (.invokevirtual 95, 3) := by decide +kernel
theorem dX7_read_99 : decode cX7_read 99 = .ok (.ifCond .ne 10, 3) := by decide +kernel
theorem dX7_read_102 : decode cX7_read 102 = .ok (.sipush (-2000), 3) := by decide +kernel
theorem dX7_read_105 : decode cX7_read 105 = .ok (.iload 4, 2) := by decide +kernel
theorem dX7_read_107 : decode cX7_read 107 = .ok (.isub, 1) := by decide +kernel
theorem dX7_read_108 : decode cX7_read 108 = .ok (.ireturn, 1) := by decide +kernel
theorem dX7_read_109 : decode cX7_read 109 = .ok (.iload_n 2, 1) := by decide +kernel
theorem dX7_read_110 : decode cX7_read 110 = .ok (.aload_n 0, 1) := by decide +kernel
theorem dX7_read_111 : decode cX7_read 111 = .ok (.getfield 82, 3) := by decide +kernel
theorem dX7_read_114 : decode cX7_read 114 = .ok (.ifCond .ne 7, 3) := by decide +kernel
theorem dX7_read_117 : decode cX7_read 117 = .ok (.iconst 1, 1) := by decide +kernel
theorem dX7_read_118 : decode cX7_read 118 = .ok (.goto 4, 3) := by decide +kernel
theorem dX7_read_121 : decode cX7_read 121 = .ok (.iconst 0, 1) := by decide +kernel
theorem dX7_read_122 : decode cX7_read 122 = .ok (.iadd, 1) := by decide +kernel
theorem dX7_read_123 : decode cX7_read 123 = .ok (.istore_n 2, 1) := by decide +kernel
theorem dX7_read_124 : decode cX7_read 124 = .ok (.iload_n 3, 1) := by decide +kernel
theorem dX7_read_125 : decode cX7_read 125 = .ok (.aload_n 0, 1) := by decide +kernel
theorem dX7_read_126 : decode cX7_read 126 = .ok (.getfield 82, 3) := by decide +kernel
theorem dX7_read_129 : decode cX7_read 129 = .ok (.iconst 2, 1) := by decide +kernel
theorem dX7_read_130 : decode cX7_read 130 = .ok (.if_icmp .ne 7, 3) := by decide +kernel
theorem dX7_read_133 : decode cX7_read 133 = .ok (.iconst 1, 1) := by decide +kernel
theorem dX7_read_134 : decode cX7_read 134 = .ok (.goto 4, 3) := by decide +kernel
theorem dX7_read_137 : decode cX7_read 137 = .ok (.iconst 0, 1) := by decide +kernel
theorem dX7_read_138 : decode cX7_read 138 = .ok (.iadd, 1) := by decide +kernel
theorem dX7_read_139 : decode cX7_read 139 = .ok (.istore_n 3, 1) := by decide +kernel
theorem dX7_read_140 : decode cX7_read 140 = .ok (.goto (-68), 3) := by decide +kernel
theorem dX7_read_143 : decode cX7_read 143 = .ok (.aload_n 0, 1) := by decide +kernel
theorem dX7_read_144 : decode cX7_read 144 = .ok (.iconst 0, 1) := by decide +kernel
theorem dX7_read_145 : decode cX7_read 145 = .ok (.putfield 75, 3) := by decide +kernel
theorem dX7_read_148 : decode cX7_read 148 = .ok (.aload_n 0, 1) := by decide +kernel
theorem dX7_read_149 : decode cX7_read 149 = .ok (.getfield 75, 3) := by decide +kernel
theorem dX7_read_152 : decode cX7_read 152 = .ok (.aload_n 0, 1) := by decide +kernel
theorem dX7_read_153 : decode cX7_read 153 = .ok (.getfield 68, 3) := by decide +kernel
theorem dX7_read_156 : decode cX7_read 156 = .ok (.if_icmp .ge 14, 3) := by decide +kernel
theorem dX7_read_159 : decode cX7_read 159 = .ok (.aload_n 0, 1) := by decide +kernel
theorem dX7_read_160 : decode cX7_read 160 = .ok (.invokevirtual 92, 3) := by decide +kernel
theorem dX7_read_163 : decode cX7_read 163 = .ok (.aload_n 0, 1) := by decide +kernel
theorem dX7_read_164 : decode cX7_read 164 = .ok (.invokevirtual 99, 3) := by decide +kernel
theorem dX7_read_167 : decode cX7_read 167 = .ok (.goto (-19), 3) := by decide +kernel
theorem dX7_read_170 : decode cX7_read 170 = .ok (.iload_n 1, 1) := by decide +kernel
theorem dX7_read_171 : decode cX7_read 171 = .ok (.ireturn, 1) := by decide +kernel
theorem dX7_floor_0 : decode cX7_floor 0 = .ok (.aload_n 0, 1) := by decide +kernel
theorem dX7_floor_1 : decode cX7_floor 1 = .ok (.invokevirtual 102, 3) := by decide +kernel
theorem dX7_floor_4 : decode cX7_floor 4 = .ok (.istore_n 1, 1) := by decide +kernel
theorem dX7_floor_5 : decode cX7_floor 5 = .ok (.aload_n 0, 1) := by decide +kernel
theorem dX7_floor_6 : decode cX7_floor 6 = .ok (.iconst 0, 1) := by decide +kernel
theorem dX7_floor_7 : decode cX7_floor 7 = .ok (.putfield 68, 3) := by decide +kernel
theorem dX7_floor_10 : decode cX7_floor 10 = .ok (.iload_n 1, 1) := by decide +kernel
theorem dX7_floor_11 : decode cX7_floor 11 = .ok (.ireturn, 1) := by decide +kernel
theorem dX7_waits_0 : decode cX7_waits 0 = .ok (.aload_n 0, 1) := by decide +kernel
theorem dX7_waits_1 : decode cX7_waits 1 = .ok (.getfield 35, 3) := by decide +kernel
theorem dX7_waits_4 : decode cX7_waits 4 = .ok (.iload_n 1, 1) := by decide +kernel
theorem dX7_waits_5 : decode cX7_waits 5 = .ok (.iaload, 1) := by decide +kernel
theorem dX7_waits_6 : decode cX7_waits 6 = .ok (.ifCond .le 20, 3) := by decide +kernel
theorem dX7_waits_9 : decode cX7_waits 9 = .ok (.aload_n 0, 1) := by decide +kernel
theorem dX7_waits_10 : decode cX7_waits 10 = .ok (.getfield 13, 3) := by decide +kernel
theorem dX7_waits_13 : decode cX7_waits 13 = .ok (.bipush 30, 2) := by decide +kernel
theorem dX7_waits_15 : decode cX7_waits 15 = .ok (.iload_n 1, 1) := by decide +kernel
theorem dX7_waits_16 : decode cX7_waits 16 = .ok (.iadd, 1) := by decide +kernel
theorem dX7_waits_17 : decode cX7_waits 17 = .ok (.iaload, 1) := by decide +kernel
theorem dX7_waits_18 : decode cX7_waits 18 = .ok (.iload_n 2, 1) := by decide +kernel
theorem dX7_waits_19 : decode cX7_waits 19 = .ok (.if_icmp .gt 7, 3) := by decide +kernel
theorem dX7_waits_22 : decode cX7_waits 22 = .ok (.iconst 1, 1) := by decide +kernel
theorem dX7_waits_23 : decode cX7_waits 23 = .ok (.goto 4, 3) := by decide +kernel
theorem dX7_waits_26 : decode cX7_waits 26 = .ok (.iconst 0, 1) := by decide +kernel
theorem dX7_waits_27 : decode cX7_waits 27 = .ok (.ireturn, 1) := by decide +kernel
theorem dX7_ahead_0 : decode cX7_ahead 0 = .ok (.iload_n 1, 1) := by decide +kernel
theorem dX7_ahead_1 : decode cX7_ahead 1 = .ok (.iconst 5, 1) := by decide +kernel
theorem dX7_ahead_2 : decode cX7_ahead 2 = .ok (.if_icmp .ne 51, 3) := by decide +kernel
theorem dX7_ahead_5 : decode cX7_ahead 5 = .ok (.aload_n 0, 1) := by decide +kernel
theorem dX7_ahead_6 : decode cX7_ahead 6 = .ok (.getfield 13, 3) := by decide +kernel
theorem dX7_ahead_9 : decode cX7_ahead 9 = .ok (.bipush 10, 2) := by decide +kernel
theorem dX7_ahead_11 : decode cX7_ahead 11 = .ok (.iload_n 2, 1) := by decide +kernel
theorem dX7_ahead_12 : decode cX7_ahead 12 = .ok (.iadd, 1) := by decide +kernel
theorem dX7_ahead_13 : decode cX7_ahead 13 = .ok (.iaload, 1) := by decide +kernel
theorem dX7_ahead_14 : decode cX7_ahead 14 = .ok (.aload_n 0, 1) := by decide +kernel
theorem dX7_ahead_15 : decode cX7_ahead 15 = .ok (.getfield 13, 3) := by decide +kernel
theorem dX7_ahead_18 : decode cX7_ahead 18 = .ok (.bipush 10, 2) := by decide +kernel
theorem dX7_ahead_20 : decode cX7_ahead 20 = .ok (.iload_n 3, 1) := by decide +kernel
theorem dX7_ahead_21 : decode cX7_ahead 21 = .ok (.iadd, 1) := by decide +kernel
theorem dX7_ahead_22 : decode cX7_ahead 22 = .ok (.iaload, 1) := by decide +kernel
theorem dX7_ahead_23 : decode cX7_ahead 23 = .ok (.if_icmp .eq 30, 3) := by decide +kernel
theorem dX7_ahead_26 : decode cX7_ahead 26 = .ok (.aload_n 0, 1) := by decide +kernel
theorem dX7_ahead_27 : decode cX7_ahead 27 = .ok (.getfield 13, 3) := by decide +kernel
theorem dX7_ahead_30 : decode cX7_ahead 30 = .ok (.bipush 10, 2) := by decide +kernel
theorem dX7_ahead_32 : decode cX7_ahead 32 = .ok (.iload_n 2, 1) := by decide +kernel
theorem dX7_ahead_33 : decode cX7_ahead 33 = .ok (.iadd, 1) := by decide +kernel
theorem dX7_ahead_34 : decode cX7_ahead 34 = .ok (.iaload, 1) := by decide +kernel
theorem dX7_ahead_35 : decode cX7_ahead 35 = .ok (.aload_n 0, 1) := by decide +kernel
theorem dX7_ahead_36 : decode cX7_ahead 36 = .ok (.getfield 13, 3) := by decide +kernel
theorem dX7_ahead_39 : decode cX7_ahead 39 = .ok (.bipush 10, 2) := by decide +kernel
theorem dX7_ahead_41 : decode cX7_ahead 41 = .ok (.iload_n 3, 1) := by decide +kernel
theorem dX7_ahead_42 : decode cX7_ahead 42 = .ok (.iadd, 1) := by decide +kernel
theorem dX7_ahead_43 : decode cX7_ahead 43 = .ok (.iaload, 1) := by decide +kernel
theorem dX7_ahead_44 : decode cX7_ahead 44 = .ok (.if_icmp .ge 7, 3) := by decide +kernel
theorem dX7_ahead_47 : decode cX7_ahead 47 = .ok (.iconst 1, 1) := by decide +kernel
theorem dX7_ahead_48 : decode cX7_ahead 48 = .ok (.goto 4, 3) := by decide +kernel
theorem dX7_ahead_51 : decode cX7_ahead 51 = .ok (.iconst 0, 1) := by decide +kernel
theorem dX7_ahead_52 : decode cX7_ahead 52 = .ok (.ireturn, 1) := by decide +kernel
theorem dX7_ahead_53 : decode cX7_ahead 53 = .ok (.iload_n 1, 1) := by decide +kernel
theorem dX7_ahead_54 : decode cX7_ahead 54 = .ok (.iconst 1, 1) := by decide +kernel
theorem dX7_ahead_55 : decode cX7_ahead 55 = .ok (.if_icmp .eq 8, 3) := by decide +kernel
theorem dX7_ahead_58 : decode cX7_ahead 58 = .ok (.iload_n 1, 1) := by decide +kernel
theorem dX7_ahead_59 : decode cX7_ahead 59 = .ok (.iconst 5, 1) := by decide +kernel
theorem dX7_ahead_60 : decode cX7_ahead 60 = .ok (.if_icmp .ne 39, 3) := by decide +kernel
theorem dX7_ahead_63 : decode cX7_ahead 63 = .ok (.aload_n 0, 1) := by decide +kernel
theorem dX7_ahead_64 : decode cX7_ahead 64 = .ok (.getfield 35, 3) := by decide +kernel
theorem dX7_ahead_67 : decode cX7_ahead 67 = .ok (.iload_n 2, 1) := by decide +kernel
theorem dX7_ahead_68 : decode cX7_ahead 68 = .ok (.iaload, 1) := by decide +kernel
theorem dX7_ahead_69 : decode cX7_ahead 69 = .ok (.aload_n 0, 1) := by decide +kernel
theorem dX7_ahead_70 : decode cX7_ahead 70 = .ok (.getfield 35, 3) := by decide +kernel
theorem dX7_ahead_73 : decode cX7_ahead 73 = .ok (.iload_n 3, 1) := by decide +kernel
theorem dX7_ahead_74 : decode cX7_ahead 74 = .ok (.iaload, 1) := by decide +kernel
theorem dX7_ahead_75 : decode cX7_ahead 75 = .ok (.if_icmp .eq 24, 3) := by decide +kernel
theorem dX7_ahead_78 : decode cX7_ahead 78 = .ok (.aload_n 0, 1) := by decide +kernel
theorem dX7_ahead_79 : decode cX7_ahead 79 = .ok (.getfield 35, 3) := by decide +kernel
theorem dX7_ahead_82 : decode cX7_ahead 82 = .ok (.iload_n 2, 1) := by decide +kernel
theorem dX7_ahead_83 : decode cX7_ahead 83 = .ok (.iaload, 1) := by decide +kernel
theorem dX7_ahead_84 : decode cX7_ahead 84 = .ok (.aload_n 0, 1) := by decide +kernel
theorem dX7_ahead_85 : decode cX7_ahead 85 = .ok (.getfield 35, 3) := by decide +kernel
theorem dX7_ahead_88 : decode cX7_ahead 88 = .ok (.iload_n 3, 1) := by decide +kernel
theorem dX7_ahead_89 : decode cX7_ahead 89 = .ok (.iaload, 1) := by decide +kernel
theorem dX7_ahead_90 : decode cX7_ahead 90 = .ok (.if_icmp .ge 7, 3) := by decide +kernel
theorem dX7_ahead_93 : decode cX7_ahead 93 = .ok (.iconst 1, 1) := by decide +kernel
theorem dX7_ahead_94 : decode cX7_ahead 94 = .ok (.goto 4, 3) := by decide +kernel
theorem dX7_ahead_97 : decode cX7_ahead 97 = .ok (.iconst 0, 1) := by decide +kernel
theorem dX7_ahead_98 : decode cX7_ahead 98 = .ok (.ireturn, 1) := by decide +kernel
theorem dX7_ahead_99 : decode cX7_ahead 99 = .ok (.aload_n 0, 1) := by decide +kernel
theorem dX7_ahead_100 : decode cX7_ahead 100 = .ok (.getfield 13, 3) := by decide +kernel
theorem dX7_ahead_103 : decode cX7_ahead 103 = .ok (.bipush 30, 2) := by decide +kernel
theorem dX7_ahead_105 : decode cX7_ahead 105 = .ok (.iload_n 2, 1) := by decide +kernel
theorem dX7_ahead_106 : decode cX7_ahead 106 = .ok (.iadd, 1) := by decide +kernel
theorem dX7_ahead_107 : decode cX7_ahead 107 = .ok (.iaload, 1) := by decide +kernel
theorem dX7_ahead_108 : decode cX7_ahead 108 = .ok (.aload_n 0, 1) := by decide +kernel
theorem dX7_ahead_109 : decode cX7_ahead 109 = .ok (.getfield 13, 3) := by decide +kernel
theorem dX7_ahead_112 : decode cX7_ahead 112 = .ok (.bipush 30, 2) := by decide +kernel
theorem dX7_ahead_114 : decode cX7_ahead 114 = .ok (.iload_n 3, 1) := by decide +kernel
theorem dX7_ahead_115 : decode cX7_ahead 115 = .ok (.iadd, 1) := by decide +kernel
theorem dX7_ahead_116 : decode cX7_ahead 116 = .ok (.iaload, 1) := by decide +kernel
theorem dX7_ahead_117 : decode cX7_ahead 117 = .ok (.if_icmp .ge 7, 3) := by decide +kernel
theorem dX7_ahead_120 : decode cX7_ahead 120 = .ok (.iconst 1, 1) := by decide +kernel
theorem dX7_ahead_121 : decode cX7_ahead 121 = .ok (.goto 4, 3) := by decide +kernel
theorem dX7_ahead_124 : decode cX7_ahead 124 = .ok (.iconst 0, 1) := by decide +kernel
theorem dX7_ahead_125 : decode cX7_ahead 125 = .ok (.ireturn, 1) := by decide +kernel
theorem dX7_chosen_0 : decode cX7_chosen 0 = .ok (.bipush (-9), 2) := by decide +kernel
theorem dX7_chosen_2 : decode cX7_chosen 2 = .ok (.istore 4, 2) := by decide +kernel
theorem dX7_chosen_4 : decode cX7_chosen 4 = .ok (.iconst 1, 1) := by decide +kernel
theorem dX7_chosen_5 : decode cX7_chosen 5 = .ok (.istore 5, 2) := by decide +kernel
theorem dX7_chosen_7 : decode cX7_chosen 7 = .ok (.iload 5, 2) := by decide +kernel
theorem dX7_chosen_9 : decode cX7_chosen 9 = .ok (.aload_n 0, 1) := by decide +kernel
theorem dX7_chosen_10 : decode cX7_chosen 10 = .ok (.getfield 13, 3) := by decide +kernel
theorem dX7_chosen_13 : decode cX7_chosen 13 = .ok (.iconst 0, 1) := by decide +kernel
theorem dX7_chosen_14 : decode cX7_chosen 14 = .ok (.iaload, 1) := by decide +kernel
theorem dX7_chosen_15 : decode cX7_chosen 15 = .ok (.if_icmp .gt 72, 3) := by decide +kernel
theorem dX7_chosen_18 : decode cX7_chosen 18 = .ok (.iload_n 1, 1) := by decide +kernel
theorem dX7_chosen_19 : decode cX7_chosen 19 = .ok (.iconst 2, 1) := by decide +kernel
theorem dX7_chosen_20 : decode cX7_chosen 20 = .ok (.if_icmp .ne 17, 3) := by decide +kernel
theorem dX7_chosen_23 : decode cX7_chosen 23 = .ok (.iload_n 3, 1) := by decide +kernel
theorem dX7_chosen_24 : decode cX7_chosen 24 = .ok (.iload 5, 2) := by decide +kernel
theorem dX7_chosen_26 : decode cX7_chosen 26 = .ok (.iadd, 1) := by decide +kernel
theorem dX7_chosen_27 : decode cX7_chosen 27 = .ok (.aload_n 0, 1) := by decide +kernel
theorem dX7_chosen_28 : decode cX7_chosen 28 = .ok (.getfield 13, 3) := by decide +kernel
theorem dX7_chosen_31 : decode cX7_chosen 31 = .ok (.iconst 0, 1) := by decide +kernel
theorem dX7_chosen_32 : decode cX7_chosen 32 = .ok (.iaload, 1) := by decide +kernel
theorem dX7_chosen_33 : decode cX7_chosen 33 = .ok (.irem, 1) := by decide +kernel
theorem dX7_chosen_34 : decode cX7_chosen 34 = .ok (.goto 7, 3) := by decide +kernel
theorem dX7_chosen_37 : decode cX7_chosen 37 = .ok (.iload 5, 2) := by decide +kernel
theorem dX7_chosen_39 : decode cX7_chosen 39 = .ok (.iconst 1, 1) := by decide +kernel
theorem dX7_chosen_40 : decode cX7_chosen 40 = .ok (.isub, 1) := by decide +kernel
theorem dX7_chosen_41 : decode cX7_chosen 41 = .ok (.istore 6, 2) := by decide +kernel
theorem dX7_chosen_43 : decode cX7_chosen 43 = .ok (.aload_n 0, 1) := by decide +kernel
theorem dX7_chosen_44 : decode cX7_chosen 44 = .ok (.iload 6, 2) := by decide +kernel
theorem dX7_chosen_46 : decode cX7_chosen 46 = .ok (.iload_n 2, 1) := by decide +kernel
theorem dX7_chosen_47 : decode cX7_chosen 47 = .ok (.invokevirtual 106, 3) := by decide +kernel
theorem dX7_chosen_50 : decode cX7_chosen 50 = .ok (.ifCond .eq 31, 3) := by decide +kernel
theorem dX7_chosen_53 : decode cX7_chosen 53 = .ok (.iload 4, 2) := by decide +kernel
theorem dX7_chosen_55 : decode cX7_chosen 55 = .ok (.bipush (-9), 2) := by decide +kernel
theorem dX7_chosen_57 : decode cX7_chosen 57 = .ok (.if_icmp .eq 20, 3) := by decide +kernel
theorem dX7_chosen_60 : decode cX7_chosen 60 = .ok (.iload_n 1, 1) := by decide +kernel
theorem dX7_chosen_61 : decode cX7_chosen 61 = .ok (.iconst 2, 1) := by decide +kernel
theorem dX7_chosen_62 : decode cX7_chosen 62 = .ok (.if_icmp .eq 19, 3) := by decide +kernel
theorem dX7_chosen_65 : decode cX7_chosen 65 = .ok (.aload_n 0, 1) := by decide +kernel
theorem dX7_chosen_66 : decode cX7_chosen 66 = .ok (.iload_n 1, 1) := by decide +kernel
theorem dX7_chosen_67 : decode cX7_chosen 67 = .ok (.iload 6, 2) := by decide +kernel
theorem dX7_chosen_69 : decode cX7_chosen 69 = .ok (.iload 4, 2) := by decide +kernel
theorem dX7_chosen_71 : decode cX7_chosen 71 = .ok (.invokevirtual 109, 3) := by decide +kernel
theorem dX7_chosen_74 : decode cX7_chosen 74 = .ok (.ifCond .eq 7, 3) := by decide +kernel
theorem dX7_chosen_77 : decode cX7_chosen 77 = .ok (.iload 6, 2) := by decide +kernel
theorem dX7_chosen_79 : decode cX7_chosen 79 = .ok (.istore 4, 2) := by decide +kernel
theorem dX7_chosen_81 : decode cX7_chosen 81 = .ok (.iinc 5 1, 3) := by decide +kernel
theorem dX7_chosen_84 : decode cX7_chosen 84 = .ok (.goto (-77), 3) := by decide +kernel
theorem dX7_chosen_87 : decode cX7_chosen 87 = .ok (.iload 4, 2) := by decide +kernel
theorem dX7_chosen_89 : decode cX7_chosen 89 = .ok (.ireturn, 1) := by decide +kernel
theorem dX7_put_0 : decode cX7_put 0 = .ok (.aload_n 0, 1) := by decide +kernel
theorem dX7_put_1 : decode cX7_put 1 = .ok (.getfield 38, 3) := by decide +kernel
theorem dX7_put_4 : decode cX7_put 4 = .ok (.aload_n 0, 1) := by decide +kernel
theorem dX7_put_5 : decode cX7_put 5 = .ok (.getfield 113, 3) := by decide +kernel
theorem dX7_put_8 : decode cX7_put 8 = .ok (.iload_n 1, 1) := by decide +kernel
theorem dX7_put_9 : decode cX7_put 9 = .ok (.iastore, 1) := by decide +kernel
theorem dX7_put_10 : decode cX7_put 10 = .ok (.aload_n 0, 1) := by decide +kernel
theorem dX7_put_11 : decode cX7_put 11 = .ok (.getfield 41, 3) := by decide +kernel
theorem dX7_put_14 : decode cX7_put 14 = .ok (.aload_n 0, 1) := by decide +kernel
theorem dX7_put_15 : decode cX7_put 15 = .ok (.getfield 113, 3) := by decide +kernel
theorem dX7_put_18 : decode cX7_put 18 = .ok (.iload_n 2, 1) := by decide +kernel
theorem dX7_put_19 : decode cX7_put 19 = .ok (.iastore, 1) := by decide +kernel
theorem dX7_put_20 : decode cX7_put 20 = .ok (.aload_n 0, 1) := by decide +kernel
theorem dX7_put_21 : decode cX7_put 21 = .ok (.dup, 1) := by decide +kernel
theorem dX7_put_22 : decode cX7_put 22 = .ok (.getfield 113, 3) := by decide +kernel
theorem dX7_put_25 : decode cX7_put 25 = .ok (.iconst 1, 1) := by decide +kernel
theorem dX7_put_26 : decode cX7_put 26 = .ok (.iadd, 1) := by decide +kernel
theorem dX7_put_27 : decode cX7_put 27 = .ok (.putfield 113, 3) := by decide +kernel
theorem dX7_put_30 : decode cX7_put 30 = .ok (.aload_n 0, 1) := by decide +kernel
theorem dX7_put_31 : decode cX7_put 31 = .ok (.getfield 13, 3) := by decide +kernel
theorem dX7_put_34 : decode cX7_put 34 = .ok (.iconst 2, 1) := by decide +kernel
theorem dX7_put_35 : decode cX7_put 35 = .ok (.iaload, 1) := by decide +kernel
theorem dX7_put_36 : decode cX7_put 36 = .ok (.iconst 3, 1) := by decide +kernel
theorem dX7_put_37 : decode cX7_put 37 = .ok (.if_icmp .ne 42, 3) := by decide +kernel
theorem dX7_put_40 : decode cX7_put 40 = .ok (.aload_n 0, 1) := by decide +kernel
theorem dX7_put_41 : decode cX7_put 41 = .ok (.getfield 116, 3) := by decide +kernel
theorem dX7_put_44 : decode cX7_put 44 = .ok (.istore_n 3, 1) := by decide +kernel
theorem dX7_put_45 : decode cX7_put 45 = .ok (.iload_n 3, 1) := by decide +kernel
theorem dX7_put_46 : decode cX7_put 46 = .ok (.ifCond .le 23, 3) := by decide +kernel
theorem dX7_put_49 : decode cX7_put 49 = .ok (.aload_n 0, 1) := by decide +kernel
theorem dX7_put_50 : decode cX7_put 50 = .ok (.getfield 44, 3) := by decide +kernel
theorem dX7_put_53 : decode cX7_put 53 = .ok (.iload_n 3, 1) := by decide +kernel
theorem dX7_put_54 : decode cX7_put 54 = .ok (.aload_n 0, 1) := by decide +kernel
theorem dX7_put_55 : decode cX7_put 55 = .ok (.getfield 44, 3) := by decide +kernel
theorem dX7_put_58 : decode cX7_put 58 = .ok (.iload_n 3, 1) := by decide +kernel
theorem dX7_put_59 : decode cX7_put 59 = .ok (.iconst 1, 1) := by decide +kernel
theorem dX7_put_60 : decode cX7_put 60 = .ok (.isub, 1) := by decide +kernel
theorem dX7_put_61 : decode cX7_put 61 = .ok (.iaload, 1) := by decide +kernel
theorem dX7_put_62 : decode cX7_put 62 = .ok (.iastore, 1) := by decide +kernel
theorem dX7_put_63 : decode cX7_put 63 = .ok (.iinc 3 (-1), 3) := by decide +kernel
theorem dX7_put_66 : decode cX7_put 66 = .ok (.goto (-21), 3) := by decide +kernel
theorem dX7_put_69 : decode cX7_put 69 = .ok (.aload_n 0, 1) := by decide +kernel
theorem dX7_put_70 : decode cX7_put 70 = .ok (.getfield 44, 3) := by decide +kernel
theorem dX7_put_73 : decode cX7_put 73 = .ok (.iconst 0, 1) := by decide +kernel
theorem dX7_put_74 : decode cX7_put 74 = .ok (.iload_n 1, 1) := by decide +kernel
theorem dX7_put_75 : decode cX7_put 75 = .ok (.iastore, 1) := by decide +kernel
theorem dX7_put_76 : decode cX7_put 76 = .ok (.goto 13, 3) := by decide +kernel
theorem dX7_put_79 : decode cX7_put 79 = .ok (.aload_n 0, 1) := by decide +kernel
theorem dX7_put_80 : decode cX7_put 80 = .ok (.getfield 44, 3) := by decide +kernel
theorem dX7_put_83 : decode cX7_put 83 = .ok (.aload_n 0, 1) := by decide +kernel
theorem dX7_put_84 : decode cX7_put 84 = .ok (.getfield 116, 3) := by decide +kernel
theorem dX7_put_87 : decode cX7_put 87 = .ok (.iload_n 1, 1) := by decide +kernel
theorem dX7_put_88 : decode cX7_put 88 = .ok (.iastore, 1) := by decide +kernel
theorem dX7_put_89 : decode cX7_put 89 = .ok (.aload_n 0, 1) := by decide +kernel
theorem dX7_put_90 : decode cX7_put 90 = .ok (.dup, 1) := by decide +kernel
theorem dX7_put_91 : decode cX7_put 91 = .ok (.getfield 116, 3) := by decide +kernel
theorem dX7_put_94 : decode cX7_put 94 = .ok (.iconst 1, 1) := by decide +kernel
theorem dX7_put_95 : decode cX7_put 95 = .ok (.iadd, 1) := by decide +kernel
theorem dX7_put_96 : decode cX7_put 96 = .ok (.putfield 116, 3) := by decide +kernel
theorem dX7_put_99 : decode cX7_put 99 = .ok (.aload_n 0, 1) := by decide +kernel
theorem dX7_put_100 : decode cX7_put 100 = .ok (.getfield 47, 3) := by decide +kernel
theorem dX7_put_103 : decode cX7_put 103 = .ok (.iload_n 1, 1) := by decide +kernel
theorem dX7_put_104 : decode cX7_put 104 = .ok (.iaload, 1) := by decide +kernel
theorem dX7_put_105 : decode cX7_put 105 = .ok (.bipush (-8), 2) := by decide +kernel
theorem dX7_put_107 : decode cX7_put 107 = .ok (.if_icmp .ne 11, 3) := by decide +kernel
theorem dX7_put_110 : decode cX7_put 110 = .ok (.aload_n 0, 1) := by decide +kernel
theorem dX7_put_111 : decode cX7_put 111 = .ok (.getfield 47, 3) := by decide +kernel
theorem dX7_put_114 : decode cX7_put 114 = .ok (.iload_n 1, 1) := by decide +kernel
theorem dX7_put_115 : decode cX7_put 115 = .ok (.bipush (-9), 2) := by decide +kernel
theorem dX7_put_117 : decode cX7_put 117 = .ok (.iastore, 1) := by decide +kernel
theorem dX7_put_118 : decode cX7_put 118 = .ok (.return_, 1) := by decide +kernel
theorem dX7_isWhole_0 : decode cX7_isWhole 0 = .ok (.iconst 0, 1) := by decide +kernel
theorem dX7_isWhole_1 : decode cX7_isWhole 1 = .ok (.istore_n 2, 1) := by decide +kernel
theorem dX7_isWhole_2 : decode cX7_isWhole 2 = .ok (.iconst 0, 1) := by decide +kernel
theorem dX7_isWhole_3 : decode cX7_isWhole 3 = .ok (.istore_n 3, 1) := by decide +kernel
theorem dX7_isWhole_4 : decode cX7_isWhole 4 = .ok (.iload_n 3, 1) := by decide +kernel
theorem dX7_isWhole_5 : decode cX7_isWhole 5 = .ok (.aload_n 0, 1) := by decide +kernel
theorem dX7_isWhole_6 : decode cX7_isWhole 6 = .ok (.getfield 116, 3) := by decide +kernel
theorem dX7_isWhole_9 : decode cX7_isWhole 9 = .ok (.if_icmp .ge 40, 3) := by decide +kernel
theorem dX7_isWhole_12 : decode cX7_isWhole 12 = .ok (.iload_n 2, 1) := by decide +kernel
theorem dX7_isWhole_13 : decode cX7_isWhole 13 = .ok (.aload_n 0, 1) := by decide +kernel
theorem dX7_isWhole_14 : decode cX7_isWhole 14 = .ok (.getfield 44, 3) := by decide +kernel
theorem dX7_isWhole_17 : decode cX7_isWhole 17 = .ok (.iload_n 3, 1) := by decide +kernel
theorem dX7_isWhole_18 : decode cX7_isWhole 18 = .ok (.iaload, 1) := by decide +kernel
theorem dX7_isWhole_19 : decode cX7_isWhole 19 = .ok (.bipush 10, 2) := by decide +kernel
theorem dX7_isWhole_21 : decode cX7_isWhole 21 = .ok (.idiv, 1) := by decide +kernel
theorem dX7_isWhole_22 : decode cX7_isWhole 22 = .ok (.iload_n 1, 1) := by decide +kernel
theorem dX7_isWhole_23 : decode cX7_isWhole 23 = .ok (.if_icmp .ne 17, 3) := by decide +kernel
theorem dX7_isWhole_26 : decode cX7_isWhole 26 = .ok (.iconst 1, 1) := by decide +kernel
theorem dX7_isWhole_27 : decode cX7_isWhole 27 = .ok (.aload_n 0, 1) := by decide +kernel
theorem dX7_isWhole_28 : decode cX7_isWhole 28 = .ok (.getfield 44, 3) := by decide +kernel
theorem dX7_isWhole_31 : decode cX7_isWhole 31 = .ok (.iload_n 3, 1) := by decide +kernel
theorem dX7_isWhole_32 : decode cX7_isWhole 32 = .ok (.iaload, 1) := by decide +kernel
theorem dX7_isWhole_33 : decode cX7_isWhole 33 = .ok (.bipush 10, 2) := by decide +kernel
theorem dX7_isWhole_35 : decode cX7_isWhole 35 = .ok (.irem, 1) := by decide +kernel
theorem dX7_isWhole_36 : decode cX7_isWhole 36 = .ok (.ishl, 1) := by decide +kernel
theorem dX7_isWhole_37 : decode cX7_isWhole 37 = .ok (.goto 4, 3) := by decide +kernel
theorem dX7_isWhole_40 : decode cX7_isWhole 40 = .ok (.iconst 0, 1) := by decide +kernel
theorem dX7_isWhole_41 : decode cX7_isWhole 41 = .ok (.ior, 1) := by decide +kernel
theorem dX7_isWhole_42 : decode cX7_isWhole 42 = .ok (.istore_n 2, 1) := by decide +kernel
theorem dX7_isWhole_43 : decode cX7_isWhole 43 = .ok (.iinc 3 1, 3) := by decide +kernel
theorem dX7_isWhole_46 : decode cX7_isWhole 46 = .ok (.goto (-42), 3) := by decide +kernel
theorem dX7_isWhole_49 : decode cX7_isWhole 49 = .ok (.iload_n 2, 1) := by decide +kernel
theorem dX7_isWhole_50 : decode cX7_isWhole 50 = .ok (.iconst 2, 1) := by decide +kernel
theorem dX7_isWhole_51 : decode cX7_isWhole 51 = .ok (.aload_n 0, 1) := by decide +kernel
theorem dX7_isWhole_52 : decode cX7_isWhole 52 = .ok (.getfield 13, 3) := by decide +kernel
theorem dX7_isWhole_55 : decode cX7_isWhole 55 = .ok (.bipush 20, 2) := by decide +kernel
theorem dX7_isWhole_57 : decode cX7_isWhole 57 = .ok (.iload_n 1, 1) := by decide +kernel
theorem dX7_isWhole_58 : decode cX7_isWhole 58 = .ok (.iadd, 1) := by decide +kernel
theorem dX7_isWhole_59 : decode cX7_isWhole 59 = .ok (.iaload, 1) := by decide +kernel
theorem dX7_isWhole_60 : decode cX7_isWhole 60 = .ok (.ishl, 1) := by decide +kernel
theorem dX7_isWhole_61 : decode cX7_isWhole 61 = .ok (.iconst 2, 1) := by decide +kernel
theorem dX7_isWhole_62 : decode cX7_isWhole 62 = .ok (.isub, 1) := by decide +kernel
theorem dX7_isWhole_63 : decode cX7_isWhole 63 = .ok (.if_icmp .ne 7, 3) := by decide +kernel
theorem dX7_isWhole_66 : decode cX7_isWhole 66 = .ok (.iconst 1, 1) := by decide +kernel
theorem dX7_isWhole_67 : decode cX7_isWhole 67 = .ok (.goto 4, 3) := by decide +kernel
theorem dX7_isWhole_70 : decode cX7_isWhole 70 = .ok (.iconst 0, 1) := by decide +kernel
theorem dX7_isWhole_71 : decode cX7_isWhole 71 = .ok (.ireturn, 1) := by decide +kernel
theorem dX7_takesSome_0 : decode cX7_takesSome 0 = .ok (.iconst 0, 1) := by decide +kernel
theorem dX7_takesSome_1 : decode cX7_takesSome 1 = .ok (.istore_n 2, 1) := by decide +kernel
theorem dX7_takesSome_2 : decode cX7_takesSome 2 = .ok (.iload_n 2, 1) := by decide +kernel
theorem dX7_takesSome_3 : decode cX7_takesSome 3 = .ok (.aload_n 0, 1) := by decide +kernel
theorem dX7_takesSome_4 : decode cX7_takesSome 4 = .ok (.getfield 13, 3) := by decide +kernel
theorem dX7_takesSome_7 : decode cX7_takesSome 7 = .ok (.iconst 0, 1) := by decide +kernel
theorem dX7_takesSome_8 : decode cX7_takesSome 8 = .ok (.iaload, 1) := by decide +kernel
theorem dX7_takesSome_9 : decode cX7_takesSome 9 = .ok (.if_icmp .ge 40, 3) := by decide +kernel
theorem dX7_takesSome_12 : decode cX7_takesSome 12 = .ok (.aload_n 0, 1) := by decide +kernel
theorem dX7_takesSome_13 : decode cX7_takesSome 13 = .ok (.getfield 13, 3) := by decide +kernel
theorem dX7_takesSome_16 : decode cX7_takesSome 16 = .ok (.bipush 10, 2) := by decide +kernel
theorem dX7_takesSome_18 : decode cX7_takesSome 18 = .ok (.iload_n 2, 1) := by decide +kernel
theorem dX7_takesSome_19 : decode cX7_takesSome 19 = .ok (.iadd, 1) := by decide +kernel
theorem dX7_takesSome_20 : decode cX7_takesSome 20 = .ok (.iaload, 1) := by decide +kernel
theorem dX7_takesSome_21 : decode cX7_takesSome 21 = .ok (.aload_n 0, 1) := by decide +kernel
theorem dX7_takesSome_22 : decode cX7_takesSome 22 = .ok (.getfield 13, 3) := by decide +kernel
theorem dX7_takesSome_25 : decode cX7_takesSome 25 = .ok (.bipush 50, 2) := by decide +kernel
theorem dX7_takesSome_27 : decode cX7_takesSome 27 = .ok (.iload_n 1, 1) := by decide +kernel
theorem dX7_takesSome_28 : decode cX7_takesSome 28 = .ok (.iadd, 1) := by decide +kernel
theorem dX7_takesSome_29 : decode cX7_takesSome 29 = .ok (.iaload, 1) := by decide +kernel
theorem dX7_takesSome_30 : decode cX7_takesSome 30 = .ok (.if_icmp .ne 13, 3) := by decide +kernel
theorem dX7_takesSome_33 : decode cX7_takesSome 33 = .ok (.aload_n 0, 1) := by decide +kernel
theorem dX7_takesSome_34 : decode cX7_takesSome 34 = .ok (.iload_n 2, 1) := by decide +kernel
theorem dX7_takesSome_35 : decode cX7_takesSome 35 = .ok (.invokevirtual 119, 3) := by decide +kernel
theorem dX7_takesSome_38 : decode cX7_takesSome 38 = .ok (.ifCond .eq 5, 3) := by decide +kernel
theorem dX7_takesSome_41 : decode cX7_takesSome 41 = .ok (.iconst 1, 1) := by decide +kernel
theorem dX7_takesSome_42 : decode cX7_takesSome 42 = .ok (.ireturn, 1) := by decide +kernel
theorem dX7_takesSome_43 : decode cX7_takesSome 43 = .ok (.iinc 2 1, 3) := by decide +kernel
theorem dX7_takesSome_46 : decode cX7_takesSome 46 = .ok (.goto (-44), 3) := by decide +kernel
theorem dX7_takesSome_49 : decode cX7_takesSome 49 = .ok (.iconst 0, 1) := by decide +kernel
theorem dX7_takesSome_50 : decode cX7_takesSome 50 = .ok (.ireturn, 1) := by decide +kernel
theorem dX7_take_0 : decode cX7_take 0 = .ok (.aload_n 0, 1) := by decide +kernel
theorem dX7_take_1 : decode cX7_take 1 = .ok (.getfield 13, 3) := by decide +kernel
theorem dX7_take_4 : decode cX7_take 4 = .ok (.bipush 40, 2) := by decide +kernel
theorem dX7_take_6 : decode cX7_take 6 = .ok (.iload_n 1, 1) := by decide +kernel
theorem dX7_take_7 : decode cX7_take 7 = .ok (.iadd, 1) := by decide +kernel
theorem dX7_take_8 : decode cX7_take 8 = .ok (.iaload, 1) := by decide +kernel
theorem dX7_take_9 : decode cX7_take 9 = .ok (.istore_n 2, 1) := by decide +kernel
theorem dX7_take_10 : decode cX7_take 10 = .ok (.aload_n 0, 1) := by decide +kernel
theorem dX7_take_11 : decode cX7_take 11 = .ok (.getfield 13, 3) := by decide +kernel
theorem dX7_take_14 : decode cX7_take 14 = .ok (.bipush 50, 2) := by decide +kernel
theorem dX7_take_16 : decode cX7_take 16 = .ok (.iload_n 1, 1) := by decide +kernel
theorem dX7_take_17 : decode cX7_take 17 = .ok (.iadd, 1) := by decide +kernel
theorem dX7_take_18 : decode cX7_take 18 = .ok (.iaload, 1) := by decide +kernel
theorem dX7_take_19 : decode cX7_take 19 = .ok (.istore_n 3, 1) := by decide +kernel
theorem dX7_take_20 : decode cX7_take 20 = .ok (.aload_n 0, 1) := by decide +kernel
theorem dX7_take_21 : decode cX7_take 21 = .ok (.getfield 13, 3) := by decide +kernel
theorem dX7_take_24 : decode cX7_take 24 = .ok (.bipush 60, 2) := by decide +kernel
theorem dX7_take_26 : decode cX7_take 26 = .ok (.iload_n 1, 1) := by decide +kernel
theorem dX7_take_27 : decode cX7_take 27 = .ok (.iadd, 1) := by decide +kernel
theorem dX7_take_28 : decode cX7_take 28 = .ok (.iaload, 1) := by decide +kernel
theorem dX7_take_29 : decode cX7_take 29 = .ok (.istore 4, 2) := by decide +kernel
theorem dX7_take_31 : decode cX7_take 31 = .ok (.iload_n 2, 1) := by decide +kernel
theorem dX7_take_32 : decode cX7_take 32 = .ok (.iconst 3, 1) := by decide +kernel
theorem dX7_take_33 : decode cX7_take 33 = .ok (.if_icmp .ne 15, 3) := by decide +kernel
theorem dX7_take_36 : decode cX7_take 36 = .ok (.aload_n 0, 1) := by decide +kernel
theorem dX7_take_37 : decode cX7_take 37 = .ok (.iload_n 1, 1) := by decide +kernel
theorem dX7_take_38 : decode cX7_take 38 = .ok (.invokevirtual 123, 3) := by decide +kernel
theorem dX7_take_41 : decode cX7_take 41 = .ok (.ifCond .eq 7, 3) := by decide +kernel
theorem dX7_take_44 : decode cX7_take 44 = .ok (.iconst 1, 1) := by decide +kernel
theorem dX7_take_45 : decode cX7_take 45 = .ok (.goto 4, 3) := by decide +kernel
theorem dX7_take_48 : decode cX7_take 48 = .ok (.iconst 0, 1) := by decide +kernel
theorem dX7_take_49 : decode cX7_take 49 = .ok (.istore 5, 2) := by decide +kernel
theorem dX7_take_51 : decode cX7_take 51 = .ok (.iconst 0, 1) := by decide +kernel
theorem dX7_take_52 : decode cX7_take 52 = .ok (.istore 6, 2) := by decide +kernel
theorem dX7_take_54 : decode cX7_take 54 = .ok (.iload 6, 2) := by decide +kernel
theorem dX7_take_56 : decode cX7_take 56 = .ok (.aload_n 0, 1) := by decide +kernel
theorem dX7_take_57 : decode cX7_take 57 = .ok (.getfield 13, 3) := by decide +kernel
theorem dX7_take_60 : decode cX7_take 60 = .ok (.iconst 0, 1) := by decide +kernel
theorem dX7_take_61 : decode cX7_take 61 = .ok (.iaload, 1) := by decide +kernel
theorem dX7_take_62 : decode cX7_take 62 = .ok (.if_icmp .ge 22, 3) := by decide +kernel
theorem dX7_take_65 : decode cX7_take 65 = .ok (.aload_n 0, 1) := by decide +kernel
theorem dX7_take_66 : decode cX7_take 66 = .ok (.getfield 50, 3) := by decide +kernel
theorem dX7_take_69 : decode cX7_take 69 = .ok (.iload 6, 2) := by decide +kernel
theorem dX7_take_71 : decode cX7_take 71 = .ok (.aload_n 0, 1) := by decide +kernel
theorem dX7_take_72 : decode cX7_take 72 = .ok (.iload 6, 2) := by decide +kernel
theorem dX7_take_74 : decode cX7_take 74 = .ok (.invokevirtual 119, 3) := by decide +kernel
theorem dX7_take_77 : decode cX7_take 77 = .ok (.bastore, 1) := by decide +kernel
theorem dX7_take_78 : decode cX7_take 78 = .ok (.iinc 6 1, 3) := by decide +kernel
theorem dX7_take_81 : decode cX7_take 81 = .ok (.goto (-27), 3) := by decide +kernel
theorem dX7_take_84 : decode cX7_take 84 = .ok (.iconst 0, 1) := by decide +kernel
theorem dX7_take_85 : decode cX7_take 85 = .ok (.istore 6, 2) := by decide +kernel
theorem dX7_take_87 : decode cX7_take 87 = .ok (.aload_n 0, 1) := by decide +kernel
theorem dX7_take_88 : decode cX7_take 88 = .ok (.getfield 116, 3) := by decide +kernel
theorem dX7_take_91 : decode cX7_take 91 = .ok (.istore 7, 2) := by decide +kernel
theorem dX7_take_93 : decode cX7_take 93 = .ok (.iconst 0, 1) := by decide +kernel
theorem dX7_take_94 : decode cX7_take 94 = .ok (.istore 8, 2) := by decide +kernel
theorem dX7_take_96 : decode cX7_take 96 = .ok (.iload 8, 2) := by decide +kernel
theorem dX7_take_98 : decode cX7_take 98 = .ok (.iload 7, 2) := by decide +kernel
theorem dX7_take_100 : decode cX7_take 100 = .ok (.if_icmp .ge 141, 3) := by decide +kernel
theorem dX7_take_103 : decode cX7_take 103 = .ok (.aload_n 0, 1) := by decide +kernel
theorem dX7_take_104 : decode cX7_take 104 = .ok (.getfield 44, 3) := by decide +kernel
theorem dX7_take_107 : decode cX7_take 107 = .ok (.iload 8, 2) := by decide +kernel
theorem dX7_take_109 : decode cX7_take 109 = .ok (.iaload, 1) := by decide +kernel
theorem dX7_take_110 : decode cX7_take 110 = .ok (.istore 9, 2) := by decide +kernel
theorem dX7_take_112 : decode cX7_take 112 = .ok (.aload_n 0, 1) := by decide +kernel
theorem dX7_take_113 : decode cX7_take 113 = .ok (.getfield 13, 3) := by decide +kernel
theorem dX7_take_116 : decode cX7_take 116 = .ok (.bipush 10, 2) := by decide +kernel
theorem dX7_take_118 : decode cX7_take 118 = .ok (.iload 9, 2) := by decide +kernel
theorem dX7_take_120 : decode cX7_take 120 = .ok (.bipush 10, 2) := by decide +kernel
theorem dX7_take_122 : decode cX7_take 122 = .ok (.idiv, 1) := by decide +kernel
theorem dX7_take_123 : decode cX7_take 123 = .ok (.iadd, 1) := by decide +kernel
theorem dX7_take_124 : decode cX7_take 124 = .ok (.iaload, 1) := by decide +kernel
theorem dX7_take_125 : decode cX7_take 125 = .ok (.iload_n 3, 1) := by decide +kernel
theorem dX7_take_126 : decode cX7_take 126 = .ok (.if_icmp .ne 7, 3) := by decide +kernel
theorem dX7_take_129 : decode cX7_take 129 = .ok (.iconst 1, 1) := by decide +kernel
theorem dX7_take_130 : decode cX7_take 130 = .ok (.goto 4, 3) := by decide +kernel
theorem dX7_take_133 : decode cX7_take 133 = .ok (.iconst 0, 1) := by decide +kernel
theorem dX7_take_134 : decode cX7_take 134 = .ok (.istore 10, 2) := by decide +kernel
theorem dX7_take_136 : decode cX7_take 136 = .ok (.iload_n 2, 1) := by decide +kernel
theorem dX7_take_137 : decode cX7_take 137 = .ok (.ifCond .eq 63, 3) := by decide +kernel
theorem dX7_take_140 : decode cX7_take 140 = .ok (.iload 10, 2) := by decide +kernel
theorem dX7_take_142 : decode cX7_take 142 = .ok (.ifCond .eq 31, 3) := by decide +kernel
theorem dX7_take_145 : decode cX7_take 145 = .ok (.iload_n 2, 1) := by decide +kernel
theorem dX7_take_146 : decode cX7_take 146 = .ok (.iconst 1, 1) := by decide +kernel
theorem dX7_take_147 : decode cX7_take 147 = .ok (.if_icmp .eq 53, 3) := by decide +kernel
theorem dX7_take_150 : decode cX7_take 150 = .ok (.iload 5, 2) := by decide +kernel
theorem dX7_take_152 : decode cX7_take 152 = .ok (.ifCond .ne 48, 3) := by decide +kernel
theorem dX7_take_155 : decode cX7_take 155 = .ok (.iload_n 2, 1) := by decide +kernel
theorem dX7_take_156 : decode cX7_take 156 = .ok (.iconst 5, 1) := by decide +kernel
theorem dX7_take_157 : decode cX7_take 157 = .ok (.if_icmp .ne 16, 3) := by decide +kernel
theorem dX7_take_160 : decode cX7_take 160 = .ok (.aload_n 0, 1) := by decide +kernel
theorem dX7_take_161 : decode cX7_take 161 = .ok (.getfield 50, 3) := by decide +kernel
theorem dX7_take_164 : decode cX7_take 164 = .ok (.iload 9, 2) := by decide +kernel
theorem dX7_take_166 : decode cX7_take 166 = .ok (.bipush 10, 2) := by decide +kernel
theorem dX7_take_168 : decode cX7_take 168 = .ok (.idiv, 1) := by decide +kernel
theorem dX7_take_169 : decode cX7_take 169 = .ok (.baload, 1) := by decide +kernel
theorem dX7_take_170 : decode cX7_take 170 = .ok (.ifCond .ne 30, 3) := by decide +kernel
theorem dX7_take_173 : decode cX7_take 173 = .ok (.iload_n 2, 1) := by decide +kernel
theorem dX7_take_174 : decode cX7_take 174 = .ok (.iconst 2, 1) := by decide +kernel
theorem dX7_take_175 : decode cX7_take 175 = .ok (.if_icmp .ne 13, 3) := by decide +kernel
theorem dX7_take_178 : decode cX7_take 178 = .ok (.iload 8, 2) := by decide +kernel
theorem dX7_take_180 : decode cX7_take 180 = .ok (.iload 7, 2) := by decide +kernel
theorem dX7_take_182 : decode cX7_take 182 = .ok (.iload 4, 2) := by decide +kernel
theorem dX7_take_184 : decode cX7_take 184 = .ok (.isub, 1) := by decide +kernel
theorem dX7_take_185 : decode cX7_take 185 = .ok (.if_icmp .ge 15, 3) := by decide +kernel
theorem dX7_take_188 : decode cX7_take 188 = .ok (.iload_n 2, 1) := by decide +kernel
theorem dX7_take_189 : decode cX7_take 189 = .ok (.iconst 4, 1) := by decide +kernel
theorem dX7_take_190 : decode cX7_take 190 = .ok (.if_icmp .ne 14, 3) := by decide +kernel
theorem dX7_take_193 : decode cX7_take 193 = .ok (.iload 8, 2) := by decide +kernel
theorem dX7_take_195 : decode cX7_take 195 = .ok (.iload 4, 2) := by decide +kernel
theorem dX7_take_197 : decode cX7_take 197 = .ok (.if_icmp .ge 7, 3) := by decide +kernel
theorem dX7_take_200 : decode cX7_take 200 = .ok (.iconst 1, 1) := by decide +kernel
theorem dX7_take_201 : decode cX7_take 201 = .ok (.goto 4, 3) := by decide +kernel
theorem dX7_take_204 : decode cX7_take 204 = .ok (.iconst 0, 1) := by decide +kernel
theorem dX7_take_205 : decode cX7_take 205 = .ok (.istore 11, 2) := by decide +kernel
theorem dX7_take_207 : decode cX7_take 207 = .ok (.iload 11, 2) := by decide +kernel
theorem dX7_take_209 : decode cX7_take 209 = .ok (.ifCond .eq 14, 3) := by decide +kernel
theorem dX7_take_212 : decode cX7_take 212 = .ok (.aload_n 0, 1) := by decide +kernel
theorem dX7_take_213 : decode cX7_take 213 = .ok (.getfield 47, 3) := by decide +kernel
theorem dX7_take_216 : decode cX7_take 216 = .ok (.iload 9, 2) := by decide +kernel
theorem dX7_take_218 : decode cX7_take 218 = .ok (.iload_n 3, 1) := by decide +kernel
theorem dX7_take_219 : decode cX7_take 219 = .ok (.iastore, 1) := by decide +kernel
theorem dX7_take_220 : decode cX7_take 220 = .ok (.goto 15, 3) := by decide +kernel
theorem dX7_take_223 : decode cX7_take 223 = .ok (.aload_n 0, 1) := by decide +kernel
theorem dX7_take_224 : decode cX7_take 224 = .ok (.getfield 44, 3) := by decide +kernel
theorem dX7_take_227 : decode cX7_take 227 = .ok (.iload 6, 2) := by decide +kernel
theorem dX7_take_229 : decode cX7_take 229 = .ok (.iload 9, 2) := by decide +kernel
theorem dX7_take_231 : decode cX7_take 231 = .ok (.iastore, 1) := by decide +kernel
theorem dX7_take_232 : decode cX7_take 232 = .ok (.iinc 6 1, 3) := by decide +kernel
theorem dX7_take_235 : decode cX7_take 235 = .ok (.iinc 8 1, 3) := by decide +kernel
theorem dX7_take_238 : decode cX7_take 238 = .ok (.goto (-142), 3) := by decide +kernel
theorem dX7_take_241 : decode cX7_take 241 = .ok (.aload_n 0, 1) := by decide +kernel
theorem dX7_take_242 : decode cX7_take 242 = .ok (.iload 6, 2) := by decide +kernel
theorem dX7_take_244 : decode cX7_take 244 = .ok (.putfield 116, 3) := by decide +kernel
theorem dX7_take_247 : decode cX7_take 247 = .ok (.return_, 1) := by decide +kernel
theorem dX7_goTo_0 : decode cX7_goTo 0 = .ok (.aload_n 0, 1) := by decide +kernel
theorem dX7_goTo_1 : decode cX7_goTo 1 = .ok (.iconst 0, 1) := by decide +kernel
theorem dX7_goTo_2 : decode cX7_goTo 2 = .ok (.putfield 113, 3) := by decide +kernel
theorem dX7_goTo_5 : decode cX7_goTo 5 = .ok (.aload_n 0, 1) := by decide +kernel
theorem dX7_goTo_6 : decode cX7_goTo 6 = .ok (.iconst 0, 1) := by decide +kernel
theorem dX7_goTo_7 : decode cX7_goTo 7 = .ok (.putfield 116, 3) := by decide +kernel
theorem dX7_goTo_10 : decode cX7_goTo 10 = .ok (.iconst 0, 1) := by decide +kernel
theorem dX7_goTo_11 : decode cX7_goTo 11 = .ok (.istore_n 2, 1) := by decide +kernel
theorem dX7_goTo_12 : decode cX7_goTo 12 = .ok (.iload_n 2, 1) := by decide +kernel
theorem dX7_goTo_13 : decode cX7_goTo 13 = .ok (.bipush 6, 2) := by decide +kernel
theorem dX7_goTo_15 : decode cX7_goTo 15 = .ok (.if_icmp .ge 38, 3) := by decide +kernel
theorem dX7_goTo_18 : decode cX7_goTo 18 = .ok (.aload_n 0, 1) := by decide +kernel
theorem dX7_goTo_19 : decode cX7_goTo 19 = .ok (.getfield 35, 3) := by decide +kernel
theorem dX7_goTo_22 : decode cX7_goTo 22 = .ok (.iload_n 2, 1) := by decide +kernel
theorem dX7_goTo_23 : decode cX7_goTo 23 = .ok (.iload_n 2, 1) := by decide +kernel
theorem dX7_goTo_24 : decode cX7_goTo 24 = .ok (.aload_n 0, 1) := by decide +kernel
theorem dX7_goTo_25 : decode cX7_goTo 25 = .ok (.getfield 13, 3) := by decide +kernel
theorem dX7_goTo_28 : decode cX7_goTo 28 = .ok (.iconst 0, 1) := by decide +kernel
theorem dX7_goTo_29 : decode cX7_goTo 29 = .ok (.iaload, 1) := by decide +kernel
theorem dX7_goTo_30 : decode cX7_goTo 30 = .ok (.if_icmp .ge 15, 3) := by decide +kernel
theorem dX7_goTo_33 : decode cX7_goTo 33 = .ok (.aload_n 0, 1) := by decide +kernel
theorem dX7_goTo_34 : decode cX7_goTo 34 = .ok (.getfield 13, 3) := by decide +kernel
theorem dX7_goTo_37 : decode cX7_goTo 37 = .ok (.bipush 20, 2) := by decide +kernel
theorem dX7_goTo_39 : decode cX7_goTo 39 = .ok (.iload_n 2, 1) := by decide +kernel
theorem dX7_goTo_40 : decode cX7_goTo 40 = .ok (.iadd, 1) := by decide +kernel
theorem dX7_goTo_41 : decode cX7_goTo 41 = .ok (.iaload, 1) := by decide +kernel
theorem dX7_goTo_42 : decode cX7_goTo 42 = .ok (.goto 4, 3) := by decide +kernel
theorem dX7_goTo_45 : decode cX7_goTo 45 = .ok (.iconst 0, 1) := by decide +kernel
theorem dX7_goTo_46 : decode cX7_goTo 46 = .ok (.iastore, 1) := by decide +kernel
theorem dX7_goTo_47 : decode cX7_goTo 47 = .ok (.iinc 2 1, 3) := by decide +kernel
theorem dX7_goTo_50 : decode cX7_goTo 50 = .ok (.goto (-38), 3) := by decide +kernel
theorem dX7_goTo_53 : decode cX7_goTo 53 = .ok (.iconst 0, 1) := by decide +kernel
theorem dX7_goTo_54 : decode cX7_goTo 54 = .ok (.istore_n 2, 1) := by decide +kernel
theorem dX7_goTo_55 : decode cX7_goTo 55 = .ok (.iload_n 2, 1) := by decide +kernel
theorem dX7_goTo_56 : decode cX7_goTo 56 = .ok (.bipush 60, 2) := by decide +kernel
theorem dX7_goTo_58 : decode cX7_goTo 58 = .ok (.if_icmp .ge 17, 3) := by decide +kernel
theorem dX7_goTo_61 : decode cX7_goTo 61 = .ok (.aload_n 0, 1) := by decide +kernel
theorem dX7_goTo_62 : decode cX7_goTo 62 = .ok (.getfield 47, 3) := by decide +kernel
theorem dX7_goTo_65 : decode cX7_goTo 65 = .ok (.iload_n 2, 1) := by decide +kernel
theorem dX7_goTo_66 : decode cX7_goTo 66 = .ok (.bipush (-8), 2) := by decide +kernel
theorem dX7_goTo_68 : decode cX7_goTo 68 = .ok (.iastore, 1) := by decide +kernel
theorem dX7_goTo_69 : decode cX7_goTo 69 = .ok (.iinc 2 1, 3) := by decide +kernel
theorem dX7_goTo_72 : decode cX7_goTo 72 = .ok (.goto (-17), 3) := by decide +kernel
theorem dX7_goTo_75 : decode cX7_goTo 75 = .ok (.aload_n 0, 1) := by decide +kernel
theorem dX7_goTo_76 : decode cX7_goTo 76 = .ok (.getfield 13, 3) := by decide +kernel
theorem dX7_goTo_79 : decode cX7_goTo 79 = .ok (.iconst 2, 1) := by decide +kernel
theorem dX7_goTo_80 : decode cX7_goTo 80 = .ok (.iaload, 1) := by decide +kernel
theorem dX7_goTo_81 : decode cX7_goTo 81 = .ok (.istore_n 2, 1) := by decide +kernel
theorem dX7_goTo_82 : decode cX7_goTo 82 = .ok (.aload_n 0, 1) := by decide +kernel
theorem dX7_goTo_83 : decode cX7_goTo 83 = .ok (.getfield 13, 3) := by decide +kernel
theorem dX7_goTo_86 : decode cX7_goTo 86 = .ok (.iconst 0, 1) := by decide +kernel
theorem dX7_goTo_87 : decode cX7_goTo 87 = .ok (.iaload, 1) := by decide +kernel
theorem dX7_goTo_88 : decode cX7_goTo 88 = .ok (.iconst 1, 1) := by decide +kernel
theorem dX7_goTo_89 : decode cX7_goTo 89 = .ok (.isub, 1) := by decide +kernel
theorem dX7_goTo_90 : decode cX7_goTo 90 = .ok (.istore_n 3, 1) := by decide +kernel
theorem dX7_goTo_91 : decode cX7_goTo 91 = .ok (.iconst 0, 1) := by decide +kernel
theorem dX7_goTo_92 : decode cX7_goTo 92 = .ok (.istore 4, 2) := by decide +kernel
theorem dX7_goTo_94 : decode cX7_goTo 94 = .ok (.iconst 0, 1) := by decide +kernel
theorem dX7_goTo_95 : decode cX7_goTo 95 = .ok (.istore 5, 2) := by decide +kernel
theorem dX7_goTo_97 : decode cX7_goTo 97 = .ok (.iload 5, 2) := by decide +kernel
theorem dX7_goTo_99 : decode cX7_goTo 99 = .ok (.iload_n 1, 1) := by decide +kernel
theorem dX7_goTo_100 : decode cX7_goTo 100 = .ok (.if_icmp .gt 176, 3) := by decide +kernel
theorem dX7_goTo_103 : decode cX7_goTo 103 = .ok (.iload_n 2, 1) := by decide +kernel
theorem dX7_goTo_104 : decode cX7_goTo 104 = .ok (.iconst 4, 1) := by decide +kernel
theorem dX7_goTo_105 : decode cX7_goTo 105 = .ok (.if_icmp .ne 46, 3) := by decide +kernel
theorem dX7_goTo_108 : decode cX7_goTo 108 = .ok (.aload_n 0, 1) := by decide +kernel
theorem dX7_goTo_109 : decode cX7_goTo 109 = .ok (.getfield 13, 3) := by decide +kernel
theorem dX7_goTo_112 : decode cX7_goTo 112 = .ok (.iconst 3, 1) := by decide +kernel
theorem dX7_goTo_113 : decode cX7_goTo 113 = .ok (.iaload, 1) := by decide +kernel
theorem dX7_goTo_114 : decode cX7_goTo 114 = .ok (.ifCond .le 37, 3) := by decide +kernel
theorem dX7_goTo_117 : decode cX7_goTo 117 = .ok (.iload 4, 2) := by decide +kernel
theorem dX7_goTo_119 : decode cX7_goTo 119 = .ok (.aload_n 0, 1) := by decide +kernel
theorem dX7_goTo_120 : decode cX7_goTo 120 = .ok (.getfield 13, 3) := by decide +kernel
theorem dX7_goTo_123 : decode cX7_goTo 123 = .ok (.iconst 3, 1) := by decide +kernel
theorem dX7_goTo_124 : decode cX7_goTo 124 = .ok (.iaload, 1) := by decide +kernel
theorem dX7_goTo_125 : decode cX7_goTo 125 = .ok (.if_icmp .ne 26, 3) := by decide +kernel
theorem dX7_goTo_128 : decode cX7_goTo 128 = .ok (.aload_n 0, 1) := by decide +kernel
theorem dX7_goTo_129 : decode cX7_goTo 129 = .ok (.aload_n 0, 1) := by decide +kernel
theorem dX7_goTo_130 : decode cX7_goTo 130 = .ok (.getfield 38, 3) := by decide +kernel
theorem dX7_goTo_133 : decode cX7_goTo 133 = .ok (.aload_n 0, 1) := by decide +kernel
theorem dX7_goTo_134 : decode cX7_goTo 134 = .ok (.getfield 113, 3) := by decide +kernel
theorem dX7_goTo_137 : decode cX7_goTo 137 = .ok (.iconst 1, 1) := by decide +kernel
theorem dX7_goTo_138 : decode cX7_goTo 138 = .ok (.isub, 1) := by decide +kernel
theorem dX7_goTo_139 : decode cX7_goTo 139 = .ok (.iaload, 1) := by decide +kernel
theorem dX7_goTo_140 : decode cX7_goTo 140 = .ok (.iload 5, 2) := by decide +kernel
theorem dX7_goTo_142 : decode cX7_goTo 142 = .ok (.invokevirtual 126, 3) := by decide +kernel
theorem dX7_goTo_145 : decode cX7_goTo 145 = .ok (.iconst 0, 1) := by decide +kernel
theorem dX7_goTo_146 : decode cX7_goTo 146 = .ok (.istore 4, 2) := by decide +kernel
theorem dX7_goTo_148 : decode cX7_goTo 148 = .ok (.goto 81, 3) := by decide +kernel
theorem dX7_goTo_151 : decode cX7_goTo 151 = .ok (.aload_n 0, 1) := by decide +kernel
theorem dX7_goTo_152 : decode cX7_goTo 152 = .ok (.getfield 13, 3) := by decide +kernel
theorem dX7_goTo_155 : decode cX7_goTo 155 = .ok (.iconst 0, 1) := by decide +kernel
theorem dX7_goTo_156 : decode cX7_goTo 156 = .ok (.iaload, 1) := by decide +kernel
theorem dX7_goTo_157 : decode cX7_goTo 157 = .ok (.ifCond .ne 8, 3) := by decide +kernel
theorem dX7_goTo_160 : decode cX7_goTo 160 = .ok (.bipush (-9), 2) := by decide +kernel
theorem dX7_goTo_162 : decode cX7_goTo 162 = .ok (.goto 11, 3) := by decide +kernel
theorem dX7_goTo_165 : decode cX7_goTo 165 = .ok (.aload_n 0, 1) := by decide +kernel
theorem dX7_goTo_166 : decode cX7_goTo 166 = .ok (.iload_n 2, 1) := by decide +kernel
theorem dX7_goTo_167 : decode cX7_goTo 167 = .ok (.iload 5, 2) := by decide +kernel
theorem dX7_goTo_169 : decode cX7_goTo 169 = .ok (.iload_n 3, 1) := by decide +kernel
theorem dX7_goTo_170 : decode cX7_goTo 170 = .ok (.invokevirtual 130, 3) := by decide +kernel
theorem dX7_goTo_173 : decode cX7_goTo 173 = .ok (.istore 6, 2) := by decide +kernel
theorem dX7_goTo_175 : decode cX7_goTo 175 = .ok (.iload 6, 2) := by decide +kernel
theorem dX7_goTo_177 : decode cX7_goTo 177 = .ok (.bipush (-9), 2) := by decide +kernel
theorem dX7_goTo_179 : decode cX7_goTo 179 = .ok (.if_icmp .eq 50, 3) := by decide +kernel
theorem dX7_goTo_182 : decode cX7_goTo 182 = .ok (.aload_n 0, 1) := by decide +kernel
theorem dX7_goTo_183 : decode cX7_goTo 183 = .ok (.getfield 35, 3) := by decide +kernel
theorem dX7_goTo_186 : decode cX7_goTo 186 = .ok (.iload 6, 2) := by decide +kernel
theorem dX7_goTo_188 : decode cX7_goTo 188 = .ok (.dup2, 1) := by decide +kernel
theorem dX7_goTo_189 : decode cX7_goTo 189 = .ok (.iaload, 1) := by decide +kernel
theorem dX7_goTo_190 : decode cX7_goTo 190 = .ok (.iconst 1, 1) := by decide +kernel
theorem dX7_goTo_191 : decode cX7_goTo 191 = .ok (.isub, 1) := by decide +kernel
theorem dX7_goTo_192 : decode cX7_goTo 192 = .ok (.iastore, 1) := by decide +kernel
theorem dX7_goTo_193 : decode cX7_goTo 193 = .ok (.aload_n 0, 1) := by decide +kernel
theorem dX7_goTo_194 : decode cX7_goTo 194 = .ok (.bipush 10, 2) := by decide +kernel
theorem dX7_goTo_196 : decode cX7_goTo 196 = .ok (.iload 6, 2) := by decide +kernel
theorem dX7_goTo_198 : decode cX7_goTo 198 = .ok (.imul, 1) := by decide +kernel
theorem dX7_goTo_199 : decode cX7_goTo 199 = .ok (.aload_n 0, 1) := by decide +kernel
theorem dX7_goTo_200 : decode cX7_goTo 200 = .ok (.getfield 13, 3) := by decide +kernel
theorem dX7_goTo_203 : decode cX7_goTo 203 = .ok (.bipush 20, 2) := by decide +kernel
theorem dX7_goTo_205 : decode cX7_goTo 205 = .ok (.iload 6, 2) := by decide +kernel
theorem dX7_goTo_207 : decode cX7_goTo 207 = .ok (.iadd, 1) := by decide +kernel
theorem dX7_goTo_208 : decode cX7_goTo 208 = .ok (.iaload, 1) := by decide +kernel
theorem dX7_goTo_209 : decode cX7_goTo 209 = .ok (.iadd, 1) := by decide +kernel
theorem dX7_goTo_210 : decode cX7_goTo 210 = .ok (.aload_n 0, 1) := by decide +kernel
theorem dX7_goTo_211 : decode cX7_goTo 211 = .ok (.getfield 35, 3) := by decide +kernel
theorem dX7_goTo_214 : decode cX7_goTo 214 = .ok (.iload 6, 2) := by decide +kernel
theorem dX7_goTo_216 : decode cX7_goTo 216 = .ok (.iaload, 1) := by decide +kernel
theorem dX7_goTo_217 : decode cX7_goTo 217 = .ok (.isub, 1) := by decide +kernel
theorem dX7_goTo_218 : decode cX7_goTo 218 = .ok (.iload 5, 2) := by decide +kernel
theorem dX7_goTo_220 : decode cX7_goTo 220 = .ok (.invokevirtual 126, 3) := by decide +kernel
theorem dX7_goTo_223 : decode cX7_goTo 223 = .ok (.iload 6, 2) := by decide +kernel
theorem dX7_goTo_225 : decode cX7_goTo 225 = .ok (.istore_n 3, 1) := by decide +kernel
theorem dX7_goTo_226 : decode cX7_goTo 226 = .ok (.iinc 4 1, 3) := by decide +kernel
theorem dX7_goTo_229 : decode cX7_goTo 229 = .ok (.iconst 0, 1) := by decide +kernel
theorem dX7_goTo_230 : decode cX7_goTo 230 = .ok (.istore 6, 2) := by decide +kernel
theorem dX7_goTo_232 : decode cX7_goTo 232 = .ok (.iload 6, 2) := by decide +kernel
theorem dX7_goTo_234 : decode cX7_goTo 234 = .ok (.aload_n 0, 1) := by decide +kernel
theorem dX7_goTo_235 : decode cX7_goTo 235 = .ok (.getfield 13, 3) := by decide +kernel
theorem dX7_goTo_238 : decode cX7_goTo 238 = .ok (.iconst 1, 1) := by decide +kernel
theorem dX7_goTo_239 : decode cX7_goTo 239 = .ok (.iaload, 1) := by decide +kernel
theorem dX7_goTo_240 : decode cX7_goTo 240 = .ok (.if_icmp .ge 30, 3) := by decide +kernel
theorem dX7_goTo_243 : decode cX7_goTo 243 = .ok (.aload_n 0, 1) := by decide +kernel
theorem dX7_goTo_244 : decode cX7_goTo 244 = .ok (.getfield 13, 3) := by decide +kernel
theorem dX7_goTo_247 : decode cX7_goTo 247 = .ok (.bipush 70, 2) := by decide +kernel
theorem dX7_goTo_249 : decode cX7_goTo 249 = .ok (.iload 6, 2) := by decide +kernel
theorem dX7_goTo_251 : decode cX7_goTo 251 = .ok (.iadd, 1) := by decide +kernel
theorem dX7_goTo_252 : decode cX7_goTo 252 = .ok (.iaload, 1) := by decide +kernel
theorem dX7_goTo_253 : decode cX7_goTo 253 = .ok (.iload 5, 2) := by decide +kernel
theorem dX7_goTo_255 : decode cX7_goTo 255 = .ok (.if_icmp .ne 9, 3) := by decide +kernel
theorem dX7_goTo_258 : decode cX7_goTo 258 = .ok (.aload_n 0, 1) := by decide +kernel
theorem dX7_goTo_259 : decode cX7_goTo 259 = .ok (.iload 6, 2) := by decide +kernel
theorem dX7_goTo_261 : decode cX7_goTo 261 = .ok (.invokevirtual 134, 3) := by decide +kernel
theorem dX7_goTo_264 : decode cX7_goTo 264 = .ok (.iinc 6 1, 3) := by decide +kernel
theorem dX7_goTo_267 : decode cX7_goTo 267 = .ok (.goto (-35), 3) := by decide +kernel
theorem dX7_goTo_270 : decode cX7_goTo 270 = .ok (.iinc 5 1, 3) := by decide +kernel
theorem dX7_goTo_273 : decode cX7_goTo 273 = .ok (.goto (-176), 3) := by decide +kernel
theorem dX7_goTo_276 : decode cX7_goTo 276 = .ok (.return_, 1) := by decide +kernel
theorem dX7_mixing_0 : decode cX7_mixing 0 = .ok (.iconst 0, 1) := by decide +kernel
theorem dX7_mixing_1 : decode cX7_mixing 1 = .ok (.istore_n 1, 1) := by decide +kernel
theorem dX7_mixing_2 : decode cX7_mixing 2 = .ok (.iconst 1, 1) := by decide +kernel
theorem dX7_mixing_3 : decode cX7_mixing 3 = .ok (.istore_n 2, 1) := by decide +kernel
theorem dX7_mixing_4 : decode cX7_mixing 4 = .ok (.iload_n 2, 1) := by decide +kernel
theorem dX7_mixing_5 : decode cX7_mixing 5 = .ok (.aload_n 0, 1) := by decide +kernel
theorem dX7_mixing_6 : decode cX7_mixing 6 = .ok (.getfield 113, 3) := by decide +kernel
theorem dX7_mixing_9 : decode cX7_mixing 9 = .ok (.if_icmp .ge 40, 3) := by decide +kernel
theorem dX7_mixing_12 : decode cX7_mixing 12 = .ok (.iload_n 1, 1) := by decide +kernel
theorem dX7_mixing_13 : decode cX7_mixing 13 = .ok (.aload_n 0, 1) := by decide +kernel
theorem dX7_mixing_14 : decode cX7_mixing 14 = .ok (.getfield 38, 3) := by decide +kernel
theorem dX7_mixing_17 : decode cX7_mixing 17 = .ok (.iload_n 2, 1) := by decide +kernel
theorem dX7_mixing_18 : decode cX7_mixing 18 = .ok (.iaload, 1) := by decide +kernel
theorem dX7_mixing_19 : decode cX7_mixing 19 = .ok (.bipush 10, 2) := by decide +kernel
theorem dX7_mixing_21 : decode cX7_mixing 21 = .ok (.idiv, 1) := by decide +kernel
theorem dX7_mixing_22 : decode cX7_mixing 22 = .ok (.aload_n 0, 1) := by decide +kernel
theorem dX7_mixing_23 : decode cX7_mixing 23 = .ok (.getfield 38, 3) := by decide +kernel
theorem dX7_mixing_26 : decode cX7_mixing 26 = .ok (.iload_n 2, 1) := by decide +kernel
theorem dX7_mixing_27 : decode cX7_mixing 27 = .ok (.iconst 1, 1) := by decide +kernel
theorem dX7_mixing_28 : decode cX7_mixing 28 = .ok (.isub, 1) := by decide +kernel
theorem dX7_mixing_29 : decode cX7_mixing 29 = .ok (.iaload, 1) := by decide +kernel
theorem dX7_mixing_30 : decode cX7_mixing 30 = .ok (.bipush 10, 2) := by decide +kernel
theorem dX7_mixing_32 : decode cX7_mixing 32 = .ok (.idiv, 1) := by decide +kernel
theorem dX7_mixing_33 : decode cX7_mixing 33 = .ok (.if_icmp .eq 7, 3) := by decide +kernel
theorem dX7_mixing_36 : decode cX7_mixing 36 = .ok (.iconst 1, 1) := by decide +kernel
theorem dX7_mixing_37 : decode cX7_mixing 37 = .ok (.goto 4, 3) := by decide +kernel
theorem dX7_mixing_40 : decode cX7_mixing 40 = .ok (.iconst 0, 1) := by decide +kernel
theorem dX7_mixing_41 : decode cX7_mixing 41 = .ok (.iadd, 1) := by decide +kernel
theorem dX7_mixing_42 : decode cX7_mixing 42 = .ok (.istore_n 1, 1) := by decide +kernel
theorem dX7_mixing_43 : decode cX7_mixing 43 = .ok (.iinc 2 1, 3) := by decide +kernel
theorem dX7_mixing_46 : decode cX7_mixing 46 = .ok (.goto (-42), 3) := by decide +kernel
theorem dX7_mixing_49 : decode cX7_mixing 49 = .ok (.iload_n 1, 1) := by decide +kernel
theorem dX7_mixing_50 : decode cX7_mixing 50 = .ok (.ireturn, 1) := by decide +kernel
theorem dX7_isNoOwner_0 : decode cX7_isNoOwner 0 = .ok (.iload_n 1, 1) := by decide +kernel
theorem dX7_isNoOwner_1 : decode cX7_isNoOwner 1 = .ok (.ifCond .lt 8, 3) := by decide +kernel
theorem dX7_isNoOwner_4 : decode cX7_isNoOwner 4 = .ok (.iload_n 1, 1) := by decide +kernel
theorem dX7_isNoOwner_5 : decode cX7_isNoOwner 5 = .ok (.iconst 4, 1) := by decide +kernel
theorem dX7_isNoOwner_6 : decode cX7_isNoOwner 6 = .ok (.if_icmp .lt 7, 3) := by decide +kernel
theorem dX7_isNoOwner_9 : decode cX7_isNoOwner 9 = .ok (.iconst 1, 1) := by decide +kernel
theorem dX7_isNoOwner_10 : decode cX7_isNoOwner 10 = .ok (.goto 4, 3) := by decide +kernel
theorem dX7_isNoOwner_13 : decode cX7_isNoOwner 13 = .ok (.iconst 0, 1) := by decide +kernel
theorem dX7_isNoOwner_14 : decode cX7_isNoOwner 14 = .ok (.ireturn, 1) := by decide +kernel
theorem dX7_isNoJob_0 : decode cX7_isNoJob 0 = .ok (.iload_n 1, 1) := by decide +kernel
theorem dX7_isNoJob_1 : decode cX7_isNoJob 1 = .ok (.ifCond .lt 13, 3) := by decide +kernel
theorem dX7_isNoJob_4 : decode cX7_isNoJob 4 = .ok (.iload_n 1, 1) := by decide +kernel
theorem dX7_isNoJob_5 : decode cX7_isNoJob 5 = .ok (.aload_n 0, 1) := by decide +kernel
theorem dX7_isNoJob_6 : decode cX7_isNoJob 6 = .ok (.getfield 13, 3) := by decide +kernel
theorem dX7_isNoJob_9 : decode cX7_isNoJob 9 = .ok (.iconst 0, 1) := by decide +kernel
theorem dX7_isNoJob_10 : decode cX7_isNoJob 10 = .ok (.iaload, 1) := by decide +kernel
theorem dX7_isNoJob_11 : decode cX7_isNoJob 11 = .ok (.if_icmp .lt 7, 3) := by decide +kernel
theorem dX7_isNoJob_14 : decode cX7_isNoJob 14 = .ok (.iconst 1, 1) := by decide +kernel
theorem dX7_isNoJob_15 : decode cX7_isNoJob 15 = .ok (.goto 4, 3) := by decide +kernel
theorem dX7_isNoJob_18 : decode cX7_isNoJob 18 = .ok (.iconst 0, 1) := by decide +kernel
theorem dX7_isNoJob_19 : decode cX7_isNoJob 19 = .ok (.ireturn, 1) := by decide +kernel
theorem dX7_isNoTaker_0 : decode cX7_isNoTaker 0 = .ok (.iload_n 1, 1) := by decide +kernel
theorem dX7_isNoTaker_1 : decode cX7_isNoTaker 1 = .ok (.ifCond .lt 13, 3) := by decide +kernel
theorem dX7_isNoTaker_4 : decode cX7_isNoTaker 4 = .ok (.iload_n 1, 1) := by decide +kernel
theorem dX7_isNoTaker_5 : decode cX7_isNoTaker 5 = .ok (.aload_n 0, 1) := by decide +kernel
theorem dX7_isNoTaker_6 : decode cX7_isNoTaker 6 = .ok (.getfield 13, 3) := by decide +kernel
theorem dX7_isNoTaker_9 : decode cX7_isNoTaker 9 = .ok (.iconst 1, 1) := by decide +kernel
theorem dX7_isNoTaker_10 : decode cX7_isNoTaker 10 = .ok (.iaload, 1) := by decide +kernel
theorem dX7_isNoTaker_11 : decode cX7_isNoTaker 11 = .ok (.if_icmp .lt 7, 3) := by decide +kernel
theorem dX7_isNoTaker_14 : decode cX7_isNoTaker 14 = .ok (.iconst 1, 1) := by decide +kernel
theorem dX7_isNoTaker_15 : decode cX7_isNoTaker 15 = .ok (.goto 4, 3) := by decide +kernel
theorem dX7_isNoTaker_18 : decode cX7_isNoTaker 18 = .ok (.iconst 0, 1) := by decide +kernel
theorem dX7_isNoTaker_19 : decode cX7_isNoTaker 19 = .ok (.ireturn, 1) := by decide +kernel
theorem dX7_job_0 : decode cX7_job 0 = .ok (.aload_n 0, 1) := by decide +kernel
theorem dX7_job_1 : decode cX7_job 1 = .ok (.iload_n 1, 1) := by decide +kernel
theorem dX7_job_2 : decode cX7_job 2 = .ok (.invokevirtual 138, 3) := by decide +kernel
theorem dX7_job_5 : decode cX7_job 5 = .ok (.ifCond .eq 9, 3) := by decide +kernel
theorem dX7_job_8 : decode cX7_job 8 = .ok (.aload_n 0, 1) := by decide +kernel
theorem dX7_job_9 : decode cX7_job 9 = .ok (.iconst (-1), 1) := by decide +kernel
theorem dX7_job_10 : decode cX7_job 10 = .ok (.invokevirtual 64, 3) := by decide +kernel
theorem dX7_job_13 : decode cX7_job 13 = .ok (.ireturn, 1) := by decide +kernel
theorem dX7_job_14 : decode cX7_job 14 = .ok (.iload_n 2, 1) := by decide +kernel
theorem dX7_job_15 : decode cX7_job 15 = .ok (.ifCond .lt 8, 3) := by decide +kernel
theorem dX7_job_18 : decode cX7_job 18 = .ok (.iload_n 2, 1) := by decide +kernel
theorem dX7_job_19 : decode cX7_job 19 = .ok (.iconst 2, 1) := by decide +kernel
theorem dX7_job_20 : decode cX7_job 20 = .ok (.if_icmp .le 12, 3) := by decide +kernel
theorem dX7_job_23 : decode cX7_job 23 = .ok (.aload_n 0, 1) := by decide +kernel
theorem dX7_job_24 : decode cX7_job 24 = .ok (.bipush (-2), 2) := by decide +kernel
theorem dX7_job_26 : decode cX7_job 26 = .ok (.invokevirtual 64, 3) := by decide +kernel
theorem dX7_job_29 : decode cX7_job 29 = .ok (.goto 17, 3) := by decide +kernel
theorem dX7_job_32 : decode cX7_job 32 = .ok (.aload_n 0, 1) := by decide +kernel
theorem dX7_job_33 : decode cX7_job 33 = .ok (.getfield 13, 3) := by decide +kernel
theorem dX7_job_36 : decode cX7_job 36 = .ok (.bipush 10, 2) := by decide +kernel
theorem dX7_job_38 : decode cX7_job 38 = .ok (.bipush 10, 2) := by decide +kernel
theorem dX7_job_40 : decode cX7_job 40 = .ok (.iload_n 2, 1) := by decide +kernel
theorem dX7_job_41 : decode cX7_job 41 = .ok (.imul, 1) := by decide +kernel
theorem dX7_job_42 : decode cX7_job 42 = .ok (.iadd, 1) := by decide +kernel
theorem dX7_job_43 : decode cX7_job 43 = .ok (.iload_n 1, 1) := by decide +kernel
theorem dX7_job_44 : decode cX7_job 44 = .ok (.iadd, 1) := by decide +kernel
theorem dX7_job_45 : decode cX7_job 45 = .ok (.iaload, 1) := by decide +kernel
theorem dX7_job_46 : decode cX7_job 46 = .ok (.ireturn, 1) := by decide +kernel
theorem dX7_taker_0 : decode cX7_taker 0 = .ok (.aload_n 0, 1) := by decide +kernel
theorem dX7_taker_1 : decode cX7_taker 1 = .ok (.iload_n 1, 1) := by decide +kernel
theorem dX7_taker_2 : decode cX7_taker 2 = .ok (.invokevirtual 141, 3) := by decide +kernel
theorem dX7_taker_5 : decode cX7_taker 5 = .ok (.ifCond .eq 9, 3) := by decide +kernel
theorem dX7_taker_8 : decode cX7_taker 8 = .ok (.aload_n 0, 1) := by decide +kernel
theorem dX7_taker_9 : decode cX7_taker 9 = .ok (.iconst (-1), 1) := by decide +kernel
theorem dX7_taker_10 : decode cX7_taker 10 = .ok (.invokevirtual 64, 3) := by decide +kernel
theorem dX7_taker_13 : decode cX7_taker 13 = .ok (.ireturn, 1) := by decide +kernel
theorem dX7_taker_14 : decode cX7_taker 14 = .ok (.iload_n 2, 1) := by decide +kernel
theorem dX7_taker_15 : decode cX7_taker 15 = .ok (.ifCond .lt 8, 3) := by decide +kernel
theorem dX7_taker_18 : decode cX7_taker 18 = .ok (.iload_n 2, 1) := by decide +kernel
theorem dX7_taker_19 : decode cX7_taker 19 = .ok (.iconst 3, 1) := by decide +kernel
theorem dX7_taker_20 : decode cX7_taker 20 = .ok (.if_icmp .le 12, 3) := by decide +kernel
theorem dX7_taker_23 : decode cX7_taker 23 = .ok (.aload_n 0, 1) := by decide +kernel
theorem dX7_taker_24 : decode cX7_taker 24 = .ok (.bipush (-2), 2) := by decide +kernel
theorem dX7_taker_26 : decode cX7_taker 26 = .ok (.invokevirtual 64, 3) := by decide +kernel
theorem dX7_taker_29 : decode cX7_taker 29 = .ok (.goto 17, 3) := by decide +kernel
theorem dX7_taker_32 : decode cX7_taker 32 = .ok (.aload_n 0, 1) := by decide +kernel
theorem dX7_taker_33 : decode cX7_taker 33 = .ok (.getfield 13, 3) := by decide +kernel
theorem dX7_taker_36 : decode cX7_taker 36 = .ok (.bipush 40, 2) := by decide +kernel
theorem dX7_taker_38 : decode cX7_taker 38 = .ok (.bipush 10, 2) := by decide +kernel
theorem dX7_taker_40 : decode cX7_taker 40 = .ok (.iload_n 2, 1) := by decide +kernel
theorem dX7_taker_41 : decode cX7_taker 41 = .ok (.imul, 1) := by decide +kernel
theorem dX7_taker_42 : decode cX7_taker 42 = .ok (.iadd, 1) := by decide +kernel
theorem dX7_taker_43 : decode cX7_taker 43 = .ok (.iload_n 1, 1) := by decide +kernel
theorem dX7_taker_44 : decode cX7_taker 44 = .ok (.iadd, 1) := by decide +kernel
theorem dX7_taker_45 : decode cX7_taker 45 = .ok (.iaload, 1) := by decide +kernel
theorem dX7_taker_46 : decode cX7_taker 46 = .ok (.ireturn, 1) := by decide +kernel
theorem dX7_change_0 : decode cX7_change 0 = .ok (.iload_n 2, 1) := by decide +kernel
theorem dX7_change_1 : decode cX7_change 1 = .ok (.ifCond .ge 10, 3) := by decide +kernel
theorem dX7_change_4 : decode cX7_change 4 = .ok (.aload_n 0, 1) := by decide +kernel
theorem dX7_change_5 : decode cX7_change 5 = .ok (.bipush (-4), 2) := by decide +kernel
theorem dX7_change_7 : decode cX7_change 7 = .ok (.invokevirtual 64, 3) := by decide +kernel
theorem dX7_change_10 : decode cX7_change 10 = .ok (.ireturn, 1) := by decide +kernel
theorem dX7_change_11 : decode cX7_change 11 = .ok (.iload_n 2, 1) := by decide +kernel
theorem dX7_change_12 : decode cX7_change 12 = .ok (.iload_n 3, 1) := by decide +kernel
theorem dX7_change_13 : decode cX7_change 13 = .ok (.if_icmp .le 10, 3) := by decide +kernel
theorem dX7_change_16 : decode cX7_change 16 = .ok (.aload_n 0, 1) := by decide +kernel
theorem dX7_change_17 : decode cX7_change 17 = .ok (.bipush (-6), 2) := by decide +kernel
theorem dX7_change_19 : decode cX7_change 19 = .ok (.invokevirtual 64, 3) := by decide +kernel
theorem dX7_change_22 : decode cX7_change 22 = .ok (.ireturn, 1) := by decide +kernel
theorem dX7_change_23 : decode cX7_change 23 = .ok (.aload_n 0, 1) := by decide +kernel
theorem dX7_change_24 : decode cX7_change 24 = .ok (.getfield 13, 3) := by decide +kernel
theorem dX7_change_27 : decode cX7_change 27 = .ok (.iload_n 1, 1) := by decide +kernel
theorem dX7_change_28 : decode cX7_change 28 = .ok (.iaload, 1) := by decide +kernel
theorem dX7_change_29 : decode cX7_change 29 = .ok (.istore 4, 2) := by decide +kernel
theorem dX7_change_31 : decode cX7_change 31 = .ok (.aload_n 0, 1) := by decide +kernel
theorem dX7_change_32 : decode cX7_change 32 = .ok (.getfield 13, 3) := by decide +kernel
theorem dX7_change_35 : decode cX7_change 35 = .ok (.iload_n 1, 1) := by decide +kernel
theorem dX7_change_36 : decode cX7_change 36 = .ok (.iload_n 2, 1) := by decide +kernel
theorem dX7_change_37 : decode cX7_change 37 = .ok (.iastore, 1) := by decide +kernel
theorem dX7_change_38 : decode cX7_change 38 = .ok (.iload 4, 2) := by decide +kernel
theorem dX7_change_40 : decode cX7_change 40 = .ok (.ireturn, 1) := by decide +kernel
theorem dX7_sent_0 : decode cX7_sent 0 = .ok (.aload_n 0, 1) := by decide +kernel
end
section
theorem dX7_sent_1 : decode cX7_sent 1 = .ok (.iload_n 1, 1) := by decide +kernel
theorem dX7_sent_2 : decode cX7_sent 2 = .ok (.invokevirtual 138, 3) := by decide +kernel
theorem dX7_sent_5 : decode cX7_sent 5 = .ok (.ifCond .eq 11, 3) := by decide +kernel
theorem dX7_sent_8 : decode cX7_sent 8 = .ok (.aload_n 0, 1) := by decide +kernel
theorem dX7_sent_9 : decode cX7_sent 9 = .ok (.iconst (-1), 1) := by decide +kernel
theorem dX7_sent_10 : decode cX7_sent 10 = .ok (.invokevirtual 64, 3) := by decide +kernel
theorem dX7_sent_13 : decode cX7_sent 13 = .ok (.goto 14, 3) := by decide +kernel
theorem dX7_sent_16 : decode cX7_sent 16 = .ok (.aload_n 0, 1) := by decide +kernel
theorem dX7_sent_17 : decode cX7_sent 17 = .ok (.bipush 30, 2) := by decide +kernel
theorem dX7_sent_19 : decode cX7_sent 19 = .ok (.iload_n 1, 1) := by decide +kernel
theorem dX7_sent_20 : decode cX7_sent 20 = .ok (.iadd, 1) := by decide +kernel
theorem dX7_sent_21 : decode cX7_sent 21 = .ok (.iload_n 2, 1) := by decide +kernel
theorem dX7_sent_22 : decode cX7_sent 22 = .ok (.bipush 59, 2) := by decide +kernel
theorem dX7_sent_24 : decode cX7_sent 24 = .ok (.invokevirtual 144, 3) := by decide +kernel
theorem dX7_sent_27 : decode cX7_sent 27 = .ok (.ireturn, 1) := by decide +kernel
theorem dX7_machine_0 : decode cX7_machine 0 = .ok (.iload_n 1, 1) := by decide +kernel
theorem dX7_machine_1 : decode cX7_machine 1 = .ok (.ifCond .lt 8, 3) := by decide +kernel
theorem dX7_machine_4 : decode cX7_machine 4 = .ok (.iload_n 1, 1) := by decide +kernel
theorem dX7_machine_5 : decode cX7_machine 5 = .ok (.iconst 5, 1) := by decide +kernel
theorem dX7_machine_6 : decode cX7_machine 6 = .ok (.if_icmp .le 10, 3) := by decide +kernel
theorem dX7_machine_9 : decode cX7_machine 9 = .ok (.aload_n 0, 1) := by decide +kernel
theorem dX7_machine_10 : decode cX7_machine 10 = .ok (.bipush (-2), 2) := by decide +kernel
theorem dX7_machine_12 : decode cX7_machine 12 = .ok (.invokevirtual 64, 3) := by decide +kernel
theorem dX7_machine_15 : decode cX7_machine 15 = .ok (.ireturn, 1) := by decide +kernel
theorem dX7_machine_16 : decode cX7_machine 16 = .ok (.bipush 10, 2) := by decide +kernel
theorem dX7_machine_18 : decode cX7_machine 18 = .ok (.aload_n 0, 1) := by decide +kernel
theorem dX7_machine_19 : decode cX7_machine 19 = .ok (.getfield 13, 3) := by decide +kernel
theorem dX7_machine_22 : decode cX7_machine 22 = .ok (.iconst 2, 1) := by decide +kernel
theorem dX7_machine_23 : decode cX7_machine 23 = .ok (.iaload, 1) := by decide +kernel
theorem dX7_machine_24 : decode cX7_machine 24 = .ok (.imul, 1) := by decide +kernel
theorem dX7_machine_25 : decode cX7_machine 25 = .ok (.aload_n 0, 1) := by decide +kernel
theorem dX7_machine_26 : decode cX7_machine 26 = .ok (.getfield 13, 3) := by decide +kernel
theorem dX7_machine_29 : decode cX7_machine 29 = .ok (.iconst 3, 1) := by decide +kernel
theorem dX7_machine_30 : decode cX7_machine 30 = .ok (.iaload, 1) := by decide +kernel
theorem dX7_machine_31 : decode cX7_machine 31 = .ok (.iadd, 1) := by decide +kernel
theorem dX7_machine_32 : decode cX7_machine 32 = .ok (.istore_n 3, 1) := by decide +kernel
theorem dX7_machine_33 : decode cX7_machine 33 = .ok (.aload_n 0, 1) := by decide +kernel
theorem dX7_machine_34 : decode cX7_machine 34 = .ok (.iconst 3, 1) := by decide +kernel
theorem dX7_machine_35 : decode cX7_machine 35 = .ok (.iload_n 2, 1) := by decide +kernel
theorem dX7_machine_36 : decode cX7_machine 36 = .ok (.bipush 9, 2) := by decide +kernel
theorem dX7_machine_38 : decode cX7_machine 38 = .ok (.invokevirtual 144, 3) := by decide +kernel
theorem dX7_machine_41 : decode cX7_machine 41 = .ok (.istore 4, 2) := by decide +kernel
theorem dX7_machine_43 : decode cX7_machine 43 = .ok (.iload 4, 2) := by decide +kernel
theorem dX7_machine_45 : decode cX7_machine 45 = .ok (.ifCond .ge 6, 3) := by decide +kernel
theorem dX7_machine_48 : decode cX7_machine 48 = .ok (.iload 4, 2) := by decide +kernel
theorem dX7_machine_50 : decode cX7_machine 50 = .ok (.ireturn, 1) := by decide +kernel
theorem dX7_machine_51 : decode cX7_machine 51 = .ok (.aload_n 0, 1) := by decide +kernel
theorem dX7_machine_52 : decode cX7_machine 52 = .ok (.getfield 13, 3) := by decide +kernel
theorem dX7_machine_55 : decode cX7_machine 55 = .ok (.iconst 2, 1) := by decide +kernel
theorem dX7_machine_56 : decode cX7_machine 56 = .ok (.iload_n 1, 1) := by decide +kernel
theorem dX7_machine_57 : decode cX7_machine 57 = .ok (.iastore, 1) := by decide +kernel
theorem dX7_machine_58 : decode cX7_machine 58 = .ok (.iload_n 3, 1) := by decide +kernel
theorem dX7_machine_59 : decode cX7_machine 59 = .ok (.ireturn, 1) := by decide +kernel
theorem dX7_comes_0 : decode cX7_comes 0 = .ok (.aload_n 0, 1) := by decide +kernel
theorem dX7_comes_1 : decode cX7_comes 1 = .ok (.iload_n 1, 1) := by decide +kernel
theorem dX7_comes_2 : decode cX7_comes 2 = .ok (.invokevirtual 141, 3) := by decide +kernel
theorem dX7_comes_5 : decode cX7_comes 5 = .ok (.ifCond .eq 11, 3) := by decide +kernel
theorem dX7_comes_8 : decode cX7_comes 8 = .ok (.aload_n 0, 1) := by decide +kernel
theorem dX7_comes_9 : decode cX7_comes 9 = .ok (.iconst (-1), 1) := by decide +kernel
theorem dX7_comes_10 : decode cX7_comes 10 = .ok (.invokevirtual 64, 3) := by decide +kernel
theorem dX7_comes_13 : decode cX7_comes 13 = .ok (.goto 14, 3) := by decide +kernel
theorem dX7_comes_16 : decode cX7_comes 16 = .ok (.aload_n 0, 1) := by decide +kernel
theorem dX7_comes_17 : decode cX7_comes 17 = .ok (.bipush 70, 2) := by decide +kernel
theorem dX7_comes_19 : decode cX7_comes 19 = .ok (.iload_n 1, 1) := by decide +kernel
theorem dX7_comes_20 : decode cX7_comes 20 = .ok (.iadd, 1) := by decide +kernel
theorem dX7_comes_21 : decode cX7_comes 21 = .ok (.iload_n 2, 1) := by decide +kernel
theorem dX7_comes_22 : decode cX7_comes 22 = .ok (.bipush 99, 2) := by decide +kernel
theorem dX7_comes_24 : decode cX7_comes 24 = .ok (.invokevirtual 144, 3) := by decide +kernel
theorem dX7_comes_27 : decode cX7_comes 27 = .ok (.ireturn, 1) := by decide +kernel
theorem dX7_out_0 : decode cX7_out 0 = .ok (.iload_n 1, 1) := by decide +kernel
theorem dX7_out_1 : decode cX7_out 1 = .ok (.ifCond .ge 10, 3) := by decide +kernel
theorem dX7_out_4 : decode cX7_out 4 = .ok (.aload_n 0, 1) := by decide +kernel
theorem dX7_out_5 : decode cX7_out 5 = .ok (.bipush (-4), 2) := by decide +kernel
theorem dX7_out_7 : decode cX7_out 7 = .ok (.invokevirtual 64, 3) := by decide +kernel
theorem dX7_out_10 : decode cX7_out 10 = .ok (.ireturn, 1) := by decide +kernel
theorem dX7_out_11 : decode cX7_out 11 = .ok (.iload_n 2, 1) := by decide +kernel
theorem dX7_out_12 : decode cX7_out 12 = .ok (.ifCond .lt 8, 3) := by decide +kernel
theorem dX7_out_15 : decode cX7_out 15 = .ok (.iload_n 2, 1) := by decide +kernel
theorem dX7_out_16 : decode cX7_out 16 = .ok (.iconst 1, 1) := by decide +kernel
theorem dX7_out_17 : decode cX7_out 17 = .ok (.if_icmp .le 10, 3) := by decide +kernel
theorem dX7_out_20 : decode cX7_out 20 = .ok (.aload_n 0, 1) := by decide +kernel
theorem dX7_out_21 : decode cX7_out 21 = .ok (.bipush (-2), 2) := by decide +kernel
theorem dX7_out_23 : decode cX7_out 23 = .ok (.invokevirtual 64, 3) := by decide +kernel
theorem dX7_out_26 : decode cX7_out 26 = .ok (.ireturn, 1) := by decide +kernel
theorem dX7_out_27 : decode cX7_out 27 = .ok (.aload_n 0, 1) := by decide +kernel
theorem dX7_out_28 : decode cX7_out 28 = .ok (.bipush 99, 2) := by decide +kernel
theorem dX7_out_30 : decode cX7_out 30 = .ok (.invokevirtual 147, 3) := by decide +kernel
theorem dX7_out_33 : decode cX7_out 33 = .ok (.iload_n 1, 1) := by decide +kernel
theorem dX7_out_34 : decode cX7_out 34 = .ok (.aload_n 0, 1) := by decide +kernel
theorem dX7_out_35 : decode cX7_out 35 = .ok (.getfield 113, 3) := by decide +kernel
theorem dX7_out_38 : decode cX7_out 38 = .ok (.if_icmp .lt 8, 3) := by decide +kernel
theorem dX7_out_41 : decode cX7_out 41 = .ok (.bipush (-9), 2) := by decide +kernel
theorem dX7_out_43 : decode cX7_out 43 = .ok (.goto 22, 3) := by decide +kernel
theorem dX7_out_46 : decode cX7_out 46 = .ok (.iload_n 2, 1) := by decide +kernel
theorem dX7_out_47 : decode cX7_out 47 = .ok (.ifCond .ne 12, 3) := by decide +kernel
theorem dX7_out_50 : decode cX7_out 50 = .ok (.aload_n 0, 1) := by decide +kernel
theorem dX7_out_51 : decode cX7_out 51 = .ok (.getfield 38, 3) := by decide +kernel
theorem dX7_out_54 : decode cX7_out 54 = .ok (.iload_n 1, 1) := by decide +kernel
theorem dX7_out_55 : decode cX7_out 55 = .ok (.iaload, 1) := by decide +kernel
theorem dX7_out_56 : decode cX7_out 56 = .ok (.goto 9, 3) := by decide +kernel
theorem dX7_out_59 : decode cX7_out 59 = .ok (.aload_n 0, 1) := by decide +kernel
theorem dX7_out_60 : decode cX7_out 60 = .ok (.getfield 41, 3) := by decide +kernel
theorem dX7_out_63 : decode cX7_out 63 = .ok (.iload_n 1, 1) := by decide +kernel
theorem dX7_out_64 : decode cX7_out 64 = .ok (.iaload, 1) := by decide +kernel
theorem dX7_out_65 : decode cX7_out 65 = .ok (.ireturn, 1) := by decide +kernel
theorem dX7_outMany_0 : decode cX7_outMany 0 = .ok (.aload_n 0, 1) := by decide +kernel
theorem dX7_outMany_1 : decode cX7_outMany 1 = .ok (.bipush 99, 2) := by decide +kernel
theorem dX7_outMany_3 : decode cX7_outMany 3 = .ok (.invokevirtual 147, 3) := by decide +kernel
theorem dX7_outMany_6 : decode cX7_outMany 6 = .ok (.aload_n 0, 1) := by decide +kernel
theorem dX7_outMany_7 : decode cX7_outMany 7 = .ok (.getfield 113, 3) := by decide +kernel
theorem dX7_outMany_10 : decode cX7_outMany 10 = .ok (.ireturn, 1) := by decide +kernel
theorem dX7_lies_0 : decode cX7_lies 0 = .ok (.iload_n 1, 1) := by decide +kernel
theorem dX7_lies_1 : decode cX7_lies 1 = .ok (.ifCond .lt 8, 3) := by decide +kernel
theorem dX7_lies_4 : decode cX7_lies 4 = .ok (.iload_n 2, 1) := by decide +kernel
theorem dX7_lies_5 : decode cX7_lies 5 = .ok (.iconst (-1), 1) := by decide +kernel
theorem dX7_lies_6 : decode cX7_lies 6 = .ok (.if_icmp .ge 10, 3) := by decide +kernel
theorem dX7_lies_9 : decode cX7_lies 9 = .ok (.aload_n 0, 1) := by decide +kernel
theorem dX7_lies_10 : decode cX7_lies 10 = .ok (.bipush (-4), 2) := by decide +kernel
theorem dX7_lies_12 : decode cX7_lies 12 = .ok (.invokevirtual 64, 3) := by decide +kernel
theorem dX7_lies_15 : decode cX7_lies 15 = .ok (.ireturn, 1) := by decide +kernel
theorem dX7_lies_16 : decode cX7_lies 16 = .ok (.iload_n 1, 1) := by decide +kernel
theorem dX7_lies_17 : decode cX7_lies 17 = .ok (.bipush 99, 2) := by decide +kernel
theorem dX7_lies_19 : decode cX7_lies 19 = .ok (.if_icmp .le 10, 3) := by decide +kernel
theorem dX7_lies_22 : decode cX7_lies 22 = .ok (.aload_n 0, 1) := by decide +kernel
theorem dX7_lies_23 : decode cX7_lies 23 = .ok (.bipush (-6), 2) := by decide +kernel
theorem dX7_lies_25 : decode cX7_lies 25 = .ok (.invokevirtual 64, 3) := by decide +kernel
theorem dX7_lies_28 : decode cX7_lies 28 = .ok (.ireturn, 1) := by decide +kernel
theorem dX7_lies_29 : decode cX7_lies 29 = .ok (.aload_n 0, 1) := by decide +kernel
theorem dX7_lies_30 : decode cX7_lies 30 = .ok (.iload_n 1, 1) := by decide +kernel
theorem dX7_lies_31 : decode cX7_lies 31 = .ok (.invokevirtual 147, 3) := by decide +kernel
theorem dX7_lies_34 : decode cX7_lies 34 = .ok (.iload_n 2, 1) := by decide +kernel
theorem dX7_lies_35 : decode cX7_lies 35 = .ok (.ifCond .ge 10, 3) := by decide +kernel
theorem dX7_lies_38 : decode cX7_lies 38 = .ok (.aload_n 0, 1) := by decide +kernel
theorem dX7_lies_39 : decode cX7_lies 39 = .ok (.getfield 116, 3) := by decide +kernel
theorem dX7_lies_42 : decode cX7_lies 42 = .ok (.goto 29, 3) := by decide +kernel
theorem dX7_lies_45 : decode cX7_lies 45 = .ok (.iload_n 2, 1) := by decide +kernel
theorem dX7_lies_46 : decode cX7_lies 46 = .ok (.aload_n 0, 1) := by decide +kernel
theorem dX7_lies_47 : decode cX7_lies 47 = .ok (.getfield 116, 3) := by decide +kernel
theorem dX7_lies_50 : decode cX7_lies 50 = .ok (.if_icmp .lt 8, 3) := by decide +kernel
theorem dX7_lies_53 : decode cX7_lies 53 = .ok (.bipush (-9), 2) := by decide +kernel
theorem dX7_lies_55 : decode cX7_lies 55 = .ok (.goto 16, 3) := by decide +kernel
theorem dX7_lies_58 : decode cX7_lies 58 = .ok (.aload_n 0, 1) := by decide +kernel
theorem dX7_lies_59 : decode cX7_lies 59 = .ok (.getfield 44, 3) := by decide +kernel
theorem dX7_lies_62 : decode cX7_lies 62 = .ok (.aload_n 0, 1) := by decide +kernel
theorem dX7_lies_63 : decode cX7_lies 63 = .ok (.getfield 116, 3) := by decide +kernel
theorem dX7_lies_66 : decode cX7_lies 66 = .ok (.iconst 1, 1) := by decide +kernel
theorem dX7_lies_67 : decode cX7_lies 67 = .ok (.isub, 1) := by decide +kernel
theorem dX7_lies_68 : decode cX7_lies 68 = .ok (.iload_n 2, 1) := by decide +kernel
theorem dX7_lies_69 : decode cX7_lies 69 = .ok (.isub, 1) := by decide +kernel
theorem dX7_lies_70 : decode cX7_lies 70 = .ok (.iaload, 1) := by decide +kernel
theorem dX7_lies_71 : decode cX7_lies 71 = .ok (.ireturn, 1) := by decide +kernel
theorem dX7_has_0 : decode cX7_has 0 = .ok (.iconst 0, 1) := by decide +kernel
theorem dX7_has_1 : decode cX7_has 1 = .ok (.istore_n 3, 1) := by decide +kernel
theorem dX7_has_2 : decode cX7_has 2 = .ok (.iconst 0, 1) := by decide +kernel
theorem dX7_has_3 : decode cX7_has 3 = .ok (.istore 4, 2) := by decide +kernel
theorem dX7_has_5 : decode cX7_has 5 = .ok (.iload 4, 2) := by decide +kernel
theorem dX7_has_7 : decode cX7_has 7 = .ok (.bipush 10, 2) := by decide +kernel
theorem dX7_has_9 : decode cX7_has 9 = .ok (.aload_n 0, 1) := by decide +kernel
theorem dX7_has_10 : decode cX7_has 10 = .ok (.getfield 13, 3) := by decide +kernel
theorem dX7_has_13 : decode cX7_has 13 = .ok (.iconst 0, 1) := by decide +kernel
theorem dX7_has_14 : decode cX7_has 14 = .ok (.iaload, 1) := by decide +kernel
theorem dX7_has_15 : decode cX7_has 15 = .ok (.imul, 1) := by decide +kernel
theorem dX7_has_16 : decode cX7_has 16 = .ok (.if_icmp .ge 54, 3) := by decide +kernel
theorem dX7_has_19 : decode cX7_has 19 = .ok (.iload_n 3, 1) := by decide +kernel
theorem dX7_has_20 : decode cX7_has 20 = .ok (.aload_n 0, 1) := by decide +kernel
theorem dX7_has_21 : decode cX7_has 21 = .ok (.getfield 47, 3) := by decide +kernel
theorem dX7_has_24 : decode cX7_has 24 = .ok (.iload 4, 2) := by decide +kernel
theorem dX7_has_26 : decode cX7_has 26 = .ok (.iaload, 1) := by decide +kernel
theorem dX7_has_27 : decode cX7_has 27 = .ok (.iload_n 1, 1) := by decide +kernel
theorem dX7_has_28 : decode cX7_has 28 = .ok (.if_icmp .ne 33, 3) := by decide +kernel
theorem dX7_has_31 : decode cX7_has 31 = .ok (.aload_n 0, 1) := by decide +kernel
theorem dX7_has_32 : decode cX7_has 32 = .ok (.getfield 13, 3) := by decide +kernel
theorem dX7_has_35 : decode cX7_has 35 = .ok (.bipush 10, 2) := by decide +kernel
theorem dX7_has_37 : decode cX7_has 37 = .ok (.iload 4, 2) := by decide +kernel
theorem dX7_has_39 : decode cX7_has 39 = .ok (.bipush 10, 2) := by decide +kernel
theorem dX7_has_41 : decode cX7_has 41 = .ok (.idiv, 1) := by decide +kernel
theorem dX7_has_42 : decode cX7_has 42 = .ok (.iadd, 1) := by decide +kernel
theorem dX7_has_43 : decode cX7_has 43 = .ok (.iaload, 1) := by decide +kernel
theorem dX7_has_44 : decode cX7_has 44 = .ok (.iload_n 1, 1) := by decide +kernel
theorem dX7_has_45 : decode cX7_has 45 = .ok (.if_icmp .ne 7, 3) := by decide +kernel
theorem dX7_has_48 : decode cX7_has 48 = .ok (.iconst 1, 1) := by decide +kernel
theorem dX7_has_49 : decode cX7_has 49 = .ok (.goto 4, 3) := by decide +kernel
theorem dX7_has_52 : decode cX7_has 52 = .ok (.iconst 0, 1) := by decide +kernel
theorem dX7_has_53 : decode cX7_has 53 = .ok (.iload_n 2, 1) := by decide +kernel
theorem dX7_has_54 : decode cX7_has 54 = .ok (.if_icmp .ne 7, 3) := by decide +kernel
theorem dX7_has_57 : decode cX7_has 57 = .ok (.iconst 1, 1) := by decide +kernel
theorem dX7_has_58 : decode cX7_has 58 = .ok (.goto 4, 3) := by decide +kernel
theorem dX7_has_61 : decode cX7_has 61 = .ok (.iconst 0, 1) := by decide +kernel
theorem dX7_has_62 : decode cX7_has 62 = .ok (.iadd, 1) := by decide +kernel
theorem dX7_has_63 : decode cX7_has 63 = .ok (.istore_n 3, 1) := by decide +kernel
theorem dX7_has_64 : decode cX7_has 64 = .ok (.iinc 4 1, 3) := by decide +kernel
theorem dX7_has_67 : decode cX7_has 67 = .ok (.goto (-62), 3) := by decide +kernel
theorem dX7_has_70 : decode cX7_has 70 = .ok (.iload_n 3, 1) := by decide +kernel
theorem dX7_has_71 : decode cX7_has 71 = .ok (.ireturn, 1) := by decide +kernel
theorem dX7_held_0 : decode cX7_held 0 = .ok (.aload_n 0, 1) := by decide +kernel
theorem dX7_held_1 : decode cX7_held 1 = .ok (.iload_n 1, 1) := by decide +kernel
theorem dX7_held_2 : decode cX7_held 2 = .ok (.invokevirtual 150, 3) := by decide +kernel
theorem dX7_held_5 : decode cX7_held 5 = .ok (.ifCond .eq 9, 3) := by decide +kernel
theorem dX7_held_8 : decode cX7_held 8 = .ok (.aload_n 0, 1) := by decide +kernel
theorem dX7_held_9 : decode cX7_held 9 = .ok (.iconst (-1), 1) := by decide +kernel
theorem dX7_held_10 : decode cX7_held 10 = .ok (.invokevirtual 64, 3) := by decide +kernel
theorem dX7_held_13 : decode cX7_held 13 = .ok (.ireturn, 1) := by decide +kernel
theorem dX7_held_14 : decode cX7_held 14 = .ok (.iload_n 2, 1) := by decide +kernel
theorem dX7_held_15 : decode cX7_held 15 = .ok (.ifCond .lt 8, 3) := by decide +kernel
theorem dX7_held_18 : decode cX7_held 18 = .ok (.iload_n 2, 1) := by decide +kernel
theorem dX7_held_19 : decode cX7_held 19 = .ok (.iconst 1, 1) := by decide +kernel
theorem dX7_held_20 : decode cX7_held 20 = .ok (.if_icmp .le 10, 3) := by decide +kernel
theorem dX7_held_23 : decode cX7_held 23 = .ok (.aload_n 0, 1) := by decide +kernel
theorem dX7_held_24 : decode cX7_held 24 = .ok (.bipush (-2), 2) := by decide +kernel
theorem dX7_held_26 : decode cX7_held 26 = .ok (.invokevirtual 64, 3) := by decide +kernel
theorem dX7_held_29 : decode cX7_held 29 = .ok (.ireturn, 1) := by decide +kernel
theorem dX7_held_30 : decode cX7_held 30 = .ok (.aload_n 0, 1) := by decide +kernel
theorem dX7_held_31 : decode cX7_held 31 = .ok (.bipush 99, 2) := by decide +kernel
theorem dX7_held_33 : decode cX7_held 33 = .ok (.invokevirtual 147, 3) := by decide +kernel
theorem dX7_held_36 : decode cX7_held 36 = .ok (.aload_n 0, 1) := by decide +kernel
theorem dX7_held_37 : decode cX7_held 37 = .ok (.iload_n 1, 1) := by decide +kernel
theorem dX7_held_38 : decode cX7_held 38 = .ok (.iload_n 2, 1) := by decide +kernel
theorem dX7_held_39 : decode cX7_held 39 = .ok (.ifCond .ne 7, 3) := by decide +kernel
theorem dX7_held_42 : decode cX7_held 42 = .ok (.iconst 1, 1) := by decide +kernel
theorem dX7_held_43 : decode cX7_held 43 = .ok (.goto 4, 3) := by decide +kernel
theorem dX7_held_46 : decode cX7_held 46 = .ok (.iconst 0, 1) := by decide +kernel
theorem dX7_held_47 : decode cX7_held 47 = .ok (.invokevirtual 153, 3) := by decide +kernel
theorem dX7_held_50 : decode cX7_held 50 = .ok (.ireturn, 1) := by decide +kernel
theorem dX7_who_0 : decode cX7_who 0 = .ok (.iload_n 1, 1) := by decide +kernel
theorem dX7_who_1 : decode cX7_who 1 = .ok (.ifCond .lt 40, 3) := by decide +kernel
theorem dX7_who_4 : decode cX7_who 4 = .ok (.aload_n 0, 1) := by decide +kernel
theorem dX7_who_5 : decode cX7_who 5 = .ok (.iload_n 1, 1) := by decide +kernel
theorem dX7_who_6 : decode cX7_who 6 = .ok (.bipush 10, 2) := by decide +kernel
theorem dX7_who_8 : decode cX7_who 8 = .ok (.idiv, 1) := by decide +kernel
theorem dX7_who_9 : decode cX7_who 9 = .ok (.invokevirtual 138, 3) := by decide +kernel
theorem dX7_who_12 : decode cX7_who 12 = .ok (.ifCond .ne 29, 3) := by decide +kernel
theorem dX7_who_15 : decode cX7_who 15 = .ok (.iload_n 1, 1) := by decide +kernel
theorem dX7_who_16 : decode cX7_who 16 = .ok (.bipush 10, 2) := by decide +kernel
theorem dX7_who_18 : decode cX7_who 18 = .ok (.irem, 1) := by decide +kernel
theorem dX7_who_19 : decode cX7_who 19 = .ok (.ifCond .eq 22, 3) := by decide +kernel
theorem dX7_who_22 : decode cX7_who 22 = .ok (.iload_n 1, 1) := by decide +kernel
theorem dX7_who_23 : decode cX7_who 23 = .ok (.bipush 10, 2) := by decide +kernel
theorem dX7_who_25 : decode cX7_who 25 = .ok (.irem, 1) := by decide +kernel
theorem dX7_who_26 : decode cX7_who 26 = .ok (.aload_n 0, 1) := by decide +kernel
theorem dX7_who_27 : decode cX7_who 27 = .ok (.getfield 13, 3) := by decide +kernel
theorem dX7_who_30 : decode cX7_who 30 = .ok (.bipush 20, 2) := by decide +kernel
theorem dX7_who_32 : decode cX7_who 32 = .ok (.iload_n 1, 1) := by decide +kernel
theorem dX7_who_33 : decode cX7_who 33 = .ok (.bipush 10, 2) := by decide +kernel
theorem dX7_who_35 : decode cX7_who 35 = .ok (.idiv, 1) := by decide +kernel
theorem dX7_who_36 : decode cX7_who 36 = .ok (.iadd, 1) := by decide +kernel
theorem dX7_who_37 : decode cX7_who 37 = .ok (.iaload, 1) := by decide +kernel
theorem dX7_who_38 : decode cX7_who 38 = .ok (.if_icmp .le 9, 3) := by decide +kernel
theorem dX7_who_41 : decode cX7_who 41 = .ok (.aload_n 0, 1) := by decide +kernel
theorem dX7_who_42 : decode cX7_who 42 = .ok (.iconst (-1), 1) := by decide +kernel
theorem dX7_who_43 : decode cX7_who 43 = .ok (.invokevirtual 64, 3) := by decide +kernel
theorem dX7_who_46 : decode cX7_who 46 = .ok (.ireturn, 1) := by decide +kernel
theorem dX7_who_47 : decode cX7_who 47 = .ok (.aload_n 0, 1) := by decide +kernel
theorem dX7_who_48 : decode cX7_who 48 = .ok (.bipush 99, 2) := by decide +kernel
theorem dX7_who_50 : decode cX7_who 50 = .ok (.invokevirtual 147, 3) := by decide +kernel
theorem dX7_who_53 : decode cX7_who 53 = .ok (.aload_n 0, 1) := by decide +kernel
theorem dX7_who_54 : decode cX7_who 54 = .ok (.getfield 47, 3) := by decide +kernel
theorem dX7_who_57 : decode cX7_who 57 = .ok (.iload_n 1, 1) := by decide +kernel
theorem dX7_who_58 : decode cX7_who 58 = .ok (.iaload, 1) := by decide +kernel
theorem dX7_who_59 : decode cX7_who 59 = .ok (.ireturn, 1) := by decide +kernel
theorem dX7_missing_0 : decode cX7_missing 0 = .ok (.aload_n 0, 1) := by decide +kernel
theorem dX7_missing_1 : decode cX7_missing 1 = .ok (.iload_n 1, 1) := by decide +kernel
theorem dX7_missing_2 : decode cX7_missing 2 = .ok (.invokevirtual 150, 3) := by decide +kernel
theorem dX7_missing_5 : decode cX7_missing 5 = .ok (.ifCond .eq 9, 3) := by decide +kernel
theorem dX7_missing_8 : decode cX7_missing 8 = .ok (.aload_n 0, 1) := by decide +kernel
theorem dX7_missing_9 : decode cX7_missing 9 = .ok (.iconst (-1), 1) := by decide +kernel
theorem dX7_missing_10 : decode cX7_missing 10 = .ok (.invokevirtual 64, 3) := by decide +kernel
theorem dX7_missing_13 : decode cX7_missing 13 = .ok (.ireturn, 1) := by decide +kernel
theorem dX7_missing_14 : decode cX7_missing 14 = .ok (.aload_n 0, 1) := by decide +kernel
theorem dX7_missing_15 : decode cX7_missing 15 = .ok (.bipush 99, 2) := by decide +kernel
theorem dX7_missing_17 : decode cX7_missing 17 = .ok (.invokevirtual 147, 3) := by decide +kernel
theorem dX7_missing_20 : decode cX7_missing 20 = .ok (.aload_n 0, 1) := by decide +kernel
theorem dX7_missing_21 : decode cX7_missing 21 = .ok (.iload_n 1, 1) := by decide +kernel
theorem dX7_missing_22 : decode cX7_missing 22 = .ok (.iconst 1, 1) := by decide +kernel
theorem dX7_missing_23 : decode cX7_missing 23 = .ok (.invokevirtual 153, 3) := by decide +kernel
theorem dX7_missing_26 : decode cX7_missing 26 = .ok (.ineg, 1) := by decide +kernel
theorem dX7_missing_27 : decode cX7_missing 27 = .ok (.istore_n 2, 1) := by decide +kernel
theorem dX7_missing_28 : decode cX7_missing 28 = .ok (.iconst 0, 1) := by decide +kernel
theorem dX7_missing_29 : decode cX7_missing 29 = .ok (.istore_n 3, 1) := by decide +kernel
theorem dX7_missing_30 : decode cX7_missing 30 = .ok (.iload_n 3, 1) := by decide +kernel
theorem dX7_missing_31 : decode cX7_missing 31 = .ok (.aload_n 0, 1) := by decide +kernel
theorem dX7_missing_32 : decode cX7_missing 32 = .ok (.getfield 13, 3) := by decide +kernel
theorem dX7_missing_35 : decode cX7_missing 35 = .ok (.iconst 0, 1) := by decide +kernel
theorem dX7_missing_36 : decode cX7_missing 36 = .ok (.iaload, 1) := by decide +kernel
theorem dX7_missing_37 : decode cX7_missing 37 = .ok (.if_icmp .ge 38, 3) := by decide +kernel
theorem dX7_missing_40 : decode cX7_missing 40 = .ok (.iload_n 2, 1) := by decide +kernel
theorem dX7_missing_41 : decode cX7_missing 41 = .ok (.aload_n 0, 1) := by decide +kernel
theorem dX7_missing_42 : decode cX7_missing 42 = .ok (.getfield 13, 3) := by decide +kernel
theorem dX7_missing_45 : decode cX7_missing 45 = .ok (.bipush 10, 2) := by decide +kernel
theorem dX7_missing_47 : decode cX7_missing 47 = .ok (.iload_n 3, 1) := by decide +kernel
theorem dX7_missing_48 : decode cX7_missing 48 = .ok (.iadd, 1) := by decide +kernel
theorem dX7_missing_49 : decode cX7_missing 49 = .ok (.iaload, 1) := by decide +kernel
theorem dX7_missing_50 : decode cX7_missing 50 = .ok (.iload_n 1, 1) := by decide +kernel
theorem dX7_missing_51 : decode cX7_missing 51 = .ok (.if_icmp .ne 15, 3) := by decide +kernel
theorem dX7_missing_54 : decode cX7_missing 54 = .ok (.aload_n 0, 1) := by decide +kernel
theorem dX7_missing_55 : decode cX7_missing 55 = .ok (.getfield 13, 3) := by decide +kernel
theorem dX7_missing_58 : decode cX7_missing 58 = .ok (.bipush 20, 2) := by decide +kernel
theorem dX7_missing_60 : decode cX7_missing 60 = .ok (.iload_n 3, 1) := by decide +kernel
theorem dX7_missing_61 : decode cX7_missing 61 = .ok (.iadd, 1) := by decide +kernel
theorem dX7_missing_62 : decode cX7_missing 62 = .ok (.iaload, 1) := by decide +kernel
theorem dX7_missing_63 : decode cX7_missing 63 = .ok (.goto 4, 3) := by decide +kernel
theorem dX7_missing_66 : decode cX7_missing 66 = .ok (.iconst 0, 1) := by decide +kernel
theorem dX7_missing_67 : decode cX7_missing 67 = .ok (.iadd, 1) := by decide +kernel
theorem dX7_missing_68 : decode cX7_missing 68 = .ok (.istore_n 2, 1) := by decide +kernel
theorem dX7_missing_69 : decode cX7_missing 69 = .ok (.iinc 3 1, 3) := by decide +kernel
theorem dX7_missing_72 : decode cX7_missing 72 = .ok (.goto (-42), 3) := by decide +kernel
theorem dX7_missing_75 : decode cX7_missing 75 = .ok (.iload_n 2, 1) := by decide +kernel
theorem dX7_missing_76 : decode cX7_missing 76 = .ok (.ireturn, 1) := by decide +kernel
theorem dX7_ask_0 : decode cX7_ask 0 = .ok (.aload_n 0, 1) := by decide +kernel
theorem dX7_ask_1 : decode cX7_ask 1 = .ok (.iload_n 1, 1) := by decide +kernel
theorem dX7_ask_2 : decode cX7_ask 2 = .ok (.invokevirtual 150, 3) := by decide +kernel
theorem dX7_ask_5 : decode cX7_ask 5 = .ok (.ifCond .eq 9, 3) := by decide +kernel
theorem dX7_ask_8 : decode cX7_ask 8 = .ok (.aload_n 0, 1) := by decide +kernel
theorem dX7_ask_9 : decode cX7_ask 9 = .ok (.iconst (-1), 1) := by decide +kernel
theorem dX7_ask_10 : decode cX7_ask 10 = .ok (.invokevirtual 64, 3) := by decide +kernel
theorem dX7_ask_13 : decode cX7_ask 13 = .ok (.ireturn, 1) := by decide +kernel
theorem dX7_ask_14 : decode cX7_ask 14 = .ok (.aload_n 0, 1) := by decide +kernel
theorem dX7_ask_15 : decode cX7_ask 15 = .ok (.bipush 99, 2) := by decide +kernel
theorem dX7_ask_17 : decode cX7_ask 17 = .ok (.invokevirtual 147, 3) := by decide +kernel
theorem dX7_ask_20 : decode cX7_ask 20 = .ok (.iconst 0, 1) := by decide +kernel
theorem dX7_ask_21 : decode cX7_ask 21 = .ok (.istore_n 2, 1) := by decide +kernel
theorem dX7_ask_22 : decode cX7_ask 22 = .ok (.iconst 0, 1) := by decide +kernel
theorem dX7_ask_23 : decode cX7_ask 23 = .ok (.istore_n 3, 1) := by decide +kernel
theorem dX7_ask_24 : decode cX7_ask 24 = .ok (.iload_n 3, 1) := by decide +kernel
theorem dX7_ask_25 : decode cX7_ask 25 = .ok (.bipush 10, 2) := by decide +kernel
theorem dX7_ask_27 : decode cX7_ask 27 = .ok (.aload_n 0, 1) := by decide +kernel
theorem dX7_ask_28 : decode cX7_ask 28 = .ok (.getfield 13, 3) := by decide +kernel
theorem dX7_ask_31 : decode cX7_ask 31 = .ok (.iconst 0, 1) := by decide +kernel
theorem dX7_ask_32 : decode cX7_ask 32 = .ok (.iaload, 1) := by decide +kernel
theorem dX7_ask_33 : decode cX7_ask 33 = .ok (.imul, 1) := by decide +kernel
theorem dX7_ask_34 : decode cX7_ask 34 = .ok (.if_icmp .ge 55, 3) := by decide +kernel
theorem dX7_ask_37 : decode cX7_ask 37 = .ok (.aload_n 0, 1) := by decide +kernel
theorem dX7_ask_38 : decode cX7_ask 38 = .ok (.getfield 13, 3) := by decide +kernel
theorem dX7_ask_41 : decode cX7_ask 41 = .ok (.bipush 10, 2) := by decide +kernel
theorem dX7_ask_43 : decode cX7_ask 43 = .ok (.iload_n 3, 1) := by decide +kernel
theorem dX7_ask_44 : decode cX7_ask 44 = .ok (.bipush 10, 2) := by decide +kernel
theorem dX7_ask_46 : decode cX7_ask 46 = .ok (.idiv, 1) := by decide +kernel
theorem dX7_ask_47 : decode cX7_ask 47 = .ok (.iadd, 1) := by decide +kernel
theorem dX7_ask_48 : decode cX7_ask 48 = .ok (.iaload, 1) := by decide +kernel
theorem dX7_ask_49 : decode cX7_ask 49 = .ok (.iload_n 1, 1) := by decide +kernel
theorem dX7_ask_50 : decode cX7_ask 50 = .ok (.if_icmp .ne 33, 3) := by decide +kernel
theorem dX7_ask_53 : decode cX7_ask 53 = .ok (.aload_n 0, 1) := by decide +kernel
theorem dX7_ask_54 : decode cX7_ask 54 = .ok (.getfield 47, 3) := by decide +kernel
theorem dX7_ask_57 : decode cX7_ask 57 = .ok (.iload_n 3, 1) := by decide +kernel
theorem dX7_ask_58 : decode cX7_ask 58 = .ok (.iaload, 1) := by decide +kernel
theorem dX7_ask_59 : decode cX7_ask 59 = .ok (.ifCond .lt 24, 3) := by decide +kernel
theorem dX7_ask_62 : decode cX7_ask 62 = .ok (.aload_n 0, 1) := by decide +kernel
theorem dX7_ask_63 : decode cX7_ask 63 = .ok (.getfield 47, 3) := by decide +kernel
theorem dX7_ask_66 : decode cX7_ask 66 = .ok (.iload_n 3, 1) := by decide +kernel
theorem dX7_ask_67 : decode cX7_ask 67 = .ok (.iaload, 1) := by decide +kernel
theorem dX7_ask_68 : decode cX7_ask 68 = .ok (.iload_n 1, 1) := by decide +kernel
theorem dX7_ask_69 : decode cX7_ask 69 = .ok (.if_icmp .eq 14, 3) := by decide +kernel
theorem dX7_ask_72 : decode cX7_ask 72 = .ok (.iload_n 2, 1) := by decide +kernel
theorem dX7_ask_73 : decode cX7_ask 73 = .ok (.iconst 1, 1) := by decide +kernel
theorem dX7_ask_74 : decode cX7_ask 74 = .ok (.aload_n 0, 1) := by decide +kernel
theorem dX7_ask_75 : decode cX7_ask 75 = .ok (.getfield 47, 3) := by decide +kernel
theorem dX7_ask_78 : decode cX7_ask 78 = .ok (.iload_n 3, 1) := by decide +kernel
theorem dX7_ask_79 : decode cX7_ask 79 = .ok (.iaload, 1) := by decide +kernel
theorem dX7_ask_80 : decode cX7_ask 80 = .ok (.ishl, 1) := by decide +kernel
theorem dX7_ask_81 : decode cX7_ask 81 = .ok (.ior, 1) := by decide +kernel
theorem dX7_ask_82 : decode cX7_ask 82 = .ok (.istore_n 2, 1) := by decide +kernel
theorem dX7_ask_83 : decode cX7_ask 83 = .ok (.iinc 3 1, 3) := by decide +kernel
theorem dX7_ask_86 : decode cX7_ask 86 = .ok (.goto (-62), 3) := by decide +kernel
theorem dX7_ask_89 : decode cX7_ask 89 = .ok (.iload_n 2, 1) := by decide +kernel
theorem dX7_ask_90 : decode cX7_ask 90 = .ok (.ireturn, 1) := by decide +kernel
theorem dX7_when_0 : decode cX7_when 0 = .ok (.aload_n 0, 1) := by decide +kernel
theorem dX7_when_1 : decode cX7_when 1 = .ok (.bipush 99, 2) := by decide +kernel
theorem dX7_when_3 : decode cX7_when 3 = .ok (.invokevirtual 147, 3) := by decide +kernel
theorem dX7_when_6 : decode cX7_when 6 = .ok (.iconst 0, 1) := by decide +kernel
theorem dX7_when_7 : decode cX7_when 7 = .ok (.istore_n 2, 1) := by decide +kernel
theorem dX7_when_8 : decode cX7_when 8 = .ok (.iconst 0, 1) := by decide +kernel
theorem dX7_when_9 : decode cX7_when 9 = .ok (.istore_n 3, 1) := by decide +kernel
theorem dX7_when_10 : decode cX7_when 10 = .ok (.iload_n 3, 1) := by decide +kernel
theorem dX7_when_11 : decode cX7_when 11 = .ok (.aload_n 0, 1) := by decide +kernel
theorem dX7_when_12 : decode cX7_when 12 = .ok (.getfield 13, 3) := by decide +kernel
theorem dX7_when_15 : decode cX7_when 15 = .ok (.iconst 0, 1) := by decide +kernel
theorem dX7_when_16 : decode cX7_when 16 = .ok (.iaload, 1) := by decide +kernel
theorem dX7_when_17 : decode cX7_when 17 = .ok (.if_icmp .ge 38, 3) := by decide +kernel
theorem dX7_when_20 : decode cX7_when 20 = .ok (.iload_n 2, 1) := by decide +kernel
theorem dX7_when_21 : decode cX7_when 21 = .ok (.aload_n 0, 1) := by decide +kernel
theorem dX7_when_22 : decode cX7_when 22 = .ok (.getfield 13, 3) := by decide +kernel
theorem dX7_when_25 : decode cX7_when 25 = .ok (.bipush 10, 2) := by decide +kernel
theorem dX7_when_27 : decode cX7_when 27 = .ok (.iload_n 3, 1) := by decide +kernel
theorem dX7_when_28 : decode cX7_when 28 = .ok (.iadd, 1) := by decide +kernel
theorem dX7_when_29 : decode cX7_when 29 = .ok (.iaload, 1) := by decide +kernel
theorem dX7_when_30 : decode cX7_when 30 = .ok (.iload_n 1, 1) := by decide +kernel
theorem dX7_when_31 : decode cX7_when 31 = .ok (.if_icmp .ne 15, 3) := by decide +kernel
theorem dX7_when_34 : decode cX7_when 34 = .ok (.aload_n 0, 1) := by decide +kernel
theorem dX7_when_35 : decode cX7_when 35 = .ok (.getfield 13, 3) := by decide +kernel
theorem dX7_when_38 : decode cX7_when 38 = .ok (.bipush 20, 2) := by decide +kernel
theorem dX7_when_40 : decode cX7_when 40 = .ok (.iload_n 3, 1) := by decide +kernel
theorem dX7_when_41 : decode cX7_when 41 = .ok (.iadd, 1) := by decide +kernel
theorem dX7_when_42 : decode cX7_when 42 = .ok (.iaload, 1) := by decide +kernel
theorem dX7_when_43 : decode cX7_when 43 = .ok (.goto 4, 3) := by decide +kernel
theorem dX7_when_46 : decode cX7_when 46 = .ok (.iconst 0, 1) := by decide +kernel
theorem dX7_when_47 : decode cX7_when 47 = .ok (.iadd, 1) := by decide +kernel
theorem dX7_when_48 : decode cX7_when 48 = .ok (.istore_n 2, 1) := by decide +kernel
theorem dX7_when_49 : decode cX7_when 49 = .ok (.iinc 3 1, 3) := by decide +kernel
theorem dX7_when_52 : decode cX7_when 52 = .ok (.goto (-42), 3) := by decide +kernel
theorem dX7_when_55 : decode cX7_when 55 = .ok (.iconst 0, 1) := by decide +kernel
theorem dX7_when_56 : decode cX7_when 56 = .ok (.istore_n 3, 1) := by decide +kernel
theorem dX7_when_57 : decode cX7_when 57 = .ok (.iconst 0, 1) := by decide +kernel
theorem dX7_when_58 : decode cX7_when 58 = .ok (.istore 4, 2) := by decide +kernel
theorem dX7_when_60 : decode cX7_when 60 = .ok (.iload 4, 2) := by decide +kernel
theorem dX7_when_62 : decode cX7_when 62 = .ok (.aload_n 0, 1) := by decide +kernel
theorem dX7_when_63 : decode cX7_when 63 = .ok (.getfield 113, 3) := by decide +kernel
theorem dX7_when_66 : decode cX7_when 66 = .ok (.if_icmp .ge 110, 3) := by decide +kernel
theorem dX7_when_69 : decode cX7_when 69 = .ok (.iload_n 2, 1) := by decide +kernel
theorem dX7_when_70 : decode cX7_when 70 = .ok (.ifCond .le 106, 3) := by decide +kernel
theorem dX7_when_73 : decode cX7_when 73 = .ok (.iconst 0, 1) := by decide +kernel
theorem dX7_when_74 : decode cX7_when 74 = .ok (.istore 5, 2) := by decide +kernel
theorem dX7_when_76 : decode cX7_when 76 = .ok (.iconst 0, 1) := by decide +kernel
theorem dX7_when_77 : decode cX7_when 77 = .ok (.istore 6, 2) := by decide +kernel
theorem dX7_when_79 : decode cX7_when 79 = .ok (.iload 6, 2) := by decide +kernel
theorem dX7_when_81 : decode cX7_when 81 = .ok (.iload 4, 2) := by decide +kernel
theorem dX7_when_83 : decode cX7_when 83 = .ok (.if_icmp .ge 38, 3) := by decide +kernel
theorem dX7_when_86 : decode cX7_when 86 = .ok (.iload 5, 2) := by decide +kernel
theorem dX7_when_88 : decode cX7_when 88 = .ok (.ifCond .ne 20, 3) := by decide +kernel
theorem dX7_when_91 : decode cX7_when 91 = .ok (.aload_n 0, 1) := by decide +kernel
theorem dX7_when_92 : decode cX7_when 92 = .ok (.getfield 38, 3) := by decide +kernel
theorem dX7_when_95 : decode cX7_when 95 = .ok (.iload 6, 2) := by decide +kernel
theorem dX7_when_97 : decode cX7_when 97 = .ok (.iaload, 1) := by decide +kernel
theorem dX7_when_98 : decode cX7_when 98 = .ok (.aload_n 0, 1) := by decide +kernel
theorem dX7_when_99 : decode cX7_when 99 = .ok (.getfield 38, 3) := by decide +kernel
theorem dX7_when_102 : decode cX7_when 102 = .ok (.iload 4, 2) := by decide +kernel
theorem dX7_when_104 : decode cX7_when 104 = .ok (.iaload, 1) := by decide +kernel
theorem dX7_when_105 : decode cX7_when 105 = .ok (.if_icmp .ne 7, 3) := by decide +kernel
theorem dX7_when_108 : decode cX7_when 108 = .ok (.iconst 1, 1) := by decide +kernel
theorem dX7_when_109 : decode cX7_when 109 = .ok (.goto 4, 3) := by decide +kernel
theorem dX7_when_112 : decode cX7_when 112 = .ok (.iconst 0, 1) := by decide +kernel
theorem dX7_when_113 : decode cX7_when 113 = .ok (.istore 5, 2) := by decide +kernel
theorem dX7_when_115 : decode cX7_when 115 = .ok (.iinc 6 1, 3) := by decide +kernel
theorem dX7_when_118 : decode cX7_when 118 = .ok (.goto (-39), 3) := by decide +kernel
theorem dX7_when_121 : decode cX7_when 121 = .ok (.iload_n 2, 1) := by decide +kernel
theorem dX7_when_122 : decode cX7_when 122 = .ok (.aload_n 0, 1) := by decide +kernel
theorem dX7_when_123 : decode cX7_when 123 = .ok (.getfield 13, 3) := by decide +kernel
theorem dX7_when_126 : decode cX7_when 126 = .ok (.bipush 10, 2) := by decide +kernel
theorem dX7_when_128 : decode cX7_when 128 = .ok (.aload_n 0, 1) := by decide +kernel
theorem dX7_when_129 : decode cX7_when 129 = .ok (.getfield 38, 3) := by decide +kernel
theorem dX7_when_132 : decode cX7_when 132 = .ok (.iload 4, 2) := by decide +kernel
theorem dX7_when_134 : decode cX7_when 134 = .ok (.iaload, 1) := by decide +kernel
theorem dX7_when_135 : decode cX7_when 135 = .ok (.bipush 10, 2) := by decide +kernel
theorem dX7_when_137 : decode cX7_when 137 = .ok (.idiv, 1) := by decide +kernel
theorem dX7_when_138 : decode cX7_when 138 = .ok (.iadd, 1) := by decide +kernel
theorem dX7_when_139 : decode cX7_when 139 = .ok (.iaload, 1) := by decide +kernel
theorem dX7_when_140 : decode cX7_when 140 = .ok (.iload_n 1, 1) := by decide +kernel
theorem dX7_when_141 : decode cX7_when 141 = .ok (.if_icmp .ne 12, 3) := by decide +kernel
theorem dX7_when_144 : decode cX7_when 144 = .ok (.iload 5, 2) := by decide +kernel
theorem dX7_when_146 : decode cX7_when 146 = .ok (.ifCond .ne 7, 3) := by decide +kernel
theorem dX7_when_149 : decode cX7_when 149 = .ok (.iconst 1, 1) := by decide +kernel
theorem dX7_when_150 : decode cX7_when 150 = .ok (.goto 4, 3) := by decide +kernel
theorem dX7_when_153 : decode cX7_when 153 = .ok (.iconst 0, 1) := by decide +kernel
theorem dX7_when_154 : decode cX7_when 154 = .ok (.isub, 1) := by decide +kernel
theorem dX7_when_155 : decode cX7_when 155 = .ok (.istore_n 2, 1) := by decide +kernel
theorem dX7_when_156 : decode cX7_when 156 = .ok (.aload_n 0, 1) := by decide +kernel
theorem dX7_when_157 : decode cX7_when 157 = .ok (.getfield 41, 3) := by decide +kernel
theorem dX7_when_160 : decode cX7_when 160 = .ok (.iload 4, 2) := by decide +kernel
theorem dX7_when_162 : decode cX7_when 162 = .ok (.iaload, 1) := by decide +kernel
theorem dX7_when_163 : decode cX7_when 163 = .ok (.istore_n 3, 1) := by decide +kernel
theorem dX7_when_164 : decode cX7_when 164 = .ok (.iload_n 2, 1) := by decide +kernel
theorem dX7_when_165 : decode cX7_when 165 = .ok (.ifCond .ne 5, 3) := by decide +kernel
theorem dX7_when_168 : decode cX7_when 168 = .ok (.iload_n 3, 1) := by decide +kernel
theorem dX7_when_169 : decode cX7_when 169 = .ok (.ireturn, 1) := by decide +kernel
theorem dX7_when_170 : decode cX7_when 170 = .ok (.iinc 4 1, 3) := by decide +kernel
theorem dX7_when_173 : decode cX7_when 173 = .ok (.goto (-113), 3) := by decide +kernel
theorem dX7_when_176 : decode cX7_when 176 = .ok (.bipush (-9), 2) := by decide +kernel
theorem dX7_when_178 : decode cX7_when 178 = .ok (.ireturn, 1) := by decide +kernel
theorem dX7_ready_0 : decode cX7_ready 0 = .ok (.aload_n 0, 1) := by decide +kernel
theorem dX7_ready_1 : decode cX7_ready 1 = .ok (.iload_n 1, 1) := by decide +kernel
theorem dX7_ready_2 : decode cX7_ready 2 = .ok (.invokevirtual 150, 3) := by decide +kernel
theorem dX7_ready_5 : decode cX7_ready 5 = .ok (.ifCond .eq 11, 3) := by decide +kernel
theorem dX7_ready_8 : decode cX7_ready 8 = .ok (.aload_n 0, 1) := by decide +kernel
theorem dX7_ready_9 : decode cX7_ready 9 = .ok (.iconst (-1), 1) := by decide +kernel
theorem dX7_ready_10 : decode cX7_ready 10 = .ok (.invokevirtual 64, 3) := by decide +kernel
theorem dX7_ready_13 : decode cX7_ready 13 = .ok (.goto 8, 3) := by decide +kernel
theorem dX7_ready_16 : decode cX7_ready 16 = .ok (.aload_n 0, 1) := by decide +kernel
theorem dX7_ready_17 : decode cX7_ready 17 = .ok (.iload_n 1, 1) := by decide +kernel
theorem dX7_ready_18 : decode cX7_ready 18 = .ok (.invokevirtual 157, 3) := by decide +kernel
theorem dX7_ready_21 : decode cX7_ready 21 = .ok (.ireturn, 1) := by decide +kernel
theorem dX7_mixed_0 : decode cX7_mixed 0 = .ok (.aload_n 0, 1) := by decide +kernel
theorem dX7_mixed_1 : decode cX7_mixed 1 = .ok (.bipush 99, 2) := by decide +kernel
theorem dX7_mixed_3 : decode cX7_mixed 3 = .ok (.invokevirtual 147, 3) := by decide +kernel
theorem dX7_mixed_6 : decode cX7_mixed 6 = .ok (.aload_n 0, 1) := by decide +kernel
theorem dX7_mixed_7 : decode cX7_mixed 7 = .ok (.invokevirtual 160, 3) := by decide +kernel
theorem dX7_mixed_10 : decode cX7_mixed 10 = .ok (.ireturn, 1) := by decide +kernel
theorem dX7_byKind_0 : decode cX7_byKind 0 = .ok (.aload_n 0, 1) := by decide +kernel
theorem dX7_byKind_1 : decode cX7_byKind 1 = .ok (.getfield 13, 3) := by decide +kernel
theorem dX7_byKind_4 : decode cX7_byKind 4 = .ok (.iconst 2, 1) := by decide +kernel
theorem dX7_byKind_5 : decode cX7_byKind 5 = .ok (.iaload, 1) := by decide +kernel
theorem dX7_byKind_6 : decode cX7_byKind 6 = .ok (.istore_n 1, 1) := by decide +kernel
theorem dX7_byKind_7 : decode cX7_byKind 7 = .ok (.iconst 0, 1) := by decide +kernel
theorem dX7_byKind_8 : decode cX7_byKind 8 = .ok (.istore_n 2, 1) := by decide +kernel
theorem dX7_byKind_9 : decode cX7_byKind 9 = .ok (.sipush 1000, 3) := by decide +kernel
theorem dX7_byKind_12 : decode cX7_byKind 12 = .ok (.istore_n 3, 1) := by decide +kernel
theorem dX7_byKind_13 : decode cX7_byKind 13 = .ok (.iconst 0, 1) := by decide +kernel
theorem dX7_byKind_14 : decode cX7_byKind 14 = .ok (.istore 4, 2) := by decide +kernel
theorem dX7_byKind_16 : decode cX7_byKind 16 = .ok (.iload 4, 2) := by decide +kernel
theorem dX7_byKind_18 : decode cX7_byKind 18 = .ok (.bipush 6, 2) := by decide +kernel
theorem dX7_byKind_20 : decode cX7_byKind 20 = .ok (.if_icmp .ge 35, 3) := by decide +kernel
theorem dX7_byKind_23 : decode cX7_byKind 23 = .ok (.aload_n 0, 1) := by decide +kernel
theorem dX7_byKind_24 : decode cX7_byKind 24 = .ok (.getfield 13, 3) := by decide +kernel
theorem dX7_byKind_27 : decode cX7_byKind 27 = .ok (.iconst 2, 1) := by decide +kernel
theorem dX7_byKind_28 : decode cX7_byKind 28 = .ok (.iload 4, 2) := by decide +kernel
theorem dX7_byKind_30 : decode cX7_byKind 30 = .ok (.iastore, 1) := by decide +kernel
theorem dX7_byKind_31 : decode cX7_byKind 31 = .ok (.aload_n 0, 1) := by decide +kernel
theorem dX7_byKind_32 : decode cX7_byKind 32 = .ok (.invokevirtual 163, 3) := by decide +kernel
theorem dX7_byKind_35 : decode cX7_byKind 35 = .ok (.istore 5, 2) := by decide +kernel
theorem dX7_byKind_37 : decode cX7_byKind 37 = .ok (.iload 5, 2) := by decide +kernel
theorem dX7_byKind_39 : decode cX7_byKind 39 = .ok (.iload_n 3, 1) := by decide +kernel
theorem dX7_byKind_40 : decode cX7_byKind 40 = .ok (.if_icmp .ge 9, 3) := by decide +kernel
theorem dX7_byKind_43 : decode cX7_byKind 43 = .ok (.iload 5, 2) := by decide +kernel
theorem dX7_byKind_45 : decode cX7_byKind 45 = .ok (.istore_n 3, 1) := by decide +kernel
theorem dX7_byKind_46 : decode cX7_byKind 46 = .ok (.iload 4, 2) := by decide +kernel
theorem dX7_byKind_48 : decode cX7_byKind 48 = .ok (.istore_n 2, 1) := by decide +kernel
theorem dX7_byKind_49 : decode cX7_byKind 49 = .ok (.iinc 4 1, 3) := by decide +kernel
theorem dX7_byKind_52 : decode cX7_byKind 52 = .ok (.goto (-36), 3) := by decide +kernel
theorem dX7_byKind_55 : decode cX7_byKind 55 = .ok (.aload_n 0, 1) := by decide +kernel
theorem dX7_byKind_56 : decode cX7_byKind 56 = .ok (.getfield 13, 3) := by decide +kernel
theorem dX7_byKind_59 : decode cX7_byKind 59 = .ok (.iconst 2, 1) := by decide +kernel
theorem dX7_byKind_60 : decode cX7_byKind 60 = .ok (.iload_n 1, 1) := by decide +kernel
theorem dX7_byKind_61 : decode cX7_byKind 61 = .ok (.iastore, 1) := by decide +kernel
theorem dX7_byKind_62 : decode cX7_byKind 62 = .ok (.iload_n 2, 1) := by decide +kernel
theorem dX7_byKind_63 : decode cX7_byKind 63 = .ok (.ireturn, 1) := by decide +kernel
theorem dX7_send_0 : decode cX7_send 0 = .ok (.aload_n 0, 1) := by decide +kernel
theorem dX7_send_1 : decode cX7_send 1 = .ok (.iload_n 1, 1) := by decide +kernel
theorem dX7_send_2 : decode cX7_send 2 = .ok (.invokevirtual 138, 3) := by decide +kernel
theorem dX7_send_5 : decode cX7_send 5 = .ok (.ifCond .eq 9, 3) := by decide +kernel
theorem dX7_send_8 : decode cX7_send 8 = .ok (.aload_n 0, 1) := by decide +kernel
theorem dX7_send_9 : decode cX7_send 9 = .ok (.iconst (-1), 1) := by decide +kernel
theorem dX7_send_10 : decode cX7_send 10 = .ok (.invokevirtual 64, 3) := by decide +kernel
theorem dX7_send_13 : decode cX7_send 13 = .ok (.ireturn, 1) := by decide +kernel
theorem dX7_send_14 : decode cX7_send 14 = .ok (.iload_n 2, 1) := by decide +kernel
theorem dX7_send_15 : decode cX7_send 15 = .ok (.ifCond .lt 8, 3) := by decide +kernel
theorem dX7_send_18 : decode cX7_send 18 = .ok (.iload_n 2, 1) := by decide +kernel
theorem dX7_send_19 : decode cX7_send 19 = .ok (.iconst 1, 1) := by decide +kernel
theorem dX7_send_20 : decode cX7_send 20 = .ok (.if_icmp .le 10, 3) := by decide +kernel
theorem dX7_send_23 : decode cX7_send 23 = .ok (.aload_n 0, 1) := by decide +kernel
theorem dX7_send_24 : decode cX7_send 24 = .ok (.bipush (-2), 2) := by decide +kernel
theorem dX7_send_26 : decode cX7_send 26 = .ok (.invokevirtual 64, 3) := by decide +kernel
theorem dX7_send_29 : decode cX7_send 29 = .ok (.ireturn, 1) := by decide +kernel
theorem dX7_send_30 : decode cX7_send 30 = .ok (.aload_n 0, 1) := by decide +kernel
theorem dX7_send_31 : decode cX7_send 31 = .ok (.getfield 13, 3) := by decide +kernel
theorem dX7_send_34 : decode cX7_send 34 = .ok (.bipush 30, 2) := by decide +kernel
theorem dX7_send_36 : decode cX7_send 36 = .ok (.iload_n 1, 1) := by decide +kernel
theorem dX7_send_37 : decode cX7_send 37 = .ok (.iadd, 1) := by decide +kernel
theorem dX7_send_38 : decode cX7_send 38 = .ok (.iaload, 1) := by decide +kernel
theorem dX7_send_39 : decode cX7_send 39 = .ok (.istore_n 3, 1) := by decide +kernel
theorem dX7_send_40 : decode cX7_send 40 = .ok (.iconst 0, 1) := by decide +kernel
theorem dX7_send_41 : decode cX7_send 41 = .ok (.istore 4, 2) := by decide +kernel
theorem dX7_send_43 : decode cX7_send 43 = .ok (.sipush 1000, 3) := by decide +kernel
theorem dX7_send_46 : decode cX7_send 46 = .ok (.istore 5, 2) := by decide +kernel
theorem dX7_send_48 : decode cX7_send 48 = .ok (.iconst 0, 1) := by decide +kernel
theorem dX7_send_49 : decode cX7_send 49 = .ok (.istore 6, 2) := by decide +kernel
theorem dX7_send_51 : decode cX7_send 51 = .ok (.iload 6, 2) := by decide +kernel
theorem dX7_send_53 : decode cX7_send 53 = .ok (.bipush 60, 2) := by decide +kernel
theorem dX7_send_55 : decode cX7_send 55 = .ok (.if_icmp .ge 41, 3) := by decide +kernel
theorem dX7_send_58 : decode cX7_send 58 = .ok (.aload_n 0, 1) := by decide +kernel
theorem dX7_send_59 : decode cX7_send 59 = .ok (.getfield 13, 3) := by decide +kernel
theorem dX7_send_62 : decode cX7_send 62 = .ok (.bipush 30, 2) := by decide +kernel
theorem dX7_send_64 : decode cX7_send 64 = .ok (.iload_n 1, 1) := by decide +kernel
theorem dX7_send_65 : decode cX7_send 65 = .ok (.iadd, 1) := by decide +kernel
theorem dX7_send_66 : decode cX7_send 66 = .ok (.iload 6, 2) := by decide +kernel
theorem dX7_send_68 : decode cX7_send 68 = .ok (.iastore, 1) := by decide +kernel
theorem dX7_send_69 : decode cX7_send 69 = .ok (.aload_n 0, 1) := by decide +kernel
theorem dX7_send_70 : decode cX7_send 70 = .ok (.invokevirtual 163, 3) := by decide +kernel
theorem dX7_send_73 : decode cX7_send 73 = .ok (.istore 7, 2) := by decide +kernel
theorem dX7_send_75 : decode cX7_send 75 = .ok (.iload 7, 2) := by decide +kernel
theorem dX7_send_77 : decode cX7_send 77 = .ok (.iload 5, 2) := by decide +kernel
theorem dX7_send_79 : decode cX7_send 79 = .ok (.if_icmp .ge 11, 3) := by decide +kernel
theorem dX7_send_82 : decode cX7_send 82 = .ok (.iload 7, 2) := by decide +kernel
theorem dX7_send_84 : decode cX7_send 84 = .ok (.istore 5, 2) := by decide +kernel
theorem dX7_send_86 : decode cX7_send 86 = .ok (.iload 6, 2) := by decide +kernel
theorem dX7_send_88 : decode cX7_send 88 = .ok (.istore 4, 2) := by decide +kernel
theorem dX7_send_90 : decode cX7_send 90 = .ok (.iinc 6 1, 3) := by decide +kernel
theorem dX7_send_93 : decode cX7_send 93 = .ok (.goto (-42), 3) := by decide +kernel
theorem dX7_send_96 : decode cX7_send 96 = .ok (.aload_n 0, 1) := by decide +kernel
theorem dX7_send_97 : decode cX7_send 97 = .ok (.getfield 13, 3) := by decide +kernel
theorem dX7_send_100 : decode cX7_send 100 = .ok (.bipush 30, 2) := by decide +kernel
theorem dX7_send_102 : decode cX7_send 102 = .ok (.iload_n 1, 1) := by decide +kernel
theorem dX7_send_103 : decode cX7_send 103 = .ok (.iadd, 1) := by decide +kernel
theorem dX7_send_104 : decode cX7_send 104 = .ok (.iload_n 3, 1) := by decide +kernel
theorem dX7_send_105 : decode cX7_send 105 = .ok (.iastore, 1) := by decide +kernel
theorem dX7_send_106 : decode cX7_send 106 = .ok (.iload_n 2, 1) := by decide +kernel
theorem dX7_send_107 : decode cX7_send 107 = .ok (.ifCond .ne 8, 3) := by decide +kernel
theorem dX7_send_110 : decode cX7_send 110 = .ok (.iload 4, 2) := by decide +kernel
theorem dX7_send_112 : decode cX7_send 112 = .ok (.goto 5, 3) := by decide +kernel
theorem dX7_send_115 : decode cX7_send 115 = .ok (.iload 5, 2) := by decide +kernel
theorem dX7_send_117 : decode cX7_send 117 = .ok (.ireturn, 1) := by decide +kernel
theorem dX7_together_0 : decode cX7_together 0 = .ok (.iload_n 1, 1) := by decide +kernel
theorem dX7_together_1 : decode cX7_together 1 = .ok (.iload_n 2, 1) := by decide +kernel
theorem dX7_together_2 : decode cX7_together 2 = .ok (.iadd, 1) := by decide +kernel
theorem dX7_together_3 : decode cX7_together 3 = .ok (.iload_n 3, 1) := by decide +kernel
theorem dX7_together_4 : decode cX7_together 4 = .ok (.iadd, 1) := by decide +kernel
theorem dX7_together_5 : decode cX7_together 5 = .ok (.aload_n 0, 1) := by decide +kernel
theorem dX7_together_6 : decode cX7_together 6 = .ok (.getfield 166, 3) := by decide +kernel
theorem dX7_together_9 : decode cX7_together 9 = .ok (.if_icmp .eq 5, 3) := by decide +kernel
theorem dX7_together_12 : decode cX7_together 12 = .ok (.iconst 0, 1) := by decide +kernel
theorem dX7_together_13 : decode cX7_together 13 = .ok (.ireturn, 1) := by decide +kernel
theorem dX7_together_14 : decode cX7_together 14 = .ok (.iconst 0, 1) := by decide +kernel
theorem dX7_together_15 : decode cX7_together 15 = .ok (.istore 4, 2) := by decide +kernel
theorem dX7_together_17 : decode cX7_together 17 = .ok (.iload 4, 2) := by decide +kernel
theorem dX7_together_19 : decode cX7_together 19 = .ok (.iload_n 1, 1) := by decide +kernel
theorem dX7_together_20 : decode cX7_together 20 = .ok (.if_icmp .gt 241, 3) := by decide +kernel
theorem dX7_together_23 : decode cX7_together 23 = .ok (.iconst 0, 1) := by decide +kernel
theorem dX7_together_24 : decode cX7_together 24 = .ok (.istore 5, 2) := by decide +kernel
theorem dX7_together_26 : decode cX7_together 26 = .ok (.iload 5, 2) := by decide +kernel
theorem dX7_together_28 : decode cX7_together 28 = .ok (.iload_n 2, 1) := by decide +kernel
theorem dX7_together_29 : decode cX7_together 29 = .ok (.if_icmp .gt 226, 3) := by decide +kernel
theorem dX7_together_32 : decode cX7_together 32 = .ok (.iconst 0, 1) := by decide +kernel
theorem dX7_together_33 : decode cX7_together 33 = .ok (.istore 6, 2) := by decide +kernel
theorem dX7_together_35 : decode cX7_together 35 = .ok (.iload 6, 2) := by decide +kernel
theorem dX7_together_37 : decode cX7_together 37 = .ok (.iload_n 3, 1) := by decide +kernel
theorem dX7_together_38 : decode cX7_together 38 = .ok (.if_icmp .gt 211, 3) := by decide +kernel
theorem dX7_together_41 : decode cX7_together 41 = .ok (.iload 4, 2) := by decide +kernel
theorem dX7_together_43 : decode cX7_together 43 = .ok (.iload 5, 2) := by decide +kernel
theorem dX7_together_45 : decode cX7_together 45 = .ok (.iadd, 1) := by decide +kernel
theorem dX7_together_46 : decode cX7_together 46 = .ok (.iload 6, 2) := by decide +kernel
theorem dX7_together_48 : decode cX7_together 48 = .ok (.iadd, 1) := by decide +kernel
theorem dX7_together_49 : decode cX7_together 49 = .ok (.ifCond .ne 7, 3) := by decide +kernel
theorem dX7_together_52 : decode cX7_together 52 = .ok (.iconst 1, 1) := by decide +kernel
theorem dX7_together_53 : decode cX7_together 53 = .ok (.goto 4, 3) := by decide +kernel
theorem dX7_together_56 : decode cX7_together 56 = .ok (.iconst 0, 1) := by decide +kernel
theorem dX7_together_57 : decode cX7_together 57 = .ok (.istore 7, 2) := by decide +kernel
theorem dX7_together_59 : decode cX7_together 59 = .ok (.iload 4, 2) := by decide +kernel
theorem dX7_together_61 : decode cX7_together 61 = .ok (.iload 5, 2) := by decide +kernel
theorem dX7_together_63 : decode cX7_together 63 = .ok (.iadd, 1) := by decide +kernel
theorem dX7_together_64 : decode cX7_together 64 = .ok (.iload 6, 2) := by decide +kernel
theorem dX7_together_66 : decode cX7_together 66 = .ok (.iadd, 1) := by decide +kernel
theorem dX7_together_67 : decode cX7_together 67 = .ok (.ifCond .ne 7, 3) := by decide +kernel
theorem dX7_together_70 : decode cX7_together 70 = .ok (.iconst 0, 1) := by decide +kernel
theorem dX7_together_71 : decode cX7_together 71 = .ok (.goto 21, 3) := by decide +kernel
theorem dX7_together_74 : decode cX7_together 74 = .ok (.aload_n 0, 1) := by decide +kernel
theorem dX7_together_75 : decode cX7_together 75 = .ok (.getfield 54, 3) := by decide +kernel
theorem dX7_together_78 : decode cX7_together 78 = .ok (.iload 4, 2) := by decide +kernel
theorem dX7_together_80 : decode cX7_together 80 = .ok (.iload 5, 2) := by decide +kernel
theorem dX7_together_82 : decode cX7_together 82 = .ok (.iadd, 1) := by decide +kernel
theorem dX7_together_83 : decode cX7_together 83 = .ok (.iload 6, 2) := by decide +kernel
theorem dX7_together_85 : decode cX7_together 85 = .ok (.iadd, 1) := by decide +kernel
theorem dX7_together_86 : decode cX7_together 86 = .ok (.iconst 1, 1) := by decide +kernel
theorem dX7_together_87 : decode cX7_together 87 = .ok (.isub, 1) := by decide +kernel
theorem dX7_together_88 : decode cX7_together 88 = .ok (.iaload, 1) := by decide +kernel
theorem dX7_together_89 : decode cX7_together 89 = .ok (.bipush 10, 2) := by decide +kernel
theorem dX7_together_91 : decode cX7_together 91 = .ok (.irem, 1) := by decide +kernel
theorem dX7_together_92 : decode cX7_together 92 = .ok (.istore 8, 2) := by decide +kernel
theorem dX7_together_94 : decode cX7_together 94 = .ok (.iload 7, 2) := by decide +kernel
theorem dX7_together_96 : decode cX7_together 96 = .ok (.iload 4, 2) := by decide +kernel
theorem dX7_together_98 : decode cX7_together 98 = .ok (.ifCond .le 35, 3) := by decide +kernel
theorem dX7_together_101 : decode cX7_together 101 = .ok (.iload 8, 2) := by decide +kernel
theorem dX7_together_103 : decode cX7_together 103 = .ok (.iload 4, 2) := by decide +kernel
theorem dX7_together_105 : decode cX7_together 105 = .ok (.if_icmp .ne 28, 3) := by decide +kernel
theorem dX7_together_108 : decode cX7_together 108 = .ok (.aload_n 0, 1) := by decide +kernel
theorem dX7_together_109 : decode cX7_together 109 = .ok (.getfield 57, 3) := by decide +kernel
theorem dX7_together_112 : decode cX7_together 112 = .ok (.bipush 100, 2) := by decide +kernel
theorem dX7_together_114 : decode cX7_together 114 = .ok (.iload 4, 2) := by decide +kernel
theorem dX7_together_116 : decode cX7_together 116 = .ok (.imul, 1) := by decide +kernel
theorem dX7_together_117 : decode cX7_together 117 = .ok (.bipush 100, 2) := by decide +kernel
theorem dX7_together_119 : decode cX7_together 119 = .ok (.isub, 1) := by decide +kernel
theorem dX7_together_120 : decode cX7_together 120 = .ok (.bipush 10, 2) := by decide +kernel
theorem dX7_together_122 : decode cX7_together 122 = .ok (.iload 5, 2) := by decide +kernel
theorem dX7_together_124 : decode cX7_together 124 = .ok (.imul, 1) := by decide +kernel
theorem dX7_together_125 : decode cX7_together 125 = .ok (.iadd, 1) := by decide +kernel
theorem dX7_together_126 : decode cX7_together 126 = .ok (.iload 6, 2) := by decide +kernel
theorem dX7_together_128 : decode cX7_together 128 = .ok (.iadd, 1) := by decide +kernel
theorem dX7_together_129 : decode cX7_together 129 = .ok (.iaload, 1) := by decide +kernel
theorem dX7_together_130 : decode cX7_together 130 = .ok (.goto 4, 3) := by decide +kernel
theorem dX7_together_133 : decode cX7_together 133 = .ok (.iconst 0, 1) := by decide +kernel
theorem dX7_together_134 : decode cX7_together 134 = .ok (.iadd, 1) := by decide +kernel
theorem dX7_together_135 : decode cX7_together 135 = .ok (.istore 7, 2) := by decide +kernel
theorem dX7_together_137 : decode cX7_together 137 = .ok (.iload 7, 2) := by decide +kernel
theorem dX7_together_139 : decode cX7_together 139 = .ok (.iload 5, 2) := by decide +kernel
theorem dX7_together_141 : decode cX7_together 141 = .ok (.ifCond .le 35, 3) := by decide +kernel
theorem dX7_together_144 : decode cX7_together 144 = .ok (.iload 8, 2) := by decide +kernel
theorem dX7_together_146 : decode cX7_together 146 = .ok (.iload 5, 2) := by decide +kernel
theorem dX7_together_148 : decode cX7_together 148 = .ok (.if_icmp .ne 28, 3) := by decide +kernel
theorem dX7_together_151 : decode cX7_together 151 = .ok (.aload_n 0, 1) := by decide +kernel
theorem dX7_together_152 : decode cX7_together 152 = .ok (.getfield 57, 3) := by decide +kernel
theorem dX7_together_155 : decode cX7_together 155 = .ok (.bipush 100, 2) := by decide +kernel
theorem dX7_together_157 : decode cX7_together 157 = .ok (.iload 4, 2) := by decide +kernel
theorem dX7_together_159 : decode cX7_together 159 = .ok (.imul, 1) := by decide +kernel
theorem dX7_together_160 : decode cX7_together 160 = .ok (.bipush 10, 2) := by decide +kernel
theorem dX7_together_162 : decode cX7_together 162 = .ok (.iload 5, 2) := by decide +kernel
theorem dX7_together_164 : decode cX7_together 164 = .ok (.imul, 1) := by decide +kernel
theorem dX7_together_165 : decode cX7_together 165 = .ok (.iadd, 1) := by decide +kernel
theorem dX7_together_166 : decode cX7_together 166 = .ok (.bipush 10, 2) := by decide +kernel
theorem dX7_together_168 : decode cX7_together 168 = .ok (.isub, 1) := by decide +kernel
theorem dX7_together_169 : decode cX7_together 169 = .ok (.iload 6, 2) := by decide +kernel
theorem dX7_together_171 : decode cX7_together 171 = .ok (.iadd, 1) := by decide +kernel
theorem dX7_together_172 : decode cX7_together 172 = .ok (.iaload, 1) := by decide +kernel
theorem dX7_together_173 : decode cX7_together 173 = .ok (.goto 4, 3) := by decide +kernel
theorem dX7_together_176 : decode cX7_together 176 = .ok (.iconst 0, 1) := by decide +kernel
theorem dX7_together_177 : decode cX7_together 177 = .ok (.iadd, 1) := by decide +kernel
theorem dX7_together_178 : decode cX7_together 178 = .ok (.istore 7, 2) := by decide +kernel
theorem dX7_together_180 : decode cX7_together 180 = .ok (.iload 7, 2) := by decide +kernel
theorem dX7_together_182 : decode cX7_together 182 = .ok (.iload 6, 2) := by decide +kernel
theorem dX7_together_184 : decode cX7_together 184 = .ok (.ifCond .le 34, 3) := by decide +kernel
theorem dX7_together_187 : decode cX7_together 187 = .ok (.iload 8, 2) := by decide +kernel
theorem dX7_together_189 : decode cX7_together 189 = .ok (.iload 6, 2) := by decide +kernel
theorem dX7_together_191 : decode cX7_together 191 = .ok (.if_icmp .ne 27, 3) := by decide +kernel
theorem dX7_together_194 : decode cX7_together 194 = .ok (.aload_n 0, 1) := by decide +kernel
theorem dX7_together_195 : decode cX7_together 195 = .ok (.getfield 57, 3) := by decide +kernel
theorem dX7_together_198 : decode cX7_together 198 = .ok (.bipush 100, 2) := by decide +kernel
theorem dX7_together_200 : decode cX7_together 200 = .ok (.iload 4, 2) := by decide +kernel
theorem dX7_together_202 : decode cX7_together 202 = .ok (.imul, 1) := by decide +kernel
theorem dX7_together_203 : decode cX7_together 203 = .ok (.bipush 10, 2) := by decide +kernel
theorem dX7_together_205 : decode cX7_together 205 = .ok (.iload 5, 2) := by decide +kernel
theorem dX7_together_207 : decode cX7_together 207 = .ok (.imul, 1) := by decide +kernel
theorem dX7_together_208 : decode cX7_together 208 = .ok (.iadd, 1) := by decide +kernel
theorem dX7_together_209 : decode cX7_together 209 = .ok (.iload 6, 2) := by decide +kernel
theorem dX7_together_211 : decode cX7_together 211 = .ok (.iadd, 1) := by decide +kernel
theorem dX7_together_212 : decode cX7_together 212 = .ok (.iconst 1, 1) := by decide +kernel
theorem dX7_together_213 : decode cX7_together 213 = .ok (.isub, 1) := by decide +kernel
theorem dX7_together_214 : decode cX7_together 214 = .ok (.iaload, 1) := by decide +kernel
theorem dX7_together_215 : decode cX7_together 215 = .ok (.goto 4, 3) := by decide +kernel
theorem dX7_together_218 : decode cX7_together 218 = .ok (.iconst 0, 1) := by decide +kernel
theorem dX7_together_219 : decode cX7_together 219 = .ok (.iadd, 1) := by decide +kernel
theorem dX7_together_220 : decode cX7_together 220 = .ok (.istore 7, 2) := by decide +kernel
theorem dX7_together_222 : decode cX7_together 222 = .ok (.aload_n 0, 1) := by decide +kernel
theorem dX7_together_223 : decode cX7_together 223 = .ok (.getfield 57, 3) := by decide +kernel
theorem dX7_together_226 : decode cX7_together 226 = .ok (.bipush 100, 2) := by decide +kernel
theorem dX7_together_228 : decode cX7_together 228 = .ok (.iload 4, 2) := by decide +kernel
theorem dX7_together_230 : decode cX7_together 230 = .ok (.imul, 1) := by decide +kernel
theorem dX7_together_231 : decode cX7_together 231 = .ok (.bipush 10, 2) := by decide +kernel
theorem dX7_together_233 : decode cX7_together 233 = .ok (.iload 5, 2) := by decide +kernel
theorem dX7_together_235 : decode cX7_together 235 = .ok (.imul, 1) := by decide +kernel
theorem dX7_together_236 : decode cX7_together 236 = .ok (.iadd, 1) := by decide +kernel
theorem dX7_together_237 : decode cX7_together 237 = .ok (.iload 6, 2) := by decide +kernel
theorem dX7_together_239 : decode cX7_together 239 = .ok (.iadd, 1) := by decide +kernel
theorem dX7_together_240 : decode cX7_together 240 = .ok (.iload 7, 2) := by decide +kernel
theorem dX7_together_242 : decode cX7_together 242 = .ok (.iastore, 1) := by decide +kernel
theorem dX7_together_243 : decode cX7_together 243 = .ok (.iinc 6 1, 3) := by decide +kernel
theorem dX7_together_246 : decode cX7_together 246 = .ok (.goto (-211), 3) := by decide +kernel
theorem dX7_together_249 : decode cX7_together 249 = .ok (.iinc 5 1, 3) := by decide +kernel
theorem dX7_together_252 : decode cX7_together 252 = .ok (.goto (-226), 3) := by decide +kernel
theorem dX7_together_255 : decode cX7_together 255 = .ok (.iinc 4 1, 3) := by decide +kernel
theorem dX7_together_258 : decode cX7_together 258 = .ok (.goto (-241), 3) := by decide +kernel
theorem dX7_together_261 : decode cX7_together 261 = .ok (.aload_n 0, 1) := by decide +kernel
theorem dX7_together_262 : decode cX7_together 262 = .ok (.getfield 57, 3) := by decide +kernel
theorem dX7_together_265 : decode cX7_together 265 = .ok (.bipush 100, 2) := by decide +kernel
theorem dX7_together_267 : decode cX7_together 267 = .ok (.iload_n 1, 1) := by decide +kernel
theorem dX7_together_268 : decode cX7_together 268 = .ok (.imul, 1) := by decide +kernel
theorem dX7_together_269 : decode cX7_together 269 = .ok (.bipush 10, 2) := by decide +kernel
theorem dX7_together_271 : decode cX7_together 271 = .ok (.iload_n 2, 1) := by decide +kernel
theorem dX7_together_272 : decode cX7_together 272 = .ok (.imul, 1) := by decide +kernel
theorem dX7_together_273 : decode cX7_together 273 = .ok (.iadd, 1) := by decide +kernel
theorem dX7_together_274 : decode cX7_together 274 = .ok (.iload_n 3, 1) := by decide +kernel
theorem dX7_together_275 : decode cX7_together 275 = .ok (.iadd, 1) := by decide +kernel
theorem dX7_together_276 : decode cX7_together 276 = .ok (.iaload, 1) := by decide +kernel
theorem dX7_together_277 : decode cX7_together 277 = .ok (.ireturn, 1) := by decide +kernel
theorem dX7_two_0 : decode cX7_two 0 = .ok (.aload_n 0, 1) := by decide +kernel
theorem dX7_two_1 : decode cX7_two 1 = .ok (.iload_n 1, 1) := by decide +kernel
theorem dX7_two_2 : decode cX7_two 2 = .ok (.invokevirtual 138, 3) := by decide +kernel
theorem dX7_two_5 : decode cX7_two 5 = .ok (.ifCond .ne 16, 3) := by decide +kernel
theorem dX7_two_8 : decode cX7_two 8 = .ok (.aload_n 0, 1) := by decide +kernel
theorem dX7_two_9 : decode cX7_two 9 = .ok (.iload_n 2, 1) := by decide +kernel
theorem dX7_two_10 : decode cX7_two 10 = .ok (.invokevirtual 138, 3) := by decide +kernel
theorem dX7_two_13 : decode cX7_two 13 = .ok (.ifCond .ne 8, 3) := by decide +kernel
theorem dX7_two_16 : decode cX7_two 16 = .ok (.iload_n 1, 1) := by decide +kernel
theorem dX7_two_17 : decode cX7_two 17 = .ok (.iload_n 2, 1) := by decide +kernel
theorem dX7_two_18 : decode cX7_two 18 = .ok (.if_icmp .ne 9, 3) := by decide +kernel
theorem dX7_two_21 : decode cX7_two 21 = .ok (.aload_n 0, 1) := by decide +kernel
theorem dX7_two_22 : decode cX7_two 22 = .ok (.iconst (-1), 1) := by decide +kernel
theorem dX7_two_23 : decode cX7_two 23 = .ok (.invokevirtual 64, 3) := by decide +kernel
theorem dX7_two_26 : decode cX7_two 26 = .ok (.ireturn, 1) := by decide +kernel
theorem dX7_two_27 : decode cX7_two 27 = .ok (.aload_n 0, 1) := by decide +kernel
theorem dX7_two_28 : decode cX7_two 28 = .ok (.aload_n 0, 1) := by decide +kernel
theorem dX7_two_29 : decode cX7_two 29 = .ok (.getfield 13, 3) := by decide +kernel
theorem dX7_two_32 : decode cX7_two 32 = .ok (.bipush 20, 2) := by decide +kernel
theorem dX7_two_34 : decode cX7_two 34 = .ok (.iload_n 1, 1) := by decide +kernel
theorem dX7_two_35 : decode cX7_two 35 = .ok (.iadd, 1) := by decide +kernel
theorem dX7_two_36 : decode cX7_two 36 = .ok (.iaload, 1) := by decide +kernel
theorem dX7_two_37 : decode cX7_two 37 = .ok (.aload_n 0, 1) := by decide +kernel
theorem dX7_two_38 : decode cX7_two 38 = .ok (.getfield 13, 3) := by decide +kernel
theorem dX7_two_41 : decode cX7_two 41 = .ok (.bipush 20, 2) := by decide +kernel
theorem dX7_two_43 : decode cX7_two 43 = .ok (.iload_n 2, 1) := by decide +kernel
theorem dX7_two_44 : decode cX7_two 44 = .ok (.iadd, 1) := by decide +kernel
theorem dX7_two_45 : decode cX7_two 45 = .ok (.iaload, 1) := by decide +kernel
theorem dX7_two_46 : decode cX7_two 46 = .ok (.iconst 0, 1) := by decide +kernel
theorem dX7_two_47 : decode cX7_two 47 = .ok (.invokevirtual 169, 3) := by decide +kernel
theorem dX7_two_50 : decode cX7_two 50 = .ok (.ireturn, 1) := by decide +kernel
theorem dX7_three_0 : decode cX7_three 0 = .ok (.aload_n 0, 1) := by decide +kernel
theorem dX7_three_1 : decode cX7_three 1 = .ok (.iload_n 1, 1) := by decide +kernel
theorem dX7_three_2 : decode cX7_three 2 = .ok (.invokevirtual 138, 3) := by decide +kernel
theorem dX7_three_5 : decode cX7_three 5 = .ok (.ifCond .ne 34, 3) := by decide +kernel
theorem dX7_three_8 : decode cX7_three 8 = .ok (.aload_n 0, 1) := by decide +kernel
theorem dX7_three_9 : decode cX7_three 9 = .ok (.iload_n 2, 1) := by decide +kernel
theorem dX7_three_10 : decode cX7_three 10 = .ok (.invokevirtual 138, 3) := by decide +kernel
theorem dX7_three_13 : decode cX7_three 13 = .ok (.ifCond .ne 26, 3) := by decide +kernel
theorem dX7_three_16 : decode cX7_three 16 = .ok (.aload_n 0, 1) := by decide +kernel
theorem dX7_three_17 : decode cX7_three 17 = .ok (.iload_n 3, 1) := by decide +kernel
theorem dX7_three_18 : decode cX7_three 18 = .ok (.invokevirtual 138, 3) := by decide +kernel
theorem dX7_three_21 : decode cX7_three 21 = .ok (.ifCond .ne 18, 3) := by decide +kernel
theorem dX7_three_24 : decode cX7_three 24 = .ok (.iload_n 1, 1) := by decide +kernel
theorem dX7_three_25 : decode cX7_three 25 = .ok (.iload_n 2, 1) := by decide +kernel
theorem dX7_three_26 : decode cX7_three 26 = .ok (.if_icmp .eq 13, 3) := by decide +kernel
theorem dX7_three_29 : decode cX7_three 29 = .ok (.iload_n 1, 1) := by decide +kernel
theorem dX7_three_30 : decode cX7_three 30 = .ok (.iload_n 3, 1) := by decide +kernel
theorem dX7_three_31 : decode cX7_three 31 = .ok (.if_icmp .eq 8, 3) := by decide +kernel
theorem dX7_three_34 : decode cX7_three 34 = .ok (.iload_n 2, 1) := by decide +kernel
theorem dX7_three_35 : decode cX7_three 35 = .ok (.iload_n 3, 1) := by decide +kernel
theorem dX7_three_36 : decode cX7_three 36 = .ok (.if_icmp .ne 9, 3) := by decide +kernel
theorem dX7_three_39 : decode cX7_three 39 = .ok (.aload_n 0, 1) := by decide +kernel
theorem dX7_three_40 : decode cX7_three 40 = .ok (.iconst (-1), 1) := by decide +kernel
theorem dX7_three_41 : decode cX7_three 41 = .ok (.invokevirtual 64, 3) := by decide +kernel
theorem dX7_three_44 : decode cX7_three 44 = .ok (.ireturn, 1) := by decide +kernel
theorem dX7_three_45 : decode cX7_three 45 = .ok (.aload_n 0, 1) := by decide +kernel
theorem dX7_three_46 : decode cX7_three 46 = .ok (.aload_n 0, 1) := by decide +kernel
theorem dX7_three_47 : decode cX7_three 47 = .ok (.getfield 13, 3) := by decide +kernel
theorem dX7_three_50 : decode cX7_three 50 = .ok (.bipush 20, 2) := by decide +kernel
theorem dX7_three_52 : decode cX7_three 52 = .ok (.iload_n 1, 1) := by decide +kernel
theorem dX7_three_53 : decode cX7_three 53 = .ok (.iadd, 1) := by decide +kernel
theorem dX7_three_54 : decode cX7_three 54 = .ok (.iaload, 1) := by decide +kernel
theorem dX7_three_55 : decode cX7_three 55 = .ok (.aload_n 0, 1) := by decide +kernel
theorem dX7_three_56 : decode cX7_three 56 = .ok (.getfield 13, 3) := by decide +kernel
theorem dX7_three_59 : decode cX7_three 59 = .ok (.bipush 20, 2) := by decide +kernel
theorem dX7_three_61 : decode cX7_three 61 = .ok (.iload_n 2, 1) := by decide +kernel
theorem dX7_three_62 : decode cX7_three 62 = .ok (.iadd, 1) := by decide +kernel
theorem dX7_three_63 : decode cX7_three 63 = .ok (.iaload, 1) := by decide +kernel
theorem dX7_three_64 : decode cX7_three 64 = .ok (.aload_n 0, 1) := by decide +kernel
theorem dX7_three_65 : decode cX7_three 65 = .ok (.getfield 13, 3) := by decide +kernel
theorem dX7_three_68 : decode cX7_three 68 = .ok (.bipush 20, 2) := by decide +kernel
theorem dX7_three_70 : decode cX7_three 70 = .ok (.iload_n 3, 1) := by decide +kernel
theorem dX7_three_71 : decode cX7_three 71 = .ok (.iadd, 1) := by decide +kernel
theorem dX7_three_72 : decode cX7_three 72 = .ok (.iaload, 1) := by decide +kernel
theorem dX7_three_73 : decode cX7_three 73 = .ok (.invokevirtual 169, 3) := by decide +kernel
theorem dX7_three_76 : decode cX7_three 76 = .ok (.ireturn, 1) := by decide +kernel
theorem dX7_parts_0 : decode cX7_parts 0 = .ok (.iconst 0, 1) := by decide +kernel
theorem dX7_parts_1 : decode cX7_parts 1 = .ok (.istore_n 1, 1) := by decide +kernel
theorem dX7_parts_2 : decode cX7_parts 2 = .ok (.bipush 20, 2) := by decide +kernel
theorem dX7_parts_4 : decode cX7_parts 4 = .ok (.newarray .int, 2) := by decide +kernel
theorem dX7_parts_6 : decode cX7_parts 6 = .ok (.astore_n 2, 1) := by decide +kernel
theorem dX7_parts_7 : decode cX7_parts 7 = .ok (.iconst 0, 1) := by decide +kernel
theorem dX7_parts_8 : decode cX7_parts 8 = .ok (.istore_n 3, 1) := by decide +kernel
theorem dX7_parts_9 : decode cX7_parts 9 = .ok (.iload_n 3, 1) := by decide +kernel
theorem dX7_parts_10 : decode cX7_parts 10 = .ok (.aload_n 0, 1) := by decide +kernel
theorem dX7_parts_11 : decode cX7_parts 11 = .ok (.getfield 166, 3) := by decide +kernel
theorem dX7_parts_14 : decode cX7_parts 14 = .ok (.if_icmp .ge 73, 3) := by decide +kernel
theorem dX7_parts_17 : decode cX7_parts 17 = .ok (.aload_n 2, 1) := by decide +kernel
theorem dX7_parts_18 : decode cX7_parts 18 = .ok (.iload_n 3, 1) := by decide +kernel
theorem dX7_parts_19 : decode cX7_parts 19 = .ok (.iconst 1, 1) := by decide +kernel
theorem dX7_parts_20 : decode cX7_parts 20 = .ok (.iastore, 1) := by decide +kernel
theorem dX7_parts_21 : decode cX7_parts 21 = .ok (.iconst 0, 1) := by decide +kernel
theorem dX7_parts_22 : decode cX7_parts 22 = .ok (.istore 4, 2) := by decide +kernel
theorem dX7_parts_24 : decode cX7_parts 24 = .ok (.iload 4, 2) := by decide +kernel
theorem dX7_parts_26 : decode cX7_parts 26 = .ok (.iload_n 3, 1) := by decide +kernel
theorem dX7_parts_27 : decode cX7_parts 27 = .ok (.if_icmp .ge 46, 3) := by decide +kernel
theorem dX7_parts_30 : decode cX7_parts 30 = .ok (.aload_n 0, 1) := by decide +kernel
theorem dX7_parts_31 : decode cX7_parts 31 = .ok (.getfield 54, 3) := by decide +kernel
theorem dX7_parts_34 : decode cX7_parts 34 = .ok (.iload 4, 2) := by decide +kernel
theorem dX7_parts_36 : decode cX7_parts 36 = .ok (.iaload, 1) := by decide +kernel
theorem dX7_parts_37 : decode cX7_parts 37 = .ok (.bipush 10, 2) := by decide +kernel
theorem dX7_parts_39 : decode cX7_parts 39 = .ok (.irem, 1) := by decide +kernel
theorem dX7_parts_40 : decode cX7_parts 40 = .ok (.aload_n 0, 1) := by decide +kernel
theorem dX7_parts_41 : decode cX7_parts 41 = .ok (.getfield 54, 3) := by decide +kernel
theorem dX7_parts_44 : decode cX7_parts 44 = .ok (.iload_n 3, 1) := by decide +kernel
theorem dX7_parts_45 : decode cX7_parts 45 = .ok (.iaload, 1) := by decide +kernel
theorem dX7_parts_46 : decode cX7_parts 46 = .ok (.bipush 10, 2) := by decide +kernel
theorem dX7_parts_48 : decode cX7_parts 48 = .ok (.irem, 1) := by decide +kernel
theorem dX7_parts_49 : decode cX7_parts 49 = .ok (.if_icmp .lt 18, 3) := by decide +kernel
theorem dX7_parts_52 : decode cX7_parts 52 = .ok (.aload_n 2, 1) := by decide +kernel
theorem dX7_parts_53 : decode cX7_parts 53 = .ok (.iload_n 3, 1) := by decide +kernel
theorem dX7_parts_54 : decode cX7_parts 54 = .ok (.aload_n 2, 1) := by decide +kernel
theorem dX7_parts_55 : decode cX7_parts 55 = .ok (.iload_n 3, 1) := by decide +kernel
theorem dX7_parts_56 : decode cX7_parts 56 = .ok (.iaload, 1) := by decide +kernel
theorem dX7_parts_57 : decode cX7_parts 57 = .ok (.aload_n 2, 1) := by decide +kernel
theorem dX7_parts_58 : decode cX7_parts 58 = .ok (.iload 4, 2) := by decide +kernel
theorem dX7_parts_60 : decode cX7_parts 60 = .ok (.iaload, 1) := by decide +kernel
theorem dX7_parts_61 : decode cX7_parts 61 = .ok (.iconst 1, 1) := by decide +kernel
theorem dX7_parts_62 : decode cX7_parts 62 = .ok (.iadd, 1) := by decide +kernel
theorem dX7_parts_63 : decode cX7_parts 63 = .ok (.invokestatic 172, 3) := by decide +kernel
theorem dX7_parts_66 : decode cX7_parts 66 = .ok (.iastore, 1) := by decide +kernel
theorem dX7_parts_67 : decode cX7_parts 67 = .ok (.iinc 4 1, 3) := by decide +kernel
theorem dX7_parts_70 : decode cX7_parts 70 = .ok (.goto (-46), 3) := by decide +kernel
theorem dX7_parts_73 : decode cX7_parts 73 = .ok (.iload_n 1, 1) := by decide +kernel
theorem dX7_parts_74 : decode cX7_parts 74 = .ok (.aload_n 2, 1) := by decide +kernel
theorem dX7_parts_75 : decode cX7_parts 75 = .ok (.iload_n 3, 1) := by decide +kernel
theorem dX7_parts_76 : decode cX7_parts 76 = .ok (.iaload, 1) := by decide +kernel
theorem dX7_parts_77 : decode cX7_parts 77 = .ok (.invokestatic 172, 3) := by decide +kernel
theorem dX7_parts_80 : decode cX7_parts 80 = .ok (.istore_n 1, 1) := by decide +kernel
theorem dX7_parts_81 : decode cX7_parts 81 = .ok (.iinc 3 1, 3) := by decide +kernel
theorem dX7_parts_84 : decode cX7_parts 84 = .ok (.goto (-75), 3) := by decide +kernel
theorem dX7_parts_87 : decode cX7_parts 87 = .ok (.iload_n 1, 1) := by decide +kernel
theorem dX7_parts_88 : decode cX7_parts 88 = .ok (.ireturn, 1) := by decide +kernel
theorem dX7_lacks_0 : decode cX7_lacks 0 = .ok (.aload_n 0, 1) := by decide +kernel
theorem dX7_lacks_1 : decode cX7_lacks 1 = .ok (.iload_n 1, 1) := by decide +kernel
theorem dX7_lacks_2 : decode cX7_lacks 2 = .ok (.invokevirtual 138, 3) := by decide +kernel
theorem dX7_lacks_5 : decode cX7_lacks 5 = .ok (.ifCond .eq 9, 3) := by decide +kernel
theorem dX7_lacks_8 : decode cX7_lacks 8 = .ok (.aload_n 0, 1) := by decide +kernel
theorem dX7_lacks_9 : decode cX7_lacks 9 = .ok (.iconst (-1), 1) := by decide +kernel
theorem dX7_lacks_10 : decode cX7_lacks 10 = .ok (.invokevirtual 64, 3) := by decide +kernel
theorem dX7_lacks_13 : decode cX7_lacks 13 = .ok (.ireturn, 1) := by decide +kernel
theorem dX7_lacks_14 : decode cX7_lacks 14 = .ok (.iconst 2, 1) := by decide +kernel
theorem dX7_lacks_15 : decode cX7_lacks 15 = .ok (.aload_n 0, 1) := by decide +kernel
theorem dX7_lacks_16 : decode cX7_lacks 16 = .ok (.getfield 13, 3) := by decide +kernel
theorem dX7_lacks_19 : decode cX7_lacks 19 = .ok (.bipush 20, 2) := by decide +kernel
theorem dX7_lacks_21 : decode cX7_lacks 21 = .ok (.iload_n 1, 1) := by decide +kernel
theorem dX7_lacks_22 : decode cX7_lacks 22 = .ok (.iadd, 1) := by decide +kernel
theorem dX7_lacks_23 : decode cX7_lacks 23 = .ok (.iaload, 1) := by decide +kernel
theorem dX7_lacks_24 : decode cX7_lacks 24 = .ok (.ishl, 1) := by decide +kernel
theorem dX7_lacks_25 : decode cX7_lacks 25 = .ok (.iconst 2, 1) := by decide +kernel
theorem dX7_lacks_26 : decode cX7_lacks 26 = .ok (.isub, 1) := by decide +kernel
theorem dX7_lacks_27 : decode cX7_lacks 27 = .ok (.istore_n 2, 1) := by decide +kernel
theorem dX7_lacks_28 : decode cX7_lacks 28 = .ok (.iconst 0, 1) := by decide +kernel
theorem dX7_lacks_29 : decode cX7_lacks 29 = .ok (.istore_n 3, 1) := by decide +kernel
theorem dX7_lacks_30 : decode cX7_lacks 30 = .ok (.iload_n 3, 1) := by decide +kernel
theorem dX7_lacks_31 : decode cX7_lacks 31 = .ok (.aload_n 0, 1) := by decide +kernel
theorem dX7_lacks_32 : decode cX7_lacks 32 = .ok (.getfield 166, 3) := by decide +kernel
theorem dX7_lacks_35 : decode cX7_lacks 35 = .ok (.if_icmp .ge 38, 3) := by decide +kernel
theorem dX7_lacks_38 : decode cX7_lacks 38 = .ok (.aload_n 0, 1) := by decide +kernel
theorem dX7_lacks_39 : decode cX7_lacks 39 = .ok (.getfield 54, 3) := by decide +kernel
theorem dX7_lacks_42 : decode cX7_lacks 42 = .ok (.iload_n 3, 1) := by decide +kernel
theorem dX7_lacks_43 : decode cX7_lacks 43 = .ok (.iaload, 1) := by decide +kernel
theorem dX7_lacks_44 : decode cX7_lacks 44 = .ok (.bipush 10, 2) := by decide +kernel
theorem dX7_lacks_46 : decode cX7_lacks 46 = .ok (.idiv, 1) := by decide +kernel
theorem dX7_lacks_47 : decode cX7_lacks 47 = .ok (.iload_n 1, 1) := by decide +kernel
theorem dX7_lacks_48 : decode cX7_lacks 48 = .ok (.if_icmp .ne 19, 3) := by decide +kernel
theorem dX7_lacks_51 : decode cX7_lacks 51 = .ok (.iload_n 2, 1) := by decide +kernel
theorem dX7_lacks_52 : decode cX7_lacks 52 = .ok (.iconst 1, 1) := by decide +kernel
theorem dX7_lacks_53 : decode cX7_lacks 53 = .ok (.aload_n 0, 1) := by decide +kernel
theorem dX7_lacks_54 : decode cX7_lacks 54 = .ok (.getfield 54, 3) := by decide +kernel
theorem dX7_lacks_57 : decode cX7_lacks 57 = .ok (.iload_n 3, 1) := by decide +kernel
theorem dX7_lacks_58 : decode cX7_lacks 58 = .ok (.iaload, 1) := by decide +kernel
theorem dX7_lacks_59 : decode cX7_lacks 59 = .ok (.bipush 10, 2) := by decide +kernel
theorem dX7_lacks_61 : decode cX7_lacks 61 = .ok (.irem, 1) := by decide +kernel
theorem dX7_lacks_62 : decode cX7_lacks 62 = .ok (.ishl, 1) := by decide +kernel
theorem dX7_lacks_63 : decode cX7_lacks 63 = .ok (.iconst (-1), 1) := by decide +kernel
theorem dX7_lacks_64 : decode cX7_lacks 64 = .ok (.ixor, 1) := by decide +kernel
theorem dX7_lacks_65 : decode cX7_lacks 65 = .ok (.iand, 1) := by decide +kernel
theorem dX7_lacks_66 : decode cX7_lacks 66 = .ok (.istore_n 2, 1) := by decide +kernel
theorem dX7_lacks_67 : decode cX7_lacks 67 = .ok (.iinc 3 1, 3) := by decide +kernel
theorem dX7_lacks_70 : decode cX7_lacks 70 = .ok (.goto (-40), 3) := by decide +kernel
theorem dX7_lacks_73 : decode cX7_lacks 73 = .ok (.iload_n 2, 1) := by decide +kernel
theorem dX7_lacks_74 : decode cX7_lacks 74 = .ok (.ireturn, 1) := by decide +kernel
theorem dX7_firstPlace_0 : decode cX7_firstPlace 0 = .ok (.iconst 0, 1) := by decide +kernel
theorem dX7_firstPlace_1 : decode cX7_firstPlace 1 = .ok (.istore_n 2, 1) := by decide +kernel
theorem dX7_firstPlace_2 : decode cX7_firstPlace 2 = .ok (.iload_n 2, 1) := by decide +kernel
theorem dX7_firstPlace_3 : decode cX7_firstPlace 3 = .ok (.aload_n 0, 1) := by decide +kernel
theorem dX7_firstPlace_4 : decode cX7_firstPlace 4 = .ok (.getfield 166, 3) := by decide +kernel
theorem dX7_firstPlace_7 : decode cX7_firstPlace 7 = .ok (.if_icmp .ge 21, 3) := by decide +kernel
theorem dX7_firstPlace_10 : decode cX7_firstPlace 10 = .ok (.aload_n 0, 1) := by decide +kernel
theorem dX7_firstPlace_11 : decode cX7_firstPlace 11 = .ok (.getfield 54, 3) := by decide +kernel
theorem dX7_firstPlace_14 : decode cX7_firstPlace 14 = .ok (.iload_n 2, 1) := by decide +kernel
theorem dX7_firstPlace_15 : decode cX7_firstPlace 15 = .ok (.iaload, 1) := by decide +kernel
theorem dX7_firstPlace_16 : decode cX7_firstPlace 16 = .ok (.iload_n 1, 1) := by decide +kernel
theorem dX7_firstPlace_17 : decode cX7_firstPlace 17 = .ok (.if_icmp .ne 5, 3) := by decide +kernel
theorem dX7_firstPlace_20 : decode cX7_firstPlace 20 = .ok (.iload_n 2, 1) := by decide +kernel
theorem dX7_firstPlace_21 : decode cX7_firstPlace 21 = .ok (.ireturn, 1) := by decide +kernel
theorem dX7_firstPlace_22 : decode cX7_firstPlace 22 = .ok (.iinc 2 1, 3) := by decide +kernel
theorem dX7_firstPlace_25 : decode cX7_firstPlace 25 = .ok (.goto (-23), 3) := by decide +kernel
theorem dX7_firstPlace_28 : decode cX7_firstPlace 28 = .ok (.bipush (-9), 2) := by decide +kernel
theorem dX7_firstPlace_30 : decode cX7_firstPlace 30 = .ok (.ireturn, 1) := by decide +kernel
theorem dX7_laps_0 : decode cX7_laps 0 = .ok (.iload_n 1, 1) := by decide +kernel
theorem dX7_laps_1 : decode cX7_laps 1 = .ok (.iconst 2, 1) := by decide +kernel
theorem dX7_laps_2 : decode cX7_laps 2 = .ok (.if_icmp .ge 10, 3) := by decide +kernel
theorem dX7_laps_5 : decode cX7_laps 5 = .ok (.aload_n 0, 1) := by decide +kernel
theorem dX7_laps_6 : decode cX7_laps 6 = .ok (.bipush (-4), 2) := by decide +kernel
theorem dX7_laps_8 : decode cX7_laps 8 = .ok (.invokevirtual 64, 3) := by decide +kernel
theorem dX7_laps_11 : decode cX7_laps 11 = .ok (.ireturn, 1) := by decide +kernel
theorem dX7_laps_12 : decode cX7_laps 12 = .ok (.iload_n 1, 1) := by decide +kernel
theorem dX7_laps_13 : decode cX7_laps 13 = .ok (.bipush 9, 2) := by decide +kernel
theorem dX7_laps_15 : decode cX7_laps 15 = .ok (.if_icmp .le 10, 3) := by decide +kernel
theorem dX7_laps_18 : decode cX7_laps 18 = .ok (.aload_n 0, 1) := by decide +kernel
theorem dX7_laps_19 : decode cX7_laps 19 = .ok (.bipush (-6), 2) := by decide +kernel
theorem dX7_laps_21 : decode cX7_laps 21 = .ok (.invokevirtual 64, 3) := by decide +kernel
theorem dX7_laps_24 : decode cX7_laps 24 = .ok (.ireturn, 1) := by decide +kernel
theorem dX7_laps_25 : decode cX7_laps 25 = .ok (.iconst 0, 1) := by decide +kernel
theorem dX7_laps_26 : decode cX7_laps 26 = .ok (.istore_n 2, 1) := by decide +kernel
theorem dX7_laps_27 : decode cX7_laps 27 = .ok (.bipush 100, 2) := by decide +kernel
theorem dX7_laps_29 : decode cX7_laps 29 = .ok (.istore_n 3, 1) := by decide +kernel
theorem dX7_laps_30 : decode cX7_laps 30 = .ok (.iconst 0, 1) := by decide +kernel
theorem dX7_laps_31 : decode cX7_laps 31 = .ok (.istore 4, 2) := by decide +kernel
theorem dX7_laps_33 : decode cX7_laps 33 = .ok (.iload 4, 2) := by decide +kernel
theorem dX7_laps_35 : decode cX7_laps 35 = .ok (.bipush 100, 2) := by decide +kernel
theorem dX7_laps_37 : decode cX7_laps 37 = .ok (.if_icmp .ge 41, 3) := by decide +kernel
theorem dX7_laps_40 : decode cX7_laps 40 = .ok (.aload_n 0, 1) := by decide +kernel
theorem dX7_laps_41 : decode cX7_laps 41 = .ok (.iload 4, 2) := by decide +kernel
theorem dX7_laps_43 : decode cX7_laps 43 = .ok (.invokevirtual 178, 3) := by decide +kernel
theorem dX7_laps_46 : decode cX7_laps 46 = .ok (.istore 5, 2) := by decide +kernel
theorem dX7_laps_48 : decode cX7_laps 48 = .ok (.iload 5, 2) := by decide +kernel
theorem dX7_laps_50 : decode cX7_laps 50 = .ok (.bipush (-9), 2) := by decide +kernel
theorem dX7_laps_52 : decode cX7_laps 52 = .ok (.if_icmp .eq 20, 3) := by decide +kernel
theorem dX7_laps_55 : decode cX7_laps 55 = .ok (.iload_n 2, 1) := by decide +kernel
theorem dX7_laps_56 : decode cX7_laps 56 = .ok (.iload 5, 2) := by decide +kernel
theorem dX7_laps_58 : decode cX7_laps 58 = .ok (.iload_n 3, 1) := by decide +kernel
theorem dX7_laps_59 : decode cX7_laps 59 = .ok (.if_icmp .ge 7, 3) := by decide +kernel
theorem dX7_laps_62 : decode cX7_laps 62 = .ok (.iconst 1, 1) := by decide +kernel
theorem dX7_laps_63 : decode cX7_laps 63 = .ok (.goto 4, 3) := by decide +kernel
theorem dX7_laps_66 : decode cX7_laps 66 = .ok (.iconst 0, 1) := by decide +kernel
theorem dX7_laps_67 : decode cX7_laps 67 = .ok (.iadd, 1) := by decide +kernel
theorem dX7_laps_68 : decode cX7_laps 68 = .ok (.istore_n 2, 1) := by decide +kernel
theorem dX7_laps_69 : decode cX7_laps 69 = .ok (.iload 5, 2) := by decide +kernel
theorem dX7_laps_71 : decode cX7_laps 71 = .ok (.istore_n 3, 1) := by decide +kernel
theorem dX7_laps_72 : decode cX7_laps 72 = .ok (.iinc 4 1, 3) := by decide +kernel
theorem dX7_laps_75 : decode cX7_laps 75 = .ok (.goto (-42), 3) := by decide +kernel
theorem dX7_laps_78 : decode cX7_laps 78 = .ok (.iconst 0, 1) := by decide +kernel
theorem dX7_laps_79 : decode cX7_laps 79 = .ok (.istore 4, 2) := by decide +kernel
theorem dX7_laps_81 : decode cX7_laps 81 = .ok (.iconst 1, 1) := by decide +kernel
theorem dX7_laps_82 : decode cX7_laps 82 = .ok (.istore 5, 2) := by decide +kernel
theorem dX7_laps_84 : decode cX7_laps 84 = .ok (.iload 5, 2) := by decide +kernel
theorem dX7_laps_86 : decode cX7_laps 86 = .ok (.iload_n 2, 1) := by decide +kernel
theorem dX7_laps_87 : decode cX7_laps 87 = .ok (.if_icmp .ge 15, 3) := by decide +kernel
theorem dX7_laps_90 : decode cX7_laps 90 = .ok (.iload 5, 2) := by decide +kernel
theorem dX7_laps_92 : decode cX7_laps 92 = .ok (.iload_n 1, 1) := by decide +kernel
theorem dX7_laps_93 : decode cX7_laps 93 = .ok (.imul, 1) := by decide +kernel
theorem dX7_laps_94 : decode cX7_laps 94 = .ok (.istore 5, 2) := by decide +kernel
theorem dX7_laps_96 : decode cX7_laps 96 = .ok (.iinc 4 1, 3) := by decide +kernel
theorem dX7_laps_99 : decode cX7_laps 99 = .ok (.goto (-15), 3) := by decide +kernel
theorem dX7_laps_102 : decode cX7_laps 102 = .ok (.iload 4, 2) := by decide +kernel
theorem dX7_laps_104 : decode cX7_laps 104 = .ok (.ireturn, 1) := by decide +kernel
theorem dX7_waits__0 : decode cX7_waits_ 0 = .ok (.aload_n 0, 1) := by decide +kernel
theorem dX7_waits__1 : decode cX7_waits_ 1 = .ok (.iload_n 1, 1) := by decide +kernel
theorem dX7_waits__2 : decode cX7_waits_ 2 = .ok (.invokevirtual 150, 3) := by decide +kernel
theorem dX7_waits__5 : decode cX7_waits_ 5 = .ok (.ifCond .eq 9, 3) := by decide +kernel
theorem dX7_waits__8 : decode cX7_waits_ 8 = .ok (.aload_n 0, 1) := by decide +kernel
theorem dX7_waits__9 : decode cX7_waits_ 9 = .ok (.iconst (-1), 1) := by decide +kernel
theorem dX7_waits__10 : decode cX7_waits_ 10 = .ok (.invokevirtual 64, 3) := by decide +kernel
theorem dX7_waits__13 : decode cX7_waits_ 13 = .ok (.ireturn, 1) := by decide +kernel
theorem dX7_waits__14 : decode cX7_waits_ 14 = .ok (.iload_n 2, 1) := by decide +kernel
theorem dX7_waits__15 : decode cX7_waits_ 15 = .ok (.ifCond .lt 7, 3) := by decide +kernel
theorem dX7_waits__18 : decode cX7_waits_ 18 = .ok (.iload_n 3, 1) := by decide +kernel
theorem dX7_waits__19 : decode cX7_waits_ 19 = .ok (.ifCond .ge 10, 3) := by decide +kernel
theorem dX7_waits__22 : decode cX7_waits_ 22 = .ok (.aload_n 0, 1) := by decide +kernel
theorem dX7_waits__23 : decode cX7_waits_ 23 = .ok (.bipush (-4), 2) := by decide +kernel
theorem dX7_waits__25 : decode cX7_waits_ 25 = .ok (.invokevirtual 64, 3) := by decide +kernel
theorem dX7_waits__28 : decode cX7_waits_ 28 = .ok (.ireturn, 1) := by decide +kernel
theorem dX7_waits__29 : decode cX7_waits_ 29 = .ok (.iload_n 2, 1) := by decide +kernel
theorem dX7_waits__30 : decode cX7_waits_ 30 = .ok (.bipush 99, 2) := by decide +kernel
theorem dX7_waits__32 : decode cX7_waits_ 32 = .ok (.if_icmp .gt 9, 3) := by decide +kernel
theorem dX7_waits__35 : decode cX7_waits_ 35 = .ok (.iload_n 3, 1) := by decide +kernel
theorem dX7_waits__36 : decode cX7_waits_ 36 = .ok (.bipush 30, 2) := by decide +kernel
theorem dX7_waits__38 : decode cX7_waits_ 38 = .ok (.if_icmp .le 10, 3) := by decide +kernel
theorem dX7_waits__41 : decode cX7_waits_ 41 = .ok (.aload_n 0, 1) := by decide +kernel
theorem dX7_waits__42 : decode cX7_waits_ 42 = .ok (.bipush (-6), 2) := by decide +kernel
theorem dX7_waits__44 : decode cX7_waits_ 44 = .ok (.invokevirtual 64, 3) := by decide +kernel
theorem dX7_waits__47 : decode cX7_waits_ 47 = .ok (.ireturn, 1) := by decide +kernel
theorem dX7_waits__48 : decode cX7_waits_ 48 = .ok (.aload_n 0, 1) := by decide +kernel
theorem dX7_waits__49 : decode cX7_waits_ 49 = .ok (.iload_n 1, 1) := by decide +kernel
theorem dX7_waits__50 : decode cX7_waits_ 50 = .ok (.invokevirtual 157, 3) := by decide +kernel
theorem dX7_waits__53 : decode cX7_waits_ 53 = .ok (.istore 4, 2) := by decide +kernel
theorem dX7_waits__55 : decode cX7_waits_ 55 = .ok (.iload 4, 2) := by decide +kernel
theorem dX7_waits__57 : decode cX7_waits_ 57 = .ok (.bipush (-9), 2) := by decide +kernel
theorem dX7_waits__59 : decode cX7_waits_ 59 = .ok (.if_icmp .ne 8, 3) := by decide +kernel
theorem dX7_waits__62 : decode cX7_waits_ 62 = .ok (.bipush (-9), 2) := by decide +kernel
theorem dX7_waits__64 : decode cX7_waits_ 64 = .ok (.goto 13, 3) := by decide +kernel
theorem dX7_waits__67 : decode cX7_waits_ 67 = .ok (.iconst 0, 1) := by decide +kernel
theorem dX7_waits__68 : decode cX7_waits_ 68 = .ok (.iload 4, 2) := by decide +kernel
theorem dX7_waits__70 : decode cX7_waits_ 70 = .ok (.iload_n 2, 1) := by decide +kernel
theorem dX7_waits__71 : decode cX7_waits_ 71 = .ok (.isub, 1) := by decide +kernel
theorem dX7_waits__72 : decode cX7_waits_ 72 = .ok (.iload_n 3, 1) := by decide +kernel
theorem dX7_waits__73 : decode cX7_waits_ 73 = .ok (.isub, 1) := by decide +kernel
theorem dX7_waits__74 : decode cX7_waits_ 74 = .ok (.invokestatic 172, 3) := by decide +kernel
theorem dX7_waits__77 : decode cX7_waits_ 77 = .ok (.ireturn, 1) := by decide +kernel
theorem dX7_vain_0 : decode cX7_vain 0 = .ok (.aload_n 0, 1) := by decide +kernel
theorem dX7_vain_1 : decode cX7_vain 1 = .ok (.iload_n 1, 1) := by decide +kernel
theorem dX7_vain_2 : decode cX7_vain 2 = .ok (.invokevirtual 150, 3) := by decide +kernel
theorem dX7_vain_5 : decode cX7_vain 5 = .ok (.ifCond .eq 9, 3) := by decide +kernel
theorem dX7_vain_8 : decode cX7_vain 8 = .ok (.aload_n 0, 1) := by decide +kernel
theorem dX7_vain_9 : decode cX7_vain 9 = .ok (.iconst (-1), 1) := by decide +kernel
theorem dX7_vain_10 : decode cX7_vain 10 = .ok (.invokevirtual 64, 3) := by decide +kernel
theorem dX7_vain_13 : decode cX7_vain 13 = .ok (.ireturn, 1) := by decide +kernel
theorem dX7_vain_14 : decode cX7_vain 14 = .ok (.iload_n 2, 1) := by decide +kernel
theorem dX7_vain_15 : decode cX7_vain 15 = .ok (.ifCond .lt 8, 3) := by decide +kernel
theorem dX7_vain_18 : decode cX7_vain 18 = .ok (.iload_n 3, 1) := by decide +kernel
theorem dX7_vain_19 : decode cX7_vain 19 = .ok (.iconst 1, 1) := by decide +kernel
theorem dX7_vain_20 : decode cX7_vain 20 = .ok (.if_icmp .ge 10, 3) := by decide +kernel
theorem dX7_vain_23 : decode cX7_vain 23 = .ok (.aload_n 0, 1) := by decide +kernel
theorem dX7_vain_24 : decode cX7_vain 24 = .ok (.bipush (-4), 2) := by decide +kernel
theorem dX7_vain_26 : decode cX7_vain 26 = .ok (.invokevirtual 64, 3) := by decide +kernel
theorem dX7_vain_29 : decode cX7_vain 29 = .ok (.ireturn, 1) := by decide +kernel
theorem dX7_vain_30 : decode cX7_vain 30 = .ok (.iload_n 2, 1) := by decide +kernel
theorem dX7_vain_31 : decode cX7_vain 31 = .ok (.bipush 99, 2) := by decide +kernel
theorem dX7_vain_33 : decode cX7_vain 33 = .ok (.if_icmp .gt 9, 3) := by decide +kernel
theorem dX7_vain_36 : decode cX7_vain 36 = .ok (.iload_n 3, 1) := by decide +kernel
theorem dX7_vain_37 : decode cX7_vain 37 = .ok (.bipush 30, 2) := by decide +kernel
theorem dX7_vain_39 : decode cX7_vain 39 = .ok (.if_icmp .le 10, 3) := by decide +kernel
theorem dX7_vain_42 : decode cX7_vain 42 = .ok (.aload_n 0, 1) := by decide +kernel
theorem dX7_vain_43 : decode cX7_vain 43 = .ok (.bipush (-6), 2) := by decide +kernel
theorem dX7_vain_45 : decode cX7_vain 45 = .ok (.invokevirtual 64, 3) := by decide +kernel
theorem dX7_vain_48 : decode cX7_vain 48 = .ok (.ireturn, 1) := by decide +kernel
theorem dX7_vain_49 : decode cX7_vain 49 = .ok (.aload_n 0, 1) := by decide +kernel
theorem dX7_vain_50 : decode cX7_vain 50 = .ok (.iload_n 1, 1) := by decide +kernel
theorem dX7_vain_51 : decode cX7_vain 51 = .ok (.invokevirtual 157, 3) := by decide +kernel
theorem dX7_vain_54 : decode cX7_vain 54 = .ok (.istore 4, 2) := by decide +kernel
theorem dX7_vain_56 : decode cX7_vain 56 = .ok (.iload 4, 2) := by decide +kernel
theorem dX7_vain_58 : decode cX7_vain 58 = .ok (.bipush (-9), 2) := by decide +kernel
theorem dX7_vain_60 : decode cX7_vain 60 = .ok (.if_icmp .ne 6, 3) := by decide +kernel
theorem dX7_vain_63 : decode cX7_vain 63 = .ok (.bipush (-9), 2) := by decide +kernel
theorem dX7_vain_65 : decode cX7_vain 65 = .ok (.ireturn, 1) := by decide +kernel
theorem dX7_vain_66 : decode cX7_vain 66 = .ok (.iconst 0, 1) := by decide +kernel
theorem dX7_vain_67 : decode cX7_vain 67 = .ok (.istore 5, 2) := by decide +kernel
theorem dX7_vain_69 : decode cX7_vain 69 = .ok (.iload_n 2, 1) := by decide +kernel
theorem dX7_vain_70 : decode cX7_vain 70 = .ok (.istore 6, 2) := by decide +kernel
theorem dX7_vain_72 : decode cX7_vain 72 = .ok (.iload 6, 2) := by decide +kernel
theorem dX7_vain_74 : decode cX7_vain 74 = .ok (.iload 4, 2) := by decide +kernel
theorem dX7_vain_76 : decode cX7_vain 76 = .ok (.if_icmp .ge 15, 3) := by decide +kernel
theorem dX7_vain_79 : decode cX7_vain 79 = .ok (.iinc 5 1, 3) := by decide +kernel
theorem dX7_vain_82 : decode cX7_vain 82 = .ok (.iload 6, 2) := by decide +kernel
theorem dX7_vain_84 : decode cX7_vain 84 = .ok (.iload_n 3, 1) := by decide +kernel
theorem dX7_vain_85 : decode cX7_vain 85 = .ok (.iadd, 1) := by decide +kernel
theorem dX7_vain_86 : decode cX7_vain 86 = .ok (.istore 6, 2) := by decide +kernel
theorem dX7_vain_88 : decode cX7_vain 88 = .ok (.goto (-16), 3) := by decide +kernel
theorem dX7_vain_91 : decode cX7_vain 91 = .ok (.iload 5, 2) := by decide +kernel
theorem dX7_vain_93 : decode cX7_vain 93 = .ok (.ireturn, 1) := by decide +kernel
theorem dX7_seen_0 : decode cX7_seen 0 = .ok (.iload_n 1, 1) := by decide +kernel
theorem dX7_seen_1 : decode cX7_seen 1 = .ok (.ifCond .lt 8, 3) := by decide +kernel
theorem dX7_seen_4 : decode cX7_seen 4 = .ok (.iload_n 1, 1) := by decide +kernel
theorem dX7_seen_5 : decode cX7_seen 5 = .ok (.iconst 1, 1) := by decide +kernel
theorem dX7_seen_6 : decode cX7_seen 6 = .ok (.if_icmp .le 10, 3) := by decide +kernel
theorem dX7_seen_9 : decode cX7_seen 9 = .ok (.aload_n 0, 1) := by decide +kernel
theorem dX7_seen_10 : decode cX7_seen 10 = .ok (.bipush (-2), 2) := by decide +kernel
theorem dX7_seen_12 : decode cX7_seen 12 = .ok (.invokevirtual 64, 3) := by decide +kernel
theorem dX7_seen_15 : decode cX7_seen 15 = .ok (.ireturn, 1) := by decide +kernel
theorem dX7_seen_16 : decode cX7_seen 16 = .ok (.iconst 0, 1) := by decide +kernel
theorem dX7_seen_17 : decode cX7_seen 17 = .ok (.istore_n 2, 1) := by decide +kernel
theorem dX7_seen_18 : decode cX7_seen 18 = .ok (.bipush (-9), 2) := by decide +kernel
theorem dX7_seen_20 : decode cX7_seen 20 = .ok (.istore_n 3, 1) := by decide +kernel
theorem dX7_seen_21 : decode cX7_seen 21 = .ok (.bipush 99, 2) := by decide +kernel
theorem dX7_seen_23 : decode cX7_seen 23 = .ok (.istore 4, 2) := by decide +kernel
theorem dX7_seen_25 : decode cX7_seen 25 = .ok (.iload 4, 2) := by decide +kernel
theorem dX7_seen_27 : decode cX7_seen 27 = .ok (.ifCond .lt 112, 3) := by decide +kernel
theorem dX7_seen_30 : decode cX7_seen 30 = .ok (.aload_n 0, 1) := by decide +kernel
theorem dX7_seen_31 : decode cX7_seen 31 = .ok (.iload 4, 2) := by decide +kernel
theorem dX7_seen_33 : decode cX7_seen 33 = .ok (.invokevirtual 147, 3) := by decide +kernel
theorem dX7_seen_36 : decode cX7_seen 36 = .ok (.aload_n 0, 1) := by decide +kernel
theorem dX7_seen_37 : decode cX7_seen 37 = .ok (.getfield 116, 3) := by decide +kernel
theorem dX7_seen_40 : decode cX7_seen 40 = .ok (.aload_n 0, 1) := by decide +kernel
theorem dX7_seen_41 : decode cX7_seen 41 = .ok (.getfield 166, 3) := by decide +kernel
theorem dX7_seen_44 : decode cX7_seen 44 = .ok (.if_icmp .ne 7, 3) := by decide +kernel
theorem dX7_seen_47 : decode cX7_seen 47 = .ok (.iconst 1, 1) := by decide +kernel
theorem dX7_seen_48 : decode cX7_seen 48 = .ok (.goto 4, 3) := by decide +kernel
theorem dX7_seen_51 : decode cX7_seen 51 = .ok (.iconst 0, 1) := by decide +kernel
theorem dX7_seen_52 : decode cX7_seen 52 = .ok (.istore 5, 2) := by decide +kernel
theorem dX7_seen_54 : decode cX7_seen 54 = .ok (.iconst 0, 1) := by decide +kernel
theorem dX7_seen_55 : decode cX7_seen 55 = .ok (.istore 6, 2) := by decide +kernel
theorem dX7_seen_57 : decode cX7_seen 57 = .ok (.iload 6, 2) := by decide +kernel
theorem dX7_seen_59 : decode cX7_seen 59 = .ok (.aload_n 0, 1) := by decide +kernel
theorem dX7_seen_60 : decode cX7_seen 60 = .ok (.getfield 166, 3) := by decide +kernel
theorem dX7_seen_63 : decode cX7_seen 63 = .ok (.if_icmp .ge 45, 3) := by decide +kernel
theorem dX7_seen_66 : decode cX7_seen 66 = .ok (.iload 5, 2) := by decide +kernel
theorem dX7_seen_68 : decode cX7_seen 68 = .ok (.ifCond .eq 40, 3) := by decide +kernel
theorem dX7_seen_71 : decode cX7_seen 71 = .ok (.aload_n 0, 1) := by decide +kernel
theorem dX7_seen_72 : decode cX7_seen 72 = .ok (.getfield 44, 3) := by decide +kernel
theorem dX7_seen_75 : decode cX7_seen 75 = .ok (.aload_n 0, 1) := by decide +kernel
theorem dX7_seen_76 : decode cX7_seen 76 = .ok (.getfield 116, 3) := by decide +kernel
theorem dX7_seen_79 : decode cX7_seen 79 = .ok (.iconst 1, 1) := by decide +kernel
theorem dX7_seen_80 : decode cX7_seen 80 = .ok (.isub, 1) := by decide +kernel
theorem dX7_seen_81 : decode cX7_seen 81 = .ok (.iload 6, 2) := by decide +kernel
theorem dX7_seen_83 : decode cX7_seen 83 = .ok (.isub, 1) := by decide +kernel
theorem dX7_seen_84 : decode cX7_seen 84 = .ok (.iaload, 1) := by decide +kernel
theorem dX7_seen_85 : decode cX7_seen 85 = .ok (.aload_n 0, 1) := by decide +kernel
theorem dX7_seen_86 : decode cX7_seen 86 = .ok (.getfield 54, 3) := by decide +kernel
theorem dX7_seen_89 : decode cX7_seen 89 = .ok (.iload 6, 2) := by decide +kernel
theorem dX7_seen_91 : decode cX7_seen 91 = .ok (.iaload, 1) := by decide +kernel
theorem dX7_seen_92 : decode cX7_seen 92 = .ok (.if_icmp .ne 7, 3) := by decide +kernel
theorem dX7_seen_95 : decode cX7_seen 95 = .ok (.iconst 1, 1) := by decide +kernel
theorem dX7_seen_96 : decode cX7_seen 96 = .ok (.goto 4, 3) := by decide +kernel
theorem dX7_seen_99 : decode cX7_seen 99 = .ok (.iconst 0, 1) := by decide +kernel
theorem dX7_seen_100 : decode cX7_seen 100 = .ok (.istore 5, 2) := by decide +kernel
theorem dX7_seen_102 : decode cX7_seen 102 = .ok (.iinc 6 1, 3) := by decide +kernel
theorem dX7_seen_105 : decode cX7_seen 105 = .ok (.goto (-48), 3) := by decide +kernel
theorem dX7_seen_108 : decode cX7_seen 108 = .ok (.iload_n 2, 1) := by decide +kernel
theorem dX7_seen_109 : decode cX7_seen 109 = .ok (.iload 5, 2) := by decide +kernel
theorem dX7_seen_111 : decode cX7_seen 111 = .ok (.ifCond .eq 7, 3) := by decide +kernel
theorem dX7_seen_114 : decode cX7_seen 114 = .ok (.iconst 1, 1) := by decide +kernel
theorem dX7_seen_115 : decode cX7_seen 115 = .ok (.goto 4, 3) := by decide +kernel
theorem dX7_seen_118 : decode cX7_seen 118 = .ok (.iconst 0, 1) := by decide +kernel
theorem dX7_seen_119 : decode cX7_seen 119 = .ok (.iadd, 1) := by decide +kernel
theorem dX7_seen_120 : decode cX7_seen 120 = .ok (.istore_n 2, 1) := by decide +kernel
theorem dX7_seen_121 : decode cX7_seen 121 = .ok (.iload 5, 2) := by decide +kernel
theorem dX7_seen_123 : decode cX7_seen 123 = .ok (.ifCond .eq 8, 3) := by decide +kernel
theorem dX7_seen_126 : decode cX7_seen 126 = .ok (.iload 4, 2) := by decide +kernel
theorem dX7_seen_128 : decode cX7_seen 128 = .ok (.goto 4, 3) := by decide +kernel
theorem dX7_seen_131 : decode cX7_seen 131 = .ok (.iload_n 3, 1) := by decide +kernel
theorem dX7_seen_132 : decode cX7_seen 132 = .ok (.istore_n 3, 1) := by decide +kernel
theorem dX7_seen_133 : decode cX7_seen 133 = .ok (.iinc 4 (-1), 3) := by decide +kernel
theorem dX7_seen_136 : decode cX7_seen 136 = .ok (.goto (-111), 3) := by decide +kernel
theorem dX7_seen_139 : decode cX7_seen 139 = .ok (.iload_n 1, 1) := by decide +kernel
theorem dX7_seen_140 : decode cX7_seen 140 = .ok (.ifCond .ne 7, 3) := by decide +kernel
theorem dX7_seen_143 : decode cX7_seen 143 = .ok (.iload_n 2, 1) := by decide +kernel
theorem dX7_seen_144 : decode cX7_seen 144 = .ok (.goto 4, 3) := by decide +kernel
theorem dX7_seen_147 : decode cX7_seen 147 = .ok (.iload_n 3, 1) := by decide +kernel
theorem dX7_seen_148 : decode cX7_seen 148 = .ok (.ireturn, 1) := by decide +kernel
theorem dX7_row_0 : decode cX7_row 0 = .ok (.iload_n 1, 1) := by decide +kernel
theorem dX7_row_1 : decode cX7_row 1 = .ok (.ifCond .ge 10, 3) := by decide +kernel
theorem dX7_row_4 : decode cX7_row 4 = .ok (.aload_n 0, 1) := by decide +kernel
theorem dX7_row_5 : decode cX7_row 5 = .ok (.bipush (-4), 2) := by decide +kernel
theorem dX7_row_7 : decode cX7_row 7 = .ok (.invokevirtual 64, 3) := by decide +kernel
theorem dX7_row_10 : decode cX7_row 10 = .ok (.ireturn, 1) := by decide +kernel
theorem dX7_row_11 : decode cX7_row 11 = .ok (.iload_n 1, 1) := by decide +kernel
theorem dX7_row_12 : decode cX7_row 12 = .ok (.bipush 99, 2) := by decide +kernel
theorem dX7_row_14 : decode cX7_row 14 = .ok (.if_icmp .gt 12, 3) := by decide +kernel
theorem dX7_row_17 : decode cX7_row 17 = .ok (.aload_n 0, 1) := by decide +kernel
theorem dX7_row_18 : decode cX7_row 18 = .ok (.getfield 166, 3) := by decide +kernel
theorem dX7_row_21 : decode cX7_row 21 = .ok (.bipush 20, 2) := by decide +kernel
theorem dX7_row_23 : decode cX7_row 23 = .ok (.if_icmp .ne 10, 3) := by decide +kernel
theorem dX7_row_26 : decode cX7_row 26 = .ok (.aload_n 0, 1) := by decide +kernel
theorem dX7_row_27 : decode cX7_row 27 = .ok (.bipush (-6), 2) := by decide +kernel
theorem dX7_row_29 : decode cX7_row 29 = .ok (.invokevirtual 64, 3) := by decide +kernel
theorem dX7_row_32 : decode cX7_row 32 = .ok (.ireturn, 1) := by decide +kernel
theorem dX7_row_33 : decode cX7_row 33 = .ok (.aload_n 0, 1) := by decide +kernel
theorem dX7_row_34 : decode cX7_row 34 = .ok (.getfield 54, 3) := by decide +kernel
theorem dX7_row_37 : decode cX7_row 37 = .ok (.aload_n 0, 1) := by decide +kernel
theorem dX7_row_38 : decode cX7_row 38 = .ok (.getfield 166, 3) := by decide +kernel
theorem dX7_row_41 : decode cX7_row 41 = .ok (.iload_n 1, 1) := by decide +kernel
theorem dX7_row_42 : decode cX7_row 42 = .ok (.iastore, 1) := by decide +kernel
theorem dX7_row_43 : decode cX7_row 43 = .ok (.aload_n 0, 1) := by decide +kernel
theorem dX7_row_44 : decode cX7_row 44 = .ok (.dup, 1) := by decide +kernel
theorem dX7_row_45 : decode cX7_row 45 = .ok (.getfield 166, 3) := by decide +kernel
theorem dX7_row_48 : decode cX7_row 48 = .ok (.iconst 1, 1) := by decide +kernel
theorem dX7_row_49 : decode cX7_row 49 = .ok (.iadd, 1) := by decide +kernel
theorem dX7_row_50 : decode cX7_row 50 = .ok (.putfield 166, 3) := by decide +kernel
theorem dX7_row_53 : decode cX7_row 53 = .ok (.aload_n 0, 1) := by decide +kernel
theorem dX7_row_54 : decode cX7_row 54 = .ok (.getfield 166, 3) := by decide +kernel
theorem dX7_row_57 : decode cX7_row 57 = .ok (.ireturn, 1) := by decide +kernel
theorem dX7_judge_0 : decode cX7_judge 0 = .ok (.aload_n 0, 1) := by decide +kernel
theorem dX7_judge_1 : decode cX7_judge 1 = .ok (.bipush 99, 2) := by decide +kernel
theorem dX7_judge_3 : decode cX7_judge 3 = .ok (.invokevirtual 147, 3) := by decide +kernel
theorem dX7_judge_6 : decode cX7_judge 6 = .ok (.bipush (-9), 2) := by decide +kernel
theorem dX7_judge_8 : decode cX7_judge 8 = .ok (.istore_n 1, 1) := by decide +kernel
theorem dX7_judge_9 : decode cX7_judge 9 = .ok (.aload_n 0, 1) := by decide +kernel
theorem dX7_judge_10 : decode cX7_judge 10 = .ok (.getfield 166, 3) := by decide +kernel
theorem dX7_judge_13 : decode cX7_judge 13 = .ok (.iconst 1, 1) := by decide +kernel
theorem dX7_judge_14 : decode cX7_judge 14 = .ok (.isub, 1) := by decide +kernel
theorem dX7_judge_15 : decode cX7_judge 15 = .ok (.istore_n 2, 1) := by decide +kernel
theorem dX7_judge_16 : decode cX7_judge 16 = .ok (.iload_n 2, 1) := by decide +kernel
theorem dX7_judge_17 : decode cX7_judge 17 = .ok (.ifCond .lt 38, 3) := by decide +kernel
theorem dX7_judge_20 : decode cX7_judge 20 = .ok (.iload_n 2, 1) := by decide +kernel
theorem dX7_judge_21 : decode cX7_judge 21 = .ok (.aload_n 0, 1) := by decide +kernel
theorem dX7_judge_22 : decode cX7_judge 22 = .ok (.getfield 113, 3) := by decide +kernel
theorem dX7_judge_25 : decode cX7_judge 25 = .ok (.if_icmp .ge 18, 3) := by decide +kernel
theorem dX7_judge_28 : decode cX7_judge 28 = .ok (.aload_n 0, 1) := by decide +kernel
theorem dX7_judge_29 : decode cX7_judge 29 = .ok (.getfield 38, 3) := by decide +kernel
theorem dX7_judge_32 : decode cX7_judge 32 = .ok (.iload_n 2, 1) := by decide +kernel
theorem dX7_judge_33 : decode cX7_judge 33 = .ok (.iaload, 1) := by decide +kernel
theorem dX7_judge_34 : decode cX7_judge 34 = .ok (.aload_n 0, 1) := by decide +kernel
theorem dX7_judge_35 : decode cX7_judge 35 = .ok (.getfield 54, 3) := by decide +kernel
theorem dX7_judge_38 : decode cX7_judge 38 = .ok (.iload_n 2, 1) := by decide +kernel
theorem dX7_judge_39 : decode cX7_judge 39 = .ok (.iaload, 1) := by decide +kernel
theorem dX7_judge_40 : decode cX7_judge 40 = .ok (.if_icmp .eq 7, 3) := by decide +kernel
theorem dX7_judge_43 : decode cX7_judge 43 = .ok (.iload_n 2, 1) := by decide +kernel
theorem dX7_judge_44 : decode cX7_judge 44 = .ok (.goto 4, 3) := by decide +kernel
theorem dX7_judge_47 : decode cX7_judge 47 = .ok (.iload_n 1, 1) := by decide +kernel
theorem dX7_judge_48 : decode cX7_judge 48 = .ok (.istore_n 1, 1) := by decide +kernel
theorem dX7_judge_49 : decode cX7_judge 49 = .ok (.iinc 2 (-1), 3) := by decide +kernel
theorem dX7_judge_52 : decode cX7_judge 52 = .ok (.goto (-36), 3) := by decide +kernel
theorem dX7_judge_55 : decode cX7_judge 55 = .ok (.aload_n 0, 1) := by decide +kernel
theorem dX7_judge_56 : decode cX7_judge 56 = .ok (.iconst 0, 1) := by decide +kernel
theorem dX7_judge_57 : decode cX7_judge 57 = .ok (.putfield 166, 3) := by decide +kernel
theorem dX7_judge_60 : decode cX7_judge 60 = .ok (.iload_n 1, 1) := by decide +kernel
theorem dX7_judge_61 : decode cX7_judge 61 = .ok (.ireturn, 1) := by decide +kernel
theorem dX7_lots_0 : decode cX7_lots 0 = .ok (.iload_n 1, 1) := by decide +kernel
theorem dX7_lots_1 : decode cX7_lots 1 = .ok (.iconst 1, 1) := by decide +kernel
theorem dX7_lots_2 : decode cX7_lots 2 = .ok (.if_icmp .ge 10, 3) := by decide +kernel
theorem dX7_lots_5 : decode cX7_lots 5 = .ok (.aload_n 0, 1) := by decide +kernel
theorem dX7_lots_6 : decode cX7_lots 6 = .ok (.bipush (-4), 2) := by decide +kernel
theorem dX7_lots_8 : decode cX7_lots 8 = .ok (.invokevirtual 64, 3) := by decide +kernel
theorem dX7_lots_11 : decode cX7_lots 11 = .ok (.ireturn, 1) := by decide +kernel
theorem dX7_lots_12 : decode cX7_lots 12 = .ok (.iload_n 1, 1) := by decide +kernel
theorem dX7_lots_13 : decode cX7_lots 13 = .ok (.bipush 20, 2) := by decide +kernel
theorem dX7_lots_15 : decode cX7_lots 15 = .ok (.if_icmp .le 10, 3) := by decide +kernel
theorem dX7_lots_18 : decode cX7_lots 18 = .ok (.aload_n 0, 1) := by decide +kernel
theorem dX7_lots_19 : decode cX7_lots 19 = .ok (.bipush (-6), 2) := by decide +kernel
theorem dX7_lots_21 : decode cX7_lots 21 = .ok (.invokevirtual 64, 3) := by decide +kernel
theorem dX7_lots_24 : decode cX7_lots 24 = .ok (.ireturn, 1) := by decide +kernel
theorem dX7_lots_25 : decode cX7_lots 25 = .ok (.bipush 6, 2) := by decide +kernel
theorem dX7_lots_27 : decode cX7_lots 27 = .ok (.newarray .int, 2) := by decide +kernel
theorem dX7_lots_29 : decode cX7_lots 29 = .ok (.astore_n 3, 1) := by decide +kernel
theorem dX7_lots_30 : decode cX7_lots 30 = .ok (.iconst 0, 1) := by decide +kernel
theorem dX7_lots_31 : decode cX7_lots 31 = .ok (.istore 4, 2) := by decide +kernel
theorem dX7_lots_33 : decode cX7_lots 33 = .ok (.iload 4, 2) := by decide +kernel
theorem dX7_lots_35 : decode cX7_lots 35 = .ok (.aload_n 0, 1) := by decide +kernel
theorem dX7_lots_36 : decode cX7_lots 36 = .ok (.getfield 13, 3) := by decide +kernel
theorem dX7_lots_39 : decode cX7_lots 39 = .ok (.iconst 0, 1) := by decide +kernel
theorem dX7_lots_40 : decode cX7_lots 40 = .ok (.iaload, 1) := by decide +kernel
theorem dX7_lots_41 : decode cX7_lots 41 = .ok (.if_icmp .ge 23, 3) := by decide +kernel
theorem dX7_lots_44 : decode cX7_lots 44 = .ok (.aload_n 3, 1) := by decide +kernel
theorem dX7_lots_45 : decode cX7_lots 45 = .ok (.iload 4, 2) := by decide +kernel
theorem dX7_lots_47 : decode cX7_lots 47 = .ok (.aload_n 0, 1) := by decide +kernel
theorem dX7_lots_48 : decode cX7_lots 48 = .ok (.getfield 13, 3) := by decide +kernel
theorem dX7_lots_51 : decode cX7_lots 51 = .ok (.bipush 30, 2) := by decide +kernel
theorem dX7_lots_53 : decode cX7_lots 53 = .ok (.iload 4, 2) := by decide +kernel
theorem dX7_lots_55 : decode cX7_lots 55 = .ok (.iadd, 1) := by decide +kernel
theorem dX7_lots_56 : decode cX7_lots 56 = .ok (.iaload, 1) := by decide +kernel
theorem dX7_lots_57 : decode cX7_lots 57 = .ok (.iastore, 1) := by decide +kernel
theorem dX7_lots_58 : decode cX7_lots 58 = .ok (.iinc 4 1, 3) := by decide +kernel
theorem dX7_lots_61 : decode cX7_lots 61 = .ok (.goto (-28), 3) := by decide +kernel
theorem dX7_lots_64 : decode cX7_lots 64 = .ok (.iload_n 2, 1) := by decide +kernel
theorem dX7_lots_65 : decode cX7_lots 65 = .ok (.istore 4, 2) := by decide +kernel
theorem dX7_lots_67 : decode cX7_lots 67 = .ok (.iconst 0, 1) := by decide +kernel
theorem dX7_lots_68 : decode cX7_lots 68 = .ok (.istore 5, 2) := by decide +kernel
theorem dX7_lots_70 : decode cX7_lots 70 = .ok (.iconst 0, 1) := by decide +kernel
theorem dX7_lots_71 : decode cX7_lots 71 = .ok (.istore 6, 2) := by decide +kernel
theorem dX7_lots_73 : decode cX7_lots 73 = .ok (.iload 6, 2) := by decide +kernel
theorem dX7_lots_75 : decode cX7_lots 75 = .ok (.iload_n 1, 1) := by decide +kernel
theorem dX7_lots_76 : decode cX7_lots 76 = .ok (.if_icmp .ge 70, 3) := by decide +kernel
theorem dX7_lots_79 : decode cX7_lots 79 = .ok (.iconst 0, 1) := by decide +kernel
theorem dX7_lots_80 : decode cX7_lots 80 = .ok (.istore 7, 2) := by decide +kernel
theorem dX7_lots_82 : decode cX7_lots 82 = .ok (.iload 7, 2) := by decide +kernel
theorem dX7_lots_84 : decode cX7_lots 84 = .ok (.aload_n 0, 1) := by decide +kernel
theorem dX7_lots_85 : decode cX7_lots 85 = .ok (.getfield 13, 3) := by decide +kernel
theorem dX7_lots_88 : decode cX7_lots 88 = .ok (.iconst 0, 1) := by decide +kernel
theorem dX7_lots_89 : decode cX7_lots 89 = .ok (.iaload, 1) := by decide +kernel
theorem dX7_lots_90 : decode cX7_lots 90 = .ok (.if_icmp .ge 41, 3) := by decide +kernel
theorem dX7_lots_93 : decode cX7_lots 93 = .ok (.iload 4, 2) := by decide +kernel
theorem dX7_lots_95 : decode cX7_lots 95 = .ok (.ldc 181, 2) := by decide +kernel
theorem dX7_lots_97 : decode cX7_lots 97 = .ok (.imul, 1) := by decide +kernel
theorem dX7_lots_98 : decode cX7_lots 98 = .ok (.ldc 182, 2) := by decide +kernel
theorem dX7_lots_100 : decode cX7_lots 100 = .ok (.iadd, 1) := by decide +kernel
theorem dX7_lots_101 : decode cX7_lots 101 = .ok (.istore 4, 2) := by decide +kernel
theorem dX7_lots_103 : decode cX7_lots 103 = .ok (.aload_n 0, 1) := by decide +kernel
theorem dX7_lots_104 : decode cX7_lots 104 = .ok (.getfield 13, 3) := by decide +kernel
theorem dX7_lots_107 : decode cX7_lots 107 = .ok (.bipush 30, 2) := by decide +kernel
theorem dX7_lots_109 : decode cX7_lots 109 = .ok (.iload 7, 2) := by decide +kernel
theorem dX7_lots_111 : decode cX7_lots 111 = .ok (.iadd, 1) := by decide +kernel
theorem dX7_lots_112 : decode cX7_lots 112 = .ok (.iload 4, 2) := by decide +kernel
theorem dX7_lots_114 : decode cX7_lots 114 = .ok (.ldc 183, 2) := by decide +kernel
theorem dX7_lots_116 : decode cX7_lots 116 = .ok (.iand, 1) := by decide +kernel
theorem dX7_lots_117 : decode cX7_lots 117 = .ok (.sipush 256, 3) := by decide +kernel
theorem dX7_lots_120 : decode cX7_lots 120 = .ok (.idiv, 1) := by decide +kernel
theorem dX7_lots_121 : decode cX7_lots 121 = .ok (.bipush 60, 2) := by decide +kernel
theorem dX7_lots_123 : decode cX7_lots 123 = .ok (.irem, 1) := by decide +kernel
theorem dX7_lots_124 : decode cX7_lots 124 = .ok (.iastore, 1) := by decide +kernel
theorem dX7_lots_125 : decode cX7_lots 125 = .ok (.iinc 7 1, 3) := by decide +kernel
theorem dX7_lots_128 : decode cX7_lots 128 = .ok (.goto (-46), 3) := by decide +kernel
theorem dX7_lots_131 : decode cX7_lots 131 = .ok (.iload 5, 2) := by decide +kernel
theorem dX7_lots_133 : decode cX7_lots 133 = .ok (.aload_n 0, 1) := by decide +kernel
theorem dX7_lots_134 : decode cX7_lots 134 = .ok (.invokevirtual 163, 3) := by decide +kernel
theorem dX7_lots_137 : decode cX7_lots 137 = .ok (.iadd, 1) := by decide +kernel
theorem dX7_lots_138 : decode cX7_lots 138 = .ok (.istore 5, 2) := by decide +kernel
theorem dX7_lots_140 : decode cX7_lots 140 = .ok (.iinc 6 1, 3) := by decide +kernel
theorem dX7_lots_143 : decode cX7_lots 143 = .ok (.goto (-70), 3) := by decide +kernel
theorem dX7_lots_146 : decode cX7_lots 146 = .ok (.iconst 0, 1) := by decide +kernel
theorem dX7_lots_147 : decode cX7_lots 147 = .ok (.istore 6, 2) := by decide +kernel
theorem dX7_lots_149 : decode cX7_lots 149 = .ok (.iload 6, 2) := by decide +kernel
theorem dX7_lots_151 : decode cX7_lots 151 = .ok (.aload_n 0, 1) := by decide +kernel
theorem dX7_lots_152 : decode cX7_lots 152 = .ok (.getfield 13, 3) := by decide +kernel
theorem dX7_lots_155 : decode cX7_lots 155 = .ok (.iconst 0, 1) := by decide +kernel
theorem dX7_lots_156 : decode cX7_lots 156 = .ok (.iaload, 1) := by decide +kernel
theorem dX7_lots_157 : decode cX7_lots 157 = .ok (.if_icmp .ge 23, 3) := by decide +kernel
theorem dX7_lots_160 : decode cX7_lots 160 = .ok (.aload_n 0, 1) := by decide +kernel
theorem dX7_lots_161 : decode cX7_lots 161 = .ok (.getfield 13, 3) := by decide +kernel
theorem dX7_lots_164 : decode cX7_lots 164 = .ok (.bipush 30, 2) := by decide +kernel
theorem dX7_lots_166 : decode cX7_lots 166 = .ok (.iload 6, 2) := by decide +kernel
theorem dX7_lots_168 : decode cX7_lots 168 = .ok (.iadd, 1) := by decide +kernel
theorem dX7_lots_169 : decode cX7_lots 169 = .ok (.aload_n 3, 1) := by decide +kernel
theorem dX7_lots_170 : decode cX7_lots 170 = .ok (.iload 6, 2) := by decide +kernel
theorem dX7_lots_172 : decode cX7_lots 172 = .ok (.iaload, 1) := by decide +kernel
theorem dX7_lots_173 : decode cX7_lots 173 = .ok (.iastore, 1) := by decide +kernel
theorem dX7_lots_174 : decode cX7_lots 174 = .ok (.iinc 6 1, 3) := by decide +kernel
theorem dX7_lots_177 : decode cX7_lots 177 = .ok (.goto (-28), 3) := by decide +kernel
theorem dX7_lots_180 : decode cX7_lots 180 = .ok (.iload 5, 2) := by decide +kernel
theorem dX7_lots_182 : decode cX7_lots 182 = .ok (.ireturn, 1) := by decide +kernel
theorem dX7_count_0 : decode cX7_count 0 = .ok (.iload_n 1, 1) := by decide +kernel
theorem dX7_count_1 : decode cX7_count 1 = .ok (.tableswitch 115 0 6 #[43, 50, 84, 91, 98, 105, 110], 43) := by decide +kernel
theorem dX7_count_44 : decode cX7_count 44 = .ok (.aload_n 0, 1) := by decide +kernel
theorem dX7_count_45 : decode cX7_count 45 = .ok (.getfield 13, 3) := by decide +kernel
theorem dX7_count_48 : decode cX7_count 48 = .ok (.iconst 0, 1) := by decide +kernel
theorem dX7_count_49 : decode cX7_count 49 = .ok (.iaload, 1) := by decide +kernel
theorem dX7_count_50 : decode cX7_count 50 = .ok (.ireturn, 1) := by decide +kernel
theorem dX7_count_51 : decode cX7_count 51 = .ok (.iconst 0, 1) := by decide +kernel
theorem dX7_count_52 : decode cX7_count 52 = .ok (.istore_n 2, 1) := by decide +kernel
theorem dX7_count_53 : decode cX7_count 53 = .ok (.iconst 0, 1) := by decide +kernel
theorem dX7_count_54 : decode cX7_count 54 = .ok (.istore_n 3, 1) := by decide +kernel
theorem dX7_count_55 : decode cX7_count 55 = .ok (.iload_n 3, 1) := by decide +kernel
theorem dX7_count_56 : decode cX7_count 56 = .ok (.aload_n 0, 1) := by decide +kernel
theorem dX7_count_57 : decode cX7_count 57 = .ok (.getfield 13, 3) := by decide +kernel
theorem dX7_count_60 : decode cX7_count 60 = .ok (.iconst 0, 1) := by decide +kernel
theorem dX7_count_61 : decode cX7_count 61 = .ok (.iaload, 1) := by decide +kernel
theorem dX7_count_62 : decode cX7_count 62 = .ok (.if_icmp .ge 21, 3) := by decide +kernel
theorem dX7_count_65 : decode cX7_count 65 = .ok (.iload_n 2, 1) := by decide +kernel
theorem dX7_count_66 : decode cX7_count 66 = .ok (.aload_n 0, 1) := by decide +kernel
theorem dX7_count_67 : decode cX7_count 67 = .ok (.getfield 13, 3) := by decide +kernel
theorem dX7_count_70 : decode cX7_count 70 = .ok (.bipush 20, 2) := by decide +kernel
theorem dX7_count_72 : decode cX7_count 72 = .ok (.iload_n 3, 1) := by decide +kernel
theorem dX7_count_73 : decode cX7_count 73 = .ok (.iadd, 1) := by decide +kernel
theorem dX7_count_74 : decode cX7_count 74 = .ok (.iaload, 1) := by decide +kernel
theorem dX7_count_75 : decode cX7_count 75 = .ok (.iadd, 1) := by decide +kernel
theorem dX7_count_76 : decode cX7_count 76 = .ok (.istore_n 2, 1) := by decide +kernel
theorem dX7_count_77 : decode cX7_count 77 = .ok (.iinc 3 1, 3) := by decide +kernel
theorem dX7_count_80 : decode cX7_count 80 = .ok (.goto (-25), 3) := by decide +kernel
theorem dX7_count_83 : decode cX7_count 83 = .ok (.iload_n 2, 1) := by decide +kernel
theorem dX7_count_84 : decode cX7_count 84 = .ok (.ireturn, 1) := by decide +kernel
theorem dX7_count_85 : decode cX7_count 85 = .ok (.aload_n 0, 1) := by decide +kernel
theorem dX7_count_86 : decode cX7_count 86 = .ok (.getfield 13, 3) := by decide +kernel
theorem dX7_count_89 : decode cX7_count 89 = .ok (.iconst 1, 1) := by decide +kernel
theorem dX7_count_90 : decode cX7_count 90 = .ok (.iaload, 1) := by decide +kernel
theorem dX7_count_91 : decode cX7_count 91 = .ok (.ireturn, 1) := by decide +kernel
theorem dX7_count_92 : decode cX7_count 92 = .ok (.aload_n 0, 1) := by decide +kernel
theorem dX7_count_93 : decode cX7_count 93 = .ok (.getfield 13, 3) := by decide +kernel
theorem dX7_count_96 : decode cX7_count 96 = .ok (.iconst 2, 1) := by decide +kernel
theorem dX7_count_97 : decode cX7_count 97 = .ok (.iaload, 1) := by decide +kernel
theorem dX7_count_98 : decode cX7_count 98 = .ok (.ireturn, 1) := by decide +kernel
theorem dX7_count_99 : decode cX7_count 99 = .ok (.aload_n 0, 1) := by decide +kernel
theorem dX7_count_100 : decode cX7_count 100 = .ok (.getfield 13, 3) := by decide +kernel
theorem dX7_count_103 : decode cX7_count 103 = .ok (.iconst 3, 1) := by decide +kernel
theorem dX7_count_104 : decode cX7_count 104 = .ok (.iaload, 1) := by decide +kernel
theorem dX7_count_105 : decode cX7_count 105 = .ok (.ireturn, 1) := by decide +kernel
theorem dX7_count_106 : decode cX7_count 106 = .ok (.aload_n 0, 1) := by decide +kernel
theorem dX7_count_107 : decode cX7_count 107 = .ok (.getfield 166, 3) := by decide +kernel
theorem dX7_count_110 : decode cX7_count 110 = .ok (.ireturn, 1) := by decide +kernel
theorem dX7_count_111 : decode cX7_count 111 = .ok (.aload_n 0, 1) := by decide +kernel
theorem dX7_count_112 : decode cX7_count 112 = .ok (.getfield 68, 3) := by decide +kernel
theorem dX7_count_115 : decode cX7_count 115 = .ok (.ireturn, 1) := by decide +kernel
theorem dX7_count_116 : decode cX7_count 116 = .ok (.iload_n 1, 1) := by decide +kernel
theorem dX7_count_117 : decode cX7_count 117 = .ok (.bipush 11, 2) := by decide +kernel
theorem dX7_count_119 : decode cX7_count 119 = .ok (.if_icmp .lt 21, 3) := by decide +kernel
theorem dX7_count_122 : decode cX7_count 122 = .ok (.iload_n 1, 1) := by decide +kernel
theorem dX7_count_123 : decode cX7_count 123 = .ok (.bipush 16, 2) := by decide +kernel
theorem dX7_count_125 : decode cX7_count 125 = .ok (.if_icmp .gt 15, 3) := by decide +kernel
theorem dX7_count_128 : decode cX7_count 128 = .ok (.aload_n 0, 1) := by decide +kernel
theorem dX7_count_129 : decode cX7_count 129 = .ok (.getfield 1, 3) := by decide +kernel
theorem dX7_count_132 : decode cX7_count 132 = .ok (.iload_n 1, 1) := by decide +kernel
theorem dX7_count_133 : decode cX7_count 133 = .ok (.bipush 10, 2) := by decide +kernel
theorem dX7_count_135 : decode cX7_count 135 = .ok (.isub, 1) := by decide +kernel
theorem dX7_count_136 : decode cX7_count 136 = .ok (.iaload, 1) := by decide +kernel
theorem dX7_count_137 : decode cX7_count 137 = .ok (.goto 5, 3) := by decide +kernel
theorem dX7_count_140 : decode cX7_count 140 = .ok (.bipush (-9), 2) := by decide +kernel
theorem dX7_count_142 : decode cX7_count 142 = .ok (.ireturn, 1) := by decide +kernel
end
section
theorem dL_law_0 : decode cL_law 0 = .ok (.new 7, 3) := by decide +kernel
theorem dL_law_3 : decode cL_law 3 = .ok (.dup, 1) := by decide +kernel
theorem dL_law_4 : decode cL_law 4 = .ok (.invokespecial 9, 3) := by decide +kernel
theorem dL_law_7 : decode cL_law 7 = .ok (.astore_n 1, 1) := by decide +kernel
theorem dL_law_8 : decode cL_law 8 = .ok (.new 10, 3) := by decide +kernel
theorem dL_law_11 : decode cL_law 11 = .ok (.dup, 1) := by decide +kernel
theorem dL_law_12 : decode cL_law 12 = .ok (.invokespecial 12, 3) := by decide +kernel
theorem dL_law_15 : decode cL_law 15 = .ok (.astore_n 2, 1) := by decide +kernel
theorem dL_law_16 : decode cL_law 16 = .ok (.iconst 0, 1) := by decide +kernel
theorem dL_law_17 : decode cL_law 17 = .ok (.istore_n 3, 1) := by decide +kernel
theorem dL_law_18 : decode cL_law 18 = .ok (.iload_n 3, 1) := by decide +kernel
theorem dL_law_19 : decode cL_law 19 = .ok (.aload_n 0, 1) := by decide +kernel
theorem dL_law_20 : decode cL_law 20 = .ok (.arraylength, 1) := by decide +kernel
theorem dL_law_21 : decode cL_law 21 = .ok (.iconst 4, 1) := by decide +kernel
theorem dL_law_22 : decode cL_law 22 = .ok (.isub, 1) := by decide +kernel
theorem dL_law_23 : decode cL_law 23 = .ok (.if_icmp .gt 985, 3) := by decide +kernel
theorem dL_law_26 : decode cL_law 26 = .ok (.aload_n 0, 1) := by decide +kernel
theorem dL_law_27 : decode cL_law 27 = .ok (.iload_n 3, 1) := by decide +kernel
theorem dL_law_28 : decode cL_law 28 = .ok (.iaload, 1) := by decide +kernel
theorem dL_law_29 : decode cL_law 29 = .ok (.bipush 31, 2) := by decide +kernel
theorem dL_law_31 : decode cL_law 31 = .ok (.iand, 1) := by decide +kernel
theorem dL_law_32 : decode cL_law 32 = .ok (.tableswitch 970 0 31 #[144, 167, 180, 213, 246, 279, 312, 345, 378, 391, 424, 457, 480, 503, 526, 549, 562, 575, 608, 641, 684, 697, 720, 743, 786, 829, 852, 875, 888, 921, 934, 947], 144) := by decide +kernel
theorem dL_law_176 : decode cL_law 176 = .ok (.aload_n 1, 1) := by decide +kernel
theorem dL_law_177 : decode cL_law 177 = .ok (.aload_n 0, 1) := by decide +kernel
theorem dL_law_178 : decode cL_law 178 = .ok (.iload_n 3, 1) := by decide +kernel
theorem dL_law_179 : decode cL_law 179 = .ok (.iconst 1, 1) := by decide +kernel
theorem dL_law_180 : decode cL_law 180 = .ok (.iadd, 1) := by decide +kernel
theorem dL_law_181 : decode cL_law 181 = .ok (.iaload, 1) := by decide +kernel
theorem dL_law_182 : decode cL_law 182 = .ok (.invokevirtual 13, 3) := by decide +kernel
theorem dL_law_185 : decode cL_law 185 = .ok (.aload_n 2, 1) := by decide +kernel
theorem dL_law_186 : decode cL_law 186 = .ok (.aload_n 0, 1) := by decide +kernel
theorem dL_law_187 : decode cL_law 187 = .ok (.iload_n 3, 1) := by decide +kernel
theorem dL_law_188 : decode cL_law 188 = .ok (.iconst 1, 1) := by decide +kernel
theorem dL_law_189 : decode cL_law 189 = .ok (.iadd, 1) := by decide +kernel
theorem dL_law_190 : decode cL_law 190 = .ok (.iaload, 1) := by decide +kernel
theorem dL_law_191 : decode cL_law 191 = .ok (.invokevirtual 17, 3) := by decide +kernel
theorem dL_law_194 : decode cL_law 194 = .ok (.if_icmp .eq 808, 3) := by decide +kernel
theorem dL_law_197 : decode cL_law 197 = .ok (.iconst 0, 1) := by decide +kernel
theorem dL_law_198 : decode cL_law 198 = .ok (.ireturn, 1) := by decide +kernel
theorem dL_law_199 : decode cL_law 199 = .ok (.aload_n 1, 1) := by decide +kernel
theorem dL_law_200 : decode cL_law 200 = .ok (.invokevirtual 18, 3) := by decide +kernel
theorem dL_law_203 : decode cL_law 203 = .ok (.aload_n 2, 1) := by decide +kernel
theorem dL_law_204 : decode cL_law 204 = .ok (.invokevirtual 22, 3) := by decide +kernel
theorem dL_law_207 : decode cL_law 207 = .ok (.if_icmp .eq 795, 3) := by decide +kernel
theorem dL_law_210 : decode cL_law 210 = .ok (.iconst 0, 1) := by decide +kernel
theorem dL_law_211 : decode cL_law 211 = .ok (.ireturn, 1) := by decide +kernel
theorem dL_law_212 : decode cL_law 212 = .ok (.aload_n 1, 1) := by decide +kernel
theorem dL_law_213 : decode cL_law 213 = .ok (.aload_n 0, 1) := by decide +kernel
theorem dL_law_214 : decode cL_law 214 = .ok (.iload_n 3, 1) := by decide +kernel
theorem dL_law_215 : decode cL_law 215 = .ok (.iconst 1, 1) := by decide +kernel
theorem dL_law_216 : decode cL_law 216 = .ok (.iadd, 1) := by decide +kernel
theorem dL_law_217 : decode cL_law 217 = .ok (.iaload, 1) := by decide +kernel
theorem dL_law_218 : decode cL_law 218 = .ok (.aload_n 0, 1) := by decide +kernel
theorem dL_law_219 : decode cL_law 219 = .ok (.iload_n 3, 1) := by decide +kernel
theorem dL_law_220 : decode cL_law 220 = .ok (.iconst 2, 1) := by decide +kernel
theorem dL_law_221 : decode cL_law 221 = .ok (.iadd, 1) := by decide +kernel
theorem dL_law_222 : decode cL_law 222 = .ok (.iaload, 1) := by decide +kernel
theorem dL_law_223 : decode cL_law 223 = .ok (.invokevirtual 23, 3) := by decide +kernel
theorem dL_law_226 : decode cL_law 226 = .ok (.aload_n 2, 1) := by decide +kernel
theorem dL_law_227 : decode cL_law 227 = .ok (.aload_n 0, 1) := by decide +kernel
theorem dL_law_228 : decode cL_law 228 = .ok (.iload_n 3, 1) := by decide +kernel
theorem dL_law_229 : decode cL_law 229 = .ok (.iconst 1, 1) := by decide +kernel
theorem dL_law_230 : decode cL_law 230 = .ok (.iadd, 1) := by decide +kernel
theorem dL_law_231 : decode cL_law 231 = .ok (.iaload, 1) := by decide +kernel
theorem dL_law_232 : decode cL_law 232 = .ok (.aload_n 0, 1) := by decide +kernel
theorem dL_law_233 : decode cL_law 233 = .ok (.iload_n 3, 1) := by decide +kernel
theorem dL_law_234 : decode cL_law 234 = .ok (.iconst 2, 1) := by decide +kernel
theorem dL_law_235 : decode cL_law 235 = .ok (.iadd, 1) := by decide +kernel
theorem dL_law_236 : decode cL_law 236 = .ok (.iaload, 1) := by decide +kernel
theorem dL_law_237 : decode cL_law 237 = .ok (.invokevirtual 27, 3) := by decide +kernel
theorem dL_law_240 : decode cL_law 240 = .ok (.if_icmp .eq 762, 3) := by decide +kernel
theorem dL_law_243 : decode cL_law 243 = .ok (.iconst 0, 1) := by decide +kernel
theorem dL_law_244 : decode cL_law 244 = .ok (.ireturn, 1) := by decide +kernel
theorem dL_law_245 : decode cL_law 245 = .ok (.aload_n 1, 1) := by decide +kernel
theorem dL_law_246 : decode cL_law 246 = .ok (.aload_n 0, 1) := by decide +kernel
theorem dL_law_247 : decode cL_law 247 = .ok (.iload_n 3, 1) := by decide +kernel
theorem dL_law_248 : decode cL_law 248 = .ok (.iconst 1, 1) := by decide +kernel
theorem dL_law_249 : decode cL_law 249 = .ok (.iadd, 1) := by decide +kernel
theorem dL_law_250 : decode cL_law 250 = .ok (.iaload, 1) := by decide +kernel
theorem dL_law_251 : decode cL_law 251 = .ok (.aload_n 0, 1) := by decide +kernel
theorem dL_law_252 : decode cL_law 252 = .ok (.iload_n 3, 1) := by decide +kernel
theorem dL_law_253 : decode cL_law 253 = .ok (.iconst 2, 1) := by decide +kernel
theorem dL_law_254 : decode cL_law 254 = .ok (.iadd, 1) := by decide +kernel
theorem dL_law_255 : decode cL_law 255 = .ok (.iaload, 1) := by decide +kernel
theorem dL_law_256 : decode cL_law 256 = .ok (.invokevirtual 28, 3) := by decide +kernel
theorem dL_law_259 : decode cL_law 259 = .ok (.aload_n 2, 1) := by decide +kernel
theorem dL_law_260 : decode cL_law 260 = .ok (.aload_n 0, 1) := by decide +kernel
theorem dL_law_261 : decode cL_law 261 = .ok (.iload_n 3, 1) := by decide +kernel
theorem dL_law_262 : decode cL_law 262 = .ok (.iconst 1, 1) := by decide +kernel
theorem dL_law_263 : decode cL_law 263 = .ok (.iadd, 1) := by decide +kernel
theorem dL_law_264 : decode cL_law 264 = .ok (.iaload, 1) := by decide +kernel
theorem dL_law_265 : decode cL_law 265 = .ok (.aload_n 0, 1) := by decide +kernel
theorem dL_law_266 : decode cL_law 266 = .ok (.iload_n 3, 1) := by decide +kernel
theorem dL_law_267 : decode cL_law 267 = .ok (.iconst 2, 1) := by decide +kernel
theorem dL_law_268 : decode cL_law 268 = .ok (.iadd, 1) := by decide +kernel
theorem dL_law_269 : decode cL_law 269 = .ok (.iaload, 1) := by decide +kernel
theorem dL_law_270 : decode cL_law 270 = .ok (.invokevirtual 31, 3) := by decide +kernel
theorem dL_law_273 : decode cL_law 273 = .ok (.if_icmp .eq 729, 3) := by decide +kernel
theorem dL_law_276 : decode cL_law 276 = .ok (.iconst 0, 1) := by decide +kernel
theorem dL_law_277 : decode cL_law 277 = .ok (.ireturn, 1) := by decide +kernel
theorem dL_law_278 : decode cL_law 278 = .ok (.aload_n 1, 1) := by decide +kernel
theorem dL_law_279 : decode cL_law 279 = .ok (.aload_n 0, 1) := by decide +kernel
theorem dL_law_280 : decode cL_law 280 = .ok (.iload_n 3, 1) := by decide +kernel
theorem dL_law_281 : decode cL_law 281 = .ok (.iconst 1, 1) := by decide +kernel
theorem dL_law_282 : decode cL_law 282 = .ok (.iadd, 1) := by decide +kernel
theorem dL_law_283 : decode cL_law 283 = .ok (.iaload, 1) := by decide +kernel
theorem dL_law_284 : decode cL_law 284 = .ok (.aload_n 0, 1) := by decide +kernel
theorem dL_law_285 : decode cL_law 285 = .ok (.iload_n 3, 1) := by decide +kernel
theorem dL_law_286 : decode cL_law 286 = .ok (.iconst 2, 1) := by decide +kernel
theorem dL_law_287 : decode cL_law 287 = .ok (.iadd, 1) := by decide +kernel
theorem dL_law_288 : decode cL_law 288 = .ok (.iaload, 1) := by decide +kernel
theorem dL_law_289 : decode cL_law 289 = .ok (.invokevirtual 32, 3) := by decide +kernel
theorem dL_law_292 : decode cL_law 292 = .ok (.aload_n 2, 1) := by decide +kernel
theorem dL_law_293 : decode cL_law 293 = .ok (.aload_n 0, 1) := by decide +kernel
theorem dL_law_294 : decode cL_law 294 = .ok (.iload_n 3, 1) := by decide +kernel
theorem dL_law_295 : decode cL_law 295 = .ok (.iconst 1, 1) := by decide +kernel
theorem dL_law_296 : decode cL_law 296 = .ok (.iadd, 1) := by decide +kernel
theorem dL_law_297 : decode cL_law 297 = .ok (.iaload, 1) := by decide +kernel
theorem dL_law_298 : decode cL_law 298 = .ok (.aload_n 0, 1) := by decide +kernel
theorem dL_law_299 : decode cL_law 299 = .ok (.iload_n 3, 1) := by decide +kernel
theorem dL_law_300 : decode cL_law 300 = .ok (.iconst 2, 1) := by decide +kernel
theorem dL_law_301 : decode cL_law 301 = .ok (.iadd, 1) := by decide +kernel
theorem dL_law_302 : decode cL_law 302 = .ok (.iaload, 1) := by decide +kernel
theorem dL_law_303 : decode cL_law 303 = .ok (.invokevirtual 35, 3) := by decide +kernel
theorem dL_law_306 : decode cL_law 306 = .ok (.if_icmp .eq 696, 3) := by decide +kernel
theorem dL_law_309 : decode cL_law 309 = .ok (.iconst 0, 1) := by decide +kernel
theorem dL_law_310 : decode cL_law 310 = .ok (.ireturn, 1) := by decide +kernel
theorem dL_law_311 : decode cL_law 311 = .ok (.aload_n 1, 1) := by decide +kernel
theorem dL_law_312 : decode cL_law 312 = .ok (.aload_n 0, 1) := by decide +kernel
theorem dL_law_313 : decode cL_law 313 = .ok (.iload_n 3, 1) := by decide +kernel
theorem dL_law_314 : decode cL_law 314 = .ok (.iconst 1, 1) := by decide +kernel
theorem dL_law_315 : decode cL_law 315 = .ok (.iadd, 1) := by decide +kernel
theorem dL_law_316 : decode cL_law 316 = .ok (.iaload, 1) := by decide +kernel
theorem dL_law_317 : decode cL_law 317 = .ok (.aload_n 0, 1) := by decide +kernel
theorem dL_law_318 : decode cL_law 318 = .ok (.iload_n 3, 1) := by decide +kernel
theorem dL_law_319 : decode cL_law 319 = .ok (.iconst 2, 1) := by decide +kernel
theorem dL_law_320 : decode cL_law 320 = .ok (.iadd, 1) := by decide +kernel
theorem dL_law_321 : decode cL_law 321 = .ok (.iaload, 1) := by decide +kernel
theorem dL_law_322 : decode cL_law 322 = .ok (.invokevirtual 36, 3) := by decide +kernel
theorem dL_law_325 : decode cL_law 325 = .ok (.aload_n 2, 1) := by decide +kernel
theorem dL_law_326 : decode cL_law 326 = .ok (.aload_n 0, 1) := by decide +kernel
theorem dL_law_327 : decode cL_law 327 = .ok (.iload_n 3, 1) := by decide +kernel
theorem dL_law_328 : decode cL_law 328 = .ok (.iconst 1, 1) := by decide +kernel
theorem dL_law_329 : decode cL_law 329 = .ok (.iadd, 1) := by decide +kernel
theorem dL_law_330 : decode cL_law 330 = .ok (.iaload, 1) := by decide +kernel
theorem dL_law_331 : decode cL_law 331 = .ok (.aload_n 0, 1) := by decide +kernel
theorem dL_law_332 : decode cL_law 332 = .ok (.iload_n 3, 1) := by decide +kernel
theorem dL_law_333 : decode cL_law 333 = .ok (.iconst 2, 1) := by decide +kernel
theorem dL_law_334 : decode cL_law 334 = .ok (.iadd, 1) := by decide +kernel
theorem dL_law_335 : decode cL_law 335 = .ok (.iaload, 1) := by decide +kernel
theorem dL_law_336 : decode cL_law 336 = .ok (.invokevirtual 39, 3) := by decide +kernel
theorem dL_law_339 : decode cL_law 339 = .ok (.if_icmp .eq 663, 3) := by decide +kernel
theorem dL_law_342 : decode cL_law 342 = .ok (.iconst 0, 1) := by decide +kernel
theorem dL_law_343 : decode cL_law 343 = .ok (.ireturn, 1) := by decide +kernel
theorem dL_law_344 : decode cL_law 344 = .ok (.aload_n 1, 1) := by decide +kernel
theorem dL_law_345 : decode cL_law 345 = .ok (.aload_n 0, 1) := by decide +kernel
theorem dL_law_346 : decode cL_law 346 = .ok (.iload_n 3, 1) := by decide +kernel
theorem dL_law_347 : decode cL_law 347 = .ok (.iconst 1, 1) := by decide +kernel
theorem dL_law_348 : decode cL_law 348 = .ok (.iadd, 1) := by decide +kernel
theorem dL_law_349 : decode cL_law 349 = .ok (.iaload, 1) := by decide +kernel
theorem dL_law_350 : decode cL_law 350 = .ok (.aload_n 0, 1) := by decide +kernel
theorem dL_law_351 : decode cL_law 351 = .ok (.iload_n 3, 1) := by decide +kernel
theorem dL_law_352 : decode cL_law 352 = .ok (.iconst 2, 1) := by decide +kernel
theorem dL_law_353 : decode cL_law 353 = .ok (.iadd, 1) := by decide +kernel
theorem dL_law_354 : decode cL_law 354 = .ok (.iaload, 1) := by decide +kernel
theorem dL_law_355 : decode cL_law 355 = .ok (.invokevirtual 40, 3) := by decide +kernel
theorem dL_law_358 : decode cL_law 358 = .ok (.aload_n 2, 1) := by decide +kernel
theorem dL_law_359 : decode cL_law 359 = .ok (.aload_n 0, 1) := by decide +kernel
theorem dL_law_360 : decode cL_law 360 = .ok (.iload_n 3, 1) := by decide +kernel
theorem dL_law_361 : decode cL_law 361 = .ok (.iconst 1, 1) := by decide +kernel
theorem dL_law_362 : decode cL_law 362 = .ok (.iadd, 1) := by decide +kernel
theorem dL_law_363 : decode cL_law 363 = .ok (.iaload, 1) := by decide +kernel
theorem dL_law_364 : decode cL_law 364 = .ok (.aload_n 0, 1) := by decide +kernel
theorem dL_law_365 : decode cL_law 365 = .ok (.iload_n 3, 1) := by decide +kernel
theorem dL_law_366 : decode cL_law 366 = .ok (.iconst 2, 1) := by decide +kernel
theorem dL_law_367 : decode cL_law 367 = .ok (.iadd, 1) := by decide +kernel
theorem dL_law_368 : decode cL_law 368 = .ok (.iaload, 1) := by decide +kernel
theorem dL_law_369 : decode cL_law 369 = .ok (.invokevirtual 43, 3) := by decide +kernel
theorem dL_law_372 : decode cL_law 372 = .ok (.if_icmp .eq 630, 3) := by decide +kernel
theorem dL_law_375 : decode cL_law 375 = .ok (.iconst 0, 1) := by decide +kernel
theorem dL_law_376 : decode cL_law 376 = .ok (.ireturn, 1) := by decide +kernel
theorem dL_law_377 : decode cL_law 377 = .ok (.aload_n 1, 1) := by decide +kernel
theorem dL_law_378 : decode cL_law 378 = .ok (.aload_n 0, 1) := by decide +kernel
theorem dL_law_379 : decode cL_law 379 = .ok (.iload_n 3, 1) := by decide +kernel
theorem dL_law_380 : decode cL_law 380 = .ok (.iconst 1, 1) := by decide +kernel
theorem dL_law_381 : decode cL_law 381 = .ok (.iadd, 1) := by decide +kernel
theorem dL_law_382 : decode cL_law 382 = .ok (.iaload, 1) := by decide +kernel
theorem dL_law_383 : decode cL_law 383 = .ok (.aload_n 0, 1) := by decide +kernel
theorem dL_law_384 : decode cL_law 384 = .ok (.iload_n 3, 1) := by decide +kernel
theorem dL_law_385 : decode cL_law 385 = .ok (.iconst 2, 1) := by decide +kernel
theorem dL_law_386 : decode cL_law 386 = .ok (.iadd, 1) := by decide +kernel
theorem dL_law_387 : decode cL_law 387 = .ok (.iaload, 1) := by decide +kernel
theorem dL_law_388 : decode cL_law 388 = .ok (.invokevirtual 44, 3) := by decide +kernel
theorem dL_law_391 : decode cL_law 391 = .ok (.aload_n 2, 1) := by decide +kernel
theorem dL_law_392 : decode cL_law 392 = .ok (.aload_n 0, 1) := by decide +kernel
theorem dL_law_393 : decode cL_law 393 = .ok (.iload_n 3, 1) := by decide +kernel
theorem dL_law_394 : decode cL_law 394 = .ok (.iconst 1, 1) := by decide +kernel
theorem dL_law_395 : decode cL_law 395 = .ok (.iadd, 1) := by decide +kernel
theorem dL_law_396 : decode cL_law 396 = .ok (.iaload, 1) := by decide +kernel
theorem dL_law_397 : decode cL_law 397 = .ok (.aload_n 0, 1) := by decide +kernel
theorem dL_law_398 : decode cL_law 398 = .ok (.iload_n 3, 1) := by decide +kernel
theorem dL_law_399 : decode cL_law 399 = .ok (.iconst 2, 1) := by decide +kernel
theorem dL_law_400 : decode cL_law 400 = .ok (.iadd, 1) := by decide +kernel
theorem dL_law_401 : decode cL_law 401 = .ok (.iaload, 1) := by decide +kernel
theorem dL_law_402 : decode cL_law 402 = .ok (.invokevirtual 47, 3) := by decide +kernel
theorem dL_law_405 : decode cL_law 405 = .ok (.if_icmp .eq 597, 3) := by decide +kernel
theorem dL_law_408 : decode cL_law 408 = .ok (.iconst 0, 1) := by decide +kernel
theorem dL_law_409 : decode cL_law 409 = .ok (.ireturn, 1) := by decide +kernel
theorem dL_law_410 : decode cL_law 410 = .ok (.aload_n 1, 1) := by decide +kernel
theorem dL_law_411 : decode cL_law 411 = .ok (.invokevirtual 48, 3) := by decide +kernel
theorem dL_law_414 : decode cL_law 414 = .ok (.aload_n 2, 1) := by decide +kernel
theorem dL_law_415 : decode cL_law 415 = .ok (.invokevirtual 51, 3) := by decide +kernel
theorem dL_law_418 : decode cL_law 418 = .ok (.if_icmp .eq 584, 3) := by decide +kernel
theorem dL_law_421 : decode cL_law 421 = .ok (.iconst 0, 1) := by decide +kernel
theorem dL_law_422 : decode cL_law 422 = .ok (.ireturn, 1) := by decide +kernel
theorem dL_law_423 : decode cL_law 423 = .ok (.aload_n 1, 1) := by decide +kernel
theorem dL_law_424 : decode cL_law 424 = .ok (.aload_n 0, 1) := by decide +kernel
theorem dL_law_425 : decode cL_law 425 = .ok (.iload_n 3, 1) := by decide +kernel
theorem dL_law_426 : decode cL_law 426 = .ok (.iconst 1, 1) := by decide +kernel
theorem dL_law_427 : decode cL_law 427 = .ok (.iadd, 1) := by decide +kernel
theorem dL_law_428 : decode cL_law 428 = .ok (.iaload, 1) := by decide +kernel
theorem dL_law_429 : decode cL_law 429 = .ok (.aload_n 0, 1) := by decide +kernel
theorem dL_law_430 : decode cL_law 430 = .ok (.iload_n 3, 1) := by decide +kernel
theorem dL_law_431 : decode cL_law 431 = .ok (.iconst 2, 1) := by decide +kernel
theorem dL_law_432 : decode cL_law 432 = .ok (.iadd, 1) := by decide +kernel
theorem dL_law_433 : decode cL_law 433 = .ok (.iaload, 1) := by decide +kernel
theorem dL_law_434 : decode cL_law 434 = .ok (.invokevirtual 52, 3) := by decide +kernel
theorem dL_law_437 : decode cL_law 437 = .ok (.aload_n 2, 1) := by decide +kernel
theorem dL_law_438 : decode cL_law 438 = .ok (.aload_n 0, 1) := by decide +kernel
theorem dL_law_439 : decode cL_law 439 = .ok (.iload_n 3, 1) := by decide +kernel
theorem dL_law_440 : decode cL_law 440 = .ok (.iconst 1, 1) := by decide +kernel
theorem dL_law_441 : decode cL_law 441 = .ok (.iadd, 1) := by decide +kernel
theorem dL_law_442 : decode cL_law 442 = .ok (.iaload, 1) := by decide +kernel
theorem dL_law_443 : decode cL_law 443 = .ok (.aload_n 0, 1) := by decide +kernel
theorem dL_law_444 : decode cL_law 444 = .ok (.iload_n 3, 1) := by decide +kernel
theorem dL_law_445 : decode cL_law 445 = .ok (.iconst 2, 1) := by decide +kernel
theorem dL_law_446 : decode cL_law 446 = .ok (.iadd, 1) := by decide +kernel
theorem dL_law_447 : decode cL_law 447 = .ok (.iaload, 1) := by decide +kernel
theorem dL_law_448 : decode cL_law 448 = .ok (.invokevirtual 55, 3) := by decide +kernel
theorem dL_law_451 : decode cL_law 451 = .ok (.if_icmp .eq 551, 3) := by decide +kernel
theorem dL_law_454 : decode cL_law 454 = .ok (.iconst 0, 1) := by decide +kernel
theorem dL_law_455 : decode cL_law 455 = .ok (.ireturn, 1) := by decide +kernel
theorem dL_law_456 : decode cL_law 456 = .ok (.aload_n 1, 1) := by decide +kernel
theorem dL_law_457 : decode cL_law 457 = .ok (.aload_n 0, 1) := by decide +kernel
theorem dL_law_458 : decode cL_law 458 = .ok (.iload_n 3, 1) := by decide +kernel
theorem dL_law_459 : decode cL_law 459 = .ok (.iconst 1, 1) := by decide +kernel
theorem dL_law_460 : decode cL_law 460 = .ok (.iadd, 1) := by decide +kernel
theorem dL_law_461 : decode cL_law 461 = .ok (.iaload, 1) := by decide +kernel
theorem dL_law_462 : decode cL_law 462 = .ok (.aload_n 0, 1) := by decide +kernel
theorem dL_law_463 : decode cL_law 463 = .ok (.iload_n 3, 1) := by decide +kernel
theorem dL_law_464 : decode cL_law 464 = .ok (.iconst 2, 1) := by decide +kernel
theorem dL_law_465 : decode cL_law 465 = .ok (.iadd, 1) := by decide +kernel
theorem dL_law_466 : decode cL_law 466 = .ok (.iaload, 1) := by decide +kernel
theorem dL_law_467 : decode cL_law 467 = .ok (.invokevirtual 56, 3) := by decide +kernel
theorem dL_law_470 : decode cL_law 470 = .ok (.aload_n 2, 1) := by decide +kernel
theorem dL_law_471 : decode cL_law 471 = .ok (.aload_n 0, 1) := by decide +kernel
theorem dL_law_472 : decode cL_law 472 = .ok (.iload_n 3, 1) := by decide +kernel
theorem dL_law_473 : decode cL_law 473 = .ok (.iconst 1, 1) := by decide +kernel
theorem dL_law_474 : decode cL_law 474 = .ok (.iadd, 1) := by decide +kernel
theorem dL_law_475 : decode cL_law 475 = .ok (.iaload, 1) := by decide +kernel
theorem dL_law_476 : decode cL_law 476 = .ok (.aload_n 0, 1) := by decide +kernel
theorem dL_law_477 : decode cL_law 477 = .ok (.iload_n 3, 1) := by decide +kernel
theorem dL_law_478 : decode cL_law 478 = .ok (.iconst 2, 1) := by decide +kernel
theorem dL_law_479 : decode cL_law 479 = .ok (.iadd, 1) := by decide +kernel
theorem dL_law_480 : decode cL_law 480 = .ok (.iaload, 1) := by decide +kernel
theorem dL_law_481 : decode cL_law 481 = .ok (.invokevirtual 59, 3) := by decide +kernel
theorem dL_law_484 : decode cL_law 484 = .ok (.if_icmp .eq 518, 3) := by decide +kernel
theorem dL_law_487 : decode cL_law 487 = .ok (.iconst 0, 1) := by decide +kernel
theorem dL_law_488 : decode cL_law 488 = .ok (.ireturn, 1) := by decide +kernel
theorem dL_law_489 : decode cL_law 489 = .ok (.aload_n 1, 1) := by decide +kernel
theorem dL_law_490 : decode cL_law 490 = .ok (.aload_n 0, 1) := by decide +kernel
theorem dL_law_491 : decode cL_law 491 = .ok (.iload_n 3, 1) := by decide +kernel
theorem dL_law_492 : decode cL_law 492 = .ok (.iconst 1, 1) := by decide +kernel
theorem dL_law_493 : decode cL_law 493 = .ok (.iadd, 1) := by decide +kernel
theorem dL_law_494 : decode cL_law 494 = .ok (.iaload, 1) := by decide +kernel
theorem dL_law_495 : decode cL_law 495 = .ok (.invokevirtual 60, 3) := by decide +kernel
theorem dL_law_498 : decode cL_law 498 = .ok (.aload_n 2, 1) := by decide +kernel
theorem dL_law_499 : decode cL_law 499 = .ok (.aload_n 0, 1) := by decide +kernel
theorem dL_law_500 : decode cL_law 500 = .ok (.iload_n 3, 1) := by decide +kernel
theorem dL_law_501 : decode cL_law 501 = .ok (.iconst 1, 1) := by decide +kernel
theorem dL_law_502 : decode cL_law 502 = .ok (.iadd, 1) := by decide +kernel
theorem dL_law_503 : decode cL_law 503 = .ok (.iaload, 1) := by decide +kernel
theorem dL_law_504 : decode cL_law 504 = .ok (.invokevirtual 63, 3) := by decide +kernel
theorem dL_law_507 : decode cL_law 507 = .ok (.if_icmp .eq 495, 3) := by decide +kernel
theorem dL_law_510 : decode cL_law 510 = .ok (.iconst 0, 1) := by decide +kernel
theorem dL_law_511 : decode cL_law 511 = .ok (.ireturn, 1) := by decide +kernel
theorem dL_law_512 : decode cL_law 512 = .ok (.aload_n 1, 1) := by decide +kernel
theorem dL_law_513 : decode cL_law 513 = .ok (.aload_n 0, 1) := by decide +kernel
theorem dL_law_514 : decode cL_law 514 = .ok (.iload_n 3, 1) := by decide +kernel
theorem dL_law_515 : decode cL_law 515 = .ok (.iconst 1, 1) := by decide +kernel
theorem dL_law_516 : decode cL_law 516 = .ok (.iadd, 1) := by decide +kernel
theorem dL_law_517 : decode cL_law 517 = .ok (.iaload, 1) := by decide +kernel
theorem dL_law_518 : decode cL_law 518 = .ok (.invokevirtual 64, 3) := by decide +kernel
theorem dL_law_521 : decode cL_law 521 = .ok (.aload_n 2, 1) := by decide +kernel
theorem dL_law_522 : decode cL_law 522 = .ok (.aload_n 0, 1) := by decide +kernel
theorem dL_law_523 : decode cL_law 523 = .ok (.iload_n 3, 1) := by decide +kernel
theorem dL_law_524 : decode cL_law 524 = .ok (.iconst 1, 1) := by decide +kernel
theorem dL_law_525 : decode cL_law 525 = .ok (.iadd, 1) := by decide +kernel
theorem dL_law_526 : decode cL_law 526 = .ok (.iaload, 1) := by decide +kernel
theorem dL_law_527 : decode cL_law 527 = .ok (.invokevirtual 67, 3) := by decide +kernel
theorem dL_law_530 : decode cL_law 530 = .ok (.if_icmp .eq 472, 3) := by decide +kernel
theorem dL_law_533 : decode cL_law 533 = .ok (.iconst 0, 1) := by decide +kernel
theorem dL_law_534 : decode cL_law 534 = .ok (.ireturn, 1) := by decide +kernel
theorem dL_law_535 : decode cL_law 535 = .ok (.aload_n 1, 1) := by decide +kernel
theorem dL_law_536 : decode cL_law 536 = .ok (.aload_n 0, 1) := by decide +kernel
theorem dL_law_537 : decode cL_law 537 = .ok (.iload_n 3, 1) := by decide +kernel
theorem dL_law_538 : decode cL_law 538 = .ok (.iconst 1, 1) := by decide +kernel
theorem dL_law_539 : decode cL_law 539 = .ok (.iadd, 1) := by decide +kernel
theorem dL_law_540 : decode cL_law 540 = .ok (.iaload, 1) := by decide +kernel
theorem dL_law_541 : decode cL_law 541 = .ok (.invokevirtual 68, 3) := by decide +kernel
theorem dL_law_544 : decode cL_law 544 = .ok (.aload_n 2, 1) := by decide +kernel
theorem dL_law_545 : decode cL_law 545 = .ok (.aload_n 0, 1) := by decide +kernel
theorem dL_law_546 : decode cL_law 546 = .ok (.iload_n 3, 1) := by decide +kernel
theorem dL_law_547 : decode cL_law 547 = .ok (.iconst 1, 1) := by decide +kernel
theorem dL_law_548 : decode cL_law 548 = .ok (.iadd, 1) := by decide +kernel
theorem dL_law_549 : decode cL_law 549 = .ok (.iaload, 1) := by decide +kernel
theorem dL_law_550 : decode cL_law 550 = .ok (.invokevirtual 71, 3) := by decide +kernel
theorem dL_law_553 : decode cL_law 553 = .ok (.if_icmp .eq 449, 3) := by decide +kernel
theorem dL_law_556 : decode cL_law 556 = .ok (.iconst 0, 1) := by decide +kernel
theorem dL_law_557 : decode cL_law 557 = .ok (.ireturn, 1) := by decide +kernel
theorem dL_law_558 : decode cL_law 558 = .ok (.aload_n 1, 1) := by decide +kernel
theorem dL_law_559 : decode cL_law 559 = .ok (.aload_n 0, 1) := by decide +kernel
theorem dL_law_560 : decode cL_law 560 = .ok (.iload_n 3, 1) := by decide +kernel
theorem dL_law_561 : decode cL_law 561 = .ok (.iconst 1, 1) := by decide +kernel
theorem dL_law_562 : decode cL_law 562 = .ok (.iadd, 1) := by decide +kernel
theorem dL_law_563 : decode cL_law 563 = .ok (.iaload, 1) := by decide +kernel
theorem dL_law_564 : decode cL_law 564 = .ok (.invokevirtual 72, 3) := by decide +kernel
theorem dL_law_567 : decode cL_law 567 = .ok (.aload_n 2, 1) := by decide +kernel
theorem dL_law_568 : decode cL_law 568 = .ok (.aload_n 0, 1) := by decide +kernel
theorem dL_law_569 : decode cL_law 569 = .ok (.iload_n 3, 1) := by decide +kernel
theorem dL_law_570 : decode cL_law 570 = .ok (.iconst 1, 1) := by decide +kernel
theorem dL_law_571 : decode cL_law 571 = .ok (.iadd, 1) := by decide +kernel
theorem dL_law_572 : decode cL_law 572 = .ok (.iaload, 1) := by decide +kernel
theorem dL_law_573 : decode cL_law 573 = .ok (.invokevirtual 75, 3) := by decide +kernel
theorem dL_law_576 : decode cL_law 576 = .ok (.if_icmp .eq 426, 3) := by decide +kernel
theorem dL_law_579 : decode cL_law 579 = .ok (.iconst 0, 1) := by decide +kernel
theorem dL_law_580 : decode cL_law 580 = .ok (.ireturn, 1) := by decide +kernel
theorem dL_law_581 : decode cL_law 581 = .ok (.aload_n 1, 1) := by decide +kernel
theorem dL_law_582 : decode cL_law 582 = .ok (.invokevirtual 76, 3) := by decide +kernel
theorem dL_law_585 : decode cL_law 585 = .ok (.aload_n 2, 1) := by decide +kernel
theorem dL_law_586 : decode cL_law 586 = .ok (.invokevirtual 79, 3) := by decide +kernel
theorem dL_law_589 : decode cL_law 589 = .ok (.if_icmp .eq 413, 3) := by decide +kernel
theorem dL_law_592 : decode cL_law 592 = .ok (.iconst 0, 1) := by decide +kernel
theorem dL_law_593 : decode cL_law 593 = .ok (.ireturn, 1) := by decide +kernel
theorem dL_law_594 : decode cL_law 594 = .ok (.aload_n 1, 1) := by decide +kernel
theorem dL_law_595 : decode cL_law 595 = .ok (.invokevirtual 80, 3) := by decide +kernel
theorem dL_law_598 : decode cL_law 598 = .ok (.aload_n 2, 1) := by decide +kernel
theorem dL_law_599 : decode cL_law 599 = .ok (.invokevirtual 83, 3) := by decide +kernel
theorem dL_law_602 : decode cL_law 602 = .ok (.if_icmp .eq 400, 3) := by decide +kernel
theorem dL_law_605 : decode cL_law 605 = .ok (.iconst 0, 1) := by decide +kernel
theorem dL_law_606 : decode cL_law 606 = .ok (.ireturn, 1) := by decide +kernel
theorem dL_law_607 : decode cL_law 607 = .ok (.aload_n 1, 1) := by decide +kernel
theorem dL_law_608 : decode cL_law 608 = .ok (.aload_n 0, 1) := by decide +kernel
theorem dL_law_609 : decode cL_law 609 = .ok (.iload_n 3, 1) := by decide +kernel
theorem dL_law_610 : decode cL_law 610 = .ok (.iconst 1, 1) := by decide +kernel
theorem dL_law_611 : decode cL_law 611 = .ok (.iadd, 1) := by decide +kernel
theorem dL_law_612 : decode cL_law 612 = .ok (.iaload, 1) := by decide +kernel
theorem dL_law_613 : decode cL_law 613 = .ok (.aload_n 0, 1) := by decide +kernel
theorem dL_law_614 : decode cL_law 614 = .ok (.iload_n 3, 1) := by decide +kernel
theorem dL_law_615 : decode cL_law 615 = .ok (.iconst 2, 1) := by decide +kernel
theorem dL_law_616 : decode cL_law 616 = .ok (.iadd, 1) := by decide +kernel
theorem dL_law_617 : decode cL_law 617 = .ok (.iaload, 1) := by decide +kernel
theorem dL_law_618 : decode cL_law 618 = .ok (.invokevirtual 84, 3) := by decide +kernel
theorem dL_law_621 : decode cL_law 621 = .ok (.aload_n 2, 1) := by decide +kernel
theorem dL_law_622 : decode cL_law 622 = .ok (.aload_n 0, 1) := by decide +kernel
theorem dL_law_623 : decode cL_law 623 = .ok (.iload_n 3, 1) := by decide +kernel
theorem dL_law_624 : decode cL_law 624 = .ok (.iconst 1, 1) := by decide +kernel
theorem dL_law_625 : decode cL_law 625 = .ok (.iadd, 1) := by decide +kernel
theorem dL_law_626 : decode cL_law 626 = .ok (.iaload, 1) := by decide +kernel
theorem dL_law_627 : decode cL_law 627 = .ok (.aload_n 0, 1) := by decide +kernel
theorem dL_law_628 : decode cL_law 628 = .ok (.iload_n 3, 1) := by decide +kernel
theorem dL_law_629 : decode cL_law 629 = .ok (.iconst 2, 1) := by decide +kernel
theorem dL_law_630 : decode cL_law 630 = .ok (.iadd, 1) := by decide +kernel
theorem dL_law_631 : decode cL_law 631 = .ok (.iaload, 1) := by decide +kernel
theorem dL_law_632 : decode cL_law 632 = .ok (.invokevirtual 87, 3) := by decide +kernel
theorem dL_law_635 : decode cL_law 635 = .ok (.if_icmp .eq 367, 3) := by decide +kernel
theorem dL_law_638 : decode cL_law 638 = .ok (.iconst 0, 1) := by decide +kernel
theorem dL_law_639 : decode cL_law 639 = .ok (.ireturn, 1) := by decide +kernel
theorem dL_law_640 : decode cL_law 640 = .ok (.aload_n 1, 1) := by decide +kernel
theorem dL_law_641 : decode cL_law 641 = .ok (.aload_n 0, 1) := by decide +kernel
theorem dL_law_642 : decode cL_law 642 = .ok (.iload_n 3, 1) := by decide +kernel
theorem dL_law_643 : decode cL_law 643 = .ok (.iconst 1, 1) := by decide +kernel
theorem dL_law_644 : decode cL_law 644 = .ok (.iadd, 1) := by decide +kernel
theorem dL_law_645 : decode cL_law 645 = .ok (.iaload, 1) := by decide +kernel
theorem dL_law_646 : decode cL_law 646 = .ok (.aload_n 0, 1) := by decide +kernel
theorem dL_law_647 : decode cL_law 647 = .ok (.iload_n 3, 1) := by decide +kernel
theorem dL_law_648 : decode cL_law 648 = .ok (.iconst 2, 1) := by decide +kernel
theorem dL_law_649 : decode cL_law 649 = .ok (.iadd, 1) := by decide +kernel
theorem dL_law_650 : decode cL_law 650 = .ok (.iaload, 1) := by decide +kernel
theorem dL_law_651 : decode cL_law 651 = .ok (.invokevirtual 88, 3) := by decide +kernel
theorem dL_law_654 : decode cL_law 654 = .ok (.aload_n 2, 1) := by decide +kernel
theorem dL_law_655 : decode cL_law 655 = .ok (.aload_n 0, 1) := by decide +kernel
theorem dL_law_656 : decode cL_law 656 = .ok (.iload_n 3, 1) := by decide +kernel
theorem dL_law_657 : decode cL_law 657 = .ok (.iconst 1, 1) := by decide +kernel
theorem dL_law_658 : decode cL_law 658 = .ok (.iadd, 1) := by decide +kernel
theorem dL_law_659 : decode cL_law 659 = .ok (.iaload, 1) := by decide +kernel
theorem dL_law_660 : decode cL_law 660 = .ok (.aload_n 0, 1) := by decide +kernel
theorem dL_law_661 : decode cL_law 661 = .ok (.iload_n 3, 1) := by decide +kernel
theorem dL_law_662 : decode cL_law 662 = .ok (.iconst 2, 1) := by decide +kernel
theorem dL_law_663 : decode cL_law 663 = .ok (.iadd, 1) := by decide +kernel
theorem dL_law_664 : decode cL_law 664 = .ok (.iaload, 1) := by decide +kernel
theorem dL_law_665 : decode cL_law 665 = .ok (.invokevirtual 91, 3) := by decide +kernel
theorem dL_law_668 : decode cL_law 668 = .ok (.if_icmp .eq 334, 3) := by decide +kernel
theorem dL_law_671 : decode cL_law 671 = .ok (.iconst 0, 1) := by decide +kernel
theorem dL_law_672 : decode cL_law 672 = .ok (.ireturn, 1) := by decide +kernel
theorem dL_law_673 : decode cL_law 673 = .ok (.aload_n 1, 1) := by decide +kernel
theorem dL_law_674 : decode cL_law 674 = .ok (.aload_n 0, 1) := by decide +kernel
theorem dL_law_675 : decode cL_law 675 = .ok (.iload_n 3, 1) := by decide +kernel
theorem dL_law_676 : decode cL_law 676 = .ok (.iconst 1, 1) := by decide +kernel
theorem dL_law_677 : decode cL_law 677 = .ok (.iadd, 1) := by decide +kernel
theorem dL_law_678 : decode cL_law 678 = .ok (.iaload, 1) := by decide +kernel
theorem dL_law_679 : decode cL_law 679 = .ok (.aload_n 0, 1) := by decide +kernel
theorem dL_law_680 : decode cL_law 680 = .ok (.iload_n 3, 1) := by decide +kernel
theorem dL_law_681 : decode cL_law 681 = .ok (.iconst 2, 1) := by decide +kernel
theorem dL_law_682 : decode cL_law 682 = .ok (.iadd, 1) := by decide +kernel
theorem dL_law_683 : decode cL_law 683 = .ok (.iaload, 1) := by decide +kernel
theorem dL_law_684 : decode cL_law 684 = .ok (.aload_n 0, 1) := by decide +kernel
theorem dL_law_685 : decode cL_law 685 = .ok (.iload_n 3, 1) := by decide +kernel
theorem dL_law_686 : decode cL_law 686 = .ok (.iconst 3, 1) := by decide +kernel
theorem dL_law_687 : decode cL_law 687 = .ok (.iadd, 1) := by decide +kernel
theorem dL_law_688 : decode cL_law 688 = .ok (.iaload, 1) := by decide +kernel
theorem dL_law_689 : decode cL_law 689 = .ok (.invokevirtual 92, 3) := by decide +kernel
theorem dL_law_692 : decode cL_law 692 = .ok (.aload_n 2, 1) := by decide +kernel
theorem dL_law_693 : decode cL_law 693 = .ok (.aload_n 0, 1) := by decide +kernel
theorem dL_law_694 : decode cL_law 694 = .ok (.iload_n 3, 1) := by decide +kernel
theorem dL_law_695 : decode cL_law 695 = .ok (.iconst 1, 1) := by decide +kernel
theorem dL_law_696 : decode cL_law 696 = .ok (.iadd, 1) := by decide +kernel
theorem dL_law_697 : decode cL_law 697 = .ok (.iaload, 1) := by decide +kernel
theorem dL_law_698 : decode cL_law 698 = .ok (.aload_n 0, 1) := by decide +kernel
theorem dL_law_699 : decode cL_law 699 = .ok (.iload_n 3, 1) := by decide +kernel
theorem dL_law_700 : decode cL_law 700 = .ok (.iconst 2, 1) := by decide +kernel
theorem dL_law_701 : decode cL_law 701 = .ok (.iadd, 1) := by decide +kernel
theorem dL_law_702 : decode cL_law 702 = .ok (.iaload, 1) := by decide +kernel
theorem dL_law_703 : decode cL_law 703 = .ok (.aload_n 0, 1) := by decide +kernel
theorem dL_law_704 : decode cL_law 704 = .ok (.iload_n 3, 1) := by decide +kernel
theorem dL_law_705 : decode cL_law 705 = .ok (.iconst 3, 1) := by decide +kernel
theorem dL_law_706 : decode cL_law 706 = .ok (.iadd, 1) := by decide +kernel
theorem dL_law_707 : decode cL_law 707 = .ok (.iaload, 1) := by decide +kernel
theorem dL_law_708 : decode cL_law 708 = .ok (.invokevirtual 96, 3) := by decide +kernel
theorem dL_law_711 : decode cL_law 711 = .ok (.if_icmp .eq 291, 3) := by decide +kernel
theorem dL_law_714 : decode cL_law 714 = .ok (.iconst 0, 1) := by decide +kernel
theorem dL_law_715 : decode cL_law 715 = .ok (.ireturn, 1) := by decide +kernel
theorem dL_law_716 : decode cL_law 716 = .ok (.aload_n 1, 1) := by decide +kernel
theorem dL_law_717 : decode cL_law 717 = .ok (.invokevirtual 97, 3) := by decide +kernel
theorem dL_law_720 : decode cL_law 720 = .ok (.aload_n 2, 1) := by decide +kernel
theorem dL_law_721 : decode cL_law 721 = .ok (.invokevirtual 100, 3) := by decide +kernel
theorem dL_law_724 : decode cL_law 724 = .ok (.if_icmp .eq 278, 3) := by decide +kernel
theorem dL_law_727 : decode cL_law 727 = .ok (.iconst 0, 1) := by decide +kernel
theorem dL_law_728 : decode cL_law 728 = .ok (.ireturn, 1) := by decide +kernel
theorem dL_law_729 : decode cL_law 729 = .ok (.aload_n 1, 1) := by decide +kernel
theorem dL_law_730 : decode cL_law 730 = .ok (.aload_n 0, 1) := by decide +kernel
theorem dL_law_731 : decode cL_law 731 = .ok (.iload_n 3, 1) := by decide +kernel
theorem dL_law_732 : decode cL_law 732 = .ok (.iconst 1, 1) := by decide +kernel
theorem dL_law_733 : decode cL_law 733 = .ok (.iadd, 1) := by decide +kernel
theorem dL_law_734 : decode cL_law 734 = .ok (.iaload, 1) := by decide +kernel
theorem dL_law_735 : decode cL_law 735 = .ok (.invokevirtual 101, 3) := by decide +kernel
theorem dL_law_738 : decode cL_law 738 = .ok (.aload_n 2, 1) := by decide +kernel
theorem dL_law_739 : decode cL_law 739 = .ok (.aload_n 0, 1) := by decide +kernel
theorem dL_law_740 : decode cL_law 740 = .ok (.iload_n 3, 1) := by decide +kernel
theorem dL_law_741 : decode cL_law 741 = .ok (.iconst 1, 1) := by decide +kernel
theorem dL_law_742 : decode cL_law 742 = .ok (.iadd, 1) := by decide +kernel
theorem dL_law_743 : decode cL_law 743 = .ok (.iaload, 1) := by decide +kernel
theorem dL_law_744 : decode cL_law 744 = .ok (.invokevirtual 104, 3) := by decide +kernel
theorem dL_law_747 : decode cL_law 747 = .ok (.if_icmp .eq 255, 3) := by decide +kernel
theorem dL_law_750 : decode cL_law 750 = .ok (.iconst 0, 1) := by decide +kernel
theorem dL_law_751 : decode cL_law 751 = .ok (.ireturn, 1) := by decide +kernel
theorem dL_law_752 : decode cL_law 752 = .ok (.aload_n 1, 1) := by decide +kernel
theorem dL_law_753 : decode cL_law 753 = .ok (.aload_n 0, 1) := by decide +kernel
theorem dL_law_754 : decode cL_law 754 = .ok (.iload_n 3, 1) := by decide +kernel
theorem dL_law_755 : decode cL_law 755 = .ok (.iconst 1, 1) := by decide +kernel
theorem dL_law_756 : decode cL_law 756 = .ok (.iadd, 1) := by decide +kernel
theorem dL_law_757 : decode cL_law 757 = .ok (.iaload, 1) := by decide +kernel
theorem dL_law_758 : decode cL_law 758 = .ok (.invokevirtual 105, 3) := by decide +kernel
theorem dL_law_761 : decode cL_law 761 = .ok (.aload_n 2, 1) := by decide +kernel
theorem dL_law_762 : decode cL_law 762 = .ok (.aload_n 0, 1) := by decide +kernel
theorem dL_law_763 : decode cL_law 763 = .ok (.iload_n 3, 1) := by decide +kernel
theorem dL_law_764 : decode cL_law 764 = .ok (.iconst 1, 1) := by decide +kernel
theorem dL_law_765 : decode cL_law 765 = .ok (.iadd, 1) := by decide +kernel
theorem dL_law_766 : decode cL_law 766 = .ok (.iaload, 1) := by decide +kernel
theorem dL_law_767 : decode cL_law 767 = .ok (.invokevirtual 108, 3) := by decide +kernel
theorem dL_law_770 : decode cL_law 770 = .ok (.if_icmp .eq 232, 3) := by decide +kernel
theorem dL_law_773 : decode cL_law 773 = .ok (.iconst 0, 1) := by decide +kernel
theorem dL_law_774 : decode cL_law 774 = .ok (.ireturn, 1) := by decide +kernel
theorem dL_law_775 : decode cL_law 775 = .ok (.aload_n 1, 1) := by decide +kernel
theorem dL_law_776 : decode cL_law 776 = .ok (.aload_n 0, 1) := by decide +kernel
theorem dL_law_777 : decode cL_law 777 = .ok (.iload_n 3, 1) := by decide +kernel
theorem dL_law_778 : decode cL_law 778 = .ok (.iconst 1, 1) := by decide +kernel
theorem dL_law_779 : decode cL_law 779 = .ok (.iadd, 1) := by decide +kernel
theorem dL_law_780 : decode cL_law 780 = .ok (.iaload, 1) := by decide +kernel
theorem dL_law_781 : decode cL_law 781 = .ok (.aload_n 0, 1) := by decide +kernel
theorem dL_law_782 : decode cL_law 782 = .ok (.iload_n 3, 1) := by decide +kernel
theorem dL_law_783 : decode cL_law 783 = .ok (.iconst 2, 1) := by decide +kernel
theorem dL_law_784 : decode cL_law 784 = .ok (.iadd, 1) := by decide +kernel
theorem dL_law_785 : decode cL_law 785 = .ok (.iaload, 1) := by decide +kernel
theorem dL_law_786 : decode cL_law 786 = .ok (.aload_n 0, 1) := by decide +kernel
theorem dL_law_787 : decode cL_law 787 = .ok (.iload_n 3, 1) := by decide +kernel
theorem dL_law_788 : decode cL_law 788 = .ok (.iconst 3, 1) := by decide +kernel
theorem dL_law_789 : decode cL_law 789 = .ok (.iadd, 1) := by decide +kernel
theorem dL_law_790 : decode cL_law 790 = .ok (.iaload, 1) := by decide +kernel
theorem dL_law_791 : decode cL_law 791 = .ok (.invokevirtual 109, 3) := by decide +kernel
theorem dL_law_794 : decode cL_law 794 = .ok (.aload_n 2, 1) := by decide +kernel
theorem dL_law_795 : decode cL_law 795 = .ok (.aload_n 0, 1) := by decide +kernel
theorem dL_law_796 : decode cL_law 796 = .ok (.iload_n 3, 1) := by decide +kernel
theorem dL_law_797 : decode cL_law 797 = .ok (.iconst 1, 1) := by decide +kernel
theorem dL_law_798 : decode cL_law 798 = .ok (.iadd, 1) := by decide +kernel
theorem dL_law_799 : decode cL_law 799 = .ok (.iaload, 1) := by decide +kernel
theorem dL_law_800 : decode cL_law 800 = .ok (.aload_n 0, 1) := by decide +kernel
theorem dL_law_801 : decode cL_law 801 = .ok (.iload_n 3, 1) := by decide +kernel
theorem dL_law_802 : decode cL_law 802 = .ok (.iconst 2, 1) := by decide +kernel
theorem dL_law_803 : decode cL_law 803 = .ok (.iadd, 1) := by decide +kernel
theorem dL_law_804 : decode cL_law 804 = .ok (.iaload, 1) := by decide +kernel
theorem dL_law_805 : decode cL_law 805 = .ok (.aload_n 0, 1) := by decide +kernel
theorem dL_law_806 : decode cL_law 806 = .ok (.iload_n 3, 1) := by decide +kernel
theorem dL_law_807 : decode cL_law 807 = .ok (.iconst 3, 1) := by decide +kernel
theorem dL_law_808 : decode cL_law 808 = .ok (.iadd, 1) := by decide +kernel
theorem dL_law_809 : decode cL_law 809 = .ok (.iaload, 1) := by decide +kernel
theorem dL_law_810 : decode cL_law 810 = .ok (.invokevirtual 112, 3) := by decide +kernel
theorem dL_law_813 : decode cL_law 813 = .ok (.if_icmp .eq 189, 3) := by decide +kernel
theorem dL_law_816 : decode cL_law 816 = .ok (.iconst 0, 1) := by decide +kernel
theorem dL_law_817 : decode cL_law 817 = .ok (.ireturn, 1) := by decide +kernel
theorem dL_law_818 : decode cL_law 818 = .ok (.aload_n 1, 1) := by decide +kernel
theorem dL_law_819 : decode cL_law 819 = .ok (.aload_n 0, 1) := by decide +kernel
theorem dL_law_820 : decode cL_law 820 = .ok (.iload_n 3, 1) := by decide +kernel
theorem dL_law_821 : decode cL_law 821 = .ok (.iconst 1, 1) := by decide +kernel
theorem dL_law_822 : decode cL_law 822 = .ok (.iadd, 1) := by decide +kernel
theorem dL_law_823 : decode cL_law 823 = .ok (.iaload, 1) := by decide +kernel
theorem dL_law_824 : decode cL_law 824 = .ok (.aload_n 0, 1) := by decide +kernel
theorem dL_law_825 : decode cL_law 825 = .ok (.iload_n 3, 1) := by decide +kernel
theorem dL_law_826 : decode cL_law 826 = .ok (.iconst 2, 1) := by decide +kernel
theorem dL_law_827 : decode cL_law 827 = .ok (.iadd, 1) := by decide +kernel
theorem dL_law_828 : decode cL_law 828 = .ok (.iaload, 1) := by decide +kernel
theorem dL_law_829 : decode cL_law 829 = .ok (.aload_n 0, 1) := by decide +kernel
theorem dL_law_830 : decode cL_law 830 = .ok (.iload_n 3, 1) := by decide +kernel
theorem dL_law_831 : decode cL_law 831 = .ok (.iconst 3, 1) := by decide +kernel
theorem dL_law_832 : decode cL_law 832 = .ok (.iadd, 1) := by decide +kernel
theorem dL_law_833 : decode cL_law 833 = .ok (.iaload, 1) := by decide +kernel
theorem dL_law_834 : decode cL_law 834 = .ok (.invokevirtual 113, 3) := by decide +kernel
theorem dL_law_837 : decode cL_law 837 = .ok (.aload_n 2, 1) := by decide +kernel
theorem dL_law_838 : decode cL_law 838 = .ok (.aload_n 0, 1) := by decide +kernel
theorem dL_law_839 : decode cL_law 839 = .ok (.iload_n 3, 1) := by decide +kernel
theorem dL_law_840 : decode cL_law 840 = .ok (.iconst 1, 1) := by decide +kernel
theorem dL_law_841 : decode cL_law 841 = .ok (.iadd, 1) := by decide +kernel
theorem dL_law_842 : decode cL_law 842 = .ok (.iaload, 1) := by decide +kernel
theorem dL_law_843 : decode cL_law 843 = .ok (.aload_n 0, 1) := by decide +kernel
theorem dL_law_844 : decode cL_law 844 = .ok (.iload_n 3, 1) := by decide +kernel
theorem dL_law_845 : decode cL_law 845 = .ok (.iconst 2, 1) := by decide +kernel
theorem dL_law_846 : decode cL_law 846 = .ok (.iadd, 1) := by decide +kernel
theorem dL_law_847 : decode cL_law 847 = .ok (.iaload, 1) := by decide +kernel
theorem dL_law_848 : decode cL_law 848 = .ok (.aload_n 0, 1) := by decide +kernel
theorem dL_law_849 : decode cL_law 849 = .ok (.iload_n 3, 1) := by decide +kernel
theorem dL_law_850 : decode cL_law 850 = .ok (.iconst 3, 1) := by decide +kernel
theorem dL_law_851 : decode cL_law 851 = .ok (.iadd, 1) := by decide +kernel
theorem dL_law_852 : decode cL_law 852 = .ok (.iaload, 1) := by decide +kernel
theorem dL_law_853 : decode cL_law 853 = .ok (.invokevirtual 116, 3) := by decide +kernel
theorem dL_law_856 : decode cL_law 856 = .ok (.if_icmp .eq 146, 3) := by decide +kernel
theorem dL_law_859 : decode cL_law 859 = .ok (.iconst 0, 1) := by decide +kernel
theorem dL_law_860 : decode cL_law 860 = .ok (.ireturn, 1) := by decide +kernel
theorem dL_law_861 : decode cL_law 861 = .ok (.aload_n 1, 1) := by decide +kernel
theorem dL_law_862 : decode cL_law 862 = .ok (.aload_n 0, 1) := by decide +kernel
theorem dL_law_863 : decode cL_law 863 = .ok (.iload_n 3, 1) := by decide +kernel
theorem dL_law_864 : decode cL_law 864 = .ok (.iconst 1, 1) := by decide +kernel
theorem dL_law_865 : decode cL_law 865 = .ok (.iadd, 1) := by decide +kernel
theorem dL_law_866 : decode cL_law 866 = .ok (.iaload, 1) := by decide +kernel
theorem dL_law_867 : decode cL_law 867 = .ok (.invokevirtual 117, 3) := by decide +kernel
theorem dL_law_870 : decode cL_law 870 = .ok (.aload_n 2, 1) := by decide +kernel
theorem dL_law_871 : decode cL_law 871 = .ok (.aload_n 0, 1) := by decide +kernel
theorem dL_law_872 : decode cL_law 872 = .ok (.iload_n 3, 1) := by decide +kernel
theorem dL_law_873 : decode cL_law 873 = .ok (.iconst 1, 1) := by decide +kernel
theorem dL_law_874 : decode cL_law 874 = .ok (.iadd, 1) := by decide +kernel
theorem dL_law_875 : decode cL_law 875 = .ok (.iaload, 1) := by decide +kernel
theorem dL_law_876 : decode cL_law 876 = .ok (.invokevirtual 120, 3) := by decide +kernel
theorem dL_law_879 : decode cL_law 879 = .ok (.if_icmp .eq 123, 3) := by decide +kernel
theorem dL_law_882 : decode cL_law 882 = .ok (.iconst 0, 1) := by decide +kernel
theorem dL_law_883 : decode cL_law 883 = .ok (.ireturn, 1) := by decide +kernel
theorem dL_law_884 : decode cL_law 884 = .ok (.aload_n 1, 1) := by decide +kernel
theorem dL_law_885 : decode cL_law 885 = .ok (.aload_n 0, 1) := by decide +kernel
theorem dL_law_886 : decode cL_law 886 = .ok (.iload_n 3, 1) := by decide +kernel
theorem dL_law_887 : decode cL_law 887 = .ok (.iconst 1, 1) := by decide +kernel
theorem dL_law_888 : decode cL_law 888 = .ok (.iadd, 1) := by decide +kernel
theorem dL_law_889 : decode cL_law 889 = .ok (.iaload, 1) := by decide +kernel
theorem dL_law_890 : decode cL_law 890 = .ok (.invokevirtual 121, 3) := by decide +kernel
theorem dL_law_893 : decode cL_law 893 = .ok (.aload_n 2, 1) := by decide +kernel
theorem dL_law_894 : decode cL_law 894 = .ok (.aload_n 0, 1) := by decide +kernel
theorem dL_law_895 : decode cL_law 895 = .ok (.iload_n 3, 1) := by decide +kernel
theorem dL_law_896 : decode cL_law 896 = .ok (.iconst 1, 1) := by decide +kernel
theorem dL_law_897 : decode cL_law 897 = .ok (.iadd, 1) := by decide +kernel
theorem dL_law_898 : decode cL_law 898 = .ok (.iaload, 1) := by decide +kernel
theorem dL_law_899 : decode cL_law 899 = .ok (.invokevirtual 124, 3) := by decide +kernel
theorem dL_law_902 : decode cL_law 902 = .ok (.if_icmp .eq 100, 3) := by decide +kernel
theorem dL_law_905 : decode cL_law 905 = .ok (.iconst 0, 1) := by decide +kernel
theorem dL_law_906 : decode cL_law 906 = .ok (.ireturn, 1) := by decide +kernel
theorem dL_law_907 : decode cL_law 907 = .ok (.aload_n 1, 1) := by decide +kernel
theorem dL_law_908 : decode cL_law 908 = .ok (.invokevirtual 125, 3) := by decide +kernel
theorem dL_law_911 : decode cL_law 911 = .ok (.aload_n 2, 1) := by decide +kernel
theorem dL_law_912 : decode cL_law 912 = .ok (.invokevirtual 128, 3) := by decide +kernel
theorem dL_law_915 : decode cL_law 915 = .ok (.if_icmp .eq 87, 3) := by decide +kernel
theorem dL_law_918 : decode cL_law 918 = .ok (.iconst 0, 1) := by decide +kernel
theorem dL_law_919 : decode cL_law 919 = .ok (.ireturn, 1) := by decide +kernel
theorem dL_law_920 : decode cL_law 920 = .ok (.aload_n 1, 1) := by decide +kernel
theorem dL_law_921 : decode cL_law 921 = .ok (.aload_n 0, 1) := by decide +kernel
theorem dL_law_922 : decode cL_law 922 = .ok (.iload_n 3, 1) := by decide +kernel
theorem dL_law_923 : decode cL_law 923 = .ok (.iconst 1, 1) := by decide +kernel
theorem dL_law_924 : decode cL_law 924 = .ok (.iadd, 1) := by decide +kernel
theorem dL_law_925 : decode cL_law 925 = .ok (.iaload, 1) := by decide +kernel
theorem dL_law_926 : decode cL_law 926 = .ok (.aload_n 0, 1) := by decide +kernel
theorem dL_law_927 : decode cL_law 927 = .ok (.iload_n 3, 1) := by decide +kernel
theorem dL_law_928 : decode cL_law 928 = .ok (.iconst 2, 1) := by decide +kernel
theorem dL_law_929 : decode cL_law 929 = .ok (.iadd, 1) := by decide +kernel
theorem dL_law_930 : decode cL_law 930 = .ok (.iaload, 1) := by decide +kernel
theorem dL_law_931 : decode cL_law 931 = .ok (.invokevirtual 129, 3) := by decide +kernel
theorem dL_law_934 : decode cL_law 934 = .ok (.aload_n 2, 1) := by decide +kernel
theorem dL_law_935 : decode cL_law 935 = .ok (.aload_n 0, 1) := by decide +kernel
theorem dL_law_936 : decode cL_law 936 = .ok (.iload_n 3, 1) := by decide +kernel
theorem dL_law_937 : decode cL_law 937 = .ok (.iconst 1, 1) := by decide +kernel
theorem dL_law_938 : decode cL_law 938 = .ok (.iadd, 1) := by decide +kernel
theorem dL_law_939 : decode cL_law 939 = .ok (.iaload, 1) := by decide +kernel
theorem dL_law_940 : decode cL_law 940 = .ok (.aload_n 0, 1) := by decide +kernel
theorem dL_law_941 : decode cL_law 941 = .ok (.iload_n 3, 1) := by decide +kernel
theorem dL_law_942 : decode cL_law 942 = .ok (.iconst 2, 1) := by decide +kernel
theorem dL_law_943 : decode cL_law 943 = .ok (.iadd, 1) := by decide +kernel
theorem dL_law_944 : decode cL_law 944 = .ok (.iaload, 1) := by decide +kernel
theorem dL_law_945 : decode cL_law 945 = .ok (.invokevirtual 132, 3) := by decide +kernel
theorem dL_law_948 : decode cL_law 948 = .ok (.if_icmp .eq 54, 3) := by decide +kernel
theorem dL_law_951 : decode cL_law 951 = .ok (.iconst 0, 1) := by decide +kernel
theorem dL_law_952 : decode cL_law 952 = .ok (.ireturn, 1) := by decide +kernel
theorem dL_law_953 : decode cL_law 953 = .ok (.aload_n 1, 1) := by decide +kernel
theorem dL_law_954 : decode cL_law 954 = .ok (.invokevirtual 133, 3) := by decide +kernel
theorem dL_law_957 : decode cL_law 957 = .ok (.aload_n 2, 1) := by decide +kernel
theorem dL_law_958 : decode cL_law 958 = .ok (.invokevirtual 136, 3) := by decide +kernel
theorem dL_law_961 : decode cL_law 961 = .ok (.if_icmp .eq 41, 3) := by decide +kernel
theorem dL_law_964 : decode cL_law 964 = .ok (.iconst 0, 1) := by decide +kernel
theorem dL_law_965 : decode cL_law 965 = .ok (.ireturn, 1) := by decide +kernel
theorem dL_law_966 : decode cL_law 966 = .ok (.aload_n 1, 1) := by decide +kernel
theorem dL_law_967 : decode cL_law 967 = .ok (.invokevirtual 137, 3) := by decide +kernel
theorem dL_law_970 : decode cL_law 970 = .ok (.aload_n 2, 1) := by decide +kernel
theorem dL_law_971 : decode cL_law 971 = .ok (.invokevirtual 140, 3) := by decide +kernel
theorem dL_law_974 : decode cL_law 974 = .ok (.if_icmp .eq 28, 3) := by decide +kernel
theorem dL_law_977 : decode cL_law 977 = .ok (.iconst 0, 1) := by decide +kernel
theorem dL_law_978 : decode cL_law 978 = .ok (.ireturn, 1) := by decide +kernel
theorem dL_law_979 : decode cL_law 979 = .ok (.aload_n 1, 1) := by decide +kernel
theorem dL_law_980 : decode cL_law 980 = .ok (.aload_n 0, 1) := by decide +kernel
theorem dL_law_981 : decode cL_law 981 = .ok (.iload_n 3, 1) := by decide +kernel
theorem dL_law_982 : decode cL_law 982 = .ok (.iconst 1, 1) := by decide +kernel
theorem dL_law_983 : decode cL_law 983 = .ok (.iadd, 1) := by decide +kernel
theorem dL_law_984 : decode cL_law 984 = .ok (.iaload, 1) := by decide +kernel
theorem dL_law_985 : decode cL_law 985 = .ok (.invokevirtual 141, 3) := by decide +kernel
theorem dL_law_988 : decode cL_law 988 = .ok (.aload_n 2, 1) := by decide +kernel
theorem dL_law_989 : decode cL_law 989 = .ok (.aload_n 0, 1) := by decide +kernel
theorem dL_law_990 : decode cL_law 990 = .ok (.iload_n 3, 1) := by decide +kernel
theorem dL_law_991 : decode cL_law 991 = .ok (.iconst 1, 1) := by decide +kernel
theorem dL_law_992 : decode cL_law 992 = .ok (.iadd, 1) := by decide +kernel
theorem dL_law_993 : decode cL_law 993 = .ok (.iaload, 1) := by decide +kernel
theorem dL_law_994 : decode cL_law 994 = .ok (.invokevirtual 144, 3) := by decide +kernel
theorem dL_law_997 : decode cL_law 997 = .ok (.if_icmp .eq 5, 3) := by decide +kernel
theorem dL_law_1000 : decode cL_law 1000 = .ok (.iconst 0, 1) := by decide +kernel
theorem dL_law_1001 : decode cL_law 1001 = .ok (.ireturn, 1) := by decide +kernel
theorem dL_law_1002 : decode cL_law 1002 = .ok (.iinc 3 4, 3) := by decide +kernel
theorem dL_law_1005 : decode cL_law 1005 = .ok (.goto (-987), 3) := by decide +kernel
theorem dL_law_1008 : decode cL_law 1008 = .ok (.iconst 1, 1) := by decide +kernel
theorem dL_law_1009 : decode cL_law 1009 = .ok (.ireturn, 1) := by decide +kernel
end
section
/-! ===== a machine of our own over numbers of cells: refs are places in a list of cells, the addresses are a function of the places ===== -/
def AW : List Cond := lw_tbl.filter goodWord
def tV (a : Nat → Nat) : Value → Value
  | .ref i => .ref (a i)
  | .int x => .int x
  | .long x => .long x
  | .float x => .float x
  | .double x => .double x
  | .null => .null
  | .retAddr x => .retAddr x
theorem tV_cat (a : Nat → Nat) (v : Value) : (tV a v).category = v.category := by cases v <;> rfl
abbrev PCell : Type := (Nat × Nat × (Nat → Int32)) ⊕ (Nat × List Value)
def tC (ca : Nat → ClassId) (a : Nat → Nat) : PCell → va_E
  | .inl (t, n, f) => .inl (ca t, n, .inl f)
  | .inr (ci, fs) => .inr (ci, fs.map (tV a))
def tW (ca : Nat → ClassId) (a : Nat → Nat) (h : List PCell) : va_W := h.mapIdx (fun i c => (a i, tC ca a c))
theorem tW_at {ca : Nat → ClassId} {a : Nat → Nat} {h : List PCell} {i : Nat} {c : PCell} (e : h[i]? = some c) : (tW ca a h)[i]? = some (a i, tC ca a c) := by
  simp [tW, List.getElem?_mapIdx, e]
theorem tW_of {ca : Nat → ClassId} {a : Nat → Nat} {h : List PCell} {i : Nat} {q : Nat × va_E} (e : (tW ca a h)[i]? = some q) : ∃ c, h[i]? = some c ∧ q = (a i, tC ca a c) := by
  simp only [tW, List.getElem?_mapIdx, Option.map_eq_some_iff] at e
  obtain ⟨c, h1, h2⟩ := e
  exact ⟨c, h1, h2.symm⟩
theorem tW_set {ca : Nat → ClassId} {a : Nat → Nat} (h : List PCell) (i : Nat) (c : PCell) : (tW ca a h).set i (a i, tC ca a c) = tW ca a (h.set i c) := by
  apply List.ext_getElem?
  intro j
  simp only [tW, List.getElem?_set, List.getElem?_mapIdx, List.length_mapIdx]
  by_cases hij : i = j
  · subst hij
    by_cases hl : i < h.length <;> simp [hl]
  · simp [hij]
theorem tW_len {ca : Nat → ClassId} {a : Nat → Nat} (h : List PCell) : (tW ca a h).length = h.length := by simp [tW]
/-- which refs a value, a cell, a heap may hold -/
def okV (n : Nat) : Value → Bool
  | .ref i => Nat.blt i n || Nat.ble 1000 i
  | _ => true
def okC (n : Nat) : PCell → Bool
  | .inl _ => true
  | .inr (_, fs) => fs.all (okV n)
def okH (n : Nat) (h : List PCell) : Bool := h.all (okC n)
theorem tV_congr {a b : Nat → Nat} {n : Nat} (hab : ∀ i, i < n ∨ 1000 ≤ i → a i = b i) {v : Value} (hv : okV n v = true) : tV a v = tV b v := by
  cases v <;> simp only [tV]
  rename_i i
  simp only [okV, Bool.or_eq_true, Nat.blt_eq, Nat.ble_eq] at hv
  rw [hab i hv]
theorem tC_congr {ca : Nat → ClassId} {a b : Nat → Nat} {n : Nat} (hab : ∀ i, i < n ∨ 1000 ≤ i → a i = b i) {c : PCell} (hc : okC n c = true) : tC ca a c = tC ca b c := by
  rcases c with ⟨t, k, f⟩ | ⟨ci, fs⟩
  · rfl
  · simp only [tC]
    congr 2
    apply List.map_congr_left
    intro v hv
    exact tV_congr hab (List.all_eq_true.mp hc v hv)
theorem tW_congr {ca : Nat → ClassId} {a b : Nat → Nat} {n : Nat} (hab : ∀ i, i < n ∨ 1000 ≤ i → a i = b i) {h : List PCell} (hn : h.length ≤ n) (hc : okH n h = true) : tW ca a h = tW ca b h := by
  apply List.ext_getElem?
  intro j
  simp only [tW, List.getElem?_mapIdx]
  cases hj : h[j]? with
  | none => rfl
  | some c =>
    have hl : j < h.length := (List.getElem?_eq_some_iff.mp hj).1
    simp only [Option.map_some]
    rw [hab j (Or.inl (by omega)), tC_congr hab (List.all_eq_true.mp hc c (List.mem_of_getElem? hj))]
/-- renaming -/
def rC (ρ : Nat → Nat) : PCell → PCell
  | .inl x => .inl x
  | .inr (ci, fs) => .inr (ci, fs.map (tV ρ))
theorem tV_tV (a ρ : Nat → Nat) (v : Value) : tV a (tV ρ v) = tV (fun i => a (ρ i)) v := by cases v <;> rfl
theorem tC_rC (ca : Nat → ClassId) (a ρ : Nat → Nat) (c : PCell) : tC ca a (rC ρ c) = tC ca (fun i => a (ρ i)) c := by
  rcases c with ⟨t, k, f⟩ | ⟨ci, fs⟩
  · rfl
  · simp [tC, rC, tV_tV, Function.comp_def]
/-- the cells at the places of a list, put anew -/
def updH (h : List PCell) : List Nat → List PCell → List PCell
  | i :: is, c :: cs => updH (h.set i c) is cs
  | _, _ => h
theorem updH_len : ∀ (is : List Nat) (cs h : List PCell), (updH h is cs).length = h.length
  | [], cs, h => by simp [updH]
  | i :: is, [], h => by simp [updH]
  | i :: is, c :: cs, h => by simp [updH, updH_len is cs]
theorem updH_out : ∀ (is : List Nat) (cs h : List PCell) (j : Nat), j ∉ is → (updH h is cs)[j]? = h[j]?
  | [], cs, h, j, _ => by simp [updH]
  | i :: is, [], h, j, _ => by simp [updH]
  | i :: is, c :: cs, h, j, hj => by
    simp only [List.mem_cons, not_or] at hj
    rw [updH, updH_out is cs _ j hj.2, List.getElem?_set_ne (Ne.symm hj.1)]
theorem updH_in : ∀ (is : List Nat) (cs h : List PCell) (k j : Nat) (c : PCell), va_nd is = true → is[k]? = some j → cs[k]? = some c → j < h.length → (updH h is cs)[j]? = some c
  | [], cs, h, k, j, c, _, hk, _, _ => by simp at hk
  | i :: is, [], h, k, j, c, _, _, hc, _ => by simp at hc
  | i :: is, d :: cs, h, k, j, c, hn, hk, hc, hj => by
    simp only [va_nd, Bool.and_eq_true, decide_eq_true_eq] at hn
    cases k with
    | zero =>
      simp only [List.getElem?_cons_zero, Option.some.injEq] at hk hc
      subst hk; subst hc
      rw [updH, updH_out is cs _ i hn.1, List.getElem?_set_self hj]
    | succ k =>
      simp only [List.getElem?_cons_succ] at hk hc
      rw [updH]
      exact updH_in is cs _ k j c hn.2 hk hc (by simpa using hj)
/-! the locals -/
def lvS (a : Nat → Nat) (ls : Array Slot) (nL : Nat) (L : List (Option Value)) : Prop := ls.size = nL ∧ L.length = nL ∧ lv_wf ls ∧ ∀ (i : Nat) (v : Value), L[i]? = some (some v) → v.category = 1 ∧ ls[i]? = some (.val (tV a v))
def asc (a : Nat → Nat) (L : List (Option Value)) : List (Nat × Value) := (L.mapIdx (fun i o => o.map (fun v => (i, tV a v)))).filterMap id
theorem asc_mem {a : Nat → Nat} {L : List (Option Value)} {q : Nat × Value} : q ∈ asc a L ↔ ∃ i v, L[i]? = some (some v) ∧ q = (i, tV a v) := by
  simp only [asc, List.mem_filterMap, id]
  constructor
  · rintro ⟨o, h1, h2⟩
    obtain ⟨i, hi⟩ := List.getElem?_of_mem h1
    simp only [List.getElem?_mapIdx, Option.map_eq_some_iff] at hi
    obtain ⟨o', h3, h4⟩ := hi
    subst h2
    simp only [Option.map_eq_some_iff] at h4
    obtain ⟨v, h5, h6⟩ := h4
    subst h5
    exact ⟨i, v, h3, h6.symm⟩
  · rintro ⟨i, v, h1, rfl⟩
    refine ⟨some (i, tV a v), ?_, rfl⟩
    apply List.mem_of_getElem? (i := i)
    simp [List.getElem?_mapIdx, h1]
theorem lvS.has {a : Nat → Nat} {ls : Array Slot} {nL : Nat} {L : List (Option Value)} (h : lvS a ls nL L) : lv_has ls nL (asc a L) := by
  refine ⟨h.1, h.2.2.1, fun q hq => ?_⟩
  obtain ⟨i, v, h1, rfl⟩ := asc_mem.mp hq
  exact (h.2.2.2 i v h1).2
theorem lvS.store {a : Nat → Nat} {ls ls' : Array Slot} {nL : Nat} {L : List (Option Value)} (h : lvS a ls nL L) {i : Nat} {v : Value} (hv : v.category = 1) (h' : lv_has ls' nL ((i, tV a v) :: (asc a L).filter (fun q => !(q.1 == i) && !(q.1 + 1 == i && q.2.category == 2)))) : lvS a ls' nL (L.set i (some v)) := by
  refine ⟨h'.1, by simpa using h.2.1, h'.2.1, fun j w hj => ?_⟩
  rw [List.getElem?_set] at hj
  by_cases hij : i = j
  · subst hij
    simp only [if_true] at hj
    split at hj
    · cases hj
      exact ⟨hv, h'.2.2 _ List.mem_cons_self⟩
    · cases hj
  · rw [if_neg hij] at hj
    have hc := (h.2.2.2 j w hj).1
    refine ⟨hc, h'.2.2 (j, tV a w) (List.mem_cons_of_mem _ (List.mem_filter.mpr ⟨asc_mem.mpr ⟨j, w, hj, rfl⟩, ?_⟩))⟩
    have h1 : (j == i) = false := by simp [Ne.symm hij]
    have h2 : ((tV a w).category == 2) = false := by rw [tV_cat, hc]; rfl
    simp [h1, h2, Ne.symm hij]
theorem lvS_congr {a b : Nat → Nat} {n : Nat} (hab : ∀ i, i < n ∨ 1000 ≤ i → a i = b i) {ls : Array Slot} {nL : Nat} {L : List (Option Value)} (hL : L.all (fun o => o.all (okV n)) = true) (h : lvS a ls nL L) : lvS b ls nL L := by
  refine ⟨h.1, h.2.1, h.2.2.1, fun i v hi => ?_⟩
  have h1 := List.all_eq_true.mp hL _ (List.mem_of_getElem? hi)
  rw [← tV_congr hab (show okV n v = true from h1)]
  exact h.2.2.2 i v hi
/-! what is given in every method: classes, nest mates, the two texts -/
def nestW : List Cond := [.methodLinkNest RX6 11 yX1_init RX6, .methodLinkNest RX6 24 yX4_init RX6, .methodLinkNest RX6 31 yX2_init RX6, .methodLinkNest RX6 38 yX0_init RX6, .methodLinkNest RX6 45 yX3_init RX6, .methodLinkNest RX0 11 yX2_init RX6, .methodLinkNest RX0 20 yX5_init RX6, .methodLinkNest RX1 53 yX6_isOwner RX6, .methodLinkNest RX3 47 yX6_bitsUpTo RX6, .methodLinkNest RX5 53 yX6_hasBit RX6, .methodLinkNest RX5 76 yX6_bitsUpTo RX6]
def isNest : Cond → Bool
  | .methodLinkNest _ _ _ _ => true
  | _ => false
theorem nestW_is : ∀ w ∈ nestW, isNest w = true := by
  intro w hw
  simp only [nestW, List.mem_cons, List.not_mem_nil, or_false] at hw
  rcases hw with rfl | rfl | rfl | rfl | rfl | rfl | rfl | rfl | rfl | rfl | rfl <;> rfl
theorem nest_warm {s U : State} (hW : s.WarmedH U.vm) {w : Cond} (hw : isNest w = true) (h : va_Nw w s) : va_Nw w U := by
  cases w <;> first | (simp [isNest] at hw; done) | exact va_Nw.warmM hW h
theorem nest_same {u U : State} (hv : u.vm = U.vm) {w : Cond} (hw : isNest w = true) (h : va_Nw w u) : va_Nw w U := by
  cases w <;> first | (simp [isNest] at hw; done) | exact va_Nw.same rfl hv h
def tys3 (ca : Nat → ClassId) : List (ClassId × FieldType) := [(ca 0, .int), (ca 1, .char), (ca 2, .boolean)]
def txB : List (List Int32) := [[102, 115, 116, 111, 97, 98], [97, 111, 104, 110, 100, 99]]
def KK (D : va_G) (ca : Nat → ClassId) (a : Nat → Nat) (A : Nat → Prop) (U : State) (H : Heap) : Prop :=
  va_K D vwCl (tys3 ca) U ∧ (∀ w ∈ nestW, va_Nw w U) ∧ vk_S 2 [6, 6] txB (fun i => a (1000 + i)) (fun i => a (1010 + i)) A U H ∧ vk_R RX4 44 "fstoab" (a 1000) U ∧ vk_R RX4 57 "aohndc" (a 1001) U ∧ vk_R RX6 107 "fstoab" (a 1000) U ∧ va_Z "java/lang/String" "COMPACT_STRINGS" "Z" (.int 1) A U H
theorem KK.warm {D : va_G} {ca : Nat → ClassId} {a : Nat → Nat} {A : Nat → Prop} {s U : State} {H : Heap} (hW : s.WarmedH U.vm) (h : KK D ca a A s H) : KK D ca a A U H :=
  ⟨va_K.moved hW.alike h.1, fun w hw => nest_warm hW (nestW_is w hw) (h.2.1 w hw), vk_S.moved hW.alike h.2.2.1, vk_R.warm hW h.2.2.2.1, vk_R.warm hW h.2.2.2.2.1, vk_R.warm hW h.2.2.2.2.2.1, va_Z.moved hW.alike h.2.2.2.2.2.2⟩
theorem KK.same {D : va_G} {ca : Nat → ClassId} {a : Nat → Nat} {A : Nat → Prop} {u U : State} {H : Heap} (hv : u.vm = U.vm) (h : KK D ca a A u H) : KK D ca a A U H :=
  ⟨va_K.moved (by rw [hv]; exact Vm.Alike.refl _) h.1, fun w hw => nest_same hv (nestW_is w hw) (h.2.1 w hw), vk_S.moved (by rw [hv]; exact Vm.Alike.refl _) h.2.2.1, vk_R.same hv.symm h.2.2.2.1, vk_R.same hv.symm h.2.2.2.2.1, vk_R.same hv.symm h.2.2.2.2.2.1, va_Z.moved (by rw [hv]; exact Vm.Alike.refl _) h.2.2.2.2.2.2⟩
theorem KK.kept {D : va_G} {ca : Nat → ClassId} {a : Nat → Nat} {A B : Nat → Prop} {U : State} {H H1 : Heap} (h : KK D ca a A U H) (hq : ∀ q : Nat, q < H.size → ¬ A q → H1[q]? = H[q]?) (hAB : ∀ q, B q → A q) : KK D ca a B U H1 :=
  ⟨h.1, h.2.1, (h.2.2.1.kept hq).narrow hAB, h.2.2.2.1, h.2.2.2.2.1, h.2.2.2.2.2.1, (h.2.2.2.2.2.2.kept hq).narrow hAB⟩
theorem KK.re {D : va_G} {ca : Nat → ClassId} {a b : Nat → Nat} {A : Nat → Prop} {U : State} {H : Heap} (hab : ∀ i, 1000 ≤ i → a i = b i) (h : KK D ca a A U H) : KK D ca b A U H := by
  have e1 : (fun i => a (1000 + i)) = (fun i => b (1000 + i)) := funext fun i => hab _ (by omega)
  have e2 : (fun i => a (1010 + i)) = (fun i => b (1010 + i)) := funext fun i => hab _ (by omega)
  obtain ⟨h1, h2, h3, h4, h5, h6, h7⟩ := h
  rw [e1, e2] at h3
  rw [hab 1000 (by omega)] at h4 h6
  rw [hab 1001 (by omega)] at h5
  exact ⟨h1, h2, h3, h4, h5, h6, h7⟩
/-! the walk's context -/
def Cx : Type := (Program × Launch × Env × Room) × (State × MethodId × Array Value × List Frame) × (Method × Code) × (va_G × (Nat → ClassId) × (Nat → Prop) × (State → Prop)) × ((Nat → Nat) × Nat × Nat)
abbrev cxp (X : Cx) : Program := X.1.1
abbrev cxl (X : Cx) : Launch := X.1.2.1
abbrev cxe (X : Cx) : Env := X.1.2.2.1
abbrev cxR (X : Cx) : Room := X.1.2.2.2
abbrev cxs (X : Cx) : State := X.2.1.1
abbrev cxm (X : Cx) : MethodId := X.2.1.2.1
abbrev cxg (X : Cx) : Array Value := X.2.1.2.2.1
abbrev cxb (X : Cx) : List Frame := X.2.1.2.2.2
abbrev cxM (X : Cx) : Method := X.2.2.1.1
abbrev cxc (X : Cx) : Code := X.2.2.1.2
abbrev cxD (X : Cx) : va_G := X.2.2.2.1.1
abbrev cxk (X : Cx) : Nat → ClassId := X.2.2.2.1.2.1
abbrev cxA (X : Cx) : Nat → Prop := X.2.2.2.1.2.2.1
abbrev cxQ (X : Cx) : State → Prop := X.2.2.2.1.2.2.2
abbrev cxa (X : Cx) : Nat → Nat := X.2.2.2.2.1
abbrev cxn (X : Cx) : Nat := X.2.2.2.2.2.1
abbrev cxL (X : Cx) : Nat := X.2.2.2.2.2.2
def Sm (X : Cx) (a : Nat → Nat) (H : Heap) (locs : List Loc) (ls : Array Slot) (L : List (Option Value)) (h : List PCell) : Prop :=
  va_P (cxD X) vwCl (tW (cxk X) a h) H ∧ va_D (cxA X) (tW (cxk X) a h) ∧ va_S (cxA X) (cxs X).heap H locs ∧ (∀ i, i < cxn X ∨ 1000 ≤ i → a i = cxa X i) ∧ lvS a ls (cxL X) L
def WW (X : Cx) (H : Heap) (locs : List Loc) (kc ks pc : Nat) (ls : Array Slot) (st : List Value) : Prop := W (cxp X) (cxl X) (cxe X) (cxR X) (cxs X) (cxm X) (cxg X) (cxb X) (cxM X) (cxc X) H locs kc ks (cxQ X) (F0 (cxm X) pc ls st)
def PW (X : Cx) (pc : Nat) (L : List (Option Value)) (st : List Value) (h : List PCell) (kc ks : Nat) : Prop :=
  ∀ (a : Nat → Nat) (H : Heap) (locs : List Loc) (ls : Array Slot), Sm X a H locs ls L h → WW X H locs kc ks pc ls (st.map (tV a))
/-- what holds of a context: d deep may be called, so many cells and slots may come -/
def Fx (X : Cx) (cc : ByteArray) (own : String) (ret : Option FieldType) (d mc ms : Nat) : Prop :=
  (cxp X).tables.exec = Jvm.exec ∧ (cxc X).code = cc ∧ (cxc X).maxLocals = cxL X ∧ (cxs X).vm.findClass own = some (cxm X).cls ∧ (∀ w ∈ AW, w.before (cxg X) (cxs X) = true) ∧ (cxM X).sig.returnType = ret ∧ (cxM X).locks = false ∧ KK (cxD X) (cxk X) (cxa X) (cxA X) (cxs X) (cxs X).heap ∧ (∀ q, (cxs X).heap.size ≤ q → cxA X q) ∧ (d ≤ (cxR X).frames ∧ 32 * d ≤ (cxR X).locals ∧ mc ≤ (cxR X).cells ∧ ms ≤ (cxR X).slots)
section Rules
variable {X : Cx} {cc : ByteArray} {own : String} {ret : Option FieldType} {d mc ms : Nat} {pc : Nat} {L : List (Option Value)} {st : List Value} {h : List PCell} {kc ks : Nat}
theorem Fx.x (hX : Fx X cc own ret d mc ms) : (cxp X).tables.exec = Jvm.exec := hX.1
theorem Fx.b (hX : Fx X cc own ret d mc ms) : (cxc X).code = cc := hX.2.1
theorem Fx.ml (hX : Fx X cc own ret d mc ms) : (cxc X).maxLocals = cxL X := hX.2.2.1
theorem Fx.ow (hX : Fx X cc own ret d mc ms) : (cxs X).vm.findClass own = some (cxm X).cls := hX.2.2.2.1
theorem Fx.ts (hX : Fx X cc own ret d mc ms) : ∀ w ∈ AW, w.before (cxg X) (cxs X) = true := hX.2.2.2.2.1
theorem Fx.rt (hX : Fx X cc own ret d mc ms) : (cxM X).sig.returnType = ret := hX.2.2.2.2.2.1
theorem Fx.lk (hX : Fx X cc own ret d mc ms) : (cxM X).locks = false := hX.2.2.2.2.2.2.1
theorem Fx.K (hX : Fx X cc own ret d mc ms) : KK (cxD X) (cxk X) (cxa X) (cxA X) (cxs X) (cxs X).heap := hX.2.2.2.2.2.2.2.1
theorem Fx.A (hX : Fx X cc own ret d mc ms) : ∀ q, (cxs X).heap.size ≤ q → cxA X q := hX.2.2.2.2.2.2.2.2.1
theorem Fx.r (hX : Fx X cc own ret d mc ms) : d ≤ (cxR X).frames ∧ 32 * d ≤ (cxR X).locals ∧ mc ≤ (cxR X).cells ∧ ms ≤ (cxR X).slots := hX.2.2.2.2.2.2.2.2.2
theorem PW.iconst (hX : Fx X cc own ret d mc ms) {n : Int} {v : Int32} (hd : decode cc pc = .ok (.iconst n, 1)) (hv : Int32.ofInt n = v) (k : PW X (pc + 1) L (.int v :: st) h kc ks) : PW X pc L st h kc ks := fun a H locs ls S => lv_iconst hX.x hX.b hd hv (k a H locs ls S)
theorem PW.bipush (hX : Fx X cc own ret d mc ms) {n : Int} {v : Int32} (hd : decode cc pc = .ok (.bipush n, 2)) (hv : (Int8.ofInt n).toInt32 = v) (k : PW X (pc + 2) L (.int v :: st) h kc ks) : PW X pc L st h kc ks := fun a H locs ls S => lv_bipush hX.x hX.b hd hv (k a H locs ls S)
theorem PW.sipush (hX : Fx X cc own ret d mc ms) {n : Int} {v : Int32} (hd : decode cc pc = .ok (.sipush n, 3)) (hv : (Int16.ofInt n).toInt32 = v) (k : PW X (pc + 3) L (.int v :: st) h kc ks) : PW X pc L st h kc ks := fun a H locs ls S => lv_sipush hX.x hX.b hd hv (k a H locs ls S)
theorem PW.ldc (hX : Fx X cc own ret d mc ms) {n : Nat} {v : Int32} (hd : decode cc pc = .ok (.ldc n, 2)) (hc : Cond.constant own n v ∈ AW) (k : PW X (pc + 2) L (.int v :: st) h kc ks) : PW X pc L st h kc ks := fun a H locs ls S => lv_ldc hX.x hX.b hX.ow (hX.ts _ hc) hd (k a H locs ls S)
theorem PW.iload_n (hX : Fx X cc own ret d mc ms) {q : Fin 4} {i : Nat} {x : Int32} (hd : decode cc pc = .ok (.iload_n q, 1)) (hi : (q : Nat) = i) (hl : L[i]? = some (some (.int x))) (k : PW X (pc + 1) L (.int x :: st) h kc ks) : PW X pc L st h kc ks := fun a H locs ls S => lv_iload_n hX.x hX.b hd hi (S.2.2.2.2.2.2.2 i _ hl).2 (k a H locs ls S)
theorem PW.iload (hX : Fx X cc own ret d mc ms) {i : Nat} {x : Int32} (hd : decode cc pc = .ok (.iload i, 2)) (hl : L[i]? = some (some (.int x))) (k : PW X (pc + 2) L (.int x :: st) h kc ks) : PW X pc L st h kc ks := fun a H locs ls S => lv_iload hX.x hX.b hd (S.2.2.2.2.2.2.2 i _ hl).2 (k a H locs ls S)
theorem PW.aload_n (hX : Fx X cc own ret d mc ms) {q : Fin 4} {i : Nat} {x : Nat} (hd : decode cc pc = .ok (.aload_n q, 1)) (hi : (q : Nat) = i) (hl : L[i]? = some (some (.ref x))) (k : PW X (pc + 1) L (.ref x :: st) h kc ks) : PW X pc L st h kc ks := fun a H locs ls S => lv_aload_n hX.x hX.b hd hi (S.2.2.2.2.2.2.2 i _ hl).2 (k a H locs ls S)
theorem PW.aload (hX : Fx X cc own ret d mc ms) {i : Nat} {x : Nat} (hd : decode cc pc = .ok (.aload i, 2)) (hl : L[i]? = some (some (.ref x))) (k : PW X (pc + 2) L (.ref x :: st) h kc ks) : PW X pc L st h kc ks := fun a H locs ls S => lv_aload hX.x hX.b hd (S.2.2.2.2.2.2.2 i _ hl).2 (k a H locs ls S)
theorem Sm.sto {a : Nat → Nat} {H : Heap} {locs : List Loc} {ls ls' : Array Slot} (S : Sm X a H locs ls L h) {i : Nat} {v : Value} (hv : v.category = 1) (h' : lv_has ls' (cxL X) ((i, tV a v) :: (asc a L).filter (fun q => !(q.1 == i) && !(q.1 + 1 == i && q.2.category == 2)))) : Sm X a H locs ls' (L.set i (some v)) h := ⟨S.1, S.2.1, S.2.2.1, S.2.2.2.1, S.2.2.2.2.store hv h'⟩
theorem Sm.lt {a : Nat → Nat} {H : Heap} {locs : List Loc} {ls : Array Slot} (S : Sm X a H locs ls L h) {i : Nat} (hi : Nat.blt i L.length = true) : i < cxL X := by
  rw [← S.2.2.2.2.2.1]; exact Nat.blt_eq.mp hi
theorem PW.istore_n (hX : Fx X cc own ret d mc ms) {q : Fin 4} {i : Nat} {x : Int32} (hd : decode cc pc = .ok (.istore_n q, 1)) (hi : (q : Nat) = i) (hl : Nat.blt i L.length = true) (k : PW X (pc + 1) (L.set i (some (.int x))) st h kc ks) : PW X pc L (.int x :: st) h kc ks := fun a H locs ls S => lv_istore_n hX.x hX.b hd hi S.2.2.2.2.has (S.lt hl) rfl (fun ls' h' => k a H locs ls' (S.sto (v := .int x) rfl h'))
theorem PW.istore (hX : Fx X cc own ret d mc ms) {i : Nat} {x : Int32} (hd : decode cc pc = .ok (.istore i, 2)) (hl : Nat.blt i L.length = true) (k : PW X (pc + 2) (L.set i (some (.int x))) st h kc ks) : PW X pc L (.int x :: st) h kc ks := fun a H locs ls S => lv_istore hX.x hX.b hd S.2.2.2.2.has (S.lt hl) rfl (fun ls' h' => k a H locs ls' (S.sto (v := .int x) rfl h'))
theorem PW.astore_n (hX : Fx X cc own ret d mc ms) {q : Fin 4} {i : Nat} {x : Nat} (hd : decode cc pc = .ok (.astore_n q, 1)) (hi : (q : Nat) = i) (hl : Nat.blt i L.length = true) (k : PW X (pc + 1) (L.set i (some (.ref x))) st h kc ks) : PW X pc L (.ref x :: st) h kc ks := fun a H locs ls S => lv_astore_n hX.x hX.b hd hi S.2.2.2.2.has (S.lt hl) rfl (fun ls' h' => k a H locs ls' (S.sto (v := .ref x) rfl h'))
theorem PW.astore (hX : Fx X cc own ret d mc ms) {i : Nat} {x : Nat} (hd : decode cc pc = .ok (.astore i, 2)) (hl : Nat.blt i L.length = true) (k : PW X (pc + 2) (L.set i (some (.ref x))) st h kc ks) : PW X pc L (.ref x :: st) h kc ks := fun a H locs ls S => lv_astore hX.x hX.b hd S.2.2.2.2.has (S.lt hl) rfl (fun ls' h' => k a H locs ls' (S.sto (v := .ref x) rfl h'))
theorem PW.iinc (hX : Fx X cc own ret d mc ms) {i : Nat} {n : Int} {x v : Int32} (hd : decode cc pc = .ok (.iinc i n, 3)) (hl : L[i]? = some (some (.int x))) (hv : x + Int32.ofInt n = v) (k : PW X (pc + 3) (L.set i (some (.int v))) st h kc ks) : PW X pc L st h kc ks := by
  intro a H locs ls S
  obtain ⟨j, hj⟩ := List.getElem?_of_mem (asc_mem (a := a) (L := L) (q := (i, .int x)).mpr ⟨i, .int x, hl, rfl⟩)
  exact lv_iinc hX.x hX.b hd S.2.2.2.2.has (k := j) hj hv (by rw [← S.2.2.2.2.2.1]; exact (List.getElem?_eq_some_iff.mp hl).1) rfl (fun ls' h' => k a H locs ls' (S.sto (v := .int v) rfl h'))
theorem PW.iadd (hX : Fx X cc own ret d mc ms) {x y : Int32} (hd : decode cc pc = .ok (.iadd, 1)) (k : PW X (pc + 1) L (.int (x + y) :: st) h kc ks) : PW X pc L (.int y :: .int x :: st) h kc ks := fun a H locs ls S => lv_iadd hX.x hX.b hd (k a H locs ls S)
theorem PW.isub (hX : Fx X cc own ret d mc ms) {x y : Int32} (hd : decode cc pc = .ok (.isub, 1)) (k : PW X (pc + 1) L (.int (x - y) :: st) h kc ks) : PW X pc L (.int y :: .int x :: st) h kc ks := fun a H locs ls S => lv_isub hX.x hX.b hd (k a H locs ls S)
theorem PW.imul (hX : Fx X cc own ret d mc ms) {x y : Int32} (hd : decode cc pc = .ok (.imul, 1)) (k : PW X (pc + 1) L (.int (x * y) :: st) h kc ks) : PW X pc L (.int y :: .int x :: st) h kc ks := fun a H locs ls S => lv_imul hX.x hX.b hd (k a H locs ls S)
theorem PW.iand (hX : Fx X cc own ret d mc ms) {x y : Int32} (hd : decode cc pc = .ok (.iand, 1)) (k : PW X (pc + 1) L (.int (x &&& y) :: st) h kc ks) : PW X pc L (.int y :: .int x :: st) h kc ks := fun a H locs ls S => lv_iand hX.x hX.b hd (k a H locs ls S)
theorem PW.ior (hX : Fx X cc own ret d mc ms) {x y : Int32} (hd : decode cc pc = .ok (.ior, 1)) (k : PW X (pc + 1) L (.int (x ||| y) :: st) h kc ks) : PW X pc L (.int y :: .int x :: st) h kc ks := fun a H locs ls S => lv_ior hX.x hX.b hd (k a H locs ls S)
theorem PW.ixor (hX : Fx X cc own ret d mc ms) {x y : Int32} (hd : decode cc pc = .ok (.ixor, 1)) (k : PW X (pc + 1) L (.int (x ^^^ y) :: st) h kc ks) : PW X pc L (.int y :: .int x :: st) h kc ks := fun a H locs ls S => lv_ixor hX.x hX.b hd (k a H locs ls S)
theorem PW.idiv (hX : Fx X cc own ret d mc ms) {x y : Int32} (hd : decode cc pc = .ok (.idiv, 1)) (hy : ¬ y = 0) (k : PW X (pc + 1) L (.int (x / y) :: st) h kc ks) : PW X pc L (.int y :: .int x :: st) h kc ks := fun a H locs ls S => lv_idiv hX.x hX.b hd hy (k a H locs ls S)
theorem PW.irem (hX : Fx X cc own ret d mc ms) {x y : Int32} (hd : decode cc pc = .ok (.irem, 1)) (hy : ¬ y = 0) (k : PW X (pc + 1) L (.int (x - x / y * y) :: st) h kc ks) : PW X pc L (.int y :: .int x :: st) h kc ks := fun a H locs ls S => lv_irem hX.x hX.b hd hy (k a H locs ls S)
theorem PW.ishl (hX : Fx X cc own ret d mc ms) {x y : Int32} (hd : decode cc pc = .ok (.ishl, 1)) (k : PW X (pc + 1) L (.int (x <<< (y &&& 31)) :: st) h kc ks) : PW X pc L (.int y :: .int x :: st) h kc ks := fun a H locs ls S => lv_ishl hX.x hX.b hd (k a H locs ls S)
theorem PW.ishr (hX : Fx X cc own ret d mc ms) {x y : Int32} (hd : decode cc pc = .ok (.ishr, 1)) (k : PW X (pc + 1) L (.int (x >>> (y &&& 31)) :: st) h kc ks) : PW X pc L (.int y :: .int x :: st) h kc ks := fun a H locs ls S => lv_ishr hX.x hX.b hd (k a H locs ls S)
theorem PW.ineg (hX : Fx X cc own ret d mc ms) {x : Int32} (hd : decode cc pc = .ok (.ineg, 1)) (k : PW X (pc + 1) L (.int (-x) :: st) h kc ks) : PW X pc L (.int x :: st) h kc ks := fun a H locs ls S => lv_ineg hX.x hX.b hd (k a H locs ls S)
theorem PW.i2c (hX : Fx X cc own ret d mc ms) {x v : Int32} (hd : decode cc pc = .ok (.i2c, 1)) (hv : (x.toUInt32 % 65536).toInt32 = v) (k : PW X (pc + 1) L (.int v :: st) h kc ks) : PW X pc L (.int x :: st) h kc ks := fun a H locs ls S => lv_i2c hX.x hX.b hd hv (k a H locs ls S)
theorem PW.i2b (hX : Fx X cc own ret d mc ms) {x v : Int32} (hd : decode cc pc = .ok (.i2b, 1)) (hv : x.toInt8.toInt32 = v) (k : PW X (pc + 1) L (.int v :: st) h kc ks) : PW X pc L (.int x :: st) h kc ks := fun a H locs ls S => lv_i2b hX.x hX.b hd hv (k a H locs ls S)
theorem PW.dup (hX : Fx X cc own ret d mc ms) {v : Value} (hd : decode cc pc = .ok (.dup, 1)) (hv : v.category = 1) (k : PW X (pc + 1) L (v :: v :: st) h kc ks) : PW X pc L (v :: st) h kc ks := fun a H locs ls S => lv_dup hX.x hX.b hd (by rw [tV_cat]; exact hv) (k a H locs ls S)
theorem PW.dup2 (hX : Fx X cc own ret d mc ms) {v w : Value} (hd : decode cc pc = .ok (.dup2, 1)) (hv : v.category = 1) (hw : w.category = 1) (k : PW X (pc + 1) L (v :: w :: v :: w :: st) h kc ks) : PW X pc L (v :: w :: st) h kc ks := fun a H locs ls S => lv_dup2_11 hX.x hX.b hd (by rw [tV_cat]; exact hv) (by rw [tV_cat]; exact hw) (k a H locs ls S)
theorem PW.pop (hX : Fx X cc own ret d mc ms) {v : Value} (hd : decode cc pc = .ok (.pop, 1)) (hv : v.category = 1) (k : PW X (pc + 1) L st h kc ks) : PW X pc L (v :: st) h kc ks := fun a H locs ls S => lv_pop hX.x hX.b hd (by rw [tV_cat]; exact hv) (k a H locs ls S)
theorem PW.goto (hX : Fx X cc own ret d mc ms) {off : Int} {tgt : Nat} (hd : decode cc pc = .ok (.goto off, 3)) (ht : (pc : Int) + off = (tgt : Int)) (k : PW X tgt L st h kc ks) : PW X pc L st h kc ks := fun a H locs ls S => lv_goto hX.x hX.b hd ht (k a H locs ls S)
theorem PW.if_eq (hX : Fx X cc own ret d mc ms) {x : Int32} {off : Int} {tgt : Nat} (hd : decode cc pc = .ok (.ifCond .eq off, 3)) (ht : (pc : Int) + off = (tgt : Int)) (kt : x = 0 → PW X tgt L st h kc ks) (kf : ¬ x = 0 → PW X (pc + 3) L st h kc ks) : PW X pc L (.int x :: st) h kc ks := fun a H locs ls S => lv_if_eq hX.x hX.b hd ht (fun c => kt c a H locs ls S) (fun c => kf c a H locs ls S)
theorem PW.if_ne (hX : Fx X cc own ret d mc ms) {x : Int32} {off : Int} {tgt : Nat} (hd : decode cc pc = .ok (.ifCond .ne off, 3)) (ht : (pc : Int) + off = (tgt : Int)) (kt : ¬ x = 0 → PW X tgt L st h kc ks) (kf : x = 0 → PW X (pc + 3) L st h kc ks) : PW X pc L (.int x :: st) h kc ks := fun a H locs ls S => lv_if_ne hX.x hX.b hd ht (fun c => kt c a H locs ls S) (fun c => kf c a H locs ls S)
theorem PW.if_lt (hX : Fx X cc own ret d mc ms) {x : Int32} {off : Int} {tgt : Nat} (hd : decode cc pc = .ok (.ifCond .lt off, 3)) (ht : (pc : Int) + off = (tgt : Int)) (kt : x < 0 → PW X tgt L st h kc ks) (kf : ¬ x < 0 → PW X (pc + 3) L st h kc ks) : PW X pc L (.int x :: st) h kc ks := fun a H locs ls S => lv_if_lt hX.x hX.b hd ht (fun c => kt c a H locs ls S) (fun c => kf c a H locs ls S)
theorem PW.if_ge (hX : Fx X cc own ret d mc ms) {x : Int32} {off : Int} {tgt : Nat} (hd : decode cc pc = .ok (.ifCond .ge off, 3)) (ht : (pc : Int) + off = (tgt : Int)) (kt : 0 ≤ x → PW X tgt L st h kc ks) (kf : ¬ 0 ≤ x → PW X (pc + 3) L st h kc ks) : PW X pc L (.int x :: st) h kc ks := fun a H locs ls S => lv_if_ge hX.x hX.b hd ht (fun c => kt c a H locs ls S) (fun c => kf c a H locs ls S)
theorem PW.if_gt (hX : Fx X cc own ret d mc ms) {x : Int32} {off : Int} {tgt : Nat} (hd : decode cc pc = .ok (.ifCond .gt off, 3)) (ht : (pc : Int) + off = (tgt : Int)) (kt : 0 < x → PW X tgt L st h kc ks) (kf : ¬ 0 < x → PW X (pc + 3) L st h kc ks) : PW X pc L (.int x :: st) h kc ks := fun a H locs ls S => lv_if_gt hX.x hX.b hd ht (fun c => kt c a H locs ls S) (fun c => kf c a H locs ls S)
theorem PW.if_le (hX : Fx X cc own ret d mc ms) {x : Int32} {off : Int} {tgt : Nat} (hd : decode cc pc = .ok (.ifCond .le off, 3)) (ht : (pc : Int) + off = (tgt : Int)) (kt : x ≤ 0 → PW X tgt L st h kc ks) (kf : ¬ x ≤ 0 → PW X (pc + 3) L st h kc ks) : PW X pc L (.int x :: st) h kc ks := fun a H locs ls S => lv_if_le hX.x hX.b hd ht (fun c => kt c a H locs ls S) (fun c => kf c a H locs ls S)
theorem PW.icmp_eq (hX : Fx X cc own ret d mc ms) {x y : Int32} {off : Int} {tgt : Nat} (hd : decode cc pc = .ok (.if_icmp .eq off, 3)) (ht : (pc : Int) + off = (tgt : Int)) (kt : x = y → PW X tgt L st h kc ks) (kf : ¬ x = y → PW X (pc + 3) L st h kc ks) : PW X pc L (.int y :: .int x :: st) h kc ks := fun a H locs ls S => lv_icmp_eq hX.x hX.b hd ht (fun c => kt c a H locs ls S) (fun c => kf c a H locs ls S)
theorem PW.icmp_ne (hX : Fx X cc own ret d mc ms) {x y : Int32} {off : Int} {tgt : Nat} (hd : decode cc pc = .ok (.if_icmp .ne off, 3)) (ht : (pc : Int) + off = (tgt : Int)) (kt : ¬ x = y → PW X tgt L st h kc ks) (kf : x = y → PW X (pc + 3) L st h kc ks) : PW X pc L (.int y :: .int x :: st) h kc ks := fun a H locs ls S => lv_icmp_ne hX.x hX.b hd ht (fun c => kt c a H locs ls S) (fun c => kf c a H locs ls S)
theorem PW.icmp_lt (hX : Fx X cc own ret d mc ms) {x y : Int32} {off : Int} {tgt : Nat} (hd : decode cc pc = .ok (.if_icmp .lt off, 3)) (ht : (pc : Int) + off = (tgt : Int)) (kt : x < y → PW X tgt L st h kc ks) (kf : ¬ x < y → PW X (pc + 3) L st h kc ks) : PW X pc L (.int y :: .int x :: st) h kc ks := fun a H locs ls S => lv_icmp_lt hX.x hX.b hd ht (fun c => kt c a H locs ls S) (fun c => kf c a H locs ls S)
theorem PW.icmp_ge (hX : Fx X cc own ret d mc ms) {x y : Int32} {off : Int} {tgt : Nat} (hd : decode cc pc = .ok (.if_icmp .ge off, 3)) (ht : (pc : Int) + off = (tgt : Int)) (kt : y ≤ x → PW X tgt L st h kc ks) (kf : ¬ y ≤ x → PW X (pc + 3) L st h kc ks) : PW X pc L (.int y :: .int x :: st) h kc ks := fun a H locs ls S => lv_icmp_ge hX.x hX.b hd ht (fun c => kt c a H locs ls S) (fun c => kf c a H locs ls S)
theorem PW.icmp_gt (hX : Fx X cc own ret d mc ms) {x y : Int32} {off : Int} {tgt : Nat} (hd : decode cc pc = .ok (.if_icmp .gt off, 3)) (ht : (pc : Int) + off = (tgt : Int)) (kt : y < x → PW X tgt L st h kc ks) (kf : ¬ y < x → PW X (pc + 3) L st h kc ks) : PW X pc L (.int y :: .int x :: st) h kc ks := fun a H locs ls S => lv_icmp_gt hX.x hX.b hd ht (fun c => kt c a H locs ls S) (fun c => kf c a H locs ls S)
theorem PW.icmp_le (hX : Fx X cc own ret d mc ms) {x y : Int32} {off : Int} {tgt : Nat} (hd : decode cc pc = .ok (.if_icmp .le off, 3)) (ht : (pc : Int) + off = (tgt : Int)) (kt : x ≤ y → PW X tgt L st h kc ks) (kf : ¬ x ≤ y → PW X (pc + 3) L st h kc ks) : PW X pc L (.int y :: .int x :: st) h kc ks := fun a H locs ls S => lv_icmp_le hX.x hX.b hd ht (fun c => kt c a H locs ls S) (fun c => kf c a H locs ls S)
theorem PW.tableIn (hX : Fx X cc own ret d mc ms) {dflt lo hi : Int} {offs : Array Int} {len : Nat} {x : Int32} {off : Int} {tgt : Nat} (hd : decode cc pc = .ok (.tableswitch dflt lo hi offs, len)) (h1 : ¬ x.toInt < lo) (h2 : ¬ hi < x.toInt) (ho : offs[(x.toInt - lo).toNat]? = some off) (ht : (pc : Int) + off = (tgt : Int)) (k : PW X tgt L st h kc ks) : PW X pc L (.int x :: st) h kc ks := fun a H locs ls S => lv_tableIn hX.x hX.b hd h1 h2 ho ht (k a H locs ls S)
theorem PW.tableOut (hX : Fx X cc own ret d mc ms) {dflt lo hi : Int} {offs : Array Int} {len : Nat} {x : Int32} {tgt : Nat} (hd : decode cc pc = .ok (.tableswitch dflt lo hi offs, len)) (hx : x.toInt < lo ∨ hi < x.toInt) (ht : (pc : Int) + dflt = (tgt : Int)) (k : PW X tgt L st h kc ks) : PW X pc L (.int x :: st) h kc ks := fun a H locs ls S => lv_tableOut hX.x hX.b hd hx ht (k a H locs ls S)
theorem PW.lookup (hX : Fx X cc own ret d mc ms) {dflt : Int} {ps : Array (Int × Int)} {len : Nat} {x : Int32} {off : Int} {tgt : Nat} (hd : decode cc pc = .ok (.lookupswitch dflt ps, len)) (hp : (ps.toList.zip (ps.toList.drop 1)).all (fun (a, next) => a.1 < next.1) = true) (ho : Op.lookupswitch.offset ps.toList dflt x.toInt = off) (ht : (pc : Int) + off = (tgt : Int)) (k : PW X tgt L st h kc ks) : PW X pc L (.int x :: st) h kc ks := fun a H locs ls S => lv_lookup hX.x hX.b hd hp ho ht (k a H locs ls S)
/-- rewriting the top, the locals, the heap -/
theorem PW.top {x y : Int32} (e : x = y) (k : PW X pc L (.int y :: st) h kc ks) : PW X pc L (.int x :: st) h kc ks := e ▸ k
theorem PW.heap {h' : List PCell} (e : h = h') (k : PW X pc L st h' kc ks) : PW X pc L st h kc ks := e ▸ k
theorem PW.eq {L' : List (Option Value)} {st' : List Value} {h' : List PCell} (k : PW X pc L' st' h' kc ks) (e1 : L = L') (e2 : st = st') (e3 : h = h') : PW X pc L st h kc ks := by subst e1; subst e2; subst e3; exact k
theorem PW.widen {kc' ks' : Nat} (h1 : kc ≤ kc') (h2 : ks ≤ ks') (k : PW X pc L st h kc' ks') : PW X pc L st h kc ks := fun a H locs ls S => W.widen h1 h2 (k a H locs ls S)
theorem Sm.forget {a : Nat → Nat} {H : Heap} {locs : List Loc} {ls : Array Slot} (n : Nat) (S : Sm X a H locs ls L h) : Sm X a H locs ls L (h.take n) := by
  have key : ∀ (k : Nat) (q : Nat × va_E), (tW (cxk X) a (h.take n))[k]? = some q → (tW (cxk X) a h)[k]? = some q := by
    intro k q hk
    obtain ⟨c, h1, rfl⟩ := tW_of hk
    rw [List.getElem?_take] at h1
    split at h1
    · exact tW_at h1
    · cases h1
  exact ⟨fun k q hk => S.1 k q (key k q hk), ⟨fun i j p q hi hj e => S.2.1.1 i j p q (key i p hi) (key j q hj) e, fun k q hk => S.2.1.2 k q (key k q hk)⟩, S.2.2⟩
theorem PW.forget (n : Nat) (k : PW X pc L st (h.take n) kc ks) : PW X pc L st h kc ks := fun a H locs ls S => k a H locs ls (S.forget n)
/-! fields -/
def FL (own : String) (idx ci k : Nat) : Prop := ∃ (C : String) (T : u_T) (N : Nat), vwCl[ci]? = some (C, T, N) ∧ k < N ∧ (∀ w ∈ u_ws C T N, w ∈ AW) ∧ Cond.fieldLink own idx (T k).1 (T k).2.1 (T k).2.2.1 ∈ AW
def FP (own : String) (idx ci k : Nat) (ty : FieldType) (fin : Bool) : Prop := ∃ (C : String) (T : u_T) (N : Nat) (ty0 : Nat → FieldType), vwCl[ci]? = some (C, T, N) ∧ k < N ∧ (∀ w ∈ u_ws C T N, w ∈ AW) ∧ Cond.fieldLink own idx (T k).1 (T k).2.1 (T k).2.2.1 ∈ AW ∧ (∀ k, k < N → parseFieldDescriptor (T k).2.2.1 = some (ty0 k)) ∧ (∀ a, a < N → ∀ b, b < N → a ≠ b → (T a).2.1 ≠ (T b).2.1) ∧ ty0 k = ty ∧ (T k).2.2.2 = fin ∧ (fin = true → (T k).1 = own)
theorem PW.getfield (hX : Fx X cc own ret d mc ms) {idx ci k i : Nat} {fs : List Value} {v : Value} (hf : FL own idx ci k) (hd : decode cc pc = .ok (.getfield idx, 3)) (he : h[i]? = some (.inr (ci, fs))) (hv : fs[k]? = some v) (kk : PW X (pc + 3) L (v :: st) h kc ks) : PW X pc L (.ref i :: st) h kc ks := by
  obtain ⟨C, T, N, hc, hk, hin, hl⟩ := hf
  intro a H locs ls S
  exact va_get (D := cxD X) hX.x hX.b hX.ts hin hX.ow hX.K.1 S.1 i (tW_at he) hc k hk (hX.ts _ hl) (fun _ h => h) (by rw [List.getElem?_map, hv]; rfl) hd (kk a H locs ls S)
theorem tC_put {ca : Nat → ClassId} {a : Nat → Nat} (ci k : Nat) (fs : List Value) (v : Value) : (Sum.inr (ci, (fs.map (tV a)).set k (tV a v)) : va_E) = tC ca a (.inr (ci, fs.set k v)) := by
  simp [tC, List.map_set]
theorem Sm.put {a : Nat → Nat} {H H1 : Heap} {locs locs1 : List Loc} {ls : Array Slot} (S : Sm X a H locs ls L h) {i : Nat} {c : PCell} (h1 : va_P (cxD X) vwCl ((tW (cxk X) a h).set i (a i, tC (cxk X) a c)) H1) (h2 : va_D (cxA X) ((tW (cxk X) a h).set i (a i, tC (cxk X) a c))) (h3 : va_S (cxA X) (cxs X).heap H1 locs1) : Sm X a H1 locs1 ls L (h.set i c) := by
  rw [tW_set] at h1 h2
  exact ⟨h1, h2, h3, S.2.2.2⟩
theorem PW.putV (hX : Fx X cc own ret d mc ms) {idx ci k i : Nat} {ty : FieldType} {fs : List Value} {v : Value} (hf : FP own idx ci k ty false) (hd : decode cc pc = .ok (.putfield idx, 3)) (hn : ∀ a, narrow ty (tV a v) = tV a v ∧ fits ty (tV a v) = true) (he : h[i]? = some (.inr (ci, fs))) (hv : Nat.blt k fs.length = true) (kk : PW X (pc + 3) L st (h.set i (.inr (ci, fs.set k v))) kc ks) : PW X pc L (v :: .ref i :: st) h kc ks := by
  obtain ⟨C, T, N, ty0, hc, hk, hin, hl, hty, hnm, e1, e2, e3⟩ := hf
  intro a H locs ls S
  refine va_put (D := cxD X) (ty := ty) hX.x hX.b hX.ts hin ty0 hty hnm hX.ow hX.K.1 S.1 S.2.1 S.2.2.1 i (tW_at he) hc k hk (hX.ts _ hl) (fun _ h => h) e2 (by rw [hty k hk, e1]) (hn a).1 (hn a).2 (by rw [List.length_map]; exact Nat.blt_eq.mp hv) hd (fun H1 locs1 h1 h2 h3 => ?_)
  rw [tC_put (ca := cxk X)] at h1 h2
  exact kk a H1 locs1 ls (S.put h1 h2 h3)
theorem PW.putI (hX : Fx X cc own ret d mc ms) {idx ci k i : Nat} {fs : List Value} {x : Int32} (hf : FP own idx ci k .int false) (hd : decode cc pc = .ok (.putfield idx, 3)) (he : h[i]? = some (.inr (ci, fs))) (hv : Nat.blt k fs.length = true) (kk : PW X (pc + 3) L st (h.set i (.inr (ci, fs.set k (.int x)))) kc ks) : PW X pc L (.int x :: .ref i :: st) h kc ks := PW.putV hX hf hd (fun a => ⟨rfl, rfl⟩) he hv kk
theorem PW.putZ (hX : Fx X cc own ret d mc ms) {idx ci k i : Nat} {fs : List Value} {x : Int32} (hf : FP own idx ci k .boolean false) (hd : decode cc pc = .ok (.putfield idx, 3)) (hx : x = 0 ∨ x = 1) (he : h[i]? = some (.inr (ci, fs))) (hv : Nat.blt k fs.length = true) (kk : PW X (pc + 3) L st (h.set i (.inr (ci, fs.set k (.int x)))) kc ks) : PW X pc L (.int x :: .ref i :: st) h kc ks := PW.putV hX hf hd (fun a => by rcases hx with rfl | rfl <;> exact ⟨rfl, rfl⟩) he hv kk
theorem PW.putF (hX : Fx X cc own ret d mc ms) {idx ci k i : Nat} {ty : FieldType} {fs : List Value} {v : Value} (hf : FP own idx ci k ty true) (hin2 : (cxM X).name = "<init>") (hd : decode cc pc = .ok (.putfield idx, 3)) (hn : ∀ a, narrow ty (tV a v) = tV a v ∧ fits ty (tV a v) = true) (he : h[i]? = some (.inr (ci, fs))) (hv : Nat.blt k fs.length = true) (kk : PW X (pc + 3) L st (h.set i (.inr (ci, fs.set k v))) kc ks) : PW X pc L (v :: .ref i :: st) h kc ks := by
  obtain ⟨C, T, N, ty0, hc, hk, hin, hl, hty, hnm, e1, e2, e3⟩ := hf
  intro a H locs ls S
  refine va_putF (D := cxD X) (ty := ty) hX.x hX.b hX.ts hin ty0 hty hnm hX.ow hX.K.1 S.1 S.2.1 S.2.2.1 i (tW_at he) hc k hk (hX.ts _ hl) (fun _ h => h) e2 hin2 (e3 rfl) (by rw [hty k hk, e1]) (hn a).1 (hn a).2 (by rw [List.length_map]; exact Nat.blt_eq.mp hv) hd (fun H1 locs1 h1 h2 h3 => ?_)
  rw [tC_put (ca := cxk X)] at h1 h2
  exact kk a H1 locs1 ls (S.put h1 h2 h3)
/-! arrays -/
theorem PW.iaload (hX : Fx X cc own ret d mc ms) {i n k : Nat} {f : Nat → Int32} {j : Int32} (hd : decode cc pc = .ok (.iaload, 1)) (he : h[i]? = some (.inl (0, n, f))) (hn : Nat.blt n 2147483648 = true) (hj : j = nI k) (hk : k < n) (kk : PW X (pc + 1) L (.int (f k) :: st) h kc ks) : PW X pc L (.int j :: .ref i :: st) h kc ks := by
  subst hj
  intro a H locs ls S
  have hn := Nat.blt_eq.mp hn
  have := kk a H locs ls S
  refine va_iald (D := cxD X) hX.x hX.b hX.K.1 S.1 i 0 (tW_at he) rfl (vp_in_nI hk hn) hd ?_
  rw [nI_clamp (by omega)]
  exact this
theorem PW.caload (hX : Fx X cc own ret d mc ms) {i n k : Nat} {f : Nat → Int32} {j : Int32} (hd : decode cc pc = .ok (.caload, 1)) (he : h[i]? = some (.inl (1, n, f))) (hn : Nat.blt n 2147483648 = true) (hj : j = nI k) (hk : k < n) (kk : PW X (pc + 1) L (.int (f k) :: st) h kc ks) : PW X pc L (.int j :: .ref i :: st) h kc ks := by
  subst hj
  intro a H locs ls S
  have hn := Nat.blt_eq.mp hn
  have := kk a H locs ls S
  refine va_cald (D := cxD X) hX.x hX.b hX.K.1 S.1 i 1 (tW_at he) rfl (vp_in_nI hk hn) hd ?_
  rw [nI_clamp (by omega)]
  exact this
theorem PW.baload (hX : Fx X cc own ret d mc ms) {i n k : Nat} {f : Nat → Int32} {j : Int32} (hd : decode cc pc = .ok (.baload, 1)) (he : h[i]? = some (.inl (2, n, f))) (hn : Nat.blt n 2147483648 = true) (hj : j = nI k) (hk : k < n) (kk : PW X (pc + 1) L (.int (f k) :: st) h kc ks) : PW X pc L (.int j :: .ref i :: st) h kc ks := by
  subst hj
  intro a H locs ls S
  have hn := Nat.blt_eq.mp hn
  have := kk a H locs ls S
  refine va_zald (D := cxD X) hX.x hX.b hX.K.1 S.1 i 2 (tW_at he) rfl (vp_in_nI hk hn) hd ?_
  rw [nI_clamp (by omega)]
  exact this
theorem PW.iastore (hX : Fx X cc own ret d mc ms) {i n k : Nat} {f : Nat → Int32} {j x : Int32} (hd : decode cc pc = .ok (.iastore, 1)) (he : h[i]? = some (.inl (0, n, f))) (hn : Nat.blt n 2147483648 = true) (hj : j = nI k) (hk : k < n) (kk : PW X (pc + 1) L st (h.set i (.inl (0, n, upd f k x))) kc ks) : PW X pc L (.int x :: .int j :: .ref i :: st) h kc ks := by
  subst hj
  intro a H locs ls S
  have hn := Nat.blt_eq.mp hn
  refine va_iast (D := cxD X) hX.x hX.b hX.K.1 S.1 S.2.1 S.2.2.1 i 0 (tW_at he) rfl (vp_in_nI hk hn) hd (fun H1 locs1 h1 h2 h3 => ?_)
  rw [nI_clamp (by omega)] at h1 h2
  exact kk a H1 locs1 ls (S.put (c := .inl (0, n, upd f k x)) h1 h2 h3)
theorem PW.castore (hX : Fx X cc own ret d mc ms) {i n k : Nat} {f : Nat → Int32} {j x : Int32} (hd : decode cc pc = .ok (.castore, 1)) (he : h[i]? = some (.inl (1, n, f))) (hn : Nat.blt n 2147483648 = true) (hj : j = nI k) (hk : k < n) (kk : PW X (pc + 1) L st (h.set i (.inl (1, n, upd f k (vp_nar .char x)))) kc ks) : PW X pc L (.int x :: .int j :: .ref i :: st) h kc ks := by
  subst hj
  intro a H locs ls S
  have hn := Nat.blt_eq.mp hn
  refine va_cast (D := cxD X) hX.x hX.b hX.K.1 S.1 S.2.1 S.2.2.1 i 1 (tW_at he) rfl (vp_in_nI hk hn) hd (fun H1 locs1 h1 h2 h3 => ?_)
  rw [nI_clamp (by omega)] at h1 h2
  exact kk a H1 locs1 ls (S.put (c := .inl (1, n, upd f k (vp_nar .char x))) h1 h2 h3)
theorem PW.bastore (hX : Fx X cc own ret d mc ms) {i n k : Nat} {f : Nat → Int32} {j x : Int32} (hd : decode cc pc = .ok (.bastore, 1)) (he : h[i]? = some (.inl (2, n, f))) (hn : Nat.blt n 2147483648 = true) (hj : j = nI k) (hk : k < n) (kk : PW X (pc + 1) L st (h.set i (.inl (2, n, upd f k (vp_nar .boolean x)))) kc ks) : PW X pc L (.int x :: .int j :: .ref i :: st) h kc ks := by
  subst hj
  intro a H locs ls S
  have hn := Nat.blt_eq.mp hn
  refine va_zast (D := cxD X) hX.x hX.b hX.K.1 S.1 S.2.1 S.2.2.1 i 2 (tW_at he) rfl (vp_in_nI hk hn) hd (fun H1 locs1 h1 h2 h3 => ?_)
  rw [nI_clamp (by omega)] at h1 h2
  exact kk a H1 locs1 ls (S.put (c := .inl (2, n, upd f k (vp_nar .boolean x))) h1 h2 h3)
theorem PW.alen (hX : Fx X cc own ret d mc ms) {i t n : Nat} {f : Nat → Int32} (hd : decode cc pc = .ok (.arraylength, 1)) (he : h[i]? = some (.inl (t, n, f))) (ht : Nat.blt t 3 = true) (kk : PW X (pc + 1) L (.int (nI n) :: st) h kc ks) : PW X pc L (.ref i :: st) h kc ks := by
  intro a H locs ls S
  have ht := Nat.blt_eq.mp ht
  have e : ∃ ty, (tys3 (cxk X))[t]? = some (cxk X t, ty) := by
    rcases (show t = 0 ∨ t = 1 ∨ t = 2 by omega) with rfl | rfl | rfl <;> exact ⟨_, rfl⟩
  obtain ⟨ty, e⟩ := e
  exact va_alen (D := cxD X) hX.x hX.b hX.K.1 S.1 i t (tW_at he) e rfl hd (kk a H locs ls S)
end Rules
theorem awp {i : Nat} {w : Cond} (h : (k2_sels lw_privs)[i]? = some w) (hg : goodWord w = true) : w ∈ AW := List.mem_filter.mpr ⟨List.mem_append_left _ (List.mem_of_getElem? h), hg⟩
theorem aw_t {w : Cond} (h : w ∈ tables_1) (hg : goodWord w = true) : w ∈ AW := List.mem_filter.mpr ⟨List.mem_append_right _ h, hg⟩
theorem aw1 {i : Nat} {w : Cond} (h : tables_1_1[i]? = some w) (hg : goodWord w = true) : w ∈ AW := aw_t (List.mem_append_left _ (List.mem_of_getElem? h)) hg
theorem aw2 {i : Nat} {w : Cond} (h : tables_1_2[i]? = some w) (hg : goodWord w = true) : w ∈ AW := aw_t (List.mem_append_right _ (List.mem_append_left _ (List.mem_of_getElem? h))) hg
theorem aw3 {i : Nat} {w : Cond} (h : tables_1_3[i]? = some w) (hg : goodWord w = true) : w ∈ AW := aw_t (List.mem_append_right _ (List.mem_append_right _ (List.mem_append_left _ (List.mem_of_getElem? h)))) hg
theorem aw4 {i : Nat} {w : Cond} (h : tables_1_4[i]? = some w) (hg : goodWord w = true) : w ∈ AW := aw_t (List.mem_append_right _ (List.mem_append_right _ (List.mem_append_right _ (List.mem_append_left _ (List.mem_of_getElem? h))))) hg
theorem aw5 {i : Nat} {w : Cond} (h : tables_1_5[i]? = some w) (hg : goodWord w = true) : w ∈ AW := aw_t (List.mem_append_right _ (List.mem_append_right _ (List.mem_append_right _ (List.mem_append_right _ (List.mem_of_getElem? h))))) hg
theorem AW_in : ∀ w ∈ AW, w ∈ lw_tbl := fun w h => (List.mem_filter.mp h).1
theorem AW_good : ∀ w ∈ AW, (w.onTables && w.keeps) = true ∨ ∃ ty, w = .arrayClass ty := fun w h => good_of_word (List.mem_filter.mp h).2
/-! methods -/
abbrev MI : Type := MethodName × ByteArray × Nat × Option FieldType
def MB (μ : MI) (n : Nat) : Prop := μ.1.cls ≠ "java/lang/invoke/MethodHandle" ∧ μ.1.cls ≠ "java/lang/invoke/VarHandle" ∧ (parseMethodDescriptor μ.1.desc).map (fun d => d.parameters.length) = some n
def MSV (own : String) (idx : Nat) (μ : MI) (n : Nat) : Prop := Cond.methodLink own idx μ.1 ∈ AW ∧ Cond.initialized μ.1.cls ∈ AW ∧ Cond.code μ.1 μ.2.1 μ.2.2.1 μ.2.2.2 ∈ AW ∧ MB μ n ∧ μ.2.2.1 ≤ 13 ∧ Cond.instanceMethod μ.1 ∈ AW ∧ Cond.selects μ.1.cls μ.1 μ.1 ∈ AW
def MSS (own : String) (idx : Nat) (μ : MI) (n : Nat) : Prop := Cond.methodLink own idx μ.1 ∈ AW ∧ Cond.initialized μ.1.cls ∈ AW ∧ Cond.code μ.1 μ.2.1 μ.2.2.1 μ.2.2.2 ∈ AW ∧ MB μ n ∧ μ.2.2.1 ≤ 13 ∧ Cond.static μ.1 ∈ AW
def MNS (own : String) (idx : Nat) (μ : MI) (n : Nat) : Prop := Cond.methodLinkNest own idx μ.1 RX6 ∈ nestW ∧ Cond.initialized μ.1.cls ∈ AW ∧ Cond.code μ.1 μ.2.1 μ.2.2.1 μ.2.2.2 ∈ AW ∧ MB μ n ∧ μ.2.2.1 ≤ 13 ∧ Cond.static μ.1 ∈ AW
def MSI (own : String) (idx : Nat) (μ : MI) (n : Nat) : Prop := Cond.methodLink own idx μ.1 ∈ AW ∧ Cond.initialized μ.1.cls ∈ AW ∧ Cond.code μ.1 μ.2.1 μ.2.2.1 μ.2.2.2 ∈ AW ∧ MB μ n ∧ μ.2.2.1 ≤ 13 ∧ μ.1.name = "<init>" ∧ Cond.instanceMethod μ.1 ∈ AW
def MNI (own : String) (idx : Nat) (μ : MI) (n : Nat) : Prop := Cond.methodLinkNest own idx μ.1 RX6 ∈ nestW ∧ Cond.initialized μ.1.cls ∈ AW ∧ Cond.code μ.1 μ.2.1 μ.2.2.1 μ.2.2.2 ∈ AW ∧ MB μ n ∧ μ.2.2.1 ≤ 13 ∧ μ.1.name = "<init>" ∧ Cond.instanceMethod μ.1 ∈ AW
def rmd (d mc ms : Nat) : Room := { frames := d, cells := mc, slots := ms, locals := 32 * d }
def pmP (D : va_G) (ca : Nat → ClassId) (a : Nat → Nat) (sz : Nat) (as : List Value) (h : List PCell) : Array Value → State → Prop :=
  va_Pc (as.map (tV a)) (fun U => U.heap.size = sz ∧ va_P D vwCl (tW ca a h) U.heap ∧ KK D ca a (va_A (tW ca a h) sz) U U.heap ∧ va_D (fun _ => True) (tW ca a h))
def pmQ (D : va_G) (ca : Nat → ClassId) (a0 : Nat → Nat) (sz : Nat) (h : List PCell) (Φ : Option Value → List PCell → Prop) : Array Value → State → Outcome → State → Prop := fun _ st oc t =>
  (∃ (r : Option Value) (h' : List PCell) (a : Nat → Nat), oc = .returned (r.map (tV a)) ∧ Φ r h' ∧ (∀ i, i < h.length ∨ 1000 ≤ i → a i = a0 i) ∧ va_P D vwCl (tW ca a h') t.heap ∧ va_D (va_A (tW ca a0 h) sz) (tW ca a h')) ∧ va_F (va_A (tW ca a0 h) sz) st t
def PM (μ : MI) (d mc ms : Nat) (as : List Value) (h : List PCell) (Φ : Option Value → List PCell → Prop) : Prop :=
  ∀ (l : Launch) (D : va_G) (ca : Nat → ClassId) (a : Nat → Nat) (sz : Nat), Met l μ.1 (Cond.code μ.1 μ.2.1 μ.2.2.1 μ.2.2.2 :: AW) (rmd d mc ms) (pmP D ca a sz as h) (pmQ D ca a sz h Φ) mc ms (va_A (tW ca a h) sz)
/-- at a return -/
def RT (X : Cx) (Φ : Option Value → List PCell → Prop) (mc ms : Nat) : Prop := ∃ h0 : List PCell, cxQ X = MQ (cxb X) (pmQ (cxD X) (cxk X) (cxa X) (cxs X).heap.size h0 Φ) (cxg X) (cxs X) mc ms (cxA X) ∧ cxA X = va_A (tW (cxk X) (cxa X) h0) (cxs X).heap.size ∧ cxn X = h0.length
theorem lvA_mem : ∀ (vs : List Value) (k : Nat), (∀ v ∈ vs, v.category = 1) → ∀ (i : Nat) (v : Value), vs[i]? = some v → (k + i, v) ∈ lv_args k vs
  | [], k, _, i, v, h => by simp at h
  | w :: vs, k, hc, i, v, h => by
    have hw : ¬ w.category = 2 := by rw [hc w List.mem_cons_self]; decide
    rw [lv_args, if_neg hw]
    cases i with
    | zero =>
      simp only [List.getElem?_cons_zero, Option.some.injEq] at h
      subst h
      exact List.mem_cons_self
    | succ i =>
      rw [List.getElem?_cons_succ] at h
      have := lvA_mem vs (k + 1) (fun v hv => hc v (List.mem_cons_of_mem _ hv)) i v h
      rw [show k + (i + 1) = k + 1 + i by omega]
      exact List.mem_cons_of_mem _ this
theorem lgS_len : ∀ (vs : List Value), (∀ v ∈ vs, v.category = 1) → (lg_sl vs).length = vs.length
  | [], _ => rfl
  | w :: vs, hc => by
    have hw : ¬ w.category = 2 := by rw [hc w List.mem_cons_self]; decide
    have ih := lgS_len vs (fun v hv => hc v (List.mem_cons_of_mem _ hv))
    simp only [lg_sl, List.flatMap_cons, if_neg hw] at ih ⊢
    simp only [List.length_append, List.length_cons, List.length_nil, ih]
    omega
/-- a method from its entry -/
theorem PM.start {μ : MI} {d mc ms : Nat} {as : List Value} {h : List PCell} {Φ : Option Value → List PCell → Prop} {L : List (Option Value)} (hy : plainName μ.1.cls = true) (hc : as.all (fun v => v.category == 1) = true) (hn : Nat.ble as.length μ.2.2.1 = true) (hL : L = as.map some ++ List.replicate (μ.2.2.1 - as.length) none)
    (body : ∀ X : Cx, Fx X μ.2.1 μ.1.cls μ.2.2.2 d mc ms → RT X Φ mc ms → cxn X = h.length → (cxM X).name = μ.1.name → PW X 0 L [] h 0 0) : PM μ d mc ms as h Φ := by
  intro l D ca a sz
  refine Met.ofW (cc := μ.2.1) (maxL := μ.2.2.1) (ret := μ.2.2.2) hy rfl ?_
  intro p e s m args below meth c s₁ B hml hv
  obtain ⟨rfl, hsz, hP, hK, hD0⟩ := hv
  subst hsz
  have hts := atoms_spec (ws := Cond.code μ.1 μ.2.1 μ.2.2.1 μ.2.2.2 :: AW) B.pre
  have hcat : ∀ v ∈ as.map (tV a), v.category = 1 := by
    intro v hv
    obtain ⟨w, hw, rfl⟩ := List.mem_map.mp hv
    rw [tV_cat]
    simpa using List.all_eq_true.mp hc w hw
  have hle : (lg_sl (as.map (tV a))).length ≤ μ.2.2.1 := by
    rw [lgS_len _ hcat, List.length_map]; exact Nat.ble_eq.mp hn
  have hl := lv_entry (as.map (tV a)) (n := μ.2.2.1) hle
  rw [lg_entry_eq]
  generalize (lg_sl (as.map (tV a)) ++ List.replicate (μ.2.2.1 - (lg_sl (as.map (tV a))).length) Slot.unset).toArray = ls at hl ⊢
  refine body ((p, l, e, rmd d mc ms), (s, m, (as.map (tV a)).toArray, below), (meth, c), (D, ca, va_A (tW ca a h) s.heap.size, MQ below (pmQ D ca a s.heap.size h Φ) (as.map (tV a)).toArray s mc ms (va_A (tW ca a h) s.heap.size)), (a, h.length, μ.2.2.1)) ⟨B.exec, B.bytes, hml, findClass_of_methodNamed B.named, fun w hw => hts w (List.mem_cons_of_mem _ hw), B.returns, B.notSynchronized, hK, fun q hq => Or.inr hq, Nat.le_refl _, Nat.le_refl _, Nat.le_refl _, Nat.le_refl _⟩ ⟨h, rfl, rfl, rfl⟩ rfl (name_of_methodNamed B.named B.method).1 a s.heap [] ls ⟨hP, hD0.self, va_S.rf, fun _ _ => rfl, hl.1, ?_, hl.2.1, ?_⟩
  · have := Nat.ble_eq.mp hn
    rw [hL]
    simp only [List.length_append, List.length_map, List.length_replicate]
    show as.length + (μ.2.2.1 - as.length) = μ.2.2.1
    omega
  · intro i v hi
    rw [hL, List.getElem?_append] at hi
    split at hi
    · simp only [List.getElem?_map, Option.map_eq_some_iff] at hi
      obtain ⟨w, hw, e⟩ := hi
      cases e
      refine ⟨by simpa using List.all_eq_true.mp hc v (List.mem_of_getElem? hw), ?_⟩
      have := lvA_mem (as.map (tV a)) 0 hcat i (tV a v) (by simp [hw])
      rw [Nat.zero_add] at this
      exact hl.2.2 _ this
    · simp only [List.getElem?_replicate] at hi
      split at hi
      · cases hi
      · cases hi
section Ret
variable {X : Cx} {cc : ByteArray} {own : String} {ret : Option FieldType} {d mc ms mx sx : Nat} {pc : Nat} {L : List (Option Value)} {st : List Value} {h : List PCell} {kc ks : Nat} {Φ : Option Value → List PCell → Prop}
theorem RT.q (hR : RT X Φ mc ms) {r : Option Value} (hΦ : Φ r h) {a : Nat → Nat} {H : Heap} {locs : List Loc} {ls : Array Slot} (S : Sm X a H locs ls L h) : ∃ h0 : List PCell, cxQ X = MQ (cxb X) (pmQ (cxD X) (cxk X) (cxa X) (cxs X).heap.size h0 Φ) (cxg X) (cxs X) mc ms (cxA X) ∧ ∀ t : State, t.heap = H → pmQ (cxD X) (cxk X) (cxa X) (cxs X).heap.size h0 Φ (cxg X) (cxs X) (.returned (r.map (tV a))) t := by
  obtain ⟨h0, e1, e2, e3⟩ := hR
  obtain ⟨hP, hD, hS, hx, hl⟩ := S
  refine ⟨h0, e1, fun t ht => ⟨⟨r, h, a, rfl, hΦ, fun i hi => hx i (by rw [e3]; exact hi), by rw [ht]; exact hP, by rw [← e2]; exact hD⟩, by rw [← e2]; exact hS.F ht⟩⟩
theorem PW.iret (hX : Fx X cc own (some .int) d mx sx) (hR : RT X Φ mc ms) {v : Int32} (hd : decode cc pc = .ok (.ireturn, 1)) (h1 : Nat.ble kc mc = true) (h2 : Nat.ble ks ms = true) (hΦ : Φ (some (.int v)) h) : PW X pc L [.int v] h kc ks := by
  intro a H locs ls S
  obtain ⟨h0, e1, hq⟩ := hR.q hΦ S
  unfold WW
  rw [e1]
  exact W.widen (Nat.ble_eq.mp h1) (Nat.ble_eq.mp h2) (W.iret hX.x hX.b hX.rt (fun t ht _ => hq t ht) S.2.2.1.2.2 hd hX.lk)
theorem PW.zret (hX : Fx X cc own (some .boolean) d mx sx) (hR : RT X Φ mc ms) {v : Int32} (hd : decode cc pc = .ok (.ireturn, 1)) (hv : v = 0 ∨ v = 1) (h1 : Nat.ble kc mc = true) (h2 : Nat.ble ks ms = true) (hΦ : Φ (some (.int v)) h) : PW X pc L [.int v] h kc ks := by
  intro a H locs ls S
  obtain ⟨h0, e1, hq⟩ := hR.q hΦ S
  unfold WW
  rw [e1]
  exact W.widen (Nat.ble_eq.mp h1) (Nat.ble_eq.mp h2) (W.zret hX.x hX.b hX.rt (by rcases hv with rfl | rfl <;> rfl) (fun t ht _ => hq t ht) S.2.2.1.2.2 hd hX.lk)
theorem PW.bret (hX : Fx X cc own (some .byte) d mx sx) (hR : RT X Φ mc ms) {v : Int32} (hd : decode cc pc = .ok (.ireturn, 1)) (hv : v = 0 ∨ v = 1) (h1 : Nat.ble kc mc = true) (h2 : Nat.ble ks ms = true) (hΦ : Φ (some (.int v)) h) : PW X pc L [.int v] h kc ks := by
  intro a H locs ls S
  obtain ⟨h0, e1, hq⟩ := hR.q hΦ S
  unfold WW
  rw [e1]
  exact W.widen (Nat.ble_eq.mp h1) (Nat.ble_eq.mp h2) (W.zret hX.x hX.b hX.rt (by rcases hv with rfl | rfl <;> rfl) (fun t ht _ => hq t ht) S.2.2.1.2.2 hd hX.lk)
theorem PW.vret (hX : Fx X cc own none d mx sx) (hR : RT X Φ mc ms) (hd : decode cc pc = .ok (.return_, 1)) (h1 : Nat.ble kc mc = true) (h2 : Nat.ble ks ms = true) (hΦ : Φ none h) : PW X pc L [] h kc ks := by
  intro a H locs ls S
  obtain ⟨h0, e1, hq⟩ := hR.q hΦ S
  unfold WW
  rw [e1]
  exact W.widen (Nat.ble_eq.mp h1) (Nat.ble_eq.mp h2) (W.vret hX.x hX.b hX.rt (fun t ht _ => hq t ht) S.2.2.1.2.2 hd hX.lk)
end Ret
end
section
/-! calls: the callee's cells are some of ours, by their places ι; its refs are renamed -/
def rho (ι : List Nat) (n m i : Nat) : Nat := bif Nat.blt i n then ι.getD i 0 else bif Nat.ble 1000 i then i else i - n + m
theorem rho_in {ι : List Nat} {n m i j : Nat} (hi : i < n) (hj : ι[i]? = some j) : rho ι n m i = j := by
  have : Nat.blt i n = true := Nat.blt_eq.mpr hi
  simp [rho, this, List.getD_eq_getElem?_getD, hj]
theorem rho_hi {ι : List Nat} {n m i : Nat} (hn : n ≤ 1000) (hi : 1000 ≤ i) : rho ι n m i = i := by
  have h1 : Nat.blt i n = false := by rw [Bool.eq_false_iff]; intro h; have := Nat.blt_eq.mp h; omega
  have h2 : Nat.ble 1000 i = true := Nat.ble_eq.mpr hi
  unfold rho; rw [h1, h2]; rfl
theorem rho_new {ι : List Nat} {n m i : Nat} (hi : n ≤ i) (hk : i < 1000) : rho ι n m i = i - n + m := by
  have h1 : Nat.blt i n = false := by rw [Bool.eq_false_iff]; intro h; have := Nat.blt_eq.mp h; omega
  have h2 : Nat.ble 1000 i = false := by rw [Bool.eq_false_iff]; intro h; have := Nat.ble_eq.mp h; omega
  unfold rho; rw [h1, h2]; rfl
def isI : Option Value → Bool
  | none => true
  | some (.int _) => true
  | _ => false
section Calls
variable {X : Cx} {cc : ByteArray} {own : String} {ret : Option FieldType} {d mc ms : Nat} {pc : Nat} {L : List (Option Value)} {st rest : List Value} {h hc : List PCell} {kc ks : Nat} {μ : MI} {d' mc' ms' n : Nat} {as : List Value} {ι : List Nat} {Φ : Option Value → List PCell → Prop}
theorem pick_at {g : PCell → PCell} (e1 : ι.map (fun i => h[i]?) = hc.map (fun c => some (g c))) : ι.length = hc.length ∧ (∀ (k : Nat) (c : PCell), hc[k]? = some c → ∃ i, ι[k]? = some i ∧ h[i]? = some (g c)) := by
  refine ⟨by simpa using congrArg List.length e1, fun k c hk => ?_⟩
  have h1 : (ι.map (fun i => h[i]?))[k]? = some (some (g c)) := by rw [e1]; simp [hk]
  rw [List.getElem?_map] at h1
  cases hi : ι[k]? with
  | none => rw [hi] at h1; cases h1
  | some i => rw [hi] at h1; exact ⟨i, rfl, Option.some.inj h1⟩
/-- the callee's world out of ours -/
theorem sub_W {a : Nat → Nat} {ca : Nat → ClassId} (e1 : ι.map (fun i => h[i]?) = hc.map (fun c => some (rC (rho ι ι.length h.length) c))) {k : Nat} {q : Nat × va_E} (hk : (tW ca (fun i => a (rho ι ι.length h.length i)) hc)[k]? = some q) : ∃ i, ι[k]? = some i ∧ (tW ca a h)[i]? = some q := by
  obtain ⟨c, h1, rfl⟩ := tW_of hk
  obtain ⟨hl, hp⟩ := pick_at e1
  obtain ⟨i, h2, h3⟩ := hp k c h1
  refine ⟨i, h2, ?_⟩
  rw [tW_at h3, tC_rC, rho_in (by rw [hl]; exact (List.getElem?_eq_some_iff.mp h1).1) h2]
theorem sub_P {a : Nat → Nat} {H : Heap} {locs : List Loc} {ls : Array Slot} (hX : Fx X cc own ret d mc ms) (S : Sm X a H locs ls L h) (e1 : ι.map (fun i => h[i]?) = hc.map (fun c => some (rC (rho ι ι.length h.length) c))) (hnd : va_nd ι = true) (hsm : Nat.ble ι.length 1000 = true) :
    va_P (cxD X) vwCl (tW (cxk X) (fun i => a (rho ι ι.length h.length i)) hc) H ∧ va_D (fun _ => True) (tW (cxk X) (fun i => a (rho ι ι.length h.length i)) hc) ∧ (∀ q, va_A (tW (cxk X) (fun i => a (rho ι ι.length h.length i)) hc) H.size q → cxA X q) ∧ KK (cxD X) (cxk X) (fun i => a (rho ι ι.length h.length i)) (va_A (tW (cxk X) (fun i => a (rho ι ι.length h.length i)) hc) H.size) (cxs X) H := by
  obtain ⟨hP, hD, hS, hx, hl⟩ := S
  have hF : ∀ q, va_A (tW (cxk X) (fun i => a (rho ι ι.length h.length i)) hc) H.size q → cxA X q := by
    rintro q (⟨k, e, hk⟩ | hq)
    · obtain ⟨i, h1, h2⟩ := sub_W e1 hk
      exact hD.2 i _ h2
    · exact hX.A q (Nat.le_trans hS.1 hq)
  refine ⟨fun k q hk => ?_, ⟨fun i j p q hi hj e => ?_, fun _ _ _ => trivial⟩, hF, ?_⟩
  · obtain ⟨i, h1, h2⟩ := sub_W e1 hk
    exact hP i q h2
  · obtain ⟨i', h1, h2⟩ := sub_W e1 hi
    obtain ⟨j', h3, h4⟩ := sub_W e1 hj
    have := hD.1 i' j' p q h2 h4 e
    subst this
    exact va_nd_inj ι hnd i j i' h1 h3
  · exact KK.re (fun i hi => by show cxa X i = a (rho ι ι.length h.length i); rw [rho_hi (Nat.ble_eq.mp hsm) hi, hx i (Or.inr hi)]) (hX.K.kept hS.2.1 hF)
theorem pmP_blind {D : va_G} {ca : Nat → ClassId} {a : Nat → Nat} {sz : Nat} {as : List Value} {h : List PCell} : FrameBlind (pmP D ca a sz as h) := by
  rintro v U g mk ⟨h1, h2, h3, h4, h5⟩
  exact ⟨h1, h2, h3, KK.same (u := U) (U := U.calling g mk v) (H := U.heap) rfl h4, h5⟩
theorem pmP_of {a : Nat → Nat} {H : Heap} (hP : va_P (cxD X) vwCl (tW (cxk X) a hc) H) (hD : va_D (fun _ => True) (tW (cxk X) a hc)) (hK : KK (cxD X) (cxk X) a (va_A (tW (cxk X) a hc) H.size) (cxs X) H) : ∀ U : State, U.heap = H → (cxs X).WarmedH U.vm → pmP (cxD X) (cxk X) a H.size as hc (as.map (tV a)).toArray U := by
  intro U hU hW
  exact ⟨rfl, by rw [hU], by rw [hU]; exact hP, by rw [hU]; exact hK.warm hW, hD⟩
/-- a run of the callee, back in our walk: no cell is new -/
theorem PW.core (hX : Fx X cc own ret d mc ms) (e1 : ι.map (fun i => h[i]?) = hc.map (fun c => some (rC (rho ι ι.length h.length) c))) (hnd : va_nd ι = true) (hsm : Nat.ble ι.length 1000 = true)
    (hΦ : ∀ r h', Φ r h' → h'.length = ι.length ∧ okH ι.length h' = true ∧ isI r = true)
    (hrun : ∀ (a : Nat → Nat) (H : Heap) (locs : List Loc) (ls : Array Slot), Sm X a H locs ls L h → ∃ g : Array Value, va_Run (cxp X) (cxl X) (cxe X) (cxR X) (cxs X) (cxm X) (cxg X) (cxb X) (cxM X) (cxc X) H locs kc ks mc' ms' (F0 (cxm X) pc ls (st.map (tV a))) (rest.map (tV a)) (pmQ (cxD X) (cxk X) (fun i => a (rho ι ι.length h.length i)) H.size hc Φ g) (va_A (tW (cxk X) (fun i => a (rho ι ι.length h.length i)) hc) H.size))
    (kk : ∀ r h', Φ r h' → PW X (pc + 3) L (r.toList ++ rest) (updH h ι (h'.map (rC (rho ι ι.length h.length)))) (kc + mc') (ks + ms')) : PW X pc L st h kc ks := by
  intro a H locs ls S
  obtain ⟨g, hr⟩ := hrun a H locs ls S
  obtain ⟨hP, hD, hS, hx, hl⟩ := id S
  obtain ⟨hPc, hDc, hFc, hKc⟩ := sub_P hX S e1 hnd hsm
  intro T hT Xs
  obtain ⟨v, st₀, t, T', L', h0, X', hL, e3, e4, ⟨⟨r, h', a', hv, hφ, ha', hP', hD'⟩, hF⟩, stp⟩ := hr T hT Xs
  obtain ⟨hlen, hok, hi⟩ := hΦ r h' hφ
  obtain ⟨hlc, hpk⟩ := pick_at e1
  have hw : tW (cxk X) a' h' = tW (cxk X) (fun i => a (rho ι ι.length h.length i)) h' := tW_congr (n := ι.length) (fun i hi => ha' i (by rw [← hlc]; exact hi)) (Nat.le_of_eq hlen) hok
  rw [hw] at hP'
  have hv' : v = r := by
    cases r with
    | none => simpa using hv
    | some w => cases w <;> first | (simp [isI] at hi; done) | simpa [tV] using hv
  subst hv'
  have hz : H.size ≤ t.heap.size := by have := hF.1; rw [h0] at this; exact this
  have hk : ∀ q : Nat, q < H.size → ¬ va_A (tW (cxk X) (fun i => a (rho ι ι.length h.length i)) hc) H.size q → t.heap[q]? = H[q]? := by have := hF.2; rw [h0] at this; exact this
  have hι : ∀ (k i : Nat), ι[k]? = some i → i < h.length := by
    intro k i hki
    have hkl : k < hc.length := by rw [← hlc]; exact (List.getElem?_eq_some_iff.mp hki).1
    obtain ⟨j, h1, h2⟩ := hpk k hc[k] (List.getElem?_eq_getElem hkl)
    rw [hki] at h1
    cases h1
    exact (List.getElem?_eq_some_iff.mp h2).1
  have S' : Sm X a T'.heap (locs ++ L') ls L (updH h ι (h'.map (rC (rho ι ι.length h.length)))) := by
    refine ⟨fun j q hj => ?_, ⟨fun i j p q hi hj e => ?_, fun j q hj => ?_⟩, ⟨Nat.le_trans hS.1 (by rw [e3]; exact hz), fun q h1 h2 => ?_, fun q hq => ?_⟩, hx, hl⟩
    · obtain ⟨c, h1, rfl⟩ := tW_of hj
      rw [e3]
      by_cases hji : j ∈ ι
      · obtain ⟨k, hk1⟩ := List.getElem?_of_mem hji
        have hkl : k < h'.length := by rw [hlen]; exact (List.getElem?_eq_some_iff.mp hk1).1
        have h2 : (h'.map (rC (rho ι ι.length h.length)))[k]? = some (rC (rho ι ι.length h.length) h'[k]) := by simp [hkl]
        rw [updH_in ι _ h k j _ hnd hk1 h2 (hι k j hk1)] at h1
        cases h1
        have h3 := hP' k _ (tW_at (List.getElem?_eq_getElem hkl))
        rw [tC_rC]
        rw [rho_in (by rw [← hlen]; exact hkl) hk1] at h3
        exact h3
      · rw [updH_out ι _ h j hji] at h1
        have h2 := hP j _ (tW_at h1)
        refine h2.kept (hk _ h2.lt (fun hA => ?_))
        rcases hA with ⟨k, e, hA⟩ | hA
        · obtain ⟨i, h3, h4⟩ := sub_W e1 hA
          have := hD.1 i j _ _ h4 (tW_at h1) rfl
          subst this
          exact hji (List.mem_of_getElem? h3)
        · exact absurd h2.lt (Nat.not_lt.mpr hA)
    · obtain ⟨c, h1, rfl⟩ := tW_of hi
      obtain ⟨c2, h2, rfl⟩ := tW_of hj
      have l1 := (List.getElem?_eq_some_iff.mp h1).1
      have l2 := (List.getElem?_eq_some_iff.mp h2).1
      rw [updH_len] at l1 l2
      exact hD.1 i j _ _ (tW_at (List.getElem?_eq_getElem l1)) (tW_at (List.getElem?_eq_getElem l2)) e
    · obtain ⟨c, h1, rfl⟩ := tW_of hj
      have l1 := (List.getElem?_eq_some_iff.mp h1).1
      rw [updH_len] at l1
      have h9 := hD.2 j _ (tW_at (ca := cxk X) (a := a) (List.getElem?_eq_getElem l1))
      exact h9
    · rw [e3, hk q (Nat.lt_of_lt_of_le h1 hS.1) (fun z => h2 (hFc q z))]
      exact hS.2.1 q h1 h2
    · rcases List.mem_append.mp hq with h | h
      · exact hS.2.2 q h
      · exact hFc _ (hL q h)
  obtain ⟨t2, a1, b1⟩ := kk v h' hφ a T'.heap (locs ++ L') ls S' T' rfl X'
  refine ⟨t2, stp t2 ?_, b1⟩
  have e5 : (v.toList ++ rest).map (tV a) = v.toList ++ rest.map (tV a) := by
    rw [List.map_append]
    congr 1
    cases v with
    | none => rfl
    | some w => cases w <;> first | (simp [isI] at hi; done) | rfl
  rw [e5] at a1
  exact a1
theorem good_ws : GoodIn AW AW := fun w h => ⟨h, AW_good w h⟩
theorem cat_rest {a : Nat → Nat} {rest : List Value} (hr : Nat.ble ((rest.map fun v => v.category).sum) 8 = true) {m : MethodId} {pc : Nat} {ls : Array Slot} {st : List Value} : 2 * (F0 m pc ls st).monitorRoom + ((rest.map (tV a)).map fun v => v.category).sum ≤ 8 := by
  have : ((rest.map (tV a)).map fun v => v.category) = rest.map fun v => v.category := by simp [tV_cat, Function.comp_def]
  rw [this]
  have h1 : (F0 m pc ls st).monitorRoom = 0 := rfl
  rw [h1]
  have := Nat.ble_eq.mp hr
  omega
/-- invokevirtual -/
theorem PW.callV (hX : Fx X cc own ret d mc ms) {idx ci i : Nat} {fs : List Value} {T : u_T} {N : Nat} (hm : MSV own idx μ n) (hM : PM μ d' mc' ms' as hc Φ) (hd : decode cc pc = .ok (.invokevirtual idx, 3))
    (ι : List Nat) (e1 : ι.map (fun i => h[i]?) = hc.map (fun c => some (rC (rho ι ι.length h.length) c))) (hst : st = (as.map (tV (rho ι ι.length h.length))).reverse ++ rest) (hob : (as.map (tV (rho ι ι.length h.length))).head? = some (.ref i)) (hn : as.length = n + 1) (he : h[i]? = some (.inr (ci, fs))) (hci : vwCl[ci]? = some (μ.1.cls, T, N))
    (hnd : va_nd ι = true) (hsm : Nat.ble ι.length 1000 = true) (hdd : Nat.blt d' d = true) (hcc : Nat.ble (kc + mc') mc = true) (hss : Nat.ble (ks + ms') ms = true) (hr : Nat.ble ((rest.map fun v => v.category).sum) 8 = true)
    (hΦ : ∀ r h', Φ r h' → h'.length = ι.length ∧ okH ι.length h' = true ∧ isI r = true)
    (kk : ∀ r h', Φ r h' → PW X (pc + 3) L (r.toList ++ rest) (updH h ι (h'.map (rC (rho ι ι.length h.length)))) (kc + mc') (ks + ms')) : PW X pc L st h kc ks := by
  refine PW.core hX e1 hnd hsm hΦ (fun a H locs ls S => ?_) kk
  obtain ⟨hPc, hDc, hFc, hKc⟩ := sub_P hX S e1 hnd hsm
  obtain ⟨hlk, hin, hcd, ⟨hb1, hb2, hb3⟩, hml, him, hse⟩ := hm
  obtain ⟨r1, r2, r3, r4⟩ := hX.r
  have hdd := Nat.blt_eq.mp hdd
  have hcc := Nat.ble_eq.mp hcc
  have hss := Nat.ble_eq.mp hss
  cases as with
  | nil => simp at hn
  | cons v0 As =>
    simp only [List.map_cons, List.head?_cons, Option.some.injEq] at hob
    refine ⟨((v0 :: As).map (tV (fun i => a (rho ι ι.length h.length i)))).toArray, ?_⟩
    have e0 : tV (fun i => a (rho ι ι.length h.length i)) v0 = .ref (a i) := by rw [← tV_tV a, hob]; rfl
    have e2 : ((v0 :: As).map (tV (fun i => a (rho ι ι.length h.length i)))).toArray = (Value.ref (a i) :: As.map (tV (fun i => a (rho ι ι.length h.length i)))).toArray := by rw [List.map_cons, e0]
    rw [e2]
    refine va_runV (As := As.map (tV (fun i => a (rho ι ι.length h.length i)))) (b := a i) (C := μ.1.cls) (n := n) (rest := rest.map (tV a)) (Ts := AW) (nL := cxL X) ⟨hX.x, hX.b, hX.ml, hX.ow, hX.ts⟩ (hM (cxl X) (cxD X) (cxk X) (fun i => a (rho ι ι.length h.length i)) H.size) (cwV n hX.ts (fun w hw => ?_) rfl rfl rfl ⟨rfl, hb1, hb2, hb3⟩ ⟨by show d' + 1 ≤ _; omega, by show 8 + (μ.2.2.1 + 11) + 32 * d' ≤ _; omega⟩) ⟨pmP_blind, va_recv hX.K.1 S.1 hci (tW_at he), fun U hU hW => ?_⟩ rfl ?_ S.2.2.2.2.1 ?_ (cat_rest hr) hd ⟨by omega, by omega⟩
    · simp only [wsV, List.mem_append, List.mem_cons, List.not_mem_nil, or_false] at hw
      rcases hw with (rfl | rfl | rfl | rfl) | (rfl | hw)
      · exact good_ws _ hlk
      · exact good_ws _ him
      · exact good_ws _ hse
      · exact good_ws _ hin
      · exact good_ws _ hcd
      · exact good_ws _ hw
    · rw [← e2]
      exact pmP_of hPc hDc hKc U hU hW
    · simpa using hn
    · show st.map (tV a) = _
      rw [hst, List.map_append, ← List.map_reverse, List.map_map]
      have e3 : tV a ∘ tV (rho ι ι.length h.length) = tV (fun i => a (rho ι ι.length h.length i)) := funext fun v => tV_tV a _ v
      rw [e3, List.reverse_cons, List.map_append, List.map_cons, List.map_nil, e0, List.map_reverse, List.append_assoc]
      rfl
/-- invokestatic: of the own class or another, and of a nest mate -/
theorem PW.callS (hX : Fx X cc own ret d mc ms) {idx : Nat} (hm : MSS own idx μ n) (hM : PM μ d' mc' ms' as hc Φ) (hd : decode cc pc = .ok (.invokestatic idx, 3))
    (ι : List Nat) (e1 : ι.map (fun i => h[i]?) = hc.map (fun c => some (rC (rho ι ι.length h.length) c))) (hst : st = (as.map (tV (rho ι ι.length h.length))).reverse ++ rest) (hn : as.length = n)
    (hnd : va_nd ι = true) (hsm : Nat.ble ι.length 1000 = true) (hdd : Nat.blt d' d = true) (hcc : Nat.ble (kc + mc') mc = true) (hss : Nat.ble (ks + ms') ms = true) (hr : Nat.ble ((rest.map fun v => v.category).sum) 8 = true)
    (hΦ : ∀ r h', Φ r h' → h'.length = ι.length ∧ okH ι.length h' = true ∧ isI r = true)
    (kk : ∀ r h', Φ r h' → PW X (pc + 3) L (r.toList ++ rest) (updH h ι (h'.map (rC (rho ι ι.length h.length)))) (kc + mc') (ks + ms')) : PW X pc L st h kc ks := by
  refine PW.core hX e1 hnd hsm hΦ (fun a H locs ls S => ?_) kk
  obtain ⟨hPc, hDc, hFc, hKc⟩ := sub_P hX S e1 hnd hsm
  obtain ⟨hlk, hin, hcd, ⟨hb1, hb2, hb3⟩, hml, hsta⟩ := hm
  obtain ⟨r1, r2, r3, r4⟩ := hX.r
  have hdd := Nat.blt_eq.mp hdd
  have hcc := Nat.ble_eq.mp hcc
  have hss := Nat.ble_eq.mp hss
  refine ⟨(as.map (tV (fun i => a (rho ι ι.length h.length i)))).toArray, ?_⟩
  refine va_runS (As := as.map (tV (fun i => a (rho ι ι.length h.length i)))) (n := n) (rest := rest.map (tV a)) (Ts := AW) (nL := cxL X) ⟨hX.x, hX.b, hX.ml, hX.ow, hX.ts⟩ (hM (cxl X) (cxD X) (cxk X) (fun i => a (rho ι ι.length h.length i)) H.size) (va_cwS n hX.ts (fun w hw => ?_) rfl rfl rfl ⟨hb1, hb2, hb3⟩ ⟨by show d' + 1 ≤ _; omega, by show 8 + (μ.2.2.1 + 11) + 32 * d' ≤ _; omega⟩) ⟨pmP_blind, fun U hU hW => pmP_of hPc hDc hKc U hU hW⟩ rfl (by simpa using hn) S.2.2.2.2.1 ?_ (cat_rest hr) hd ⟨by omega, by omega⟩
  · simp only [va_wsS, List.mem_append, List.mem_cons, List.not_mem_nil, or_false] at hw
    rcases hw with (rfl | rfl | rfl) | (rfl | hw)
    · exact good_ws _ hlk
    · exact good_ws _ hsta
    · exact good_ws _ hin
    · exact good_ws _ hcd
    · exact good_ws _ hw
  · show st.map (tV a) = _
    rw [hst, List.map_append, ← List.map_reverse, List.map_map]
    have e3 : tV a ∘ tV (rho ι ι.length h.length) = tV (fun i => a (rho ι ι.length h.length i)) := funext fun v => tV_tV a _ v
    rw [e3, List.map_reverse]
theorem PW.callN (hX : Fx X cc own ret d mc ms) {idx : Nat} (hm : MNS own idx μ n) (hM : PM μ d' mc' ms' as hc Φ) (hd : decode cc pc = .ok (.invokestatic idx, 3))
    (ι : List Nat) (e1 : ι.map (fun i => h[i]?) = hc.map (fun c => some (rC (rho ι ι.length h.length) c))) (hst : st = (as.map (tV (rho ι ι.length h.length))).reverse ++ rest) (hn : as.length = n)
    (hnd : va_nd ι = true) (hsm : Nat.ble ι.length 1000 = true) (hdd : Nat.blt d' d = true) (hcc : Nat.ble (kc + mc') mc = true) (hss : Nat.ble (ks + ms') ms = true) (hr : Nat.ble ((rest.map fun v => v.category).sum) 8 = true)
    (hΦ : ∀ r h', Φ r h' → h'.length = ι.length ∧ okH ι.length h' = true ∧ isI r = true)
    (kk : ∀ r h', Φ r h' → PW X (pc + 3) L (r.toList ++ rest) (updH h ι (h'.map (rC (rho ι ι.length h.length)))) (kc + mc') (ks + ms')) : PW X pc L st h kc ks := by
  refine PW.core hX e1 hnd hsm hΦ (fun a H locs ls S => ?_) kk
  obtain ⟨hPc, hDc, hFc, hKc⟩ := sub_P hX S e1 hnd hsm
  obtain ⟨hlk, hin, hcd, hbb, hml, hsta⟩ := hm
  obtain ⟨r1, r2, r3, r4⟩ := hX.r
  have hdd := Nat.blt_eq.mp hdd
  have hcc := Nat.ble_eq.mp hcc
  have hss := Nat.ble_eq.mp hss
  refine ⟨(as.map (tV (fun i => a (rho ι ι.length h.length i)))).toArray, ?_⟩
  refine va_runSN (As := as.map (tV (fun i => a (rho ι ι.length h.length i)))) (n := n) (rest := rest.map (tV a)) (Ts := AW) (nL := cxL X) ⟨hX.x, hX.b, hX.ml, hX.ow, hX.ts⟩ (hM (cxl X) (cxD X) (cxk X) (fun i => a (rho ι ι.length h.length i)) H.size) ⟨va_cnB n hX.ts (fun w hw => ?_) rfl rfl rfl (hX.K.2.1 _ hlk) (hX.ts _ hin) hbb ⟨by show d' + 1 ≤ _; omega, by show 8 + (μ.2.2.1 + 11) + 32 * d' ≤ _; omega⟩, hX.ts _ hsta, trivial⟩ ⟨pmP_blind, fun U hU hW => pmP_of hPc hDc hKc U hU hW⟩ rfl (by simpa using hn) S.2.2.2.2.1 ?_ (cat_rest hr) hd ⟨by omega, by omega⟩
  · rcases List.mem_cons.mp hw with rfl | hw
    · exact good_ws _ hcd
    · exact good_ws _ hw
  · show st.map (tV a) = _
    rw [hst, List.map_append, ← List.map_reverse, List.map_map]
    have e3 : tV a ∘ tV (rho ι ι.length h.length) = tV (fun i => a (rho ι ι.length h.length i)) := funext fun v => tV_tV a _ v
    rw [e3, List.map_reverse]
end Calls
end
section
/-! cells that are made -/
def CN (own : String) (idx ci : Nat) : Prop := ∃ (C : String) (T : u_T) (N : Nat) (ty : Nat → FieldType), vwCl[ci]? = some (C, T, N) ∧ (∀ w ∈ u_ws C T N, w ∈ AW) ∧ (∀ k, k < N → parseFieldDescriptor (T k).2.2.1 = some (ty k)) ∧ Cond.classLink own idx C ∈ AW ∧ Cond.instantiable C N ∈ AW ∧ Cond.initialized C ∈ AW
def okS (n : Nat) (L : List (Option Value)) (st : List Value) (h : List PCell) : Bool := okH n h && (L.all (fun o => o.all (okV n)) && st.all (okV n))
def exA (a : Nat → Nat) (n q : Nat) : Nat → Nat := fun i => if i = n then q else a i
section New
variable {X : Cx} {cc : ByteArray} {own : String} {ret : Option FieldType} {d mc ms : Nat} {pc : Nat} {L : List (Option Value)} {st : List Value} {h : List PCell} {kc ks : Nat}
theorem exA_ag {a : Nat → Nat} {n q : Nat} (hn : n < 1000) : ∀ i, i < n ∨ 1000 ≤ i → a i = exA a n q i := by
  intro i hi
  unfold exA
  rw [if_neg (by omega)]
theorem exA_self {a : Nat → Nat} {n q : Nat} : exA a n q n = q := by simp [exA]
theorem tW_app (ca : Nat → ClassId) (a : Nat → Nat) (h : List PCell) (c : PCell) : tW ca a (h ++ [c]) = tW ca a h ++ [(a h.length, tC ca a c)] := by
  simp [tW, List.mapIdx_append]
theorem Sm.push {a : Nat → Nat} {H H1 : Heap} {locs : List Loc} {ls : Array Slot} {c : PCell} {q : Nat} (S : Sm X a H locs ls L h) (hn : h.length < 1000) (hx : cxn X ≤ h.length) (hok : okH h.length h = true) (hokL : L.all (fun o => o.all (okV h.length)) = true) (hokc : okC h.length c = true)
    (h1 : va_P (cxD X) vwCl (tW (cxk X) a h ++ [(q, tC (cxk X) a c)]) H1) (h2 : va_D (cxA X) (tW (cxk X) a h ++ [(q, tC (cxk X) a c)])) (h3 : va_S (cxA X) (cxs X).heap H1 locs) : Sm X (exA a h.length q) H1 locs ls L (h ++ [c]) := by
  have ag := exA_ag (a := a) (q := q) hn
  have e : tW (cxk X) a h ++ [(q, tC (cxk X) a c)] = tW (cxk X) (exA a h.length q) (h ++ [c]) := by
    rw [tW_app, exA_self, tW_congr ag (Nat.le_refl _) hok, tC_congr ag hokc]
  rw [e] at h1 h2
  exact ⟨h1, h2, h3, fun i hi => by rw [← ag i (by omega)]; exact S.2.2.2.1 i hi, lvS_congr ag hokL S.2.2.2.2⟩
theorem st_congr {a b : Nat → Nat} {n : Nat} (hab : ∀ i, i < n ∨ 1000 ≤ i → a i = b i) {st : List Value} (hs : st.all (okV n) = true) : st.map (tV a) = st.map (tV b) := List.map_congr_left fun v hv => tV_congr hab (List.all_eq_true.mp hs v hv)
theorem PW.new (hX : Fx X cc own ret d mc ms) {idx ci N : Nat} {C : String} {T : u_T} (fs : List Value) (hf : CN own idx ci) (hc : vwCl[ci]? = some (C, T, N)) (hd : decode cc pc = .ok (.new idx, 3)) (hfs : ∀ ty : Nat → FieldType, (∀ k, k < N → parseFieldDescriptor (T k).2.2.1 = some (ty k)) → ∀ j, j < N → defaultValue (ty j) = vp_V fs j) (hz : fs.all (fun v => match v with | .ref _ => false | _ => true) = true) (hx : cxn X ≤ h.length) (hn : Nat.blt h.length 1000 = true) (hok : okS h.length L st h = true) (h1 : Nat.ble (kc + 1) mc = true) (h2 : Nat.ble (ks + N) ms = true)
    (kk : PW X (pc + 3) L (.ref h.length :: st) (h ++ [.inr (ci, fs)]) (kc + 1) (ks + N)) : PW X pc L st h kc ks := by
  obtain ⟨C', T', N', ty, hc', hin, hty, hl, hi, hini⟩ := hf
  rw [hc] at hc'
  cases hc'
  simp only [okS, Bool.and_eq_true] at hok
  obtain ⟨o1, o2, o3⟩ := hok
  have hn := Nat.blt_eq.mp hn
  have hval : ∀ (a : Nat → Nat), fs.map (tV a) = fs := by
    intro a
    have : ∀ v ∈ fs, tV a v = v := by
      intro v hv
      have := List.all_eq_true.mp hz v hv
      cases v <;> first | rfl | (simp at this; done)
    exact (List.map_congr_left this).trans (List.map_id _)
  have hok2 : okC h.length (.inr (ci, fs)) = true := by
    simp only [okC, List.all_eq_true]
    intro v hv
    have := List.all_eq_true.mp hz v hv
    cases v <;> first | rfl | (simp at this; done)
  intro a H locs ls S
  obtain ⟨r1, r2, r3, r4⟩ := hX.r
  have b1 := Nat.ble_eq.mp h1
  have b2 := Nat.ble_eq.mp h2
  refine va_new (ci := ci) (fs := fs) (C := C) (T := T) (N := N) (D := cxD X) hX.x hX.b hX.ts hin ty hty hX.ow (hX.ts _ hl) (hX.ts _ hi) (hX.ts _ hini) hX.K.1 S.1 S.2.1 S.2.2.1 hX.A hc (hfs ty hty) (by omega) (by omega) hd (fun q H1 g1 g2 g3 => ?_)
  have e : ((Sum.inr (ci, fs)) : va_E) = tC (cxk X) a (.inr (ci, fs)) := by simp [tC, hval]
  rw [e] at g1 g2
  have := kk (exA a h.length q) H1 locs ls (S.push hn hx o1 o2 hok2 g1 g2 g3)
  rw [List.map_cons, ← st_congr (exA_ag (a := a) (q := q) hn) o3] at this
  show WW X H1 locs (kc + 1) (ks + N) (pc + 3) ls (.ref q :: st.map (tV a))
  have e2 : tV (exA a h.length q) (.ref h.length) = .ref q := by show Value.ref (exA a h.length q h.length) = _; rw [exA_self]
  rw [e2] at this
  exact this
/-- the array class of a type is one -/
theorem RA_one {U : State} {c1 c2 : ClassId} {t : Nat} {ca : Nat → ClassId} {ty : FieldType} (ht : (tys3 ca)[t]? = some (c1, ty)) (h1 : va_RA U c1 ty) (h2 : va_RA U c2 ty) : c2 = c1 := by
  match t, ht with
  | 0, ht => cases ht; exact Option.some.inj (h2.symm.trans h1)
  | 1, ht => cases ht; exact Option.some.inj (h2.symm.trans h1)
  | 2, ht => cases ht; exact Option.some.inj (h2.symm.trans h1)
  | t + 3, ht => simp [tys3] at ht
theorem PW.newarr (hX : Fx X cc own ret d mc ms) {t N : Nat} {ty : FieldType} {atype : ArrayType} {x : Int32} (hac : Cond.arrayClass ty ∈ AW) (hat : newarray.typeOf atype = ty) (ht : ∀ ca, (tys3 ca)[t]? = some (ca t, ty)) (hdv : defaultValue ty = .int 0) (hbt : N * componentBytes ty ≤ 536870912) (hd : decode cc pc = .ok (.newarray atype, 2)) (hN : x = nI N) (hx : cxn X ≤ h.length) (hn : Nat.blt h.length 1000 = true) (hNs : Nat.blt N 2147483648 = true) (hok : okS h.length L st h = true) (h1 : Nat.ble (kc + 1) mc = true) (h2 : Nat.ble (ks + N) ms = true)
    (kk : PW X (pc + 2) L (.ref h.length :: st) (h ++ [.inl (t, N, fun _ => 0)]) (kc + 1) (ks + N)) : PW X pc L (.int x :: st) h kc ks := by
  simp only [okS, Bool.and_eq_true] at hok
  obtain ⟨o1, o2, o3⟩ := hok
  have hn := Nat.blt_eq.mp hn
  have hNs := Nat.blt_eq.mp hNs
  subst hN
  intro a H locs ls S
  obtain ⟨r1, r2, r3, r4⟩ := hX.r
  have b1 := Nat.ble_eq.mp h1
  have b2 := Nat.ble_eq.mp h2
  refine va_newa (atype := atype) (ty := ty) (a0 := (N, .inl (fun _ => 0))) (N' := N) (D := cxD X) hX.x hX.b (by rw [hat]; exact hX.ts _ hac) hat hX.K.1 S.1 S.2.1 S.2.2.1 hX.A (fun cA => by rw [hdv]; rfl) (nI_pos (by omega)) (nI_clamp (by omega)) hbt (by omega) (by omega) hd (fun q cA H1 hK1 g1 g2 g3 => ?_)
  have hl : (tys3 (cxk X) ++ [(cA, ty)])[3]? = some (cA, ty) := rfl
  have ecA : cA = cxk X t := RA_one (ht (cxk X)) (hX.K.1.2 t _ (ht (cxk X))).2 (hK1.2 3 _ hl).2
  subst ecA
  have := kk (exA a h.length q) H1 locs ls (S.push (c := .inl (t, N, fun _ => 0)) hn hx o1 o2 rfl g1 g2 g3)
  rw [List.map_cons, ← st_congr (exA_ag (a := a) (q := q) hn) o3] at this
  show WW X H1 locs (kc + 1) (ks + N) (pc + 2) ls (.ref q :: st.map (tV a))
  have e2 : tV (exA a h.length q) (.ref h.length) = .ref q := by show Value.ref (exA a h.length q h.length) = _; rw [exA_self]
  rw [e2] at this
  exact this
theorem PW.objInit (hX : Fx X cc own ret d mc ms) {idx i : Nat} (hl : Cond.methodLink own idx objectInit ∈ AW) (hi : Cond.instanceMethod objectInit ∈ AW) (hc : Cond.code objectInit ⟨#[0xb1]⟩ 1 none ∈ AW) (hd : decode cc pc = .ok (.invokespecial idx, 3)) (hdd : Nat.ble 1 d = true) (hr : Nat.ble ((st.map fun v => v.category).sum) 8 = true) (kk : PW X (pc + 3) L st h kc ks) : PW X pc L (.ref i :: st) h kc ks := by
  intro a H locs ls S
  obtain ⟨r1, r2, r3, r4⟩ := hX.r
  have hdd := Nat.ble_eq.mp hdd
  refine W.objInit hX.x hX.b hX.ow (hX.ts _ hl) (hX.ts _ hi) (hX.ts _ hc) rfl (by rw [hX.ml]; exact S.2.2.2.2.1) rfl hd (by omega) ?_ (kk a H locs ls S)
  have := cat_rest (a := a) hr (m := cxm X) (pc := pc) (ls := ls) (st := (Value.ref i :: st).map (tV a))
  omega
/-- System.arraycopy of ints -/
theorem PW.acopy (hX : Fx X cc own ret d mc ms) {idx i j n0 n1 sp dp n : Nat} {f g : Nat → Int32} {xs xd xn : Int32} (hl : Cond.methodLink own idx arraycopyName ∈ AW) (hnat : Cond.native arraycopyName ∈ AW) (hsta : Cond.static arraycopyName ∈ AW) (hini : Cond.initialized "java/lang/System" ∈ AW) (hd : decode cc pc = .ok (.invokestatic idx, 3)) (hdd : Nat.ble 1 d = true) (hst : st = [])
    (hi : h[i]? = some (.inl (0, n0, f))) (hj : h[j]? = some (.inl (0, n1, g))) (e1 : xs = nI sp) (e2 : xd = nI dp) (e3 : xn = nI n) (l1 : sp + n ≤ n0) (l2 : dp + n ≤ n1) (b0 : Nat.blt n0 2147483648 = true) (b1 : Nat.blt n1 2147483648 = true)
    (kk : PW X (pc + 3) L st (h.set j (.inl (0, n1, va_cpy f g sp dp n))) kc ks) : PW X pc L (.int xn :: .int xd :: .ref j :: .int xs :: .ref i :: st) h kc ks := by
  have b0 := Nat.blt_eq.mp b0
  have b1 := Nat.blt_eq.mp b1
  subst e1; subst e2; subst e3; subst hst
  intro a H locs ls S
  obtain ⟨r1, r2, r3, r4⟩ := hX.r
  have hdd := Nat.ble_eq.mp hdd
  have c1 : (nI sp).toNatClampNeg = sp := nI_clamp (by omega)
  have c2 : (nI dp).toNatClampNeg = dp := nI_clamp (by omega)
  have c3 : (nI n).toNatClampNeg = n := nI_clamp (by omega)
  refine va_copyi (D := cxD X) (ty := .int) hX.x hX.b (hX.ml.trans S.2.2.2.2.1.symm) hX.ow (hX.ts _ hl) (hX.ts _ hnat) (hX.ts _ hsta) (hX.ts _ hini) hX.K.1 S.1 S.2.1 S.2.2.1 i j 0 0 (tW_at hi) (tW_at hj) rfl rfl rfl (nI_pos (by omega)) (nI_pos (by omega)) (nI_pos (by omega)) (by rw [c1, c3]; exact l1) (by rw [c2, c3]; exact l2) (fun _ _ => rfl) (by omega) ?_ hd (fun H1 locs1 g1 g2 g3 => ?_)
  · have e : nativeFrameWords "java/lang/System" "arraycopy" 5 + 11 ≤ 32 := by decide +kernel
    show 0 + _ ≤ _
    omega
  · rw [c1, c2, c3] at g1 g2
    exact kk a H1 locs1 ls (S.put (c := .inl (0, n1, va_cpy f g sp dp n)) g1 g2 g3)
end New
end
section
/-! calls that make cells (constructors) -/
def joinH (h : List PCell) (ι : List Nat) (h' : List PCell) : List PCell := updH h ι ((h'.take ι.length).map (rC (rho ι ι.length h.length))) ++ (h'.drop ι.length).map (rC (rho ι ι.length h.length))
section Con
variable {X : Cx} {cc : ByteArray} {own : String} {ret : Option FieldType} {d mc ms : Nat} {pc : Nat} {L : List (Option Value)} {st rest : List Value} {h hc : List PCell} {kc ks : Nat} {μ : MI} {d' mc' ms' n : Nat} {as : List Value} {ι : List Nat} {Φ : Option Value → List PCell → Prop}
theorem PW.coreN (hX : Fx X cc own ret d mc ms) (e1 : ι.map (fun i => h[i]?) = hc.map (fun c => some (rC (rho ι ι.length h.length) c))) (hnd : va_nd ι = true) (hsm : Nat.ble ι.length 1000 = true) (hx0 : cxn X ≤ h.length) (hok : okS h.length L rest h = true)
    (hΦ : ∀ r h', Φ r h' → r = none ∧ ι.length ≤ h'.length ∧ h'.length + h.length ≤ 1000 ∧ okH h'.length h' = true)
    (hrun : ∀ (a : Nat → Nat) (H : Heap) (locs : List Loc) (ls : Array Slot), Sm X a H locs ls L h → ∃ g : Array Value, va_Run (cxp X) (cxl X) (cxe X) (cxR X) (cxs X) (cxm X) (cxg X) (cxb X) (cxM X) (cxc X) H locs kc ks mc' ms' (F0 (cxm X) pc ls (st.map (tV a))) (rest.map (tV a)) (pmQ (cxD X) (cxk X) (fun i => a (rho ι ι.length h.length i)) H.size hc Φ g) (va_A (tW (cxk X) (fun i => a (rho ι ι.length h.length i)) hc) H.size))
    (kk : ∀ r h', Φ r h' → PW X (pc + 3) L rest (joinH h ι h') (kc + mc') (ks + ms')) : PW X pc L st h kc ks := by
  intro a H locs ls S
  obtain ⟨g, hr⟩ := hrun a H locs ls S
  obtain ⟨hP, hD, hS, hx, hl⟩ := id S
  obtain ⟨hPc, hDc, hFc, hKc⟩ := sub_P hX S e1 hnd hsm
  intro T hT Xs
  obtain ⟨v, st₀, t, T', L', h0, X', hL, e3, e4, ⟨⟨r, h', a', hv, hφ, ha', hP', hD'⟩, hF⟩, stp⟩ := hr T hT Xs
  obtain ⟨hrn, hlen, hbig, hok'⟩ := hΦ r h' hφ
  subst hrn
  have ha' : ∀ i, i < hc.length ∨ 1000 ≤ i → a' i = a (rho ι ι.length h.length i) := ha'
  obtain ⟨hlc, hpk⟩ := pick_at e1
  have hsm := Nat.ble_eq.mp hsm
  simp only [okS, Bool.and_eq_true] at hok
  obtain ⟨o1, o2, o3⟩ := hok
  have hz : H.size ≤ t.heap.size := by have := hF.1; rw [h0] at this; exact this
  have hk : ∀ q : Nat, q < H.size → ¬ va_A (tW (cxk X) (fun i => a (rho ι ι.length h.length i)) hc) H.size q → t.heap[q]? = H[q]? := by have := hF.2; rw [h0] at this; exact this
  have hι : ∀ (k i : Nat), ι[k]? = some i → i < h.length := by
    intro k i hki
    have hkl : k < hc.length := by rw [← hlc]; exact (List.getElem?_eq_some_iff.mp hki).1
    obtain ⟨j, h1, h2⟩ := hpk k hc[k] (List.getElem?_eq_getElem hkl)
    rw [hki] at h1
    cases h1
    exact (List.getElem?_eq_some_iff.mp h2).1
  obtain ⟨a1, ha1⟩ : ∃ a1 : Nat → Nat, a1 = fun i => if h.length ≤ i ∧ i < 1000 then a' (i - h.length + ι.length) else a i := ⟨_, rfl⟩
  have ag : ∀ i, i < h.length ∨ 1000 ≤ i → a i = a1 i := by
    intro i hi
    rw [ha1]
    show a i = if _ then _ else _
    rw [if_neg (by omega)]
  have key : ∀ i, i < h'.length ∨ 1000 ≤ i → a1 (rho ι ι.length h.length i) = a' i := by
    intro i hi
    by_cases c1 : i < ι.length
    · have hk1 : ι[i]? = some ι[i] := List.getElem?_eq_getElem c1
      rw [ha' i (Or.inl (by rw [← hlc]; exact c1)), rho_in c1 hk1, ← ag _ (Or.inl (hι i _ hk1))]
    · by_cases c2 : 1000 ≤ i
      · rw [ha' i (Or.inr c2), rho_hi hsm c2, ← ag i (Or.inr c2)]
      · rw [rho_new (by omega) (by omega), ha1]
        show (if _ then _ else _) = _
        rw [if_pos (by omega)]
        congr 1
        omega
  have atN : ∀ (k : Nat) (c : PCell), h'[k]? = some c → tC (cxk X) a1 (rC (rho ι ι.length h.length) c) = tC (cxk X) a' c := by
    intro k c hc
    rw [tC_rC]
    exact tC_congr (n := h'.length) key (List.all_eq_true.mp hok' c (List.mem_of_getElem? hc))
  have atJ : ∀ (j : Nat) (c : PCell), (joinH h ι h')[j]? = some c → (∃ k, k < ι.length ∧ ι[k]? = some j ∧ j < h.length ∧ ∃ c', h'[k]? = some c' ∧ c = rC (rho ι ι.length h.length) c') ∨ (j ∉ ι ∧ h[j]? = some c ∧ j < h.length) ∨ (h.length ≤ j ∧ j < 1000 ∧ ∃ c', h'[j - h.length + ι.length]? = some c' ∧ c = rC (rho ι ι.length h.length) c') := by
    intro j c hj
    unfold joinH at hj
    rw [List.getElem?_append, updH_len] at hj
    by_cases c1 : j < h.length
    · rw [if_pos c1] at hj
      by_cases hji : j ∈ ι
      · obtain ⟨k, hk1⟩ := List.getElem?_of_mem hji
        have hkl : k < ι.length := (List.getElem?_eq_some_iff.mp hk1).1
        have hkl' : k < h'.length := by omega
        have h2 : ((h'.take ι.length).map (rC (rho ι ι.length h.length)))[k]? = some (rC (rho ι ι.length h.length) h'[k]) := by simp [List.getElem?_take, hkl, hkl']
        rw [updH_in ι _ h k j _ hnd hk1 h2 c1] at hj
        cases hj
        exact Or.inl ⟨k, hkl, hk1, c1, _, List.getElem?_eq_getElem hkl', rfl⟩
      · rw [updH_out ι _ h j hji] at hj
        exact Or.inr (Or.inl ⟨hji, hj, c1⟩)
    · rw [if_neg c1, List.getElem?_map, List.getElem?_drop, Option.map_eq_some_iff] at hj
      obtain ⟨c', h1, h2⟩ := hj
      have hlt := (List.getElem?_eq_some_iff.mp h1).1
      exact Or.inr (Or.inr ⟨by omega, by omega, c', by rw [← h1]; congr 1; omega, h2.symm⟩)
  have adr : ∀ (j k : Nat), ι[k]? = some j → k < ι.length → a' k = a j := by
    intro j k hk1 hkl
    rw [ha' k (Or.inl (by rw [← hlc]; exact hkl)), rho_in hkl hk1]
  have adN : ∀ j, h.length ≤ j → j < 1000 → a1 j = a' (j - h.length + ι.length) := by
    intro j h1 h2
    rw [ha1]
    show (if _ then _ else _) = _
    rw [if_pos ⟨h1, h2⟩]
  have S' : Sm X a1 T'.heap (locs ++ L') ls L (joinH h ι h') := by
    have inj0 : ∀ (i j : Nat), i < h.length → j < h.length → a i = a j → i = j := fun i j h1 h2 e => hD.1 i j _ _ (tW_at (List.getElem?_eq_getElem h1)) (tW_at (List.getElem?_eq_getElem h2)) e
    have lt0 : ∀ j, j < h.length → a j < H.size := fun j h1 => (hP j _ (tW_at (List.getElem?_eq_getElem h1))).lt
    have injN : ∀ (i j : Nat), i < h'.length → j < h'.length → a' i = a' j → i = j := fun i j h1 h2 e => hD'.1 i j _ _ (tW_at (List.getElem?_eq_getElem h1)) (tW_at (List.getElem?_eq_getElem h2)) e
    have mix : ∀ (j k : Nat), j < h.length → ι.length ≤ k → k < h'.length → ¬ a j = a' k := by
      intro j k h1 h2 h3 e
      have h4 : va_A (tW (cxk X) (fun i => a (rho ι ι.length h.length i)) hc) H.size (a' k) := hD'.2 k _ (tW_at (List.getElem?_eq_getElem h3))
      rcases h4 with ⟨k0, e0, h5⟩ | h5
      · obtain ⟨c0, h6, h7⟩ := tW_of h5
        have hk0 : k0 < ι.length := by rw [hlc]; exact (List.getElem?_eq_some_iff.mp h6).1
        have h8 : a' k = a' k0 := by
          rw [ha' k0 (Or.inl (by rw [← hlc]; exact hk0))]
          exact (Prod.mk.inj h7).1
        have := injN k k0 h3 (by omega) h8
        omega
      · have := lt0 j h1
        omega
    refine ⟨fun j q hj => ?_, ⟨fun i j p q hi hj e => ?_, fun j q hj => ?_⟩, ⟨Nat.le_trans hS.1 (by rw [e3]; exact hz), fun q h1 h2 => ?_, fun q hq => ?_⟩, fun i hi => by rw [← ag i (by omega)]; exact hx i hi, lvS_congr ag o2 hl⟩
    · obtain ⟨c, h1, rfl⟩ := tW_of hj
      rw [e3]
      rcases atJ j c h1 with ⟨k, hkl, hk1, hjl, c', h2, rfl⟩ | ⟨hji, h2, hjl⟩ | ⟨h2, h3, c', h4, rfl⟩
      · have h3 := hP' k _ (tW_at h2)
        rw [adr j k hk1 hkl] at h3
        rw [atN k c' h2, ← ag j (Or.inl hjl)]
        exact h3
      · have h3 := hP j _ (tW_at h2)
        rw [← ag j (Or.inl hjl), ← tC_congr (n := h.length) ag (List.all_eq_true.mp o1 c (List.mem_of_getElem? h2))]
        refine h3.kept (hk _ h3.lt (fun hA => ?_))
        rcases hA with ⟨k, e, hA⟩ | hA
        · obtain ⟨i, h4, h5⟩ := sub_W e1 hA
          have := hD.1 i j _ _ h5 (tW_at h2) rfl
          subst this
          exact hji (List.mem_of_getElem? h4)
        · exact absurd h3.lt (Nat.not_lt.mpr hA)
      · have h5 := hP' _ _ (tW_at h4)
        rw [atN _ c' h4, adN j h2 h3]
        exact h5
    · obtain ⟨c, h1, rfl⟩ := tW_of hi
      obtain ⟨c2, h2, rfl⟩ := tW_of hj
      have e' : a1 i = a1 j := e
      have cls : ∀ (j : Nat) (c : PCell), (joinH h ι h')[j]? = some c → j < h.length ∨ (h.length ≤ j ∧ j < 1000 ∧ j - h.length + ι.length < h'.length) := by
        intro j c hj
        rcases atJ j c hj with ⟨k, _, _, hjl, _⟩ | ⟨_, _, hjl⟩ | ⟨h2, h3, c', h4, _⟩
        · exact Or.inl hjl
        · exact Or.inl hjl
        · exact Or.inr ⟨h2, h3, (List.getElem?_eq_some_iff.mp h4).1⟩
      rcases cls i c h1 with q1 | ⟨q1, q2, q3⟩ <;> rcases cls j c2 h2 with q4 | ⟨q4, q5, q6⟩
      · rw [← ag i (Or.inl q1), ← ag j (Or.inl q4)] at e'
        exact inj0 i j q1 q4 e'
      · rw [← ag i (Or.inl q1), adN j q4 q5] at e'
        exact absurd e' (mix i _ q1 (by omega) q6)
      · rw [adN i q1 q2, ← ag j (Or.inl q4)] at e'
        exact absurd e'.symm (mix j _ q4 (by omega) q3)
      · rw [adN i q1 q2, adN j q4 q5] at e'
        have := injN _ _ q3 q6 e'
        omega
    · obtain ⟨c, h1, rfl⟩ := tW_of hj
      show cxA X (a1 j)
      rcases atJ j c h1 with ⟨k, _, _, hjl, _⟩ | ⟨_, _, hjl⟩ | ⟨h2, h3, c', h4, _⟩
      · rw [← ag j (Or.inl hjl)]
        have h9 := hD.2 j _ (tW_at (ca := cxk X) (a := a) (List.getElem?_eq_getElem hjl))
        exact h9
      · rw [← ag j (Or.inl hjl)]
        have h9 := hD.2 j _ (tW_at (ca := cxk X) (a := a) (List.getElem?_eq_getElem hjl))
        exact h9
      · rw [adN j h2 h3]
        have h9 := hD'.2 _ _ (tW_at h4)
        exact hFc _ h9
    · rw [e3, hk q (Nat.lt_of_lt_of_le h1 hS.1) (fun z => h2 (hFc q z))]
      exact hS.2.1 q h1 h2
    · rcases List.mem_append.mp hq with h | h
      · exact hS.2.2 q h
      · exact hFc _ (hL q h)
  obtain ⟨t2, b1, b2⟩ := kk none h' hφ a1 T'.heap (locs ++ L') ls S' T' rfl X'
  refine ⟨t2, stp t2 ?_, b2⟩
  have hv' : v = none := by simpa using hv
  subst hv'
  rw [← st_congr ag o3] at b1
  exact b1
theorem PW.callI (hX : Fx X cc own ret d mc ms) {idx i : Nat} (hm : MSI own idx μ n) (hnone : μ.2.2.2 = none) (hM : PM μ d' mc' ms' as hc Φ) (hd : decode cc pc = .ok (.invokespecial idx, 3))
    (ι : List Nat) (e1 : ι.map (fun i => h[i]?) = hc.map (fun c => some (rC (rho ι ι.length h.length) c))) (hst : st = (as.map (tV (rho ι ι.length h.length))).reverse ++ rest) (hob : (as.map (tV (rho ι ι.length h.length))).head? = some (.ref i)) (hn : as.length = n + 1)
    (hnd : va_nd ι = true) (hsm : Nat.ble ι.length 1000 = true) (hdd : Nat.blt d' d = true) (hcc : Nat.ble (kc + mc') mc = true) (hss : Nat.ble (ks + ms') ms = true) (hr : Nat.ble ((rest.map fun v => v.category).sum) 8 = true) (hx0 : cxn X ≤ h.length) (hok : okS h.length L rest h = true)
    (hΦ : ∀ r h', Φ r h' → r = none ∧ ι.length ≤ h'.length ∧ h'.length + h.length ≤ 1000 ∧ okH h'.length h' = true)
    (kk : ∀ r h', Φ r h' → PW X (pc + 3) L rest (joinH h ι h') (kc + mc') (ks + ms')) : PW X pc L st h kc ks := by
  refine PW.coreN hX e1 hnd hsm hx0 hok hΦ (fun a H locs ls S => ?_) kk
  obtain ⟨hPc, hDc, hFc, hKc⟩ := sub_P hX S e1 hnd hsm
  obtain ⟨hlk, hin, hcd, hbb, hml, hnm, him⟩ := hm
  obtain ⟨r1, r2, r3, r4⟩ := hX.r
  have hdd := Nat.blt_eq.mp hdd
  have hcc := Nat.ble_eq.mp hcc
  have hss := Nat.ble_eq.mp hss
  cases as with
  | nil => simp at hn
  | cons v0 As =>
    simp only [List.map_cons, List.head?_cons, Option.some.injEq] at hob
    refine ⟨((v0 :: As).map (tV (fun i => a (rho ι ι.length h.length i)))).toArray, ?_⟩
    have e0 : tV (fun i => a (rho ι ι.length h.length i)) v0 = .ref (a i) := by rw [← tV_tV a, hob]; rfl
    have e2 : ((v0 :: As).map (tV (fun i => a (rho ι ι.length h.length i)))).toArray = (Value.ref (a i) :: As.map (tV (fun i => a (rho ι ι.length h.length i)))).toArray := by rw [List.map_cons, e0]
    rw [e2]
    refine va_runI (As := As.map (tV (fun i => a (rho ι ι.length h.length i)))) (b := a i) (n := n) (rest := rest.map (tV a)) (Ts := AW) (nL := cxL X) ⟨hX.x, hX.b, hX.ml, hX.ow, hX.ts⟩ (hM (cxl X) (cxD X) (cxk X) (fun i => a (rho ι ι.length h.length i)) H.size) (cwI (ws' := AW) n hX.ts (fun w hw => ?_) (by rw [hnone]) rfl rfl (hX.ts _ hin) (hX.ts _ hlk) (hX.ts _ him) hnm hbb ⟨by show d' + 1 ≤ _; omega, by show 8 + (μ.2.2.1 + 11) + 32 * d' ≤ _; omega⟩) ⟨pmP_blind, fun U hU hW => ?_⟩ rfl ?_ S.2.2.2.2.1 ?_ (cat_rest hr) hd ⟨by omega, by omega⟩
    · rcases List.mem_cons.mp hw with rfl | hw
      · exact good_ws _ hcd
      · exact good_ws _ hw
    · rw [← e2]
      exact pmP_of hPc hDc hKc U hU hW
    · simpa using hn
    · show st.map (tV a) = _
      rw [hst, List.map_append, ← List.map_reverse, List.map_map]
      have e3 : tV a ∘ tV (rho ι ι.length h.length) = tV (fun i => a (rho ι ι.length h.length i)) := funext fun v => tV_tV a _ v
      rw [e3, List.reverse_cons, List.map_append, List.map_cons, List.map_nil, e0, List.map_reverse, List.append_assoc]
      rfl
theorem PW.callIN (hX : Fx X cc own ret d mc ms) {idx i : Nat} (hm : MNI own idx μ n) (hnone : μ.2.2.2 = none) (hM : PM μ d' mc' ms' as hc Φ) (hd : decode cc pc = .ok (.invokespecial idx, 3))
    (ι : List Nat) (e1 : ι.map (fun i => h[i]?) = hc.map (fun c => some (rC (rho ι ι.length h.length) c))) (hst : st = (as.map (tV (rho ι ι.length h.length))).reverse ++ rest) (hob : (as.map (tV (rho ι ι.length h.length))).head? = some (.ref i)) (hn : as.length = n + 1)
    (hnd : va_nd ι = true) (hsm : Nat.ble ι.length 1000 = true) (hdd : Nat.blt d' d = true) (hcc : Nat.ble (kc + mc') mc = true) (hss : Nat.ble (ks + ms') ms = true) (hr : Nat.ble ((rest.map fun v => v.category).sum) 8 = true) (hx0 : cxn X ≤ h.length) (hok : okS h.length L rest h = true)
    (hΦ : ∀ r h', Φ r h' → r = none ∧ ι.length ≤ h'.length ∧ h'.length + h.length ≤ 1000 ∧ okH h'.length h' = true)
    (kk : ∀ r h', Φ r h' → PW X (pc + 3) L rest (joinH h ι h') (kc + mc') (ks + ms')) : PW X pc L st h kc ks := by
  refine PW.coreN hX e1 hnd hsm hx0 hok hΦ (fun a H locs ls S => ?_) kk
  obtain ⟨hPc, hDc, hFc, hKc⟩ := sub_P hX S e1 hnd hsm
  obtain ⟨hlk, hin, hcd, hbb, hml, hnm, him⟩ := hm
  obtain ⟨r1, r2, r3, r4⟩ := hX.r
  have hdd := Nat.blt_eq.mp hdd
  have hcc := Nat.ble_eq.mp hcc
  have hss := Nat.ble_eq.mp hss
  cases as with
  | nil => simp at hn
  | cons v0 As =>
    simp only [List.map_cons, List.head?_cons, Option.some.injEq] at hob
    refine ⟨((v0 :: As).map (tV (fun i => a (rho ι ι.length h.length i)))).toArray, ?_⟩
    have e0 : tV (fun i => a (rho ι ι.length h.length i)) v0 = .ref (a i) := by rw [← tV_tV a, hob]; rfl
    have e2 : ((v0 :: As).map (tV (fun i => a (rho ι ι.length h.length i)))).toArray = (Value.ref (a i) :: As.map (tV (fun i => a (rho ι ι.length h.length i)))).toArray := by rw [List.map_cons, e0]
    rw [e2]
    refine va_runIN (As := As.map (tV (fun i => a (rho ι ι.length h.length i)))) (b := a i) (n := n) (rest := rest.map (tV a)) (Ts := AW) (nL := cxL X) ⟨hX.x, hX.b, hX.ml, hX.ow, hX.ts⟩ (hM (cxl X) (cxD X) (cxk X) (fun i => a (rho ι ι.length h.length i)) H.size) ⟨va_cnB (ws' := AW) n hX.ts (fun w hw => ?_) (by rw [hnone]) rfl rfl (hX.K.2.1 _ hlk) (hX.ts _ hin) hbb ⟨by show d' + 1 ≤ _; omega, by show 8 + (μ.2.2.1 + 11) + 32 * d' ≤ _; omega⟩, hnm, hX.ts _ him⟩ ⟨pmP_blind, fun U hU hW => ?_⟩ rfl ?_ S.2.2.2.2.1 ?_ (cat_rest hr) hd ⟨by omega, by omega⟩
    · rcases List.mem_cons.mp hw with rfl | hw
      · exact good_ws _ hcd
      · exact good_ws _ hw
    · rw [← e2]
      exact pmP_of hPc hDc hKc U hU hW
    · simpa using hn
    · show st.map (tV a) = _
      rw [hst, List.map_append, ← List.map_reverse, List.map_map]
      have e3 : tV a ∘ tV (rho ι ι.length h.length) = tV (fun i => a (rho ι ι.length h.length i)) := funext fun v => tV_tV a _ v
      rw [e3, List.reverse_cons, List.map_append, List.map_cons, List.map_nil, e0, List.map_reverse, List.append_assoc]
      rfl
end Con
end
section
set_option maxRecDepth 20000 in
theorem uw_X0 : ∀ w ∈ u_ws RX0 TX0 7, w ∈ AW := by
  intro w hw
  simp only [u_ws, List.mem_map, List.mem_range] at hw
  obtain ⟨k, hk, rfl⟩ := hw
  match k, hk with
  | 0, _ => exact aw1 (i := 181) rfl rfl
  | 1, _ => exact aw1 (i := 183) rfl rfl
  | 2, _ => exact aw1 (i := 185) rfl rfl
  | 3, _ => exact aw1 (i := 187) rfl rfl
  | 4, _ => exact aw1 (i := 189) rfl rfl
  | 5, _ => exact aw1 (i := 191) rfl rfl
  | 6, _ => exact aw1 (i := 193) rfl rfl
  | k + 7, hk => exact absurd hk (by omega)
set_option maxRecDepth 20000 in
theorem uw_X1 : ∀ w ∈ u_ws RX1 TX1 11, w ∈ AW := by
  intro w hw
  simp only [u_ws, List.mem_map, List.mem_range] at hw
  obtain ⟨k, hk, rfl⟩ := hw
  match k, hk with
  | 0, _ => exact aw1 (i := 67) rfl rfl
  | 1, _ => exact aw1 (i := 69) rfl rfl
  | 2, _ => exact aw1 (i := 71) rfl rfl
  | 3, _ => exact aw1 (i := 73) rfl rfl
  | 4, _ => exact aw1 (i := 75) rfl rfl
  | 5, _ => exact aw1 (i := 77) rfl rfl
  | 6, _ => exact aw1 (i := 79) rfl rfl
  | 7, _ => exact aw1 (i := 81) rfl rfl
  | 8, _ => exact aw1 (i := 83) rfl rfl
  | 9, _ => exact aw1 (i := 85) rfl rfl
  | 10, _ => exact aw1 (i := 87) rfl rfl
  | k + 11, hk => exact absurd hk (by omega)
set_option maxRecDepth 20000 in
theorem uw_X2 : ∀ w ∈ u_ws RX2 TX2 5, w ∈ AW := by
  intro w hw
  simp only [u_ws, List.mem_map, List.mem_range] at hw
  obtain ⟨k, hk, rfl⟩ := hw
  match k, hk with
  | 0, _ => exact aw1 (i := 135) rfl rfl
  | 1, _ => exact aw1 (i := 137) rfl rfl
  | 2, _ => exact aw1 (i := 139) rfl rfl
  | 3, _ => exact aw1 (i := 141) rfl rfl
  | 4, _ => exact aw1 (i := 143) rfl rfl
  | k + 5, hk => exact absurd hk (by omega)
set_option maxRecDepth 20000 in
theorem uw_X3 : ∀ w ∈ u_ws RX3 TX3 5, w ∈ AW := by
  intro w hw
  simp only [u_ws, List.mem_map, List.mem_range] at hw
  obtain ⟨k, hk, rfl⟩ := hw
  match k, hk with
  | 0, _ => exact aw1 (i := 211) rfl rfl
  | 1, _ => exact aw1 (i := 213) rfl rfl
  | 2, _ => exact aw1 (i := 215) rfl rfl
  | 3, _ => exact aw1 (i := 217) rfl rfl
  | 4, _ => exact aw1 (i := 219) rfl rfl
  | k + 5, hk => exact absurd hk (by omega)
set_option maxRecDepth 20000 in
theorem uw_X4 : ∀ w ∈ u_ws RX4 TX4 8, w ∈ AW := by
  intro w hw
  simp only [u_ws, List.mem_map, List.mem_range] at hw
  obtain ⟨k, hk, rfl⟩ := hw
  match k, hk with
  | 0, _ => exact aw1 (i := 107) rfl rfl
  | 1, _ => exact aw1 (i := 109) rfl rfl
  | 2, _ => exact aw1 (i := 111) rfl rfl
  | 3, _ => exact aw1 (i := 113) rfl rfl
  | 4, _ => exact aw1 (i := 115) rfl rfl
  | 5, _ => exact aw1 (i := 117) rfl rfl
  | 6, _ => exact aw1 (i := 119) rfl rfl
  | 7, _ => exact aw1 (i := 121) rfl rfl
  | k + 8, hk => exact absurd hk (by omega)
set_option maxRecDepth 20000 in
theorem uw_X5 : ∀ w ∈ u_ws RX5 TX5 3, w ∈ AW := by
  intro w hw
  simp only [u_ws, List.mem_map, List.mem_range] at hw
  obtain ⟨k, hk, rfl⟩ := hw
  match k, hk with
  | 0, _ => exact aw1 (i := 165) rfl rfl
  | 1, _ => exact aw1 (i := 167) rfl rfl
  | 2, _ => exact aw1 (i := 169) rfl rfl
  | k + 3, hk => exact absurd hk (by omega)
set_option maxRecDepth 20000 in
theorem uw_X6 : ∀ w ∈ u_ws RX6 TX6 9, w ∈ AW := by
  intro w hw
  simp only [u_ws, List.mem_map, List.mem_range] at hw
  obtain ⟨k, hk, rfl⟩ := hw
  match k, hk with
  | 0, _ => exact aw1 (i := 231) rfl rfl
  | 1, _ => exact aw1 (i := 233) rfl rfl
  | 2, _ => exact aw1 (i := 235) rfl rfl
  | 3, _ => exact aw1 (i := 237) rfl rfl
  | 4, _ => exact aw1 (i := 239) rfl rfl
  | 5, _ => exact aw2 (i := 1) rfl rfl
  | 6, _ => exact aw2 (i := 3) rfl rfl
  | 7, _ => exact aw2 (i := 5) rfl rfl
  | 8, _ => exact aw2 (i := 7) rfl rfl
  | k + 9, hk => exact absurd hk (by omega)
set_option maxRecDepth 20000 in
theorem uw_X7 : ∀ w ∈ u_ws RX7 TX7 24, w ∈ AW := by
  intro w hw
  simp only [u_ws, List.mem_map, List.mem_range] at hw
  obtain ⟨k, hk, rfl⟩ := hw
  match k, hk with
  | 0, _ => exact aw4 (i := 62) rfl rfl
  | 1, _ => exact aw4 (i := 64) rfl rfl
  | 2, _ => exact aw4 (i := 66) rfl rfl
  | 3, _ => exact aw4 (i := 68) rfl rfl
  | 4, _ => exact aw4 (i := 70) rfl rfl
  | 5, _ => exact aw4 (i := 72) rfl rfl
  | 6, _ => exact aw4 (i := 74) rfl rfl
  | 7, _ => exact aw4 (i := 76) rfl rfl
  | 8, _ => exact aw4 (i := 78) rfl rfl
  | 9, _ => exact aw4 (i := 80) rfl rfl
  | 10, _ => exact aw4 (i := 82) rfl rfl
  | 11, _ => exact aw4 (i := 84) rfl rfl
  | 12, _ => exact aw4 (i := 86) rfl rfl
  | 13, _ => exact aw4 (i := 88) rfl rfl
  | 14, _ => exact aw4 (i := 90) rfl rfl
  | 15, _ => exact aw4 (i := 92) rfl rfl
  | 16, _ => exact aw4 (i := 94) rfl rfl
  | 17, _ => exact aw4 (i := 96) rfl rfl
  | 18, _ => exact aw4 (i := 98) rfl rfl
  | 19, _ => exact aw4 (i := 100) rfl rfl
  | 20, _ => exact aw4 (i := 102) rfl rfl
  | 21, _ => exact aw4 (i := 104) rfl rfl
  | 22, _ => exact aw4 (i := 106) rfl rfl
  | 23, _ => exact aw4 (i := 108) rfl rfl
  | k + 24, hk => exact absurd hk (by omega)
set_option maxRecDepth 20000 in
theorem fl_X1_9 : FL RX1 9 1 0 := ⟨_, _, _, rfl, by decide, uw_X1, aw1 (i := 31) rfl rfl⟩
set_option maxRecDepth 20000 in
theorem fp_X1_9 : FP RX1 9 1 0 (.array .int) true := ⟨_, _, _, tyX1, rfl, by decide, uw_X1, aw1 (i := 31) rfl rfl, tyX1_ok, nmX1, rfl, rfl, fun _ => rfl⟩
set_option maxRecDepth 20000 in
theorem fl_X6_83 : FL RX6 83 1 0 := ⟨_, _, _, rfl, by decide, uw_X1, aw1 (i := 32) rfl rfl⟩
set_option maxRecDepth 20000 in
theorem fl_X2_68 : FL RX2 68 1 0 := ⟨_, _, _, rfl, by decide, uw_X1, aw1 (i := 33) rfl rfl⟩
set_option maxRecDepth 20000 in
theorem fl_X1_15 : FL RX1 15 1 1 := ⟨_, _, _, rfl, by decide, uw_X1, aw1 (i := 34) rfl rfl⟩
set_option maxRecDepth 20000 in
theorem fp_X1_15 : FP RX1 15 1 1 (.array .int) true := ⟨_, _, _, tyX1, rfl, by decide, uw_X1, aw1 (i := 34) rfl rfl, tyX1_ok, nmX1, rfl, rfl, fun _ => rfl⟩
set_option maxRecDepth 20000 in
theorem fl_X2_33 : FL RX2 33 1 1 := ⟨_, _, _, rfl, by decide, uw_X1, aw1 (i := 35) rfl rfl⟩
set_option maxRecDepth 20000 in
theorem fl_X6_86 : FL RX6 86 1 1 := ⟨_, _, _, rfl, by decide, uw_X1, aw1 (i := 36) rfl rfl⟩
set_option maxRecDepth 20000 in
theorem fl_X5_73 : FL RX5 73 1 1 := ⟨_, _, _, rfl, by decide, uw_X1, aw1 (i := 37) rfl rfl⟩
set_option maxRecDepth 20000 in
theorem fl_X1_18 : FL RX1 18 1 2 := ⟨_, _, _, rfl, by decide, uw_X1, aw1 (i := 38) rfl rfl⟩
set_option maxRecDepth 20000 in
theorem fp_X1_18 : FP RX1 18 1 2 (.array .int) true := ⟨_, _, _, tyX1, rfl, by decide, uw_X1, aw1 (i := 38) rfl rfl, tyX1_ok, nmX1, rfl, rfl, fun _ => rfl⟩
set_option maxRecDepth 20000 in
theorem fl_X6_89 : FL RX6 89 1 2 := ⟨_, _, _, rfl, by decide, uw_X1, aw1 (i := 39) rfl rfl⟩
set_option maxRecDepth 20000 in
theorem fl_X2_57 : FL RX2 57 1 2 := ⟨_, _, _, rfl, by decide, uw_X1, aw1 (i := 40) rfl rfl⟩
set_option maxRecDepth 20000 in
theorem fl_X1_21 : FL RX1 21 1 3 := ⟨_, _, _, rfl, by decide, uw_X1, aw1 (i := 41) rfl rfl⟩
set_option maxRecDepth 20000 in
theorem fp_X1_21 : FP RX1 21 1 3 (.array .int) true := ⟨_, _, _, tyX1, rfl, by decide, uw_X1, aw1 (i := 41) rfl rfl, tyX1_ok, nmX1, rfl, rfl, fun _ => rfl⟩
set_option maxRecDepth 20000 in
theorem fl_X6_95 : FL RX6 95 1 3 := ⟨_, _, _, rfl, by decide, uw_X1, aw1 (i := 42) rfl rfl⟩
set_option maxRecDepth 20000 in
theorem fl_X5_38 : FL RX5 38 1 3 := ⟨_, _, _, rfl, by decide, uw_X1, aw1 (i := 43) rfl rfl⟩
set_option maxRecDepth 20000 in
theorem fl_X1_24 : FL RX1 24 1 4 := ⟨_, _, _, rfl, by decide, uw_X1, aw1 (i := 44) rfl rfl⟩
set_option maxRecDepth 20000 in
theorem fp_X1_24 : FP RX1 24 1 4 (.array .int) true := ⟨_, _, _, tyX1, rfl, by decide, uw_X1, aw1 (i := 44) rfl rfl, tyX1_ok, nmX1, rfl, rfl, fun _ => rfl⟩
set_option maxRecDepth 20000 in
theorem fl_X6_98 : FL RX6 98 1 4 := ⟨_, _, _, rfl, by decide, uw_X1, aw1 (i := 45) rfl rfl⟩
set_option maxRecDepth 20000 in
theorem fl_X5_43 : FL RX5 43 1 4 := ⟨_, _, _, rfl, by decide, uw_X1, aw1 (i := 46) rfl rfl⟩
set_option maxRecDepth 20000 in
theorem fl_X1_27 : FL RX1 27 1 5 := ⟨_, _, _, rfl, by decide, uw_X1, aw1 (i := 47) rfl rfl⟩
set_option maxRecDepth 20000 in
theorem fp_X1_27 : FP RX1 27 1 5 (.array .int) true := ⟨_, _, _, tyX1, rfl, by decide, uw_X1, aw1 (i := 47) rfl rfl, tyX1_ok, nmX1, rfl, rfl, fun _ => rfl⟩
set_option maxRecDepth 20000 in
theorem fl_X6_101 : FL RX6 101 1 5 := ⟨_, _, _, rfl, by decide, uw_X1, aw1 (i := 48) rfl rfl⟩
set_option maxRecDepth 20000 in
theorem fl_X5_46 : FL RX5 46 1 5 := ⟨_, _, _, rfl, by decide, uw_X1, aw1 (i := 49) rfl rfl⟩
set_option maxRecDepth 20000 in
theorem fl_X1_30 : FL RX1 30 1 6 := ⟨_, _, _, rfl, by decide, uw_X1, aw1 (i := 50) rfl rfl⟩
set_option maxRecDepth 20000 in
theorem fp_X1_30 : FP RX1 30 1 6 (.array .int) true := ⟨_, _, _, tyX1, rfl, by decide, uw_X1, aw1 (i := 50) rfl rfl, tyX1_ok, nmX1, rfl, rfl, fun _ => rfl⟩
set_option maxRecDepth 20000 in
theorem fl_X0_90 : FL RX0 90 1 6 := ⟨_, _, _, rfl, by decide, uw_X1, aw1 (i := 51) rfl rfl⟩
set_option maxRecDepth 20000 in
theorem fl_X6_104 : FL RX6 104 1 6 := ⟨_, _, _, rfl, by decide, uw_X1, aw1 (i := 52) rfl rfl⟩
set_option maxRecDepth 20000 in
theorem fl_X1_33 : FL RX1 33 1 7 := ⟨_, _, _, rfl, by decide, uw_X1, aw1 (i := 53) rfl rfl⟩
set_option maxRecDepth 20000 in
theorem fp_X1_33 : FP RX1 33 1 7 .int false := ⟨_, _, _, tyX1, rfl, by decide, uw_X1, aw1 (i := 53) rfl rfl, tyX1_ok, nmX1, rfl, rfl, fun _ => rfl⟩
set_option maxRecDepth 20000 in
theorem fl_X2_28 : FL RX2 28 1 7 := ⟨_, _, _, rfl, by decide, uw_X1, aw1 (i := 54) rfl rfl⟩
set_option maxRecDepth 20000 in
theorem fp_X2_28 : FP RX2 28 1 7 .int false := ⟨_, _, _, tyX1, rfl, by decide, uw_X1, aw1 (i := 54) rfl rfl, tyX1_ok, nmX1, rfl, rfl, fun _ => by first | rfl | contradiction⟩
set_option maxRecDepth 20000 in
theorem fl_X5_70 : FL RX5 70 1 7 := ⟨_, _, _, rfl, by decide, uw_X1, aw1 (i := 55) rfl rfl⟩
set_option maxRecDepth 20000 in
theorem fp_X5_70 : FP RX5 70 1 7 .int false := ⟨_, _, _, tyX1, rfl, by decide, uw_X1, aw1 (i := 55) rfl rfl, tyX1_ok, nmX1, rfl, rfl, fun _ => by first | rfl | contradiction⟩
set_option maxRecDepth 20000 in
theorem fl_X6_226 : FL RX6 226 1 7 := ⟨_, _, _, rfl, by decide, uw_X1, aw1 (i := 56) rfl rfl⟩
set_option maxRecDepth 20000 in
theorem fp_X6_226 : FP RX6 226 1 7 .int false := ⟨_, _, _, tyX1, rfl, by decide, uw_X1, aw1 (i := 56) rfl rfl, tyX1_ok, nmX1, rfl, rfl, fun _ => by first | rfl | contradiction⟩
set_option maxRecDepth 20000 in
theorem fl_X1_37 : FL RX1 37 1 8 := ⟨_, _, _, rfl, by decide, uw_X1, aw1 (i := 57) rfl rfl⟩
set_option maxRecDepth 20000 in
theorem fp_X1_37 : FP RX1 37 1 8 .int false := ⟨_, _, _, tyX1, rfl, by decide, uw_X1, aw1 (i := 57) rfl rfl, tyX1_ok, nmX1, rfl, rfl, fun _ => rfl⟩
set_option maxRecDepth 20000 in
theorem fl_X0_87 : FL RX0 87 1 8 := ⟨_, _, _, rfl, by decide, uw_X1, aw1 (i := 58) rfl rfl⟩
set_option maxRecDepth 20000 in
theorem fp_X0_87 : FP RX0 87 1 8 .int false := ⟨_, _, _, tyX1, rfl, by decide, uw_X1, aw1 (i := 58) rfl rfl, tyX1_ok, nmX1, rfl, rfl, fun _ => by first | rfl | contradiction⟩
set_option maxRecDepth 20000 in
theorem fl_X6_234 : FL RX6 234 1 8 := ⟨_, _, _, rfl, by decide, uw_X1, aw1 (i := 59) rfl rfl⟩
set_option maxRecDepth 20000 in
theorem fp_X6_234 : FP RX6 234 1 8 .int false := ⟨_, _, _, tyX1, rfl, by decide, uw_X1, aw1 (i := 59) rfl rfl, tyX1_ok, nmX1, rfl, rfl, fun _ => by first | rfl | contradiction⟩
set_option maxRecDepth 20000 in
theorem fl_X1_40 : FL RX1 40 1 9 := ⟨_, _, _, rfl, by decide, uw_X1, aw1 (i := 60) rfl rfl⟩
set_option maxRecDepth 20000 in
theorem fp_X1_40 : FP RX1 40 1 9 .int false := ⟨_, _, _, tyX1, rfl, by decide, uw_X1, aw1 (i := 60) rfl rfl, tyX1_ok, nmX1, rfl, rfl, fun _ => rfl⟩
set_option maxRecDepth 20000 in
theorem fl_X2_40 : FL RX2 40 1 9 := ⟨_, _, _, rfl, by decide, uw_X1, aw1 (i := 61) rfl rfl⟩
set_option maxRecDepth 20000 in
theorem fp_X2_40 : FP RX2 40 1 9 .int false := ⟨_, _, _, tyX1, rfl, by decide, uw_X1, aw1 (i := 61) rfl rfl, tyX1_ok, nmX1, rfl, rfl, fun _ => by first | rfl | contradiction⟩
set_option maxRecDepth 20000 in
theorem fl_X0_77 : FL RX0 77 1 9 := ⟨_, _, _, rfl, by decide, uw_X1, aw1 (i := 62) rfl rfl⟩
set_option maxRecDepth 20000 in
theorem fp_X0_77 : FP RX0 77 1 9 .int false := ⟨_, _, _, tyX1, rfl, by decide, uw_X1, aw1 (i := 62) rfl rfl, tyX1_ok, nmX1, rfl, rfl, fun _ => by first | rfl | contradiction⟩
set_option maxRecDepth 20000 in
theorem fl_X6_114 : FL RX6 114 1 9 := ⟨_, _, _, rfl, by decide, uw_X1, aw1 (i := 63) rfl rfl⟩
set_option maxRecDepth 20000 in
theorem fp_X6_114 : FP RX6 114 1 9 .int false := ⟨_, _, _, tyX1, rfl, by decide, uw_X1, aw1 (i := 63) rfl rfl, tyX1_ok, nmX1, rfl, rfl, fun _ => by first | rfl | contradiction⟩
set_option maxRecDepth 20000 in
theorem fl_X1_43 : FL RX1 43 1 10 := ⟨_, _, _, rfl, by decide, uw_X1, aw1 (i := 64) rfl rfl⟩
set_option maxRecDepth 20000 in
theorem fp_X1_43 : FP RX1 43 1 10 .int false := ⟨_, _, _, tyX1, rfl, by decide, uw_X1, aw1 (i := 64) rfl rfl, tyX1_ok, nmX1, rfl, rfl, fun _ => rfl⟩
set_option maxRecDepth 20000 in
theorem fl_X2_43 : FL RX2 43 1 10 := ⟨_, _, _, rfl, by decide, uw_X1, aw1 (i := 65) rfl rfl⟩
set_option maxRecDepth 20000 in
theorem fp_X2_43 : FP RX2 43 1 10 .int false := ⟨_, _, _, tyX1, rfl, by decide, uw_X1, aw1 (i := 65) rfl rfl, tyX1_ok, nmX1, rfl, rfl, fun _ => by first | rfl | contradiction⟩
set_option maxRecDepth 20000 in
theorem fl_X6_117 : FL RX6 117 1 10 := ⟨_, _, _, rfl, by decide, uw_X1, aw1 (i := 66) rfl rfl⟩
set_option maxRecDepth 20000 in
theorem fp_X6_117 : FP RX6 117 1 10 .int false := ⟨_, _, _, tyX1, rfl, by decide, uw_X1, aw1 (i := 66) rfl rfl, tyX1_ok, nmX1, rfl, rfl, fun _ => by first | rfl | contradiction⟩
set_option maxRecDepth 20000 in
theorem fl_X4_9 : FL RX4 9 4 0 := ⟨_, _, _, rfl, by decide, uw_X4, aw1 (i := 97) rfl rfl⟩
set_option maxRecDepth 20000 in
theorem fp_X4_9 : FP RX4 9 4 0 (.array .int) true := ⟨_, _, _, tyX4, rfl, by decide, uw_X4, aw1 (i := 97) rfl rfl, tyX4_ok, nmX4, rfl, rfl, fun _ => rfl⟩
set_option maxRecDepth 20000 in
theorem fl_X4_15 : FL RX4 15 4 1 := ⟨_, _, _, rfl, by decide, uw_X4, aw1 (i := 98) rfl rfl⟩
set_option maxRecDepth 20000 in
theorem fp_X4_15 : FP RX4 15 4 1 .int false := ⟨_, _, _, tyX4, rfl, by decide, uw_X4, aw1 (i := 98) rfl rfl, tyX4_ok, nmX4, rfl, rfl, fun _ => rfl⟩
set_option maxRecDepth 20000 in
theorem fl_X6_62 : FL RX6 62 4 1 := ⟨_, _, _, rfl, by decide, uw_X4, aw1 (i := 99) rfl rfl⟩
set_option maxRecDepth 20000 in
theorem fp_X6_62 : FP RX6 62 4 1 .int false := ⟨_, _, _, tyX4, rfl, by decide, uw_X4, aw1 (i := 99) rfl rfl, tyX4_ok, nmX4, rfl, rfl, fun _ => by first | rfl | contradiction⟩
set_option maxRecDepth 20000 in
theorem fl_X4_19 : FL RX4 19 4 2 := ⟨_, _, _, rfl, by decide, uw_X4, aw1 (i := 100) rfl rfl⟩
set_option maxRecDepth 20000 in
theorem fp_X4_19 : FP RX4 19 4 2 .int false := ⟨_, _, _, tyX4, rfl, by decide, uw_X4, aw1 (i := 100) rfl rfl, tyX4_ok, nmX4, rfl, rfl, fun _ => rfl⟩
set_option maxRecDepth 20000 in
theorem fl_X6_240 : FL RX6 240 4 2 := ⟨_, _, _, rfl, by decide, uw_X4, aw1 (i := 101) rfl rfl⟩
set_option maxRecDepth 20000 in
theorem fp_X6_240 : FP RX6 240 4 2 .int false := ⟨_, _, _, tyX4, rfl, by decide, uw_X4, aw1 (i := 101) rfl rfl, tyX4_ok, nmX4, rfl, rfl, fun _ => by first | rfl | contradiction⟩
set_option maxRecDepth 20000 in
theorem fl_X4_22 : FL RX4 22 4 3 := ⟨_, _, _, rfl, by decide, uw_X4, aw1 (i := 102) rfl rfl⟩
set_option maxRecDepth 20000 in
theorem fp_X4_22 : FP RX4 22 4 3 .int false := ⟨_, _, _, tyX4, rfl, by decide, uw_X4, aw1 (i := 102) rfl rfl, tyX4_ok, nmX4, rfl, rfl, fun _ => rfl⟩
set_option maxRecDepth 20000 in
theorem fl_X4_25 : FL RX4 25 4 4 := ⟨_, _, _, rfl, by decide, uw_X4, aw1 (i := 103) rfl rfl⟩
set_option maxRecDepth 20000 in
theorem fp_X4_25 : FP RX4 25 4 4 .int false := ⟨_, _, _, tyX4, rfl, by decide, uw_X4, aw1 (i := 103) rfl rfl, tyX4_ok, nmX4, rfl, rfl, fun _ => rfl⟩
set_option maxRecDepth 20000 in
theorem fl_X4_28 : FL RX4 28 4 5 := ⟨_, _, _, rfl, by decide, uw_X4, aw1 (i := 104) rfl rfl⟩
set_option maxRecDepth 20000 in
theorem fp_X4_28 : FP RX4 28 4 5 .int false := ⟨_, _, _, tyX4, rfl, by decide, uw_X4, aw1 (i := 104) rfl rfl, tyX4_ok, nmX4, rfl, rfl, fun _ => rfl⟩
set_option maxRecDepth 20000 in
theorem fl_X4_31 : FL RX4 31 4 6 := ⟨_, _, _, rfl, by decide, uw_X4, aw1 (i := 105) rfl rfl⟩
set_option maxRecDepth 20000 in
theorem fp_X4_31 : FP RX4 31 4 6 .int false := ⟨_, _, _, tyX4, rfl, by decide, uw_X4, aw1 (i := 105) rfl rfl, tyX4_ok, nmX4, rfl, rfl, fun _ => rfl⟩
set_option maxRecDepth 20000 in
theorem fl_X4_34 : FL RX4 34 4 7 := ⟨_, _, _, rfl, by decide, uw_X4, aw1 (i := 106) rfl rfl⟩
set_option maxRecDepth 20000 in
theorem fp_X4_34 : FP RX4 34 4 7 .int false := ⟨_, _, _, tyX4, rfl, by decide, uw_X4, aw1 (i := 106) rfl rfl, tyX4_ok, nmX4, rfl, rfl, fun _ => rfl⟩
set_option maxRecDepth 20000 in
theorem fl_X2_9 : FL RX2 9 2 0 := ⟨_, _, _, rfl, by decide, uw_X2, aw1 (i := 130) rfl rfl⟩
set_option maxRecDepth 20000 in
theorem fp_X2_9 : FP RX2 9 2 0 (.array .int) true := ⟨_, _, _, tyX2, rfl, by decide, uw_X2, aw1 (i := 130) rfl rfl, tyX2_ok, nmX2, rfl, rfl, fun _ => rfl⟩
set_option maxRecDepth 20000 in
theorem fl_X2_15 : FL RX2 15 2 1 := ⟨_, _, _, rfl, by decide, uw_X2, aw1 (i := 131) rfl rfl⟩
set_option maxRecDepth 20000 in
theorem fp_X2_15 : FP RX2 15 2 1 .int false := ⟨_, _, _, tyX2, rfl, by decide, uw_X2, aw1 (i := 131) rfl rfl, tyX2_ok, nmX2, rfl, rfl, fun _ => rfl⟩
set_option maxRecDepth 20000 in
theorem fl_X2_19 : FL RX2 19 2 2 := ⟨_, _, _, rfl, by decide, uw_X2, aw1 (i := 132) rfl rfl⟩
set_option maxRecDepth 20000 in
theorem fp_X2_19 : FP RX2 19 2 2 .int false := ⟨_, _, _, tyX2, rfl, by decide, uw_X2, aw1 (i := 132) rfl rfl, tyX2_ok, nmX2, rfl, rfl, fun _ => rfl⟩
set_option maxRecDepth 20000 in
theorem fl_X2_22 : FL RX2 22 2 3 := ⟨_, _, _, rfl, by decide, uw_X2, aw1 (i := 133) rfl rfl⟩
set_option maxRecDepth 20000 in
theorem fp_X2_22 : FP RX2 22 2 3 .int false := ⟨_, _, _, tyX2, rfl, by decide, uw_X2, aw1 (i := 133) rfl rfl, tyX2_ok, nmX2, rfl, rfl, fun _ => rfl⟩
set_option maxRecDepth 20000 in
theorem fl_X2_25 : FL RX2 25 2 4 := ⟨_, _, _, rfl, by decide, uw_X2, aw1 (i := 134) rfl rfl⟩
set_option maxRecDepth 20000 in
theorem fp_X2_25 : FP RX2 25 2 4 .int false := ⟨_, _, _, tyX2, rfl, by decide, uw_X2, aw1 (i := 134) rfl rfl, tyX2_ok, nmX2, rfl, rfl, fun _ => rfl⟩
set_option maxRecDepth 20000 in
theorem fl_X5_9 : FL RX5 9 5 0 := ⟨_, _, _, rfl, by decide, uw_X5, aw1 (i := 160) rfl rfl⟩
set_option maxRecDepth 20000 in
theorem fp_X5_9 : FP RX5 9 5 0 (.array .int) true := ⟨_, _, _, tyX5, rfl, by decide, uw_X5, aw1 (i := 160) rfl rfl, tyX5_ok, nmX5, rfl, rfl, fun _ => rfl⟩
set_option maxRecDepth 20000 in
theorem fl_X5_15 : FL RX5 15 5 1 := ⟨_, _, _, rfl, by decide, uw_X5, aw1 (i := 161) rfl rfl⟩
set_option maxRecDepth 20000 in
theorem fp_X5_15 : FP RX5 15 5 1 (.array .int) true := ⟨_, _, _, tyX5, rfl, by decide, uw_X5, aw1 (i := 161) rfl rfl, tyX5_ok, nmX5, rfl, rfl, fun _ => rfl⟩
set_option maxRecDepth 20000 in
theorem fl_X5_18 : FL RX5 18 5 2 := ⟨_, _, _, rfl, by decide, uw_X5, aw1 (i := 162) rfl rfl⟩
set_option maxRecDepth 20000 in
theorem fp_X5_18 : FP RX5 18 5 2 .int false := ⟨_, _, _, tyX5, rfl, by decide, uw_X5, aw1 (i := 162) rfl rfl, tyX5_ok, nmX5, rfl, rfl, fun _ => rfl⟩
set_option maxRecDepth 20000 in
theorem fl_X0_46 : FL RX0 46 5 2 := ⟨_, _, _, rfl, by decide, uw_X5, aw1 (i := 163) rfl rfl⟩
set_option maxRecDepth 20000 in
theorem fp_X0_46 : FP RX0 46 5 2 .int false := ⟨_, _, _, tyX5, rfl, by decide, uw_X5, aw1 (i := 163) rfl rfl, tyX5_ok, nmX5, rfl, rfl, fun _ => by first | rfl | contradiction⟩
set_option maxRecDepth 20000 in
theorem fl_X6_148 : FL RX6 148 5 2 := ⟨_, _, _, rfl, by decide, uw_X5, aw1 (i := 164) rfl rfl⟩
set_option maxRecDepth 20000 in
theorem fp_X6_148 : FP RX6 148 5 2 .int false := ⟨_, _, _, tyX5, rfl, by decide, uw_X5, aw1 (i := 164) rfl rfl, tyX5_ok, nmX5, rfl, rfl, fun _ => by first | rfl | contradiction⟩
set_option maxRecDepth 20000 in
theorem fl_X0_12 : FL RX0 12 0 0 := ⟨_, _, _, rfl, by decide, uw_X0, aw1 (i := 172) rfl rfl⟩
set_option maxRecDepth 20000 in
theorem fp_X0_12 : FP RX0 12 0 0 (.object "WhosePage$Press") true := ⟨_, _, _, tyX0, rfl, by decide, uw_X0, aw1 (i := 172) rfl rfl, tyX0_ok, nmX0, rfl, rfl, fun _ => rfl⟩
set_option maxRecDepth 20000 in
theorem fl_X0_21 : FL RX0 21 0 1 := ⟨_, _, _, rfl, by decide, uw_X0, aw1 (i := 173) rfl rfl⟩
set_option maxRecDepth 20000 in
theorem fp_X0_21 : FP RX0 21 0 1 (.object "WhosePage$Tray") true := ⟨_, _, _, tyX0, rfl, by decide, uw_X0, aw1 (i := 173) rfl rfl, tyX0_ok, nmX0, rfl, rfl, fun _ => rfl⟩
set_option maxRecDepth 20000 in
theorem fl_X6_144 : FL RX6 144 0 1 := ⟨_, _, _, rfl, by decide, uw_X0, aw1 (i := 174) rfl rfl⟩
set_option maxRecDepth 20000 in
theorem fl_X0_25 : FL RX0 25 0 2 := ⟨_, _, _, rfl, by decide, uw_X0, aw1 (i := 175) rfl rfl⟩
set_option maxRecDepth 20000 in
theorem fp_X0_25 : FP RX0 25 0 2 (.array .int) true := ⟨_, _, _, tyX0, rfl, by decide, uw_X0, aw1 (i := 175) rfl rfl, tyX0_ok, nmX0, rfl, rfl, fun _ => rfl⟩
set_option maxRecDepth 20000 in
theorem fl_X0_29 : FL RX0 29 0 3 := ⟨_, _, _, rfl, by decide, uw_X0, aw1 (i := 176) rfl rfl⟩
set_option maxRecDepth 20000 in
theorem fp_X0_29 : FP RX0 29 0 3 (.array .int) true := ⟨_, _, _, tyX0, rfl, by decide, uw_X0, aw1 (i := 176) rfl rfl, tyX0_ok, nmX0, rfl, rfl, fun _ => rfl⟩
set_option maxRecDepth 20000 in
theorem fl_X0_32 : FL RX0 32 0 4 := ⟨_, _, _, rfl, by decide, uw_X0, aw1 (i := 177) rfl rfl⟩
set_option maxRecDepth 20000 in
theorem fp_X0_32 : FP RX0 32 0 4 .int false := ⟨_, _, _, tyX0, rfl, by decide, uw_X0, aw1 (i := 177) rfl rfl, tyX0_ok, nmX0, rfl, rfl, fun _ => rfl⟩
set_option maxRecDepth 20000 in
theorem fl_X6_137 : FL RX6 137 0 4 := ⟨_, _, _, rfl, by decide, uw_X0, aw1 (i := 178) rfl rfl⟩
set_option maxRecDepth 20000 in
theorem fp_X6_137 : FP RX6 137 0 4 .int false := ⟨_, _, _, tyX0, rfl, by decide, uw_X0, aw1 (i := 178) rfl rfl, tyX0_ok, nmX0, rfl, rfl, fun _ => by first | rfl | contradiction⟩
set_option maxRecDepth 20000 in
theorem fl_X0_36 : FL RX0 36 0 5 := ⟨_, _, _, rfl, by decide, uw_X0, aw1 (i := 179) rfl rfl⟩
set_option maxRecDepth 20000 in
theorem fp_X0_36 : FP RX0 36 0 5 (.array .int) true := ⟨_, _, _, tyX0, rfl, by decide, uw_X0, aw1 (i := 179) rfl rfl, tyX0_ok, nmX0, rfl, rfl, fun _ => rfl⟩
set_option maxRecDepth 20000 in
theorem fl_X0_39 : FL RX0 39 0 6 := ⟨_, _, _, rfl, by decide, uw_X0, aw1 (i := 180) rfl rfl⟩
set_option maxRecDepth 20000 in
theorem fp_X0_39 : FP RX0 39 0 6 (.array .int) true := ⟨_, _, _, tyX0, rfl, by decide, uw_X0, aw1 (i := 180) rfl rfl, tyX0_ok, nmX0, rfl, rfl, fun _ => rfl⟩
set_option maxRecDepth 20000 in
theorem fl_X3_9 : FL RX3 9 3 0 := ⟨_, _, _, rfl, by decide, uw_X3, aw1 (i := 202) rfl rfl⟩
set_option maxRecDepth 20000 in
theorem fp_X3_9 : FP RX3 9 3 0 (.array .int) true := ⟨_, _, _, tyX3, rfl, by decide, uw_X3, aw1 (i := 202) rfl rfl, tyX3_ok, nmX3, rfl, rfl, fun _ => rfl⟩
set_option maxRecDepth 20000 in
theorem fl_X5_35 : FL RX5 35 3 0 := ⟨_, _, _, rfl, by decide, uw_X3, aw1 (i := 203) rfl rfl⟩
set_option maxRecDepth 20000 in
theorem fl_X6_222 : FL RX6 222 3 0 := ⟨_, _, _, rfl, by decide, uw_X3, aw1 (i := 204) rfl rfl⟩
set_option maxRecDepth 20000 in
theorem fl_X3_15 : FL RX3 15 3 1 := ⟨_, _, _, rfl, by decide, uw_X3, aw1 (i := 205) rfl rfl⟩
set_option maxRecDepth 20000 in
theorem fp_X3_15 : FP RX3 15 3 1 .int false := ⟨_, _, _, tyX3, rfl, by decide, uw_X3, aw1 (i := 205) rfl rfl, tyX3_ok, nmX3, rfl, rfl, fun _ => rfl⟩
set_option maxRecDepth 20000 in
theorem fl_X5_28 : FL RX5 28 3 1 := ⟨_, _, _, rfl, by decide, uw_X3, aw1 (i := 206) rfl rfl⟩
set_option maxRecDepth 20000 in
theorem fp_X5_28 : FP RX5 28 3 1 .int false := ⟨_, _, _, tyX3, rfl, by decide, uw_X3, aw1 (i := 206) rfl rfl, tyX3_ok, nmX3, rfl, rfl, fun _ => by first | rfl | contradiction⟩
set_option maxRecDepth 20000 in
theorem fl_X6_220 : FL RX6 220 3 1 := ⟨_, _, _, rfl, by decide, uw_X3, aw1 (i := 207) rfl rfl⟩
set_option maxRecDepth 20000 in
theorem fp_X6_220 : FP RX6 220 3 1 .int false := ⟨_, _, _, tyX3, rfl, by decide, uw_X3, aw1 (i := 207) rfl rfl, tyX3_ok, nmX3, rfl, rfl, fun _ => by first | rfl | contradiction⟩
set_option maxRecDepth 20000 in
theorem fl_X3_19 : FL RX3 19 3 2 := ⟨_, _, _, rfl, by decide, uw_X3, aw1 (i := 208) rfl rfl⟩
set_option maxRecDepth 20000 in
theorem fp_X3_19 : FP RX3 19 3 2 (.array .int) true := ⟨_, _, _, tyX3, rfl, by decide, uw_X3, aw1 (i := 208) rfl rfl, tyX3_ok, nmX3, rfl, rfl, fun _ => rfl⟩
set_option maxRecDepth 20000 in
theorem fl_X3_22 : FL RX3 22 3 3 := ⟨_, _, _, rfl, by decide, uw_X3, aw1 (i := 209) rfl rfl⟩
set_option maxRecDepth 20000 in
theorem fp_X3_22 : FP RX3 22 3 3 (.array .int) true := ⟨_, _, _, tyX3, rfl, by decide, uw_X3, aw1 (i := 209) rfl rfl, tyX3_ok, nmX3, rfl, rfl, fun _ => rfl⟩
set_option maxRecDepth 20000 in
theorem fl_X3_25 : FL RX3 25 3 4 := ⟨_, _, _, rfl, by decide, uw_X3, aw1 (i := 210) rfl rfl⟩
set_option maxRecDepth 20000 in
theorem fp_X3_25 : FP RX3 25 3 4 (.array .int) true := ⟨_, _, _, tyX3, rfl, by decide, uw_X3, aw1 (i := 210) rfl rfl, tyX3_ok, nmX3, rfl, rfl, fun _ => rfl⟩
set_option maxRecDepth 20000 in
theorem fl_X6_12 : FL RX6 12 6 0 := ⟨_, _, _, rfl, by decide, uw_X6, aw1 (i := 222) rfl rfl⟩
set_option maxRecDepth 20000 in
theorem fp_X6_12 : FP RX6 12 6 0 (.object "WhosePage$Plan") true := ⟨_, _, _, tyX6, rfl, by decide, uw_X6, aw1 (i := 222) rfl rfl, tyX6_ok, nmX6, rfl, rfl, fun _ => rfl⟩
set_option maxRecDepth 20000 in
theorem fl_X6_16 : FL RX6 16 6 1 := ⟨_, _, _, rfl, by decide, uw_X6, aw1 (i := 223) rfl rfl⟩
set_option maxRecDepth 20000 in
theorem fp_X6_16 : FP RX6 16 6 1 (.object "WhosePage$Plan") true := ⟨_, _, _, tyX6, rfl, by decide, uw_X6, aw1 (i := 223) rfl rfl, tyX6_ok, nmX6, rfl, rfl, fun _ => rfl⟩
set_option maxRecDepth 20000 in
theorem fl_X6_19 : FL RX6 19 6 2 := ⟨_, _, _, rfl, by decide, uw_X6, aw1 (i := 224) rfl rfl⟩
set_option maxRecDepth 20000 in
theorem fp_X6_19 : FP RX6 19 6 2 (.object "WhosePage$Plan") true := ⟨_, _, _, tyX6, rfl, by decide, uw_X6, aw1 (i := 224) rfl rfl, tyX6_ok, nmX6, rfl, rfl, fun _ => rfl⟩
set_option maxRecDepth 20000 in
theorem fl_X6_25 : FL RX6 25 6 3 := ⟨_, _, _, rfl, by decide, uw_X6, aw1 (i := 225) rfl rfl⟩
set_option maxRecDepth 20000 in
theorem fp_X6_25 : FP RX6 25 6 3 (.object "WhosePage$Text") true := ⟨_, _, _, tyX6, rfl, by decide, uw_X6, aw1 (i := 225) rfl rfl, tyX6_ok, nmX6, rfl, rfl, fun _ => rfl⟩
set_option maxRecDepth 20000 in
theorem fl_X6_32 : FL RX6 32 6 4 := ⟨_, _, _, rfl, by decide, uw_X6, aw1 (i := 226) rfl rfl⟩
set_option maxRecDepth 20000 in
theorem fp_X6_32 : FP RX6 32 6 4 (.object "WhosePage$Press") true := ⟨_, _, _, tyX6, rfl, by decide, uw_X6, aw1 (i := 226) rfl rfl, tyX6_ok, nmX6, rfl, rfl, fun _ => rfl⟩
set_option maxRecDepth 20000 in
theorem fl_X6_39 : FL RX6 39 6 5 := ⟨_, _, _, rfl, by decide, uw_X6, aw1 (i := 227) rfl rfl⟩
set_option maxRecDepth 20000 in
theorem fp_X6_39 : FP RX6 39 6 5 (.object "WhosePage$Day") true := ⟨_, _, _, tyX6, rfl, by decide, uw_X6, aw1 (i := 227) rfl rfl, tyX6_ok, nmX6, rfl, rfl, fun _ => rfl⟩
set_option maxRecDepth 20000 in
theorem fl_X6_46 : FL RX6 46 6 6 := ⟨_, _, _, rfl, by decide, uw_X6, aw1 (i := 228) rfl rfl⟩
set_option maxRecDepth 20000 in
theorem fp_X6_46 : FP RX6 46 6 6 (.object "WhosePage$Row") true := ⟨_, _, _, tyX6, rfl, by decide, uw_X6, aw1 (i := 228) rfl rfl, tyX6_ok, nmX6, rfl, rfl, fun _ => rfl⟩
set_option maxRecDepth 20000 in
theorem fl_X6_50 : FL RX6 50 6 7 := ⟨_, _, _, rfl, by decide, uw_X6, aw1 (i := 229) rfl rfl⟩
set_option maxRecDepth 20000 in
theorem fp_X6_50 : FP RX6 50 6 7 (.array .int) true := ⟨_, _, _, tyX6, rfl, by decide, uw_X6, aw1 (i := 229) rfl rfl, tyX6_ok, nmX6, rfl, rfl, fun _ => rfl⟩
set_option maxRecDepth 20000 in
theorem fl_X6_54 : FL RX6 54 6 8 := ⟨_, _, _, rfl, by decide, uw_X6, aw1 (i := 230) rfl rfl⟩
set_option maxRecDepth 20000 in
theorem fp_X6_54 : FP RX6 54 6 8 .boolean false := ⟨_, _, _, tyX6, rfl, by decide, uw_X6, aw1 (i := 230) rfl rfl, tyX6_ok, nmX6, rfl, rfl, fun _ => rfl⟩
set_option maxRecDepth 20000 in
theorem fl_X7_1 : FL RX7 1 7 0 := ⟨_, _, _, rfl, by decide, uw_X7, aw4 (i := 38) rfl rfl⟩
set_option maxRecDepth 20000 in
theorem fp_X7_1 : FP RX7 1 7 0 (.array .int) true := ⟨_, _, _, tyX7, rfl, by decide, uw_X7, aw4 (i := 38) rfl rfl, tyX7_ok, nmX7, rfl, rfl, fun _ => rfl⟩
set_option maxRecDepth 20000 in
theorem fl_X7_13 : FL RX7 13 7 1 := ⟨_, _, _, rfl, by decide, uw_X7, aw4 (i := 39) rfl rfl⟩
set_option maxRecDepth 20000 in
theorem fp_X7_13 : FP RX7 13 7 1 (.array .int) true := ⟨_, _, _, tyX7, rfl, by decide, uw_X7, aw4 (i := 39) rfl rfl, tyX7_ok, nmX7, rfl, rfl, fun _ => rfl⟩
set_option maxRecDepth 20000 in
theorem fl_X7_16 : FL RX7 16 7 2 := ⟨_, _, _, rfl, by decide, uw_X7, aw4 (i := 40) rfl rfl⟩
set_option maxRecDepth 20000 in
theorem fp_X7_16 : FP RX7 16 7 2 (.array .int) true := ⟨_, _, _, tyX7, rfl, by decide, uw_X7, aw4 (i := 40) rfl rfl, tyX7_ok, nmX7, rfl, rfl, fun _ => rfl⟩
set_option maxRecDepth 20000 in
theorem fl_X7_60 : FL RX7 60 7 3 := ⟨_, _, _, rfl, by decide, uw_X7, aw4 (i := 41) rfl rfl⟩
set_option maxRecDepth 20000 in
theorem fp_X7_60 : FP RX7 60 7 3 .boolean false := ⟨_, _, _, tyX7, rfl, by decide, uw_X7, aw4 (i := 41) rfl rfl, tyX7_ok, nmX7, rfl, rfl, fun _ => rfl⟩
set_option maxRecDepth 20000 in
theorem fl_X7_19 : FL RX7 19 7 4 := ⟨_, _, _, rfl, by decide, uw_X7, aw4 (i := 42) rfl rfl⟩
set_option maxRecDepth 20000 in
theorem fp_X7_19 : FP RX7 19 7 4 (.array .int) true := ⟨_, _, _, tyX7, rfl, by decide, uw_X7, aw4 (i := 42) rfl rfl, tyX7_ok, nmX7, rfl, rfl, fun _ => rfl⟩
set_option maxRecDepth 20000 in
theorem fl_X7_68 : FL RX7 68 7 5 := ⟨_, _, _, rfl, by decide, uw_X7, aw4 (i := 43) rfl rfl⟩
set_option maxRecDepth 20000 in
theorem fp_X7_68 : FP RX7 68 7 5 .int false := ⟨_, _, _, tyX7, rfl, by decide, uw_X7, aw4 (i := 43) rfl rfl, tyX7_ok, nmX7, rfl, rfl, fun _ => rfl⟩
set_option maxRecDepth 20000 in
theorem fl_X7_75 : FL RX7 75 7 6 := ⟨_, _, _, rfl, by decide, uw_X7, aw4 (i := 44) rfl rfl⟩
set_option maxRecDepth 20000 in
theorem fp_X7_75 : FP RX7 75 7 6 .int false := ⟨_, _, _, tyX7, rfl, by decide, uw_X7, aw4 (i := 44) rfl rfl, tyX7_ok, nmX7, rfl, rfl, fun _ => rfl⟩
set_option maxRecDepth 20000 in
theorem fl_X7_72 : FL RX7 72 7 7 := ⟨_, _, _, rfl, by decide, uw_X7, aw4 (i := 45) rfl rfl⟩
set_option maxRecDepth 20000 in
theorem fp_X7_72 : FP RX7 72 7 7 .boolean false := ⟨_, _, _, tyX7, rfl, by decide, uw_X7, aw4 (i := 45) rfl rfl, tyX7_ok, nmX7, rfl, rfl, fun _ => rfl⟩
set_option maxRecDepth 20000 in
theorem fl_X7_22 : FL RX7 22 7 8 := ⟨_, _, _, rfl, by decide, uw_X7, aw4 (i := 46) rfl rfl⟩
set_option maxRecDepth 20000 in
theorem fp_X7_22 : FP RX7 22 7 8 (.array .char) true := ⟨_, _, _, tyX7, rfl, by decide, uw_X7, aw4 (i := 46) rfl rfl, tyX7_ok, nmX7, rfl, rfl, fun _ => rfl⟩
set_option maxRecDepth 20000 in
theorem fl_X7_26 : FL RX7 26 7 9 := ⟨_, _, _, rfl, by decide, uw_X7, aw4 (i := 47) rfl rfl⟩
set_option maxRecDepth 20000 in
theorem fp_X7_26 : FP RX7 26 7 9 (.array .char) true := ⟨_, _, _, tyX7, rfl, by decide, uw_X7, aw4 (i := 47) rfl rfl, tyX7_ok, nmX7, rfl, rfl, fun _ => rfl⟩
set_option maxRecDepth 20000 in
theorem fl_X7_29 : FL RX7 29 7 10 := ⟨_, _, _, rfl, by decide, uw_X7, aw4 (i := 48) rfl rfl⟩
set_option maxRecDepth 20000 in
theorem fp_X7_29 : FP RX7 29 7 10 (.array .char) true := ⟨_, _, _, tyX7, rfl, by decide, uw_X7, aw4 (i := 48) rfl rfl, tyX7_ok, nmX7, rfl, rfl, fun _ => rfl⟩
set_option maxRecDepth 20000 in
theorem fl_X7_82 : FL RX7 82 7 11 := ⟨_, _, _, rfl, by decide, uw_X7, aw4 (i := 49) rfl rfl⟩
set_option maxRecDepth 20000 in
theorem fp_X7_82 : FP RX7 82 7 11 .int false := ⟨_, _, _, tyX7, rfl, by decide, uw_X7, aw4 (i := 49) rfl rfl, tyX7_ok, nmX7, rfl, rfl, fun _ => rfl⟩
set_option maxRecDepth 20000 in
theorem fl_X7_32 : FL RX7 32 7 12 := ⟨_, _, _, rfl, by decide, uw_X7, aw4 (i := 50) rfl rfl⟩
set_option maxRecDepth 20000 in
theorem fp_X7_32 : FP RX7 32 7 12 (.array .int) true := ⟨_, _, _, tyX7, rfl, by decide, uw_X7, aw4 (i := 50) rfl rfl, tyX7_ok, nmX7, rfl, rfl, fun _ => rfl⟩
set_option maxRecDepth 20000 in
theorem fl_X7_35 : FL RX7 35 7 13 := ⟨_, _, _, rfl, by decide, uw_X7, aw4 (i := 51) rfl rfl⟩
set_option maxRecDepth 20000 in
theorem fp_X7_35 : FP RX7 35 7 13 (.array .int) true := ⟨_, _, _, tyX7, rfl, by decide, uw_X7, aw4 (i := 51) rfl rfl, tyX7_ok, nmX7, rfl, rfl, fun _ => rfl⟩
set_option maxRecDepth 20000 in
theorem fl_X7_38 : FL RX7 38 7 14 := ⟨_, _, _, rfl, by decide, uw_X7, aw4 (i := 52) rfl rfl⟩
set_option maxRecDepth 20000 in
theorem fp_X7_38 : FP RX7 38 7 14 (.array .int) true := ⟨_, _, _, tyX7, rfl, by decide, uw_X7, aw4 (i := 52) rfl rfl, tyX7_ok, nmX7, rfl, rfl, fun _ => rfl⟩
set_option maxRecDepth 20000 in
theorem fl_X7_41 : FL RX7 41 7 15 := ⟨_, _, _, rfl, by decide, uw_X7, aw4 (i := 53) rfl rfl⟩
set_option maxRecDepth 20000 in
theorem fp_X7_41 : FP RX7 41 7 15 (.array .int) true := ⟨_, _, _, tyX7, rfl, by decide, uw_X7, aw4 (i := 53) rfl rfl, tyX7_ok, nmX7, rfl, rfl, fun _ => rfl⟩
set_option maxRecDepth 20000 in
theorem fl_X7_113 : FL RX7 113 7 16 := ⟨_, _, _, rfl, by decide, uw_X7, aw4 (i := 54) rfl rfl⟩
set_option maxRecDepth 20000 in
theorem fp_X7_113 : FP RX7 113 7 16 .int false := ⟨_, _, _, tyX7, rfl, by decide, uw_X7, aw4 (i := 54) rfl rfl, tyX7_ok, nmX7, rfl, rfl, fun _ => rfl⟩
set_option maxRecDepth 20000 in
theorem fl_X7_44 : FL RX7 44 7 17 := ⟨_, _, _, rfl, by decide, uw_X7, aw4 (i := 55) rfl rfl⟩
set_option maxRecDepth 20000 in
theorem fp_X7_44 : FP RX7 44 7 17 (.array .int) true := ⟨_, _, _, tyX7, rfl, by decide, uw_X7, aw4 (i := 55) rfl rfl, tyX7_ok, nmX7, rfl, rfl, fun _ => rfl⟩
set_option maxRecDepth 20000 in
theorem fl_X7_116 : FL RX7 116 7 18 := ⟨_, _, _, rfl, by decide, uw_X7, aw4 (i := 56) rfl rfl⟩
set_option maxRecDepth 20000 in
theorem fp_X7_116 : FP RX7 116 7 18 .int false := ⟨_, _, _, tyX7, rfl, by decide, uw_X7, aw4 (i := 56) rfl rfl, tyX7_ok, nmX7, rfl, rfl, fun _ => rfl⟩
set_option maxRecDepth 20000 in
theorem fl_X7_47 : FL RX7 47 7 19 := ⟨_, _, _, rfl, by decide, uw_X7, aw4 (i := 57) rfl rfl⟩
set_option maxRecDepth 20000 in
theorem fp_X7_47 : FP RX7 47 7 19 (.array .int) true := ⟨_, _, _, tyX7, rfl, by decide, uw_X7, aw4 (i := 57) rfl rfl, tyX7_ok, nmX7, rfl, rfl, fun _ => rfl⟩
set_option maxRecDepth 20000 in
theorem fl_X7_50 : FL RX7 50 7 20 := ⟨_, _, _, rfl, by decide, uw_X7, aw4 (i := 58) rfl rfl⟩
set_option maxRecDepth 20000 in
theorem fp_X7_50 : FP RX7 50 7 20 (.array .boolean) true := ⟨_, _, _, tyX7, rfl, by decide, uw_X7, aw4 (i := 58) rfl rfl, tyX7_ok, nmX7, rfl, rfl, fun _ => rfl⟩
set_option maxRecDepth 20000 in
theorem fl_X7_54 : FL RX7 54 7 21 := ⟨_, _, _, rfl, by decide, uw_X7, aw4 (i := 59) rfl rfl⟩
set_option maxRecDepth 20000 in
theorem fp_X7_54 : FP RX7 54 7 21 (.array .int) true := ⟨_, _, _, tyX7, rfl, by decide, uw_X7, aw4 (i := 59) rfl rfl, tyX7_ok, nmX7, rfl, rfl, fun _ => rfl⟩
set_option maxRecDepth 20000 in
theorem fl_X7_166 : FL RX7 166 7 22 := ⟨_, _, _, rfl, by decide, uw_X7, aw4 (i := 60) rfl rfl⟩
set_option maxRecDepth 20000 in
theorem fp_X7_166 : FP RX7 166 7 22 .int false := ⟨_, _, _, tyX7, rfl, by decide, uw_X7, aw4 (i := 60) rfl rfl, tyX7_ok, nmX7, rfl, rfl, fun _ => rfl⟩
set_option maxRecDepth 20000 in
theorem fl_X7_57 : FL RX7 57 7 23 := ⟨_, _, _, rfl, by decide, uw_X7, aw4 (i := 61) rfl rfl⟩
set_option maxRecDepth 20000 in
theorem fp_X7_57 : FP RX7 57 7 23 (.array .int) true := ⟨_, _, _, tyX7, rfl, by decide, uw_X7, aw4 (i := 61) rfl rfl, tyX7_ok, nmX7, rfl, rfl, fun _ => rfl⟩
abbrev mu_X6_init : MI := (yX6_init, cX6_init, 1, none)
set_option maxRecDepth 20000 in
theorem mc_X6_init : Cond.code yX6_init cX6_init 1 none ∈ AW := aw1 (i := 21) rfl rfl
set_option maxRecDepth 20000 in
theorem ml_L_9 : MSI RL 9 mu_X6_init 0 := ⟨aw1 (i := 19) rfl rfl, aw1 (i := 1) rfl rfl, mc_X6_init, ⟨by decide, by decide, by decide +kernel⟩, by decide, rfl, aw1 (i := 20) rfl rfl⟩
abbrev mu_X1_init : MI := (yX1_init, cX1_init, 1, none)
set_option maxRecDepth 20000 in
theorem mc_X1_init : Cond.code yX1_init cX1_init 1 none ∈ AW := aw1 (i := 29) rfl rfl
set_option maxRecDepth 20000 in
theorem ml_X6_11 : MNI RX6 11 mu_X1_init 0 := ⟨List.mem_of_getElem? (i := 0) rfl, aw1 (i := 2) rfl rfl, mc_X1_init, ⟨by decide, by decide, by decide +kernel⟩, by decide, rfl, aw1 (i := 28) rfl rfl⟩
abbrev mu_X4_init : MI := (yX4_init, cX4_init, 1, none)
set_option maxRecDepth 20000 in
theorem mc_X4_init : Cond.code yX4_init cX4_init 1 none ∈ AW := aw1 (i := 95) rfl rfl
set_option maxRecDepth 20000 in
theorem ml_X6_24 : MNI RX6 24 mu_X4_init 0 := ⟨List.mem_of_getElem? (i := 1) rfl, aw1 (i := 3) rfl rfl, mc_X4_init, ⟨by decide, by decide, by decide +kernel⟩, by decide, rfl, aw1 (i := 94) rfl rfl⟩
abbrev mu_X2_init : MI := (yX2_init, cX2_init, 1, none)
set_option maxRecDepth 20000 in
theorem mc_X2_init : Cond.code yX2_init cX2_init 1 none ∈ AW := aw1 (i := 128) rfl rfl
set_option maxRecDepth 20000 in
theorem ml_X6_31 : MNI RX6 31 mu_X2_init 0 := ⟨List.mem_of_getElem? (i := 2) rfl, aw1 (i := 4) rfl rfl, mc_X2_init, ⟨by decide, by decide, by decide +kernel⟩, by decide, rfl, aw1 (i := 127) rfl rfl⟩
abbrev mu_X0_init : MI := (yX0_init, cX0_init, 1, none)
set_option maxRecDepth 20000 in
theorem mc_X0_init : Cond.code yX0_init cX0_init 1 none ∈ AW := aw1 (i := 150) rfl rfl
set_option maxRecDepth 20000 in
theorem ml_X6_38 : MNI RX6 38 mu_X0_init 0 := ⟨List.mem_of_getElem? (i := 3) rfl, aw1 (i := 5) rfl rfl, mc_X0_init, ⟨by decide, by decide, by decide +kernel⟩, by decide, rfl, aw1 (i := 149) rfl rfl⟩
set_option maxRecDepth 20000 in
theorem ml_X0_11 : MNI RX0 11 mu_X2_init 0 := ⟨List.mem_of_getElem? (i := 5) rfl, aw1 (i := 4) rfl rfl, mc_X2_init, ⟨by decide, by decide, by decide +kernel⟩, by decide, rfl, aw1 (i := 127) rfl rfl⟩
abbrev mu_X5_init : MI := (yX5_init, cX5_init, 1, none)
set_option maxRecDepth 20000 in
theorem mc_X5_init : Cond.code yX5_init cX5_init 1 none ∈ AW := aw1 (i := 158) rfl rfl
set_option maxRecDepth 20000 in
theorem ml_X0_20 : MNI RX0 20 mu_X5_init 0 := ⟨List.mem_of_getElem? (i := 6) rfl, aw1 (i := 6) rfl rfl, mc_X5_init, ⟨by decide, by decide, by decide +kernel⟩, by decide, rfl, aw1 (i := 157) rfl rfl⟩
abbrev mu_X3_init : MI := (yX3_init, cX3_init, 1, none)
set_option maxRecDepth 20000 in
theorem mc_X3_init : Cond.code yX3_init cX3_init 1 none ∈ AW := aw1 (i := 200) rfl rfl
set_option maxRecDepth 20000 in
theorem ml_X6_45 : MNI RX6 45 mu_X3_init 0 := ⟨List.mem_of_getElem? (i := 4) rfl, aw1 (i := 7) rfl rfl, mc_X3_init, ⟨by decide, by decide, by decide +kernel⟩, by decide, rfl, aw1 (i := 199) rfl rfl⟩
abbrev mu_X6_letter : MI := (yX6_letter, cX6_letter, 2, (some .int))
set_option maxRecDepth 20000 in
theorem mc_X6_letter : Cond.code yX6_letter cX6_letter 2 (some .int) ∈ AW := aw2 (i := 13) rfl rfl
set_option maxRecDepth 20000 in
theorem ml_L_13 : MSV RL 13 mu_X6_letter 1 := ⟨aw2 (i := 10) rfl rfl, aw1 (i := 1) rfl rfl, mc_X6_letter, ⟨by decide, by decide, by decide +kernel⟩, by decide, aw2 (i := 11) rfl rfl, aw2 (i := 12) rfl rfl⟩
abbrev mu_X6_refuse : MI := (yX6_refuse, cX6_refuse, 3, (some .int))
set_option maxRecDepth 20000 in
theorem mc_X6_refuse : Cond.code yX6_refuse cX6_refuse 3 (some .int) ∈ AW := aw2 (i := 17) rfl rfl
set_option maxRecDepth 20000 in
theorem ml_X6_58 : MSV RX6 58 mu_X6_refuse 1 := ⟨aw2 (i := 14) rfl rfl, aw1 (i := 1) rfl rfl, mc_X6_refuse, ⟨by decide, by decide, by decide +kernel⟩, by decide, aw2 (i := 16) rfl rfl, awp (i := 0) rfl rfl⟩
abbrev mu_X4_add : MI := (yX4_add, cX4_add, 2, (some .int))
set_option maxRecDepth 20000 in
theorem mc_X4_add : Cond.code yX4_add cX4_add 2 (some .int) ∈ AW := aw2 (i := 21) rfl rfl
set_option maxRecDepth 20000 in
theorem ml_X6_66 : MSV RX6 66 mu_X4_add 1 := ⟨aw2 (i := 18) rfl rfl, aw1 (i := 3) rfl rfl, mc_X4_add, ⟨by decide, by decide, by decide +kernel⟩, by decide, aw2 (i := 19) rfl rfl, aw2 (i := 20) rfl rfl⟩
abbrev mu_X6_floor : MI := (yX6_floor, cX6_floor, 3, (some .int))
set_option maxRecDepth 20000 in
theorem mc_X6_floor : Cond.code yX6_floor cX6_floor 3 (some .int) ∈ AW := aw2 (i := 25) rfl rfl
set_option maxRecDepth 20000 in
theorem ml_L_18 : MSV RL 18 mu_X6_floor 0 := ⟨aw2 (i := 22) rfl rfl, aw1 (i := 1) rfl rfl, mc_X6_floor, ⟨by decide, by decide, by decide +kernel⟩, by decide, aw2 (i := 23) rfl rfl, aw2 (i := 24) rfl rfl⟩
abbrev mu_X4_wrongPlace : MI := (yX4_wrongPlace, cX4_wrongPlace, 2, (some .int))
set_option maxRecDepth 20000 in
theorem mc_X4_wrongPlace : Cond.code yX4_wrongPlace cX4_wrongPlace 2 (some .int) ∈ AW := aw2 (i := 29) rfl rfl
set_option maxRecDepth 20000 in
theorem ml_X6_69 : MSV RX6 69 mu_X4_wrongPlace 0 := ⟨aw2 (i := 26) rfl rfl, aw1 (i := 3) rfl rfl, mc_X4_wrongPlace, ⟨by decide, by decide, by decide +kernel⟩, by decide, aw2 (i := 27) rfl rfl, aw2 (i := 28) rfl rfl⟩
abbrev mu_X4_readStatement : MI := (yX4_readStatement, cX4_readStatement, 1, (some .boolean))
set_option maxRecDepth 20000 in
theorem mc_X4_readStatement : Cond.code yX4_readStatement cX4_readStatement 1 (some .boolean) ∈ AW := aw2 (i := 33) rfl rfl
set_option maxRecDepth 20000 in
theorem ml_X4_37 : MSV RX4 37 mu_X4_readStatement 0 := ⟨aw2 (i := 30) rfl rfl, aw1 (i := 3) rfl rfl, mc_X4_readStatement, ⟨by decide, by decide, by decide +kernel⟩, by decide, aw2 (i := 31) rfl rfl, aw2 (i := 32) rfl rfl⟩
abbrev mu_X4_readOwnerFigureMinute : MI := (yX4_readOwnerFigureMinute, cX4_readOwnerFigureMinute, 1, (some .boolean))
set_option maxRecDepth 20000 in
theorem mc_X4_readOwnerFigureMinute : Cond.code yX4_readOwnerFigureMinute cX4_readOwnerFigureMinute 1 (some .boolean) ∈ AW := aw2 (i := 37) rfl rfl
set_option maxRecDepth 20000 in
theorem ml_X4_41 : MSV RX4 41 mu_X4_readOwnerFigureMinute 0 := ⟨aw2 (i := 34) rfl rfl, aw1 (i := 3) rfl rfl, mc_X4_readOwnerFigureMinute, ⟨by decide, by decide, by decide +kernel⟩, by decide, aw2 (i := 36) rfl rfl, awp (i := 1) rfl rfl⟩
abbrev mu_X4_readDigit : MI := (yX4_readDigit, cX4_readDigit, 2, (some .int))
set_option maxRecDepth 20000 in
theorem mc_X4_readDigit : Cond.code yX4_readDigit cX4_readDigit 2 (some .int) ∈ AW := aw2 (i := 41) rfl rfl
set_option maxRecDepth 20000 in
theorem ml_X4_73 : MSV RX4 73 mu_X4_readDigit 0 := ⟨aw2 (i := 38) rfl rfl, aw1 (i := 3) rfl rfl, mc_X4_readDigit, ⟨by decide, by decide, by decide +kernel⟩, by decide, aw2 (i := 40) rfl rfl, awp (i := 2) rfl rfl⟩
abbrev mu_X4_readFigure : MI := (yX4_readFigure, cX4_readFigure, 1, (some .boolean))
set_option maxRecDepth 20000 in
theorem mc_X4_readFigure : Cond.code yX4_readFigure cX4_readFigure 1 (some .boolean) ∈ AW := aw2 (i := 45) rfl rfl
set_option maxRecDepth 20000 in
theorem ml_X4_50 : MSV RX4 50 mu_X4_readFigure 0 := ⟨aw2 (i := 42) rfl rfl, aw1 (i := 3) rfl rfl, mc_X4_readFigure, ⟨by decide, by decide, by decide +kernel⟩, by decide, aw2 (i := 44) rfl rfl, awp (i := 3) rfl rfl⟩
abbrev mu_X4_readSign : MI := (yX4_readSign, cX4_readSign, 2, (some .boolean))
set_option maxRecDepth 20000 in
theorem mc_X4_readSign : Cond.code yX4_readSign cX4_readSign 2 (some .boolean) ∈ AW := aw2 (i := 49) rfl rfl
set_option maxRecDepth 20000 in
theorem ml_X4_53 : MSV RX4 53 mu_X4_readSign 1 := ⟨aw2 (i := 46) rfl rfl, aw1 (i := 3) rfl rfl, mc_X4_readSign, ⟨by decide, by decide, by decide +kernel⟩, by decide, aw2 (i := 48) rfl rfl, awp (i := 4) rfl rfl⟩
abbrev mu_X4_readMinute : MI := (yX4_readMinute, cX4_readMinute, 2, (some .boolean))
set_option maxRecDepth 20000 in
theorem mc_X4_readMinute : Cond.code yX4_readMinute cX4_readMinute 2 (some .boolean) ∈ AW := aw2 (i := 53) rfl rfl
set_option maxRecDepth 20000 in
theorem ml_X4_77 : MSV RX4 77 mu_X4_readMinute 0 := ⟨aw2 (i := 50) rfl rfl, aw1 (i := 3) rfl rfl, mc_X4_readMinute, ⟨by decide, by decide, by decide +kernel⟩, by decide, aw2 (i := 52) rfl rfl, awp (i := 5) rfl rfl⟩
abbrev mu_X4_readKind : MI := (yX4_readKind, cX4_readKind, 2, (some .boolean))
set_option maxRecDepth 20000 in
theorem mc_X4_readKind : Cond.code yX4_readKind cX4_readKind 2 (some .boolean) ∈ AW := aw2 (i := 58) rfl rfl
set_option maxRecDepth 20000 in
theorem ml_X4_46 : MSV RX4 46 mu_X4_readKind 1 := ⟨aw2 (i := 55) rfl rfl, aw1 (i := 3) rfl rfl, mc_X4_readKind, ⟨by decide, by decide, by decide +kernel⟩, by decide, aw2 (i := 57) rfl rfl, awp (i := 6) rfl rfl⟩
abbrev mu_J0_indexOf_0f7a4 : MI := (yJ0_indexOf_0f7a4, cJ0_indexOf_0f7a4, 2, (some .int))
set_option maxRecDepth 20000 in
theorem mc_J0_indexOf_0f7a4 : Cond.code yJ0_indexOf_0f7a4 cJ0_indexOf_0f7a4 2 (some .int) ∈ AW := aw2 (i := 62) rfl rfl
set_option maxRecDepth 20000 in
theorem ml_X4_80 : MSV RX4 80 mu_J0_indexOf_0f7a4 1 := ⟨aw2 (i := 59) rfl rfl, aw1 (i := 9) rfl rfl, mc_J0_indexOf_0f7a4, ⟨by decide, by decide, by decide +kernel⟩, by decide, aw2 (i := 60) rfl rfl, aw2 (i := 61) rfl rfl⟩
abbrev mu_J0_indexOf_7cf53 : MI := (yJ0_indexOf_7cf53, cJ0_indexOf_7cf53, 3, (some .int))
set_option maxRecDepth 20000 in
theorem mc_J0_indexOf_7cf53 : Cond.code yJ0_indexOf_7cf53 cJ0_indexOf_7cf53 3 (some .int) ∈ AW := aw2 (i := 66) rfl rfl
set_option maxRecDepth 20000 in
theorem ml_J0_633 : MSV RJ0 633 mu_J0_indexOf_7cf53 2 := ⟨aw2 (i := 63) rfl rfl, aw1 (i := 9) rfl rfl, mc_J0_indexOf_7cf53, ⟨by decide, by decide, by decide +kernel⟩, by decide, aw2 (i := 64) rfl rfl, aw2 (i := 65) rfl rfl⟩
abbrev mu_J0_isLatin1_aae02 : MI := (yJ0_isLatin1_aae02, cJ0_isLatin1_aae02, 1, (some .boolean))
set_option maxRecDepth 20000 in
theorem mc_J0_isLatin1_aae02 : Cond.code yJ0_isLatin1_aae02 cJ0_isLatin1_aae02 1 (some .boolean) ∈ AW := aw2 (i := 70) rfl rfl
set_option maxRecDepth 20000 in
theorem ml_J0_492 : MSV RJ0 492 mu_J0_isLatin1_aae02 0 := ⟨aw2 (i := 67) rfl rfl, aw1 (i := 9) rfl rfl, mc_J0_isLatin1_aae02, ⟨by decide, by decide, by decide +kernel⟩, by decide, aw2 (i := 68) rfl rfl, aw2 (i := 69) rfl rfl⟩
abbrev mu_J0_length_8abf5 : MI := (yJ0_length_8abf5, cJ0_length_8abf5, 1, (some .int))
set_option maxRecDepth 20000 in
theorem mc_J0_length_8abf5 : Cond.code yJ0_length_8abf5 cJ0_length_8abf5 1 (some .int) ∈ AW := aw2 (i := 76) rfl rfl
set_option maxRecDepth 20000 in
theorem ml_J0_505 : MSV RJ0 505 mu_J0_length_8abf5 0 := ⟨aw2 (i := 73) rfl rfl, aw1 (i := 9) rfl rfl, mc_J0_length_8abf5, ⟨by decide, by decide, by decide +kernel⟩, by decide, aw2 (i := 74) rfl rfl, aw2 (i := 75) rfl rfl⟩
abbrev mu_J0_coder_7d493 : MI := (yJ0_coder_7d493, cJ0_coder_7d493, 1, (some .byte))
set_option maxRecDepth 20000 in
theorem mc_J0_coder_7d493 : Cond.code yJ0_coder_7d493 cJ0_coder_7d493 1 (some .byte) ∈ AW := aw2 (i := 80) rfl rfl
set_option maxRecDepth 20000 in
theorem ml_J0_335 : MSV RJ0 335 mu_J0_coder_7d493 0 := ⟨aw2 (i := 77) rfl rfl, aw1 (i := 9) rfl rfl, mc_J0_coder_7d493, ⟨by decide, by decide, by decide +kernel⟩, by decide, aw2 (i := 78) rfl rfl, aw2 (i := 79) rfl rfl⟩
abbrev mu_J1_indexOf_4cfef : MI := (yJ1_indexOf_4cfef, cJ1_indexOf_4cfef, 4, (some .int))
set_option maxRecDepth 20000 in
theorem mc_J1_indexOf_4cfef : Cond.code yJ1_indexOf_4cfef cJ1_indexOf_4cfef 4 (some .int) ∈ AW := aw2 (i := 83) rfl rfl
set_option maxRecDepth 20000 in
theorem ml_J0_637 : MSS RJ0 637 mu_J1_indexOf_4cfef 4 := ⟨aw2 (i := 81) rfl rfl, aw1 (i := 10) rfl rfl, mc_J1_indexOf_4cfef, ⟨by decide, by decide, by decide +kernel⟩, by decide, aw2 (i := 82) rfl rfl⟩
abbrev mu_J1_canEncode_9a6ad : MI := (yJ1_canEncode_9a6ad, cJ1_canEncode_9a6ad, 1, (some .boolean))
set_option maxRecDepth 20000 in
theorem mc_J1_canEncode_9a6ad : Cond.code yJ1_canEncode_9a6ad cJ1_canEncode_9a6ad 1 (some .boolean) ∈ AW := aw2 (i := 86) rfl rfl
set_option maxRecDepth 20000 in
theorem ml_J1_88 : MSS RJ1 88 mu_J1_canEncode_9a6ad 1 := ⟨aw2 (i := 84) rfl rfl, aw1 (i := 10) rfl rfl, mc_J1_canEncode_9a6ad, ⟨by decide, by decide, by decide +kernel⟩, by decide, aw2 (i := 85) rfl rfl⟩
abbrev mu_Math_max : MI := (Lib.Math.max.name, Lib.Math.max.code, 2, (some .int))
set_option maxRecDepth 20000 in
theorem mc_Math_max : Cond.code Lib.Math.max.name Lib.Math.max.code 2 (some .int) ∈ AW := aw2 (i := 89) rfl rfl
set_option maxRecDepth 20000 in
theorem ml_J1_92 : MSS RJ1 92 mu_Math_max 2 := ⟨aw2 (i := 87) rfl rfl, aw1 (i := 11) rfl rfl, mc_Math_max, ⟨by decide, by decide, by decide +kernel⟩, by decide, aw2 (i := 88) rfl rfl⟩
abbrev mu_Math_min : MI := (Lib.Math.min.name, Lib.Math.min.code, 2, (some .int))
set_option maxRecDepth 20000 in
theorem mc_Math_min : Cond.code Lib.Math.min.name Lib.Math.min.code 2 (some .int) ∈ AW := aw2 (i := 92) rfl rfl
set_option maxRecDepth 20000 in
theorem ml_J1_38 : MSS RJ1 38 mu_Math_min 2 := ⟨aw2 (i := 90) rfl rfl, aw1 (i := 11) rfl rfl, mc_Math_min, ⟨by decide, by decide, by decide +kernel⟩, by decide, aw2 (i := 91) rfl rfl⟩
abbrev mu_J1_indexOfChar_4cfef : MI := (yJ1_indexOfChar_4cfef, cJ1_indexOfChar_4cfef, 6, (some .int))
set_option maxRecDepth 20000 in
theorem mc_J1_indexOfChar_4cfef : Cond.code yJ1_indexOfChar_4cfef cJ1_indexOfChar_4cfef 6 (some .int) ∈ AW := aw2 (i := 95) rfl rfl
set_option maxRecDepth 20000 in
theorem ml_J1_95 : MSS RJ1 95 mu_J1_indexOfChar_4cfef 4 := ⟨aw2 (i := 93) rfl rfl, aw1 (i := 10) rfl rfl, mc_J1_indexOfChar_4cfef, ⟨by decide, by decide, by decide +kernel⟩, by decide, aw2 (i := 94) rfl rfl⟩
abbrev mu_J2_indexOf_4cfef : MI := (yJ2_indexOf_4cfef, cJ2_indexOf_4cfef, 4, (some .int))
set_option maxRecDepth 20000 in
theorem mc_J2_indexOf_4cfef : Cond.code yJ2_indexOf_4cfef cJ2_indexOf_4cfef 4 (some .int) ∈ AW := aw2 (i := 98) rfl rfl
set_option maxRecDepth 20000 in
theorem ml_J0_640 : MSS RJ0 640 mu_J2_indexOf_4cfef 4 := ⟨aw2 (i := 96) rfl rfl, aw1 (i := 12) rfl rfl, mc_J2_indexOf_4cfef, ⟨by decide, by decide, by decide +kernel⟩, by decide, aw2 (i := 97) rfl rfl⟩
set_option maxRecDepth 20000 in
theorem ml_J2_224 : MSS RJ2 224 mu_Math_max 2 := ⟨aw2 (i := 99) rfl rfl, aw1 (i := 11) rfl rfl, mc_Math_max, ⟨by decide, by decide, by decide +kernel⟩, by decide, aw2 (i := 88) rfl rfl⟩
set_option maxRecDepth 20000 in
theorem ml_J2_183 : MSS RJ2 183 mu_Math_min 2 := ⟨aw2 (i := 100) rfl rfl, aw1 (i := 11) rfl rfl, mc_Math_min, ⟨by decide, by decide, by decide +kernel⟩, by decide, aw2 (i := 91) rfl rfl⟩
abbrev mu_J2_indexOfChar_4cfef : MI := (yJ2_indexOfChar_4cfef, cJ2_indexOfChar_4cfef, 4, (some .int))
set_option maxRecDepth 20000 in
theorem mc_J2_indexOfChar_4cfef : Cond.code yJ2_indexOfChar_4cfef cJ2_indexOfChar_4cfef 4 (some .int) ∈ AW := aw2 (i := 104) rfl rfl
set_option maxRecDepth 20000 in
theorem ml_J2_228 : MSS RJ2 228 mu_J2_indexOfChar_4cfef 4 := ⟨aw2 (i := 102) rfl rfl, aw1 (i := 12) rfl rfl, mc_J2_indexOfChar_4cfef, ⟨by decide, by decide, by decide +kernel⟩, by decide, aw2 (i := 103) rfl rfl⟩
abbrev mu_J2_checkBoundsBeginEnd_d044e : MI := (yJ2_checkBoundsBeginEnd_d044e, cJ2_checkBoundsBeginEnd_d044e, 3, none)
set_option maxRecDepth 20000 in
theorem mc_J2_checkBoundsBeginEnd_d044e : Cond.code yJ2_checkBoundsBeginEnd_d044e cJ2_checkBoundsBeginEnd_d044e 3 none ∈ AW := aw2 (i := 107) rfl rfl
set_option maxRecDepth 20000 in
theorem ml_J2_96 : MSS RJ2 96 mu_J2_checkBoundsBeginEnd_d044e 3 := ⟨aw2 (i := 105) rfl rfl, aw1 (i := 12) rfl rfl, mc_J2_checkBoundsBeginEnd_d044e, ⟨by decide, by decide, by decide +kernel⟩, by decide, aw2 (i := 106) rfl rfl⟩
abbrev mu_J2_length_9d52b : MI := (yJ2_length_9d52b, cJ2_length_9d52b, 1, (some .int))
set_option maxRecDepth 20000 in
theorem mc_J2_length_9d52b : Cond.code yJ2_length_9d52b cJ2_length_9d52b 1 (some .int) ∈ AW := aw2 (i := 110) rfl rfl
set_option maxRecDepth 20000 in
theorem ml_J2_48 : MSS RJ2 48 mu_J2_length_9d52b 1 := ⟨aw2 (i := 108) rfl rfl, aw1 (i := 12) rfl rfl, mc_J2_length_9d52b, ⟨by decide, by decide, by decide +kernel⟩, by decide, aw2 (i := 109) rfl rfl⟩
abbrev mu_J0_checkBoundsBeginEnd_23922 : MI := (yJ0_checkBoundsBeginEnd_23922, cJ0_checkBoundsBeginEnd_23922, 3, none)
set_option maxRecDepth 20000 in
theorem mc_J0_checkBoundsBeginEnd_23922 : Cond.code yJ0_checkBoundsBeginEnd_23922 cJ0_checkBoundsBeginEnd_23922 3 none ∈ AW := aw2 (i := 113) rfl rfl
set_option maxRecDepth 20000 in
theorem ml_J2_241 : MSS RJ2 241 mu_J0_checkBoundsBeginEnd_23922 3 := ⟨aw2 (i := 111) rfl rfl, aw1 (i := 9) rfl rfl, mc_J0_checkBoundsBeginEnd_23922, ⟨by decide, by decide, by decide +kernel⟩, by decide, aw2 (i := 112) rfl rfl⟩
abbrev mu_J3_checkFromToIndex_8c36e : MI := (yJ3_checkFromToIndex_8c36e, cJ3_checkFromToIndex_8c36e, 4, (some .int))
set_option maxRecDepth 20000 in
theorem mc_J3_checkFromToIndex_8c36e : Cond.code yJ3_checkFromToIndex_8c36e cJ3_checkFromToIndex_8c36e 4 (some .int) ∈ AW := aw2 (i := 118) rfl rfl
set_option maxRecDepth 20000 in
theorem ml_J0_1062 : MSS RJ0 1062 mu_J3_checkFromToIndex_8c36e 4 := ⟨aw2 (i := 116) rfl rfl, aw1 (i := 13) rfl rfl, mc_J3_checkFromToIndex_8c36e, ⟨by decide, by decide, by decide +kernel⟩, by decide, aw2 (i := 117) rfl rfl⟩
abbrev mu_J2_indexOfCharUnsafe_4cfef : MI := (yJ2_indexOfCharUnsafe_4cfef, cJ2_indexOfCharUnsafe_4cfef, 5, (some .int))
set_option maxRecDepth 20000 in
theorem mc_J2_indexOfCharUnsafe_4cfef : Cond.code yJ2_indexOfCharUnsafe_4cfef cJ2_indexOfCharUnsafe_4cfef 5 (some .int) ∈ AW := aw2 (i := 121) rfl rfl
set_option maxRecDepth 20000 in
theorem ml_J2_244 : MSS RJ2 244 mu_J2_indexOfCharUnsafe_4cfef 4 := ⟨aw2 (i := 119) rfl rfl, aw1 (i := 12) rfl rfl, mc_J2_indexOfCharUnsafe_4cfef, ⟨by decide, by decide, by decide +kernel⟩, by decide, aw2 (i := 120) rfl rfl⟩
abbrev mu_J2_getChar_3b067 : MI := (yJ2_getChar_3b067, cJ2_getChar_3b067, 2, (some .char))
set_option maxRecDepth 20000 in
theorem mc_J2_getChar_3b067 : Cond.code yJ2_getChar_3b067 cJ2_getChar_3b067 2 (some .char) ∈ AW := aw2 (i := 124) rfl rfl
set_option maxRecDepth 20000 in
theorem ml_J2_71 : MSS RJ2 71 mu_J2_getChar_3b067 2 := ⟨aw2 (i := 122) rfl rfl, aw1 (i := 12) rfl rfl, mc_J2_getChar_3b067, ⟨by decide, by decide, by decide +kernel⟩, by decide, aw2 (i := 123) rfl rfl⟩
abbrev mu_J2_indexOfSupplementary_4cfef : MI := (yJ2_indexOfSupplementary_4cfef, cJ2_indexOfSupplementary_4cfef, 7, (some .int))
set_option maxRecDepth 20000 in
theorem mc_J2_indexOfSupplementary_4cfef : Cond.code yJ2_indexOfSupplementary_4cfef cJ2_indexOfSupplementary_4cfef 7 (some .int) ∈ AW := aw2 (i := 133) rfl rfl
set_option maxRecDepth 20000 in
theorem ml_J2_232 : MSS RJ2 232 mu_J2_indexOfSupplementary_4cfef 4 := ⟨aw2 (i := 131) rfl rfl, aw1 (i := 12) rfl rfl, mc_J2_indexOfSupplementary_4cfef, ⟨by decide, by decide, by decide +kernel⟩, by decide, aw2 (i := 132) rfl rfl⟩
abbrev mu_J11_isValidCodePoint_9a6ad : MI := (yJ11_isValidCodePoint_9a6ad, cJ11_isValidCodePoint_9a6ad, 2, (some .boolean))
set_option maxRecDepth 20000 in
theorem mc_J11_isValidCodePoint_9a6ad : Cond.code yJ11_isValidCodePoint_9a6ad cJ11_isValidCodePoint_9a6ad 2 (some .boolean) ∈ AW := aw2 (i := 136) rfl rfl
set_option maxRecDepth 20000 in
theorem ml_J2_164 : MSS RJ2 164 mu_J11_isValidCodePoint_9a6ad 1 := ⟨aw2 (i := 134) rfl rfl, aw1 (i := 14) rfl rfl, mc_J11_isValidCodePoint_9a6ad, ⟨by decide, by decide, by decide +kernel⟩, by decide, aw2 (i := 135) rfl rfl⟩
abbrev mu_J11_highSurrogate_5068e : MI := (yJ11_highSurrogate_5068e, cJ11_highSurrogate_5068e, 1, (some .char))
set_option maxRecDepth 20000 in
theorem mc_J11_highSurrogate_5068e : Cond.code yJ11_highSurrogate_5068e cJ11_highSurrogate_5068e 1 (some .char) ∈ AW := aw2 (i := 139) rfl rfl
set_option maxRecDepth 20000 in
theorem ml_J2_157 : MSS RJ2 157 mu_J11_highSurrogate_5068e 1 := ⟨aw2 (i := 137) rfl rfl, aw1 (i := 14) rfl rfl, mc_J11_highSurrogate_5068e, ⟨by decide, by decide, by decide +kernel⟩, by decide, aw2 (i := 138) rfl rfl⟩
abbrev mu_J11_lowSurrogate_5068e : MI := (yJ11_lowSurrogate_5068e, cJ11_lowSurrogate_5068e, 1, (some .char))
set_option maxRecDepth 20000 in
theorem mc_J11_lowSurrogate_5068e : Cond.code yJ11_lowSurrogate_5068e cJ11_lowSurrogate_5068e 1 (some .char) ∈ AW := aw2 (i := 143) rfl rfl
set_option maxRecDepth 20000 in
theorem ml_J2_161 : MSS RJ2 161 mu_J11_lowSurrogate_5068e 1 := ⟨aw2 (i := 141) rfl rfl, aw1 (i := 14) rfl rfl, mc_J11_lowSurrogate_5068e, ⟨by decide, by decide, by decide +kernel⟩, by decide, aw2 (i := 142) rfl rfl⟩
abbrev mu_X6_tellStatements : MI := (yX6_tellStatements, cX6_tellStatements, 3, (some .int))
set_option maxRecDepth 20000 in
theorem mc_X6_tellStatements : Cond.code yX6_tellStatements cX6_tellStatements 3 (some .int) ∈ AW := aw2 (i := 149) rfl rfl
set_option maxRecDepth 20000 in
theorem ml_X6_73 : MSV RX6 73 mu_X6_tellStatements 0 := ⟨aw2 (i := 146) rfl rfl, aw1 (i := 1) rfl rfl, mc_X6_tellStatements, ⟨by decide, by decide, by decide +kernel⟩, by decide, aw2 (i := 148) rfl rfl, awp (i := 7) rfl rfl⟩
abbrev mu_X1_copyFrom : MI := (yX1_copyFrom, cX1_copyFrom, 2, none)
set_option maxRecDepth 20000 in
theorem mc_X1_copyFrom : Cond.code yX1_copyFrom cX1_copyFrom 2 none ∈ AW := aw2 (i := 153) rfl rfl
set_option maxRecDepth 20000 in
theorem ml_X6_181 : MSV RX6 181 mu_X1_copyFrom 1 := ⟨aw2 (i := 150) rfl rfl, aw1 (i := 2) rfl rfl, mc_X1_copyFrom, ⟨by decide, by decide, by decide +kernel⟩, by decide, aw2 (i := 151) rfl rfl, aw2 (i := 152) rfl rfl⟩
set_option maxRecDepth 20000 in
theorem ml_X6_243 : MSV RX6 243 mu_X4_readStatement 0 := ⟨aw2 (i := 157) rfl rfl, aw1 (i := 3) rfl rfl, mc_X4_readStatement, ⟨by decide, by decide, by decide +kernel⟩, by decide, aw2 (i := 31) rfl rfl, aw2 (i := 32) rfl rfl⟩
abbrev mu_X4_tellTo : MI := (yX4_tellTo, cX4_tellTo, 2, (some .boolean))
set_option maxRecDepth 20000 in
theorem mc_X4_tellTo : Cond.code yX4_tellTo cX4_tellTo 2 (some .boolean) ∈ AW := aw2 (i := 161) rfl rfl
set_option maxRecDepth 20000 in
theorem ml_X6_247 : MSV RX6 247 mu_X4_tellTo 1 := ⟨aw2 (i := 158) rfl rfl, aw1 (i := 3) rfl rfl, mc_X4_tellTo, ⟨by decide, by decide, by decide +kernel⟩, by decide, aw2 (i := 159) rfl rfl, aw2 (i := 160) rfl rfl⟩
abbrev mu_X1_addJob : MI := (yX1_addJob, cX1_addJob, 5, (some .boolean))
set_option maxRecDepth 20000 in
theorem mc_X1_addJob : Cond.code yX1_addJob cX1_addJob 5 (some .boolean) ∈ AW := aw2 (i := 165) rfl rfl
set_option maxRecDepth 20000 in
theorem ml_X4_59 : MSV RX4 59 mu_X1_addJob 3 := ⟨aw2 (i := 162) rfl rfl, aw1 (i := 2) rfl rfl, mc_X1_addJob, ⟨by decide, by decide, by decide +kernel⟩, by decide, aw2 (i := 163) rfl rfl, aw2 (i := 164) rfl rfl⟩
abbrev mu_X6_isOwner : MI := (yX6_isOwner, cX6_isOwner, 1, (some .boolean))
set_option maxRecDepth 20000 in
theorem mc_X6_isOwner : Cond.code yX6_isOwner cX6_isOwner 1 (some .boolean) ∈ AW := aw2 (i := 168) rfl rfl
set_option maxRecDepth 20000 in
theorem ml_X1_53 : MNS RX1 53 mu_X6_isOwner 1 := ⟨List.mem_of_getElem? (i := 7) rfl, aw1 (i := 1) rfl rfl, mc_X6_isOwner, ⟨by decide, by decide, by decide +kernel⟩, by decide, aw2 (i := 167) rfl rfl⟩
abbrev mu_X1_addTaker : MI := (yX1_addTaker, cX1_addTaker, 6, (some .boolean))
set_option maxRecDepth 20000 in
theorem mc_X1_addTaker : Cond.code yX1_addTaker cX1_addTaker 6 (some .boolean) ∈ AW := aw2 (i := 172) rfl rfl
set_option maxRecDepth 20000 in
theorem ml_X4_65 : MSV RX4 65 mu_X1_addTaker 4 := ⟨aw2 (i := 169) rfl rfl, aw1 (i := 2) rfl rfl, mc_X1_addTaker, ⟨by decide, by decide, by decide +kernel⟩, by decide, aw2 (i := 170) rfl rfl, aw2 (i := 171) rfl rfl⟩
abbrev mu_X1_setMachine : MI := (yX1_setMachine, cX1_setMachine, 3, none)
set_option maxRecDepth 20000 in
theorem mc_X1_setMachine : Cond.code yX1_setMachine cX1_setMachine 3 none ∈ AW := aw2 (i := 176) rfl rfl
set_option maxRecDepth 20000 in
theorem ml_X4_69 : MSV RX4 69 mu_X1_setMachine 2 := ⟨aw2 (i := 173) rfl rfl, aw1 (i := 2) rfl rfl, mc_X1_setMachine, ⟨by decide, by decide, by decide +kernel⟩, by decide, aw2 (i := 174) rfl rfl, aw2 (i := 175) rfl rfl⟩
abbrev mu_X4_clear : MI := (yX4_clear, cX4_clear, 1, none)
set_option maxRecDepth 20000 in
theorem mc_X4_clear : Cond.code yX4_clear cX4_clear 1 none ∈ AW := aw2 (i := 180) rfl rfl
set_option maxRecDepth 20000 in
theorem ml_X6_76 : MSV RX6 76 mu_X4_clear 0 := ⟨aw2 (i := 177) rfl rfl, aw1 (i := 3) rfl rfl, mc_X4_clear, ⟨by decide, by decide, by decide +kernel⟩, by decide, aw2 (i := 178) rfl rfl, aw2 (i := 179) rfl rfl⟩
abbrev mu_X6_job : MI := (yX6_job, cX6_job, 3, (some .int))
set_option maxRecDepth 20000 in
theorem mc_X6_job : Cond.code yX6_job cX6_job 3 (some .int) ∈ AW := aw2 (i := 185) rfl rfl
set_option maxRecDepth 20000 in
theorem ml_L_23 : MSV RL 23 mu_X6_job 2 := ⟨aw2 (i := 182) rfl rfl, aw1 (i := 1) rfl rfl, mc_X6_job, ⟨by decide, by decide, by decide +kernel⟩, by decide, aw2 (i := 183) rfl rfl, aw2 (i := 184) rfl rfl⟩
abbrev mu_X1_hasJob : MI := (yX1_hasJob, cX1_hasJob, 2, (some .boolean))
set_option maxRecDepth 20000 in
theorem mc_X1_hasJob : Cond.code yX1_hasJob cX1_hasJob 2 (some .boolean) ∈ AW := aw2 (i := 189) rfl rfl
set_option maxRecDepth 20000 in
theorem ml_X6_79 : MSV RX6 79 mu_X1_hasJob 1 := ⟨aw2 (i := 186) rfl rfl, aw1 (i := 2) rfl rfl, mc_X1_hasJob, ⟨by decide, by decide, by decide +kernel⟩, by decide, aw2 (i := 187) rfl rfl, aw2 (i := 188) rfl rfl⟩
abbrev mu_X6_taker : MI := (yX6_taker, cX6_taker, 3, (some .int))
set_option maxRecDepth 20000 in
theorem mc_X6_taker : Cond.code yX6_taker cX6_taker 3 (some .int) ∈ AW := aw2 (i := 193) rfl rfl
set_option maxRecDepth 20000 in
theorem ml_L_28 : MSV RL 28 mu_X6_taker 2 := ⟨aw2 (i := 190) rfl rfl, aw1 (i := 1) rfl rfl, mc_X6_taker, ⟨by decide, by decide, by decide +kernel⟩, by decide, aw2 (i := 191) rfl rfl, aw2 (i := 192) rfl rfl⟩
abbrev mu_X1_hasTaker : MI := (yX1_hasTaker, cX1_hasTaker, 2, (some .boolean))
set_option maxRecDepth 20000 in
theorem mc_X1_hasTaker : Cond.code yX1_hasTaker cX1_hasTaker 2 (some .boolean) ∈ AW := aw2 (i := 197) rfl rfl
set_option maxRecDepth 20000 in
theorem ml_X6_92 : MSV RX6 92 mu_X1_hasTaker 1 := ⟨aw2 (i := 194) rfl rfl, aw1 (i := 2) rfl rfl, mc_X1_hasTaker, ⟨by decide, by decide, by decide +kernel⟩, by decide, aw2 (i := 195) rfl rfl, aw2 (i := 196) rfl rfl⟩
abbrev mu_X6_sent : MI := (yX6_sent, cX6_sent, 4, (some .int))
set_option maxRecDepth 20000 in
theorem mc_X6_sent : Cond.code yX6_sent cX6_sent 4 (some .int) ∈ AW := aw2 (i := 201) rfl rfl
set_option maxRecDepth 20000 in
theorem ml_L_32 : MSV RL 32 mu_X6_sent 2 := ⟨aw2 (i := 198) rfl rfl, aw1 (i := 1) rfl rfl, mc_X6_sent, ⟨by decide, by decide, by decide +kernel⟩, by decide, aw2 (i := 199) rfl rfl, aw2 (i := 200) rfl rfl⟩
abbrev mu_X6_machine : MI := (yX6_machine, cX6_machine, 4, (some .int))
set_option maxRecDepth 20000 in
theorem mc_X6_machine : Cond.code yX6_machine cX6_machine 4 (some .int) ∈ AW := aw2 (i := 205) rfl rfl
set_option maxRecDepth 20000 in
theorem ml_L_36 : MSV RL 36 mu_X6_machine 2 := ⟨aw2 (i := 202) rfl rfl, aw1 (i := 1) rfl rfl, mc_X6_machine, ⟨by decide, by decide, by decide +kernel⟩, by decide, aw2 (i := 203) rfl rfl, aw2 (i := 204) rfl rfl⟩
set_option maxRecDepth 20000 in
theorem ml_X6_109 : MSV RX6 109 mu_J0_length_8abf5 0 := ⟨aw2 (i := 207) rfl rfl, aw1 (i := 9) rfl rfl, mc_J0_length_8abf5, ⟨by decide, by decide, by decide +kernel⟩, by decide, aw2 (i := 74) rfl rfl, aw2 (i := 75) rfl rfl⟩
set_option maxRecDepth 20000 in
theorem ml_X6_120 : MSV RX6 120 mu_X1_setMachine 2 := ⟨aw2 (i := 208) rfl rfl, aw1 (i := 2) rfl rfl, mc_X1_setMachine, ⟨by decide, by decide, by decide +kernel⟩, by decide, aw2 (i := 174) rfl rfl, aw2 (i := 175) rfl rfl⟩
abbrev mu_X6_comes : MI := (yX6_comes, cX6_comes, 4, (some .int))
set_option maxRecDepth 20000 in
theorem mc_X6_comes : Cond.code yX6_comes cX6_comes 4 (some .int) ∈ AW := aw2 (i := 212) rfl rfl
set_option maxRecDepth 20000 in
theorem ml_L_40 : MSV RL 40 mu_X6_comes 2 := ⟨aw2 (i := 209) rfl rfl, aw1 (i := 1) rfl rfl, mc_X6_comes, ⟨by decide, by decide, by decide +kernel⟩, by decide, aw2 (i := 210) rfl rfl, aw2 (i := 211) rfl rfl⟩
abbrev mu_X6_out : MI := (yX6_out, cX6_out, 3, (some .int))
set_option maxRecDepth 20000 in
theorem mc_X6_out : Cond.code yX6_out cX6_out 3 (some .int) ∈ AW := aw2 (i := 216) rfl rfl
set_option maxRecDepth 20000 in
theorem ml_L_44 : MSV RL 44 mu_X6_out 2 := ⟨aw2 (i := 213) rfl rfl, aw1 (i := 1) rfl rfl, mc_X6_out, ⟨by decide, by decide, by decide +kernel⟩, by decide, aw2 (i := 214) rfl rfl, aw2 (i := 215) rfl rfl⟩
abbrev mu_X6_isZeroOrOne : MI := (yX6_isZeroOrOne, cX6_isZeroOrOne, 1, (some .boolean))
set_option maxRecDepth 20000 in
theorem mc_X6_isZeroOrOne : Cond.code yX6_isZeroOrOne cX6_isZeroOrOne 1 (some .boolean) ∈ AW := aw2 (i := 219) rfl rfl
set_option maxRecDepth 20000 in
theorem ml_X6_124 : MSS RX6 124 mu_X6_isZeroOrOne 1 := ⟨aw2 (i := 217) rfl rfl, aw1 (i := 1) rfl rfl, mc_X6_isZeroOrOne, ⟨by decide, by decide, by decide +kernel⟩, by decide, aw2 (i := 218) rfl rfl⟩
abbrev mu_X0_passWhole : MI := (yX0_passWhole, cX0_passWhole, 2, none)
set_option maxRecDepth 20000 in
theorem mc_X0_passWhole : Cond.code yX0_passWhole cX0_passWhole 2 none ∈ AW := aw2 (i := 223) rfl rfl
set_option maxRecDepth 20000 in
theorem ml_X6_127 : MSV RX6 127 mu_X0_passWhole 1 := ⟨aw2 (i := 220) rfl rfl, aw1 (i := 5) rfl rfl, mc_X0_passWhole, ⟨by decide, by decide, by decide +kernel⟩, by decide, aw2 (i := 221) rfl rfl, aw2 (i := 222) rfl rfl⟩
abbrev mu_X0_passThrough : MI := (yX0_passThrough, cX0_passThrough, 4, none)
set_option maxRecDepth 20000 in
theorem mc_X0_passThrough : Cond.code yX0_passThrough cX0_passThrough 4 none ∈ AW := aw2 (i := 227) rfl rfl
set_option maxRecDepth 20000 in
theorem ml_X0_55 : MSV RX0 55 mu_X0_passThrough 2 := ⟨aw2 (i := 224) rfl rfl, aw1 (i := 5) rfl rfl, mc_X0_passThrough, ⟨by decide, by decide, by decide +kernel⟩, by decide, aw2 (i := 225) rfl rfl, aw2 (i := 226) rfl rfl⟩
abbrev mu_X0_begin : MI := (yX0_begin, cX0_begin, 2, none)
set_option maxRecDepth 20000 in
theorem mc_X0_begin : Cond.code yX0_begin cX0_begin 2 none ∈ AW := aw2 (i := 231) rfl rfl
set_option maxRecDepth 20000 in
theorem ml_X0_59 : MSV RX0 59 mu_X0_begin 1 := ⟨aw2 (i := 228) rfl rfl, aw1 (i := 5) rfl rfl, mc_X0_begin, ⟨by decide, by decide, by decide +kernel⟩, by decide, aw2 (i := 229) rfl rfl, aw2 (i := 230) rfl rfl⟩
abbrev mu_X2_begin : MI := (yX2_begin, cX2_begin, 3, none)
set_option maxRecDepth 20000 in
theorem mc_X2_begin : Cond.code yX2_begin cX2_begin 3 none ∈ AW := aw2 (i := 235) rfl rfl
set_option maxRecDepth 20000 in
theorem ml_X0_42 : MSV RX0 42 mu_X2_begin 1 := ⟨aw2 (i := 232) rfl rfl, aw1 (i := 4) rfl rfl, mc_X2_begin, ⟨by decide, by decide, by decide +kernel⟩, by decide, aw2 (i := 233) rfl rfl, aw2 (i := 234) rfl rfl⟩
abbrev mu_X1_allSheets : MI := (yX1_allSheets, cX1_allSheets, 3, (some .int))
set_option maxRecDepth 20000 in
theorem mc_X1_allSheets : Cond.code yX1_allSheets cX1_allSheets 3 (some .int) ∈ AW := aw2 (i := 239) rfl rfl
set_option maxRecDepth 20000 in
theorem ml_X2_36 : MSV RX2 36 mu_X1_allSheets 0 := ⟨aw2 (i := 236) rfl rfl, aw1 (i := 2) rfl rfl, mc_X1_allSheets, ⟨by decide, by decide, by decide +kernel⟩, by decide, aw2 (i := 237) rfl rfl, aw2 (i := 238) rfl rfl⟩
abbrev mu_J7_fill_53178 : MI := (yJ7_fill_53178, cJ7_fill_53178, 4, none)
set_option maxRecDepth 20000 in
theorem mc_J7_fill_53178 : Cond.code yJ7_fill_53178 cJ7_fill_53178 4 none ∈ AW := aw3 (i := 2) rfl rfl
set_option maxRecDepth 20000 in
theorem ml_X0_49 : MSS RX0 49 mu_J7_fill_53178 2 := ⟨aw3 (i := 0) rfl rfl, aw1 (i := 16) rfl rfl, mc_J7_fill_53178, ⟨by decide, by decide, by decide +kernel⟩, by decide, aw3 (i := 1) rfl rfl⟩
abbrev mu_X0_passMinute : MI := (yX0_passMinute, cX0_passMinute, 5, none)
set_option maxRecDepth 20000 in
theorem mc_X0_passMinute : Cond.code yX0_passMinute cX0_passMinute 5 none ∈ AW := aw3 (i := 6) rfl rfl
set_option maxRecDepth 20000 in
theorem ml_X0_60 : MSV RX0 60 mu_X0_passMinute 2 := ⟨aw3 (i := 3) rfl rfl, aw1 (i := 5) rfl rfl, mc_X0_passMinute, ⟨by decide, by decide, by decide +kernel⟩, by decide, aw3 (i := 4) rfl rfl, aw3 (i := 5) rfl rfl⟩
abbrev mu_X2_putOut : MI := (yX2_putOut, cX2_putOut, 4, (some .int))
set_option maxRecDepth 20000 in
theorem mc_X2_putOut : Cond.code yX2_putOut cX2_putOut 4 (some .int) ∈ AW := aw3 (i := 10) rfl rfl
set_option maxRecDepth 20000 in
theorem ml_X0_63 : MSV RX0 63 mu_X2_putOut 2 := ⟨aw3 (i := 7) rfl rfl, aw1 (i := 4) rfl rfl, mc_X2_putOut, ⟨by decide, by decide, by decide +kernel⟩, by decide, aw3 (i := 8) rfl rfl, aw3 (i := 9) rfl rfl⟩
abbrev mu_X2_chosenJob : MI := (yX2_chosenJob, cX2_chosenJob, 6, (some .int))
set_option maxRecDepth 20000 in
theorem mc_X2_chosenJob : Cond.code yX2_chosenJob cX2_chosenJob 6 (some .int) ∈ AW := aw3 (i := 14) rfl rfl
set_option maxRecDepth 20000 in
theorem ml_X2_46 : MSV RX2 46 mu_X2_chosenJob 2 := ⟨aw3 (i := 11) rfl rfl, aw1 (i := 4) rfl rfl, mc_X2_chosenJob, ⟨by decide, by decide, by decide +kernel⟩, by decide, aw3 (i := 13) rfl rfl, awp (i := 8) rfl rfl⟩
abbrev mu_X2_isAhead : MI := (yX2_isAhead, cX2_isAhead, 5, (some .boolean))
set_option maxRecDepth 20000 in
theorem mc_X2_isAhead : Cond.code yX2_isAhead cX2_isAhead 5 (some .boolean) ∈ AW := aw3 (i := 18) rfl rfl
set_option maxRecDepth 20000 in
theorem ml_X2_60 : MSV RX2 60 mu_X2_isAhead 3 := ⟨aw3 (i := 15) rfl rfl, aw1 (i := 4) rfl rfl, mc_X2_isAhead, ⟨by decide, by decide, by decide +kernel⟩, by decide, aw3 (i := 17) rfl rfl, awp (i := 9) rfl rfl⟩
abbrev mu_X2_turnsUntil : MI := (yX2_turnsUntil, cX2_turnsUntil, 2, (some .int))
set_option maxRecDepth 20000 in
theorem mc_X2_turnsUntil : Cond.code yX2_turnsUntil cX2_turnsUntil 2 (some .int) ∈ AW := aw3 (i := 22) rfl rfl
set_option maxRecDepth 20000 in
theorem ml_X2_64 : MSV RX2 64 mu_X2_turnsUntil 1 := ⟨aw3 (i := 19) rfl rfl, aw1 (i := 4) rfl rfl, mc_X2_turnsUntil, ⟨by decide, by decide, by decide +kernel⟩, by decide, aw3 (i := 21) rfl rfl, awp (i := 10) rfl rfl⟩
abbrev mu_J9_floorMod_7cf53 : MI := (yJ9_floorMod_7cf53, cJ9_floorMod_7cf53, 3, (some .int))
set_option maxRecDepth 20000 in
theorem mc_J9_floorMod_7cf53 : Cond.code yJ9_floorMod_7cf53 cJ9_floorMod_7cf53 3 (some .int) ∈ AW := aw3 (i := 25) rfl rfl
set_option maxRecDepth 20000 in
theorem ml_X2_71 : MSS RX2 71 mu_J9_floorMod_7cf53 2 := ⟨aw3 (i := 23) rfl rfl, aw1 (i := 11) rfl rfl, mc_J9_floorMod_7cf53, ⟨by decide, by decide, by decide +kernel⟩, by decide, aw3 (i := 24) rfl rfl⟩
abbrev mu_X1_hasSheet : MI := (yX1_hasSheet, cX1_hasSheet, 3, (some .boolean))
set_option maxRecDepth 20000 in
theorem mc_X1_hasSheet : Cond.code yX1_hasSheet cX1_hasSheet 3 (some .boolean) ∈ AW := aw3 (i := 29) rfl rfl
set_option maxRecDepth 20000 in
theorem ml_X0_67 : MSV RX0 67 mu_X1_hasSheet 1 := ⟨aw3 (i := 26) rfl rfl, aw1 (i := 2) rfl rfl, mc_X1_hasSheet, ⟨by decide, by decide, by decide +kernel⟩, by decide, aw3 (i := 27) rfl rfl, aw3 (i := 28) rfl rfl⟩
set_option maxRecDepth 20000 in
theorem ml_X1_46 : MSV RX1 46 mu_X1_hasJob 1 := ⟨aw3 (i := 30) rfl rfl, aw1 (i := 2) rfl rfl, mc_X1_hasJob, ⟨by decide, by decide, by decide +kernel⟩, by decide, aw2 (i := 187) rfl rfl, aw2 (i := 188) rfl rfl⟩
abbrev mu_X0_noteOut : MI := (yX0_noteOut, cX0_noteOut, 3, none)
set_option maxRecDepth 20000 in
theorem mc_X0_noteOut : Cond.code yX0_noteOut cX0_noteOut 3 none ∈ AW := aw3 (i := 34) rfl rfl
set_option maxRecDepth 20000 in
theorem ml_X0_73 : MSV RX0 73 mu_X0_noteOut 2 := ⟨aw3 (i := 31) rfl rfl, aw1 (i := 5) rfl rfl, mc_X0_noteOut, ⟨by decide, by decide, by decide +kernel⟩, by decide, aw3 (i := 33) rfl rfl, awp (i := 11) rfl rfl⟩
abbrev mu_X5_putBeneath : MI := (yX5_putBeneath, cX5_putBeneath, 2, none)
set_option maxRecDepth 20000 in
theorem mc_X5_putBeneath : Cond.code yX5_putBeneath cX5_putBeneath 2 none ∈ AW := aw3 (i := 38) rfl rfl
set_option maxRecDepth 20000 in
theorem ml_X0_80 : MSV RX0 80 mu_X5_putBeneath 1 := ⟨aw3 (i := 35) rfl rfl, aw1 (i := 6) rfl rfl, mc_X5_putBeneath, ⟨by decide, by decide, by decide +kernel⟩, by decide, aw3 (i := 36) rfl rfl, aw3 (i := 37) rfl rfl⟩
abbrev mu_X5_putUpon : MI := (yX5_putUpon, cX5_putUpon, 2, none)
set_option maxRecDepth 20000 in
theorem mc_X5_putUpon : Cond.code yX5_putUpon cX5_putUpon 2 none ∈ AW := aw3 (i := 43) rfl rfl
set_option maxRecDepth 20000 in
theorem ml_X0_84 : MSV RX0 84 mu_X5_putUpon 1 := ⟨aw3 (i := 40) rfl rfl, aw1 (i := 6) rfl rfl, mc_X5_putUpon, ⟨by decide, by decide, by decide +kernel⟩, by decide, aw3 (i := 41) rfl rfl, aw3 (i := 42) rfl rfl⟩
abbrev mu_X5_giveTo : MI := (yX5_giveTo, cX5_giveTo, 13, none)
set_option maxRecDepth 20000 in
theorem mc_X5_giveTo : Cond.code yX5_giveTo cX5_giveTo 13 none ∈ AW := aw3 (i := 47) rfl rfl
set_option maxRecDepth 20000 in
theorem ml_X0_93 : MSV RX0 93 mu_X5_giveTo 3 := ⟨aw3 (i := 44) rfl rfl, aw1 (i := 6) rfl rfl, mc_X5_giveTo, ⟨by decide, by decide, by decide +kernel⟩, by decide, aw3 (i := 45) rfl rfl, aw3 (i := 46) rfl rfl⟩
abbrev mu_X5_jobsWanted : MI := (yX5_jobsWanted, cX5_jobsWanted, 5, (some .int))
set_option maxRecDepth 20000 in
theorem mc_X5_jobsWanted : Cond.code yX5_jobsWanted cX5_jobsWanted 5 (some .int) ∈ AW := aw3 (i := 51) rfl rfl
set_option maxRecDepth 20000 in
theorem ml_X5_49 : MSV RX5 49 mu_X5_jobsWanted 3 := ⟨aw3 (i := 48) rfl rfl, aw1 (i := 6) rfl rfl, mc_X5_jobsWanted, ⟨by decide, by decide, by decide +kernel⟩, by decide, aw3 (i := 50) rfl rfl, awp (i := 12) rfl rfl⟩
abbrev mu_X1_jobsOf : MI := (yX1_jobsOf, cX1_jobsOf, 4, (some .int))
set_option maxRecDepth 20000 in
theorem mc_X1_jobsOf : Cond.code yX1_jobsOf cX1_jobsOf 4 (some .int) ∈ AW := aw3 (i := 55) rfl rfl
set_option maxRecDepth 20000 in
theorem ml_X5_57 : MSV RX5 57 mu_X1_jobsOf 1 := ⟨aw3 (i := 52) rfl rfl, aw1 (i := 2) rfl rfl, mc_X1_jobsOf, ⟨by decide, by decide, by decide +kernel⟩, by decide, aw3 (i := 53) rfl rfl, aw3 (i := 54) rfl rfl⟩
abbrev mu_X5_wholeJobs : MI := (yX5_wholeJobs, cX5_wholeJobs, 4, (some .int))
set_option maxRecDepth 20000 in
theorem mc_X5_wholeJobs : Cond.code yX5_wholeJobs cX5_wholeJobs 4 (some .int) ∈ AW := aw3 (i := 59) rfl rfl
set_option maxRecDepth 20000 in
theorem ml_X5_60 : MSV RX5 60 mu_X5_wholeJobs 1 := ⟨aw3 (i := 56) rfl rfl, aw1 (i := 6) rfl rfl, mc_X5_wholeJobs, ⟨by decide, by decide, by decide +kernel⟩, by decide, aw3 (i := 58) rfl rfl, awp (i := 13) rfl rfl⟩
set_option maxRecDepth 20000 in
theorem ml_X5_64 : MSS RX5 64 mu_J7_fill_53178 2 := ⟨aw3 (i := 60) rfl rfl, aw1 (i := 16) rfl rfl, mc_J7_fill_53178, ⟨by decide, by decide, by decide +kernel⟩, by decide, aw3 (i := 1) rfl rfl⟩
abbrev mu_X6_bitsUpTo : MI := (yX6_bitsUpTo, cX6_bitsUpTo, 1, (some .int))
set_option maxRecDepth 20000 in
theorem mc_X6_bitsUpTo : Cond.code yX6_bitsUpTo cX6_bitsUpTo 1 (some .int) ∈ AW := aw3 (i := 63) rfl rfl
set_option maxRecDepth 20000 in
theorem ml_X5_76 : MNS RX5 76 mu_X6_bitsUpTo 1 := ⟨List.mem_of_getElem? (i := 10) rfl, aw1 (i := 1) rfl rfl, mc_X6_bitsUpTo, ⟨by decide, by decide, by decide +kernel⟩, by decide, aw3 (i := 62) rfl rfl⟩
abbrev mu_X6_hasBit : MI := (yX6_hasBit, cX6_hasBit, 2, (some .boolean))
set_option maxRecDepth 20000 in
theorem mc_X6_hasBit : Cond.code yX6_hasBit cX6_hasBit 2 (some .boolean) ∈ AW := aw3 (i := 66) rfl rfl
set_option maxRecDepth 20000 in
theorem ml_X5_53 : MNS RX5 53 mu_X6_hasBit 2 := ⟨List.mem_of_getElem? (i := 9) rfl, aw1 (i := 1) rfl rfl, mc_X6_hasBit, ⟨by decide, by decide, by decide +kernel⟩, by decide, aw3 (i := 65) rfl rfl⟩
abbrev mu_X0_sheetOut : MI := (yX0_sheetOut, cX0_sheetOut, 2, (some .int))
set_option maxRecDepth 20000 in
theorem mc_X0_sheetOut : Cond.code yX0_sheetOut cX0_sheetOut 2 (some .int) ∈ AW := aw3 (i := 70) rfl rfl
set_option maxRecDepth 20000 in
theorem ml_X6_131 : MSV RX6 131 mu_X0_sheetOut 1 := ⟨aw3 (i := 67) rfl rfl, aw1 (i := 5) rfl rfl, mc_X0_sheetOut, ⟨by decide, by decide, by decide +kernel⟩, by decide, aw3 (i := 68) rfl rfl, aw3 (i := 69) rfl rfl⟩
abbrev mu_X0_minuteOut : MI := (yX0_minuteOut, cX0_minuteOut, 2, (some .int))
set_option maxRecDepth 20000 in
theorem mc_X0_minuteOut : Cond.code yX0_minuteOut cX0_minuteOut 2 (some .int) ∈ AW := aw3 (i := 74) rfl rfl
set_option maxRecDepth 20000 in
theorem ml_X6_134 : MSV RX6 134 mu_X0_minuteOut 1 := ⟨aw3 (i := 71) rfl rfl, aw1 (i := 5) rfl rfl, mc_X0_minuteOut, ⟨by decide, by decide, by decide +kernel⟩, by decide, aw3 (i := 72) rfl rfl, aw3 (i := 73) rfl rfl⟩
abbrev mu_X6_outMany : MI := (yX6_outMany, cX6_outMany, 1, (some .int))
set_option maxRecDepth 20000 in
theorem mc_X6_outMany : Cond.code yX6_outMany cX6_outMany 1 (some .int) ∈ AW := aw3 (i := 78) rfl rfl
set_option maxRecDepth 20000 in
theorem ml_L_48 : MSV RL 48 mu_X6_outMany 0 := ⟨aw3 (i := 75) rfl rfl, aw1 (i := 1) rfl rfl, mc_X6_outMany, ⟨by decide, by decide, by decide +kernel⟩, by decide, aw3 (i := 76) rfl rfl, aw3 (i := 77) rfl rfl⟩
abbrev mu_X6_lies : MI := (yX6_lies, cX6_lies, 3, (some .int))
set_option maxRecDepth 20000 in
theorem mc_X6_lies : Cond.code yX6_lies cX6_lies 3 (some .int) ∈ AW := aw3 (i := 82) rfl rfl
set_option maxRecDepth 20000 in
theorem ml_L_52 : MSV RL 52 mu_X6_lies 2 := ⟨aw3 (i := 79) rfl rfl, aw1 (i := 1) rfl rfl, mc_X6_lies, ⟨by decide, by decide, by decide +kernel⟩, by decide, aw3 (i := 80) rfl rfl, aw3 (i := 81) rfl rfl⟩
set_option maxRecDepth 20000 in
theorem ml_X6_140 : MSV RX6 140 mu_X0_passThrough 2 := ⟨aw3 (i := 83) rfl rfl, aw1 (i := 5) rfl rfl, mc_X0_passThrough, ⟨by decide, by decide, by decide +kernel⟩, by decide, aw2 (i := 225) rfl rfl, aw2 (i := 226) rfl rfl⟩
abbrev mu_X5_fromTop : MI := (yX5_fromTop, cX5_fromTop, 2, (some .int))
set_option maxRecDepth 20000 in
theorem mc_X5_fromTop : Cond.code yX5_fromTop cX5_fromTop 2 (some .int) ∈ AW := aw3 (i := 87) rfl rfl
set_option maxRecDepth 20000 in
theorem ml_X6_151 : MSV RX6 151 mu_X5_fromTop 1 := ⟨aw3 (i := 84) rfl rfl, aw1 (i := 6) rfl rfl, mc_X5_fromTop, ⟨by decide, by decide, by decide +kernel⟩, by decide, aw3 (i := 85) rfl rfl, aw3 (i := 86) rfl rfl⟩
abbrev mu_X6_held : MI := (yX6_held, cX6_held, 3, (some .int))
set_option maxRecDepth 20000 in
theorem mc_X6_held : Cond.code yX6_held cX6_held 3 (some .int) ∈ AW := aw3 (i := 91) rfl rfl
set_option maxRecDepth 20000 in
theorem ml_L_56 : MSV RL 56 mu_X6_held 2 := ⟨aw3 (i := 88) rfl rfl, aw1 (i := 1) rfl rfl, mc_X6_held, ⟨by decide, by decide, by decide +kernel⟩, by decide, aw3 (i := 89) rfl rfl, aw3 (i := 90) rfl rfl⟩
set_option maxRecDepth 20000 in
theorem ml_X6_154 : MSS RX6 154 mu_X6_isOwner 1 := ⟨aw3 (i := 92) rfl rfl, aw1 (i := 1) rfl rfl, mc_X6_isOwner, ⟨by decide, by decide, by decide +kernel⟩, by decide, aw2 (i := 167) rfl rfl⟩
abbrev mu_X0_heldBy : MI := (yX0_heldBy, cX0_heldBy, 6, (some .int))
set_option maxRecDepth 20000 in
theorem mc_X0_heldBy : Cond.code yX0_heldBy cX0_heldBy 6 (some .int) ∈ AW := aw3 (i := 96) rfl rfl
set_option maxRecDepth 20000 in
theorem ml_X6_157 : MSV RX6 157 mu_X0_heldBy 3 := ⟨aw3 (i := 93) rfl rfl, aw1 (i := 5) rfl rfl, mc_X0_heldBy, ⟨by decide, by decide, by decide +kernel⟩, by decide, aw3 (i := 94) rfl rfl, aw3 (i := 95) rfl rfl⟩
abbrev mu_X1_isOf : MI := (yX1_isOf, cX1_isOf, 3, (some .boolean))
set_option maxRecDepth 20000 in
theorem mc_X1_isOf : Cond.code yX1_isOf cX1_isOf 3 (some .boolean) ∈ AW := aw3 (i := 100) rfl rfl
set_option maxRecDepth 20000 in
theorem ml_X0_97 : MSV RX0 97 mu_X1_isOf 2 := ⟨aw3 (i := 97) rfl rfl, aw1 (i := 2) rfl rfl, mc_X1_isOf, ⟨by decide, by decide, by decide +kernel⟩, by decide, aw3 (i := 98) rfl rfl, aw3 (i := 99) rfl rfl⟩
set_option maxRecDepth 20000 in
theorem ml_X1_50 : MSV RX1 50 mu_X1_hasSheet 1 := ⟨aw3 (i := 101) rfl rfl, aw1 (i := 2) rfl rfl, mc_X1_hasSheet, ⟨by decide, by decide, by decide +kernel⟩, by decide, aw3 (i := 27) rfl rfl, aw3 (i := 28) rfl rfl⟩
abbrev mu_X6_who : MI := (yX6_who, cX6_who, 2, (some .int))
set_option maxRecDepth 20000 in
theorem mc_X6_who : Cond.code yX6_who cX6_who 2 (some .int) ∈ AW := aw3 (i := 105) rfl rfl
set_option maxRecDepth 20000 in
theorem ml_L_60 : MSV RL 60 mu_X6_who 1 := ⟨aw3 (i := 102) rfl rfl, aw1 (i := 1) rfl rfl, mc_X6_who, ⟨by decide, by decide, by decide +kernel⟩, by decide, aw3 (i := 103) rfl rfl, aw3 (i := 104) rfl rfl⟩
set_option maxRecDepth 20000 in
theorem ml_X6_161 : MSV RX6 161 mu_X1_hasSheet 1 := ⟨aw3 (i := 106) rfl rfl, aw1 (i := 2) rfl rfl, mc_X1_hasSheet, ⟨by decide, by decide, by decide +kernel⟩, by decide, aw3 (i := 27) rfl rfl, aw3 (i := 28) rfl rfl⟩
abbrev mu_X0_holderOf : MI := (yX0_holderOf, cX0_holderOf, 2, (some .int))
set_option maxRecDepth 20000 in
theorem mc_X0_holderOf : Cond.code yX0_holderOf cX0_holderOf 2 (some .int) ∈ AW := aw3 (i := 110) rfl rfl
set_option maxRecDepth 20000 in
theorem ml_X6_164 : MSV RX6 164 mu_X0_holderOf 1 := ⟨aw3 (i := 107) rfl rfl, aw1 (i := 5) rfl rfl, mc_X0_holderOf, ⟨by decide, by decide, by decide +kernel⟩, by decide, aw3 (i := 108) rfl rfl, aw3 (i := 109) rfl rfl⟩
abbrev mu_X6_missing : MI := (yX6_missing, cX6_missing, 2, (some .int))
set_option maxRecDepth 20000 in
theorem mc_X6_missing : Cond.code yX6_missing cX6_missing 2 (some .int) ∈ AW := aw3 (i := 114) rfl rfl
set_option maxRecDepth 20000 in
theorem ml_L_64 : MSV RL 64 mu_X6_missing 1 := ⟨aw3 (i := 111) rfl rfl, aw1 (i := 1) rfl rfl, mc_X6_missing, ⟨by decide, by decide, by decide +kernel⟩, by decide, aw3 (i := 112) rfl rfl, aw3 (i := 113) rfl rfl⟩
abbrev mu_X1_sheetsOf : MI := (yX1_sheetsOf, cX1_sheetsOf, 4, (some .int))
set_option maxRecDepth 20000 in
theorem mc_X1_sheetsOf : Cond.code yX1_sheetsOf cX1_sheetsOf 4 (some .int) ∈ AW := aw3 (i := 118) rfl rfl
set_option maxRecDepth 20000 in
theorem ml_X6_167 : MSV RX6 167 mu_X1_sheetsOf 1 := ⟨aw3 (i := 115) rfl rfl, aw1 (i := 2) rfl rfl, mc_X1_sheetsOf, ⟨by decide, by decide, by decide +kernel⟩, by decide, aw3 (i := 116) rfl rfl, aw3 (i := 117) rfl rfl⟩
abbrev mu_X6_ask : MI := (yX6_ask, cX6_ask, 2, (some .int))
set_option maxRecDepth 20000 in
theorem mc_X6_ask : Cond.code yX6_ask cX6_ask 2 (some .int) ∈ AW := aw3 (i := 122) rfl rfl
set_option maxRecDepth 20000 in
theorem ml_L_68 : MSV RL 68 mu_X6_ask 1 := ⟨aw3 (i := 119) rfl rfl, aw1 (i := 1) rfl rfl, mc_X6_ask, ⟨by decide, by decide, by decide +kernel⟩, by decide, aw3 (i := 120) rfl rfl, aw3 (i := 121) rfl rfl⟩
abbrev mu_X0_othersWith : MI := (yX0_othersWith, cX0_othersWith, 6, (some .int))
set_option maxRecDepth 20000 in
theorem mc_X0_othersWith : Cond.code yX0_othersWith cX0_othersWith 6 (some .int) ∈ AW := aw3 (i := 126) rfl rfl
set_option maxRecDepth 20000 in
theorem ml_X6_170 : MSV RX6 170 mu_X0_othersWith 2 := ⟨aw3 (i := 123) rfl rfl, aw1 (i := 5) rfl rfl, mc_X0_othersWith, ⟨by decide, by decide, by decide +kernel⟩, by decide, aw3 (i := 124) rfl rfl, aw3 (i := 125) rfl rfl⟩
abbrev mu_X6_ready : MI := (yX6_ready, cX6_ready, 2, (some .int))
set_option maxRecDepth 20000 in
theorem mc_X6_ready : Cond.code yX6_ready cX6_ready 2 (some .int) ∈ AW := aw3 (i := 130) rfl rfl
set_option maxRecDepth 20000 in
theorem ml_L_72 : MSV RL 72 mu_X6_ready 1 := ⟨aw3 (i := 127) rfl rfl, aw1 (i := 1) rfl rfl, mc_X6_ready, ⟨by decide, by decide, by decide +kernel⟩, by decide, aw3 (i := 128) rfl rfl, aw3 (i := 129) rfl rfl⟩
abbrev mu_X6_readyMinute : MI := (yX6_readyMinute, cX6_readyMinute, 2, (some .int))
set_option maxRecDepth 20000 in
theorem mc_X6_readyMinute : Cond.code yX6_readyMinute cX6_readyMinute 2 (some .int) ∈ AW := aw3 (i := 134) rfl rfl
set_option maxRecDepth 20000 in
theorem ml_X6_174 : MSV RX6 174 mu_X6_readyMinute 1 := ⟨aw3 (i := 131) rfl rfl, aw1 (i := 1) rfl rfl, mc_X6_readyMinute, ⟨by decide, by decide, by decide +kernel⟩, by decide, aw3 (i := 133) rfl rfl, awp (i := 14) rfl rfl⟩
abbrev mu_X0_lastFirstOut : MI := (yX0_lastFirstOut, cX0_lastFirstOut, 5, (some .int))
set_option maxRecDepth 20000 in
theorem mc_X0_lastFirstOut : Cond.code yX0_lastFirstOut cX0_lastFirstOut 5 (some .int) ∈ AW := aw3 (i := 138) rfl rfl
set_option maxRecDepth 20000 in
theorem ml_X6_251 : MSV RX6 251 mu_X0_lastFirstOut 2 := ⟨aw3 (i := 135) rfl rfl, aw1 (i := 5) rfl rfl, mc_X0_lastFirstOut, ⟨by decide, by decide, by decide +kernel⟩, by decide, aw3 (i := 136) rfl rfl, aw3 (i := 137) rfl rfl⟩
set_option maxRecDepth 20000 in
theorem ml_X0_101 : MSS RX0 101 mu_Math_max 2 := ⟨aw3 (i := 139) rfl rfl, aw1 (i := 11) rfl rfl, mc_Math_max, ⟨by decide, by decide, by decide +kernel⟩, by decide, aw2 (i := 88) rfl rfl⟩
abbrev mu_X6_mixed : MI := (yX6_mixed, cX6_mixed, 1, (some .int))
set_option maxRecDepth 20000 in
theorem mc_X6_mixed : Cond.code yX6_mixed cX6_mixed 1 (some .int) ∈ AW := aw3 (i := 143) rfl rfl
set_option maxRecDepth 20000 in
theorem ml_L_76 : MSV RL 76 mu_X6_mixed 0 := ⟨aw3 (i := 140) rfl rfl, aw1 (i := 1) rfl rfl, mc_X6_mixed, ⟨by decide, by decide, by decide +kernel⟩, by decide, aw3 (i := 141) rfl rfl, aw3 (i := 142) rfl rfl⟩
abbrev mu_X2_mixedIn : MI := (yX2_mixedIn, cX2_mixedIn, 3, (some .int))
set_option maxRecDepth 20000 in
theorem mc_X2_mixedIn : Cond.code yX2_mixedIn cX2_mixedIn 3 (some .int) ∈ AW := aw3 (i := 147) rfl rfl
set_option maxRecDepth 20000 in
theorem ml_X6_177 : MSV RX6 177 mu_X2_mixedIn 1 := ⟨aw3 (i := 144) rfl rfl, aw1 (i := 4) rfl rfl, mc_X2_mixedIn, ⟨by decide, by decide, by decide +kernel⟩, by decide, aw3 (i := 145) rfl rfl, aw3 (i := 146) rfl rfl⟩
set_option maxRecDepth 20000 in
theorem ml_X2_50 : MSV RX2 50 mu_X2_begin 1 := ⟨aw3 (i := 148) rfl rfl, aw1 (i := 4) rfl rfl, mc_X2_begin, ⟨by decide, by decide, by decide +kernel⟩, by decide, aw2 (i := 233) rfl rfl, aw2 (i := 234) rfl rfl⟩
set_option maxRecDepth 20000 in
theorem ml_X2_54 : MSV RX2 54 mu_X2_putOut 2 := ⟨aw3 (i := 149) rfl rfl, aw1 (i := 4) rfl rfl, mc_X2_putOut, ⟨by decide, by decide, by decide +kernel⟩, by decide, aw3 (i := 8) rfl rfl, aw3 (i := 9) rfl rfl⟩
abbrev mu_X6_byKind : MI := (yX6_byKind, cX6_byKind, 5, (some .int))
set_option maxRecDepth 20000 in
theorem mc_X6_byKind : Cond.code yX6_byKind cX6_byKind 5 (some .int) ∈ AW := aw3 (i := 153) rfl rfl
set_option maxRecDepth 20000 in
theorem ml_L_80 : MSV RL 80 mu_X6_byKind 0 := ⟨aw3 (i := 150) rfl rfl, aw1 (i := 1) rfl rfl, mc_X6_byKind, ⟨by decide, by decide, by decide +kernel⟩, by decide, aw3 (i := 151) rfl rfl, aw3 (i := 152) rfl rfl⟩
abbrev mu_X6_send : MI := (yX6_send, cX6_send, 7, (some .int))
set_option maxRecDepth 20000 in
theorem mc_X6_send : Cond.code yX6_send cX6_send 7 (some .int) ∈ AW := aw3 (i := 158) rfl rfl
set_option maxRecDepth 20000 in
theorem ml_L_84 : MSV RL 84 mu_X6_send 2 := ⟨aw3 (i := 155) rfl rfl, aw1 (i := 1) rfl rfl, mc_X6_send, ⟨by decide, by decide, by decide +kernel⟩, by decide, aw3 (i := 156) rfl rfl, aw3 (i := 157) rfl rfl⟩
abbrev mu_X6_two : MI := (yX6_two, cX6_two, 3, (some .int))
set_option maxRecDepth 20000 in
theorem mc_X6_two : Cond.code yX6_two cX6_two 3 (some .int) ∈ AW := aw3 (i := 162) rfl rfl
set_option maxRecDepth 20000 in
theorem ml_L_88 : MSV RL 88 mu_X6_two 2 := ⟨aw3 (i := 159) rfl rfl, aw1 (i := 1) rfl rfl, mc_X6_two, ⟨by decide, by decide, by decide +kernel⟩, by decide, aw3 (i := 160) rfl rfl, aw3 (i := 161) rfl rfl⟩
abbrev mu_X6_areTwoJobs : MI := (yX6_areTwoJobs, cX6_areTwoJobs, 3, (some .boolean))
set_option maxRecDepth 20000 in
theorem mc_X6_areTwoJobs : Cond.code yX6_areTwoJobs cX6_areTwoJobs 3 (some .boolean) ∈ AW := aw3 (i := 166) rfl rfl
set_option maxRecDepth 20000 in
theorem ml_X6_187 : MSV RX6 187 mu_X6_areTwoJobs 2 := ⟨aw3 (i := 163) rfl rfl, aw1 (i := 1) rfl rfl, mc_X6_areTwoJobs, ⟨by decide, by decide, by decide +kernel⟩, by decide, aw3 (i := 165) rfl rfl, awp (i := 15) rfl rfl⟩
abbrev mu_X3_waysOfThree : MI := (yX3_waysOfThree, cX3_waysOfThree, 7, (some .int))
set_option maxRecDepth 20000 in
theorem mc_X3_waysOfThree : Cond.code yX3_waysOfThree cX3_waysOfThree 7 (some .int) ∈ AW := aw3 (i := 170) rfl rfl
set_option maxRecDepth 20000 in
theorem ml_X6_191 : MSV RX6 191 mu_X3_waysOfThree 3 := ⟨aw3 (i := 167) rfl rfl, aw1 (i := 7) rfl rfl, mc_X3_waysOfThree, ⟨by decide, by decide, by decide +kernel⟩, by decide, aw3 (i := 168) rfl rfl, aw3 (i := 169) rfl rfl⟩
abbrev mu_X3_at : MI := (yX3_at, cX3_at, 3, (some .int))
set_option maxRecDepth 20000 in
theorem mc_X3_at : Cond.code yX3_at cX3_at 3 (some .int) ∈ AW := aw3 (i := 173) rfl rfl
set_option maxRecDepth 20000 in
theorem ml_X3_28 : MSS RX3 28 mu_X3_at 3 := ⟨aw3 (i := 171) rfl rfl, aw1 (i := 7) rfl rfl, mc_X3_at, ⟨by decide, by decide, by decide +kernel⟩, by decide, aw3 (i := 172) rfl rfl⟩
abbrev mu_X3_waysTo : MI := (yX3_waysTo, cX3_waysTo, 7, (some .int))
set_option maxRecDepth 20000 in
theorem mc_X3_waysTo : Cond.code yX3_waysTo cX3_waysTo 7 (some .int) ∈ AW := aw3 (i := 177) rfl rfl
set_option maxRecDepth 20000 in
theorem ml_X3_32 : MSV RX3 32 mu_X3_waysTo 3 := ⟨aw3 (i := 174) rfl rfl, aw1 (i := 7) rfl rfl, mc_X3_waysTo, ⟨by decide, by decide, by decide +kernel⟩, by decide, aw3 (i := 176) rfl rfl, awp (i := 16) rfl rfl⟩
abbrev mu_X6_three : MI := (yX6_three, cX6_three, 4, (some .int))
set_option maxRecDepth 20000 in
theorem mc_X6_three : Cond.code yX6_three cX6_three 4 (some .int) ∈ AW := aw3 (i := 181) rfl rfl
set_option maxRecDepth 20000 in
theorem ml_L_92 : MSV RL 92 mu_X6_three 3 := ⟨aw3 (i := 178) rfl rfl, aw1 (i := 1) rfl rfl, mc_X6_three, ⟨by decide, by decide, by decide +kernel⟩, by decide, aw3 (i := 179) rfl rfl, aw3 (i := 180) rfl rfl⟩
abbrev mu_X6_parts : MI := (yX6_parts, cX6_parts, 1, (some .int))
set_option maxRecDepth 20000 in
theorem mc_X6_parts : Cond.code yX6_parts cX6_parts 1 (some .int) ∈ AW := aw3 (i := 185) rfl rfl
set_option maxRecDepth 20000 in
theorem ml_L_97 : MSV RL 97 mu_X6_parts 0 := ⟨aw3 (i := 182) rfl rfl, aw1 (i := 1) rfl rfl, mc_X6_parts, ⟨by decide, by decide, by decide +kernel⟩, by decide, aw3 (i := 183) rfl rfl, aw3 (i := 184) rfl rfl⟩
abbrev mu_X3_fewestParts : MI := (yX3_fewestParts, cX3_fewestParts, 6, (some .int))
set_option maxRecDepth 20000 in
theorem mc_X3_fewestParts : Cond.code yX3_fewestParts cX3_fewestParts 6 (some .int) ∈ AW := aw3 (i := 189) rfl rfl
set_option maxRecDepth 20000 in
theorem ml_X6_195 : MSV RX6 195 mu_X3_fewestParts 0 := ⟨aw3 (i := 186) rfl rfl, aw1 (i := 7) rfl rfl, mc_X3_fewestParts, ⟨by decide, by decide, by decide +kernel⟩, by decide, aw3 (i := 187) rfl rfl, aw3 (i := 188) rfl rfl⟩
set_option maxRecDepth 20000 in
theorem ml_X3_35 : MSS RX3 35 mu_J7_fill_53178 2 := ⟨aw3 (i := 190) rfl rfl, aw1 (i := 16) rfl rfl, mc_J7_fill_53178, ⟨by decide, by decide, by decide +kernel⟩, by decide, aw3 (i := 1) rfl rfl⟩
set_option maxRecDepth 20000 in
theorem ml_X3_41 : MSS RX3 41 mu_Math_max 2 := ⟨aw3 (i := 191) rfl rfl, aw1 (i := 11) rfl rfl, mc_Math_max, ⟨by decide, by decide, by decide +kernel⟩, by decide, aw2 (i := 88) rfl rfl⟩
abbrev mu_X6_lacks : MI := (yX6_lacks, cX6_lacks, 2, (some .int))
set_option maxRecDepth 20000 in
theorem mc_X6_lacks : Cond.code yX6_lacks cX6_lacks 2 (some .int) ∈ AW := aw3 (i := 195) rfl rfl
set_option maxRecDepth 20000 in
theorem ml_L_101 : MSV RL 101 mu_X6_lacks 1 := ⟨aw3 (i := 192) rfl rfl, aw1 (i := 1) rfl rfl, mc_X6_lacks, ⟨by decide, by decide, by decide +kernel⟩, by decide, aw3 (i := 193) rfl rfl, aw3 (i := 194) rfl rfl⟩
abbrev mu_X3_numbersLacking : MI := (yX3_numbersLacking, cX3_numbersLacking, 5, (some .int))
set_option maxRecDepth 20000 in
theorem mc_X3_numbersLacking : Cond.code yX3_numbersLacking cX3_numbersLacking 5 (some .int) ∈ AW := aw3 (i := 199) rfl rfl
set_option maxRecDepth 20000 in
theorem ml_X6_198 : MSV RX6 198 mu_X3_numbersLacking 2 := ⟨aw3 (i := 196) rfl rfl, aw1 (i := 7) rfl rfl, mc_X3_numbersLacking, ⟨by decide, by decide, by decide +kernel⟩, by decide, aw3 (i := 197) rfl rfl, aw3 (i := 198) rfl rfl⟩
set_option maxRecDepth 20000 in
theorem ml_X3_47 : MNS RX3 47 mu_X6_bitsUpTo 1 := ⟨List.mem_of_getElem? (i := 8) rfl, aw1 (i := 1) rfl rfl, mc_X6_bitsUpTo, ⟨by decide, by decide, by decide +kernel⟩, by decide, aw3 (i := 62) rfl rfl⟩
abbrev mu_X6_laps : MI := (yX6_laps, cX6_laps, 2, (some .int))
set_option maxRecDepth 20000 in
theorem mc_X6_laps : Cond.code yX6_laps cX6_laps 2 (some .int) ∈ AW := aw3 (i := 204) rfl rfl
set_option maxRecDepth 20000 in
theorem ml_L_105 : MSV RL 105 mu_X6_laps 1 := ⟨aw3 (i := 201) rfl rfl, aw1 (i := 1) rfl rfl, mc_X6_laps, ⟨by decide, by decide, by decide +kernel⟩, by decide, aw3 (i := 202) rfl rfl, aw3 (i := 203) rfl rfl⟩
abbrev mu_X3_fewestLaps : MI := (yX3_fewestLaps, cX3_fewestLaps, 5, (some .int))
set_option maxRecDepth 20000 in
theorem mc_X3_fewestLaps : Cond.code yX3_fewestLaps cX3_fewestLaps 5 (some .int) ∈ AW := aw3 (i := 208) rfl rfl
set_option maxRecDepth 20000 in
theorem ml_X6_202 : MSV RX6 202 mu_X3_fewestLaps 1 := ⟨aw3 (i := 205) rfl rfl, aw1 (i := 7) rfl rfl, mc_X3_fewestLaps, ⟨by decide, by decide, by decide +kernel⟩, by decide, aw3 (i := 206) rfl rfl, aw3 (i := 207) rfl rfl⟩
abbrev mu_X3_runsBySize : MI := (yX3_runsBySize, cX3_runsBySize, 4, (some .int))
set_option maxRecDepth 20000 in
theorem mc_X3_runsBySize : Cond.code yX3_runsBySize cX3_runsBySize 4 (some .int) ∈ AW := aw3 (i := 212) rfl rfl
set_option maxRecDepth 20000 in
theorem ml_X3_51 : MSV RX3 51 mu_X3_runsBySize 0 := ⟨aw3 (i := 209) rfl rfl, aw1 (i := 7) rfl rfl, mc_X3_runsBySize, ⟨by decide, by decide, by decide +kernel⟩, by decide, aw3 (i := 211) rfl rfl, awp (i := 17) rfl rfl⟩
abbrev mu_X6_waits : MI := (yX6_waits, cX6_waits, 5, (some .int))
set_option maxRecDepth 20000 in
theorem mc_X6_waits : Cond.code yX6_waits cX6_waits 5 (some .int) ∈ AW := aw3 (i := 216) rfl rfl
set_option maxRecDepth 20000 in
theorem ml_L_109 : MSV RL 109 mu_X6_waits 3 := ⟨aw3 (i := 213) rfl rfl, aw1 (i := 1) rfl rfl, mc_X6_waits, ⟨by decide, by decide, by decide +kernel⟩, by decide, aw3 (i := 214) rfl rfl, aw3 (i := 215) rfl rfl⟩
set_option maxRecDepth 20000 in
theorem ml_X6_205 : MSS RX6 205 mu_Math_max 2 := ⟨aw3 (i := 217) rfl rfl, aw1 (i := 11) rfl rfl, mc_Math_max, ⟨by decide, by decide, by decide +kernel⟩, by decide, aw2 (i := 88) rfl rfl⟩
abbrev mu_X6_vain : MI := (yX6_vain, cX6_vain, 7, (some .int))
set_option maxRecDepth 20000 in
theorem mc_X6_vain : Cond.code yX6_vain cX6_vain 7 (some .int) ∈ AW := aw3 (i := 221) rfl rfl
set_option maxRecDepth 20000 in
theorem ml_L_113 : MSV RL 113 mu_X6_vain 3 := ⟨aw3 (i := 218) rfl rfl, aw1 (i := 1) rfl rfl, mc_X6_vain, ⟨by decide, by decide, by decide +kernel⟩, by decide, aw3 (i := 219) rfl rfl, aw3 (i := 220) rfl rfl⟩
abbrev mu_X6_seen : MI := (yX6_seen, cX6_seen, 5, (some .int))
set_option maxRecDepth 20000 in
theorem mc_X6_seen : Cond.code yX6_seen cX6_seen 5 (some .int) ∈ AW := aw3 (i := 225) rfl rfl
set_option maxRecDepth 20000 in
theorem ml_L_117 : MSV RL 117 mu_X6_seen 1 := ⟨aw3 (i := 222) rfl rfl, aw1 (i := 1) rfl rfl, mc_X6_seen, ⟨by decide, by decide, by decide +kernel⟩, by decide, aw3 (i := 223) rfl rfl, aw3 (i := 224) rfl rfl⟩
set_option maxRecDepth 20000 in
theorem ml_X6_210 : MSV RX6 210 mu_X0_begin 1 := ⟨aw3 (i := 226) rfl rfl, aw1 (i := 5) rfl rfl, mc_X0_begin, ⟨by decide, by decide, by decide +kernel⟩, by decide, aw2 (i := 229) rfl rfl, aw2 (i := 230) rfl rfl⟩
set_option maxRecDepth 20000 in
theorem ml_X6_213 : MSV RX6 213 mu_X0_passMinute 2 := ⟨aw3 (i := 227) rfl rfl, aw1 (i := 5) rfl rfl, mc_X0_passMinute, ⟨by decide, by decide, by decide +kernel⟩, by decide, aw3 (i := 4) rfl rfl, aw3 (i := 5) rfl rfl⟩
abbrev mu_X5_looksAs : MI := (yX5_looksAs, cX5_looksAs, 3, (some .boolean))
set_option maxRecDepth 20000 in
theorem mc_X5_looksAs : Cond.code yX5_looksAs cX5_looksAs 3 (some .boolean) ∈ AW := aw3 (i := 231) rfl rfl
set_option maxRecDepth 20000 in
theorem ml_X6_216 : MSV RX6 216 mu_X5_looksAs 1 := ⟨aw3 (i := 228) rfl rfl, aw1 (i := 6) rfl rfl, mc_X5_looksAs, ⟨by decide, by decide, by decide +kernel⟩, by decide, aw3 (i := 229) rfl rfl, aw3 (i := 230) rfl rfl⟩
set_option maxRecDepth 20000 in
theorem ml_X5_31 : MSV RX5 31 mu_X5_fromTop 1 := ⟨aw3 (i := 232) rfl rfl, aw1 (i := 6) rfl rfl, mc_X5_fromTop, ⟨by decide, by decide, by decide +kernel⟩, by decide, aw3 (i := 85) rfl rfl, aw3 (i := 86) rfl rfl⟩
abbrev mu_X6_row : MI := (yX6_row, cX6_row, 2, (some .int))
set_option maxRecDepth 20000 in
theorem mc_X6_row : Cond.code yX6_row cX6_row 2 (some .int) ∈ AW := aw3 (i := 236) rfl rfl
set_option maxRecDepth 20000 in
theorem ml_L_121 : MSV RL 121 mu_X6_row 1 := ⟨aw3 (i := 233) rfl rfl, aw1 (i := 1) rfl rfl, mc_X6_row, ⟨by decide, by decide, by decide +kernel⟩, by decide, aw3 (i := 234) rfl rfl, aw3 (i := 235) rfl rfl⟩
abbrev mu_X3_add : MI := (yX3_add, cX3_add, 2, (some .int))
set_option maxRecDepth 20000 in
theorem mc_X3_add : Cond.code yX3_add cX3_add 2 (some .int) ∈ AW := aw4 (i := 0) rfl rfl
set_option maxRecDepth 20000 in
theorem ml_X6_221 : MSV RX6 221 mu_X3_add 1 := ⟨aw3 (i := 237) rfl rfl, aw1 (i := 7) rfl rfl, mc_X3_add, ⟨by decide, by decide, by decide +kernel⟩, by decide, aw3 (i := 238) rfl rfl, aw3 (i := 239) rfl rfl⟩
abbrev mu_X6_judge : MI := (yX6_judge, cX6_judge, 3, (some .int))
set_option maxRecDepth 20000 in
theorem mc_X6_judge : Cond.code yX6_judge cX6_judge 3 (some .int) ∈ AW := aw4 (i := 4) rfl rfl
set_option maxRecDepth 20000 in
theorem ml_L_125 : MSV RL 125 mu_X6_judge 0 := ⟨aw4 (i := 1) rfl rfl, aw1 (i := 1) rfl rfl, mc_X6_judge, ⟨by decide, by decide, by decide +kernel⟩, by decide, aw4 (i := 2) rfl rfl, aw4 (i := 3) rfl rfl⟩
abbrev mu_X3_clear : MI := (yX3_clear, cX3_clear, 1, none)
set_option maxRecDepth 20000 in
theorem mc_X3_clear : Cond.code yX3_clear cX3_clear 1 none ∈ AW := aw4 (i := 8) rfl rfl
set_option maxRecDepth 20000 in
theorem ml_X6_225 : MSV RX6 225 mu_X3_clear 0 := ⟨aw4 (i := 5) rfl rfl, aw1 (i := 7) rfl rfl, mc_X3_clear, ⟨by decide, by decide, by decide +kernel⟩, by decide, aw4 (i := 6) rfl rfl, aw4 (i := 7) rfl rfl⟩
abbrev mu_X6_lots : MI := (yX6_lots, cX6_lots, 7, (some .int))
set_option maxRecDepth 20000 in
theorem mc_X6_lots : Cond.code yX6_lots cX6_lots 7 (some .int) ∈ AW := aw4 (i := 12) rfl rfl
set_option maxRecDepth 20000 in
theorem ml_L_129 : MSV RL 129 mu_X6_lots 2 := ⟨aw4 (i := 9) rfl rfl, aw1 (i := 1) rfl rfl, mc_X6_lots, ⟨by decide, by decide, by decide +kernel⟩, by decide, aw4 (i := 10) rfl rfl, aw4 (i := 11) rfl rfl⟩
abbrev mu_X6_image : MI := (yX6_image, cX6_image, 1, (some .int))
set_option maxRecDepth 20000 in
theorem mc_X6_image : Cond.code yX6_image cX6_image 1 (some .int) ∈ AW := aw4 (i := 18) rfl rfl
set_option maxRecDepth 20000 in
theorem ml_L_133 : MSV RL 133 mu_X6_image 0 := ⟨aw4 (i := 15) rfl rfl, aw1 (i := 1) rfl rfl, mc_X6_image, ⟨by decide, by decide, by decide +kernel⟩, by decide, aw4 (i := 16) rfl rfl, aw4 (i := 17) rfl rfl⟩
abbrev mu_X6_on : MI := (yX6_on, cX6_on, 1, (some .int))
set_option maxRecDepth 20000 in
theorem mc_X6_on : Cond.code yX6_on cX6_on 1 (some .int) ∈ AW := aw4 (i := 22) rfl rfl
set_option maxRecDepth 20000 in
theorem ml_L_137 : MSV RL 137 mu_X6_on 0 := ⟨aw4 (i := 19) rfl rfl, aw1 (i := 1) rfl rfl, mc_X6_on, ⟨by decide, by decide, by decide +kernel⟩, by decide, aw4 (i := 20) rfl rfl, aw4 (i := 21) rfl rfl⟩
abbrev mu_X6_count : MI := (yX6_count, cX6_count, 2, (some .int))
set_option maxRecDepth 20000 in
theorem mc_X6_count : Cond.code yX6_count cX6_count 2 (some .int) ∈ AW := aw4 (i := 26) rfl rfl
set_option maxRecDepth 20000 in
theorem ml_L_141 : MSV RL 141 mu_X6_count 1 := ⟨aw4 (i := 23) rfl rfl, aw1 (i := 1) rfl rfl, mc_X6_count, ⟨by decide, by decide, by decide +kernel⟩, by decide, aw4 (i := 24) rfl rfl, aw4 (i := 25) rfl rfl⟩
set_option maxRecDepth 20000 in
theorem ml_X6_231 : MSV RX6 231 mu_X1_allSheets 0 := ⟨aw4 (i := 27) rfl rfl, aw1 (i := 2) rfl rfl, mc_X1_allSheets, ⟨by decide, by decide, by decide +kernel⟩, by decide, aw2 (i := 237) rfl rfl, aw2 (i := 238) rfl rfl⟩
abbrev mu_X6_refusalsCounted : MI := (yX6_refusalsCounted, cX6_refusalsCounted, 2, (some .int))
set_option maxRecDepth 20000 in
theorem mc_X6_refusalsCounted : Cond.code yX6_refusalsCounted cX6_refusalsCounted 2 (some .int) ∈ AW := aw4 (i := 31) rfl rfl
set_option maxRecDepth 20000 in
theorem ml_X6_237 : MSV RX6 237 mu_X6_refusalsCounted 1 := ⟨aw4 (i := 28) rfl rfl, aw1 (i := 1) rfl rfl, mc_X6_refusalsCounted, ⟨by decide, by decide, by decide +kernel⟩, by decide, aw4 (i := 30) rfl rfl, awp (i := 18) rfl rfl⟩
abbrev mu_X7_init : MI := (yX7_init, cX7_init, 1, none)
set_option maxRecDepth 20000 in
theorem mc_X7_init : Cond.code yX7_init cX7_init 1 none ∈ AW := aw4 (i := 36) rfl rfl
set_option maxRecDepth 20000 in
theorem ml_L_12 : MSI RL 12 mu_X7_init 0 := ⟨aw4 (i := 34) rfl rfl, aw1 (i := 8) rfl rfl, mc_X7_init, ⟨by decide, by decide, by decide +kernel⟩, by decide, rfl, aw4 (i := 35) rfl rfl⟩
abbrev mu_X7_image : MI := (yX7_image, cX7_image, 2, (some .int))
set_option maxRecDepth 20000 in
theorem mc_X7_image : Cond.code yX7_image cX7_image 2 (some .int) ∈ AW := aw4 (i := 116) rfl rfl
set_option maxRecDepth 20000 in
theorem ml_L_136 : MSV RL 136 mu_X7_image 0 := ⟨aw4 (i := 113) rfl rfl, aw1 (i := 8) rfl rfl, mc_X7_image, ⟨by decide, by decide, by decide +kernel⟩, by decide, aw4 (i := 114) rfl rfl, aw4 (i := 115) rfl rfl⟩
abbrev mu_X7_on : MI := (yX7_on, cX7_on, 2, (some .int))
set_option maxRecDepth 20000 in
theorem mc_X7_on : Cond.code yX7_on cX7_on 2 (some .int) ∈ AW := aw4 (i := 120) rfl rfl
set_option maxRecDepth 20000 in
theorem ml_L_140 : MSV RL 140 mu_X7_on 0 := ⟨aw4 (i := 117) rfl rfl, aw1 (i := 8) rfl rfl, mc_X7_on, ⟨by decide, by decide, by decide +kernel⟩, by decide, aw4 (i := 118) rfl rfl, aw4 (i := 119) rfl rfl⟩
abbrev mu_X7_no : MI := (yX7_no, cX7_no, 2, (some .int))
set_option maxRecDepth 20000 in
theorem mc_X7_no : Cond.code yX7_no cX7_no 2 (some .int) ∈ AW := aw4 (i := 124) rfl rfl
set_option maxRecDepth 20000 in
theorem ml_X7_64 : MSV RX7 64 mu_X7_no 1 := ⟨aw4 (i := 121) rfl rfl, aw1 (i := 8) rfl rfl, mc_X7_no, ⟨by decide, by decide, by decide +kernel⟩, by decide, aw4 (i := 123) rfl rfl, awp (i := 19) rfl rfl⟩
abbrev mu_X7_letter : MI := (yX7_letter, cX7_letter, 2, (some .int))
set_option maxRecDepth 20000 in
theorem mc_X7_letter : Cond.code yX7_letter cX7_letter 2 (some .int) ∈ AW := aw4 (i := 128) rfl rfl
set_option maxRecDepth 20000 in
theorem ml_L_17 : MSV RL 17 mu_X7_letter 1 := ⟨aw4 (i := 125) rfl rfl, aw1 (i := 8) rfl rfl, mc_X7_letter, ⟨by decide, by decide, by decide +kernel⟩, by decide, aw4 (i := 126) rfl rfl, aw4 (i := 127) rfl rfl⟩
abbrev mu_X7_floor : MI := (yX7_floor, cX7_floor, 2, (some .int))
set_option maxRecDepth 20000 in
theorem mc_X7_floor : Cond.code yX7_floor cX7_floor 2 (some .int) ∈ AW := aw4 (i := 132) rfl rfl
set_option maxRecDepth 20000 in
theorem ml_L_22 : MSV RL 22 mu_X7_floor 0 := ⟨aw4 (i := 129) rfl rfl, aw1 (i := 8) rfl rfl, mc_X7_floor, ⟨by decide, by decide, by decide +kernel⟩, by decide, aw4 (i := 130) rfl rfl, aw4 (i := 131) rfl rfl⟩
abbrev mu_X7_read : MI := (yX7_read, cX7_read, 5, (some .int))
set_option maxRecDepth 20000 in
theorem mc_X7_read : Cond.code yX7_read cX7_read 5 (some .int) ∈ AW := aw4 (i := 136) rfl rfl
set_option maxRecDepth 20000 in
theorem ml_X7_102 : MSV RX7 102 mu_X7_read 0 := ⟨aw4 (i := 133) rfl rfl, aw1 (i := 8) rfl rfl, mc_X7_read, ⟨by decide, by decide, by decide +kernel⟩, by decide, aw4 (i := 135) rfl rfl, awp (i := 20) rfl rfl⟩
abbrev mu_X7_statement : MI := (yX7_statement, cX7_statement, 1, none)
set_option maxRecDepth 20000 in
theorem mc_X7_statement : Cond.code yX7_statement cX7_statement 1 none ∈ AW := aw4 (i := 140) rfl rfl
set_option maxRecDepth 20000 in
theorem ml_X7_92 : MSV RX7 92 mu_X7_statement 0 := ⟨aw4 (i := 137) rfl rfl, aw1 (i := 8) rfl rfl, mc_X7_statement, ⟨by decide, by decide, by decide +kernel⟩, by decide, aw4 (i := 139) rfl rfl, awp (i := 21) rfl rfl⟩
abbrev mu_X7_oneOf : MI := (yX7_oneOf, cX7_oneOf, 3, (some .int))
set_option maxRecDepth 20000 in
theorem mc_X7_oneOf : Cond.code yX7_oneOf cX7_oneOf 3 (some .int) ∈ AW := aw4 (i := 144) rfl rfl
set_option maxRecDepth 20000 in
theorem ml_X7_78 : MSV RX7 78 mu_X7_oneOf 1 := ⟨aw4 (i := 141) rfl rfl, aw1 (i := 8) rfl rfl, mc_X7_oneOf, ⟨by decide, by decide, by decide +kernel⟩, by decide, aw4 (i := 143) rfl rfl, awp (i := 22) rfl rfl⟩
abbrev mu_X7_figures : MI := (yX7_figures, cX7_figures, 4, (some .int))
set_option maxRecDepth 20000 in
theorem mc_X7_figures : Cond.code yX7_figures cX7_figures 4 (some .int) ∈ AW := aw4 (i := 148) rfl rfl
set_option maxRecDepth 20000 in
theorem ml_X7_85 : MSV RX7 85 mu_X7_figures 1 := ⟨aw4 (i := 145) rfl rfl, aw1 (i := 8) rfl rfl, mc_X7_figures, ⟨by decide, by decide, by decide +kernel⟩, by decide, aw4 (i := 147) rfl rfl, awp (i := 23) rfl rfl⟩
abbrev mu_X7_expect : MI := (yX7_expect, cX7_expect, 2, none)
set_option maxRecDepth 20000 in
theorem mc_X7_expect : Cond.code yX7_expect cX7_expect 2 none ∈ AW := aw4 (i := 152) rfl rfl
set_option maxRecDepth 20000 in
theorem ml_X7_88 : MSV RX7 88 mu_X7_expect 1 := ⟨aw4 (i := 149) rfl rfl, aw1 (i := 8) rfl rfl, mc_X7_expect, ⟨by decide, by decide, by decide +kernel⟩, by decide, aw4 (i := 151) rfl rfl, awp (i := 24) rfl rfl⟩
abbrev mu_X7_isAsItMustBe : MI := (yX7_isAsItMustBe, cX7_isAsItMustBe, 3, (some .boolean))
set_option maxRecDepth 20000 in
theorem mc_X7_isAsItMustBe : Cond.code yX7_isAsItMustBe cX7_isAsItMustBe 3 (some .boolean) ∈ AW := aw4 (i := 156) rfl rfl
set_option maxRecDepth 20000 in
theorem ml_X7_95 : MSV RX7 95 mu_X7_isAsItMustBe 2 := ⟨aw4 (i := 153) rfl rfl, aw1 (i := 8) rfl rfl, mc_X7_isAsItMustBe, ⟨by decide, by decide, by decide +kernel⟩, by decide, aw4 (i := 155) rfl rfl, awp (i := 25) rfl rfl⟩
abbrev mu_X7_come : MI := (yX7_come, cX7_come, 1, none)
set_option maxRecDepth 20000 in
theorem mc_X7_come : Cond.code yX7_come cX7_come 1 none ∈ AW := aw4 (i := 160) rfl rfl
set_option maxRecDepth 20000 in
theorem ml_X7_99 : MSV RX7 99 mu_X7_come 0 := ⟨aw4 (i := 157) rfl rfl, aw1 (i := 8) rfl rfl, mc_X7_come, ⟨by decide, by decide, by decide +kernel⟩, by decide, aw4 (i := 159) rfl rfl, awp (i := 26) rfl rfl⟩
abbrev mu_X7_job : MI := (yX7_job, cX7_job, 3, (some .int))
set_option maxRecDepth 20000 in
theorem mc_X7_job : Cond.code yX7_job cX7_job 3 (some .int) ∈ AW := aw4 (i := 164) rfl rfl
set_option maxRecDepth 20000 in
theorem ml_L_27 : MSV RL 27 mu_X7_job 2 := ⟨aw4 (i := 161) rfl rfl, aw1 (i := 8) rfl rfl, mc_X7_job, ⟨by decide, by decide, by decide +kernel⟩, by decide, aw4 (i := 162) rfl rfl, aw4 (i := 163) rfl rfl⟩
abbrev mu_X7_isNoJob : MI := (yX7_isNoJob, cX7_isNoJob, 2, (some .boolean))
set_option maxRecDepth 20000 in
theorem mc_X7_isNoJob : Cond.code yX7_isNoJob cX7_isNoJob 2 (some .boolean) ∈ AW := aw4 (i := 168) rfl rfl
set_option maxRecDepth 20000 in
theorem ml_X7_138 : MSV RX7 138 mu_X7_isNoJob 1 := ⟨aw4 (i := 165) rfl rfl, aw1 (i := 8) rfl rfl, mc_X7_isNoJob, ⟨by decide, by decide, by decide +kernel⟩, by decide, aw4 (i := 167) rfl rfl, awp (i := 27) rfl rfl⟩
abbrev mu_X7_taker : MI := (yX7_taker, cX7_taker, 3, (some .int))
set_option maxRecDepth 20000 in
theorem mc_X7_taker : Cond.code yX7_taker cX7_taker 3 (some .int) ∈ AW := aw4 (i := 172) rfl rfl
set_option maxRecDepth 20000 in
theorem ml_L_31 : MSV RL 31 mu_X7_taker 2 := ⟨aw4 (i := 169) rfl rfl, aw1 (i := 8) rfl rfl, mc_X7_taker, ⟨by decide, by decide, by decide +kernel⟩, by decide, aw4 (i := 170) rfl rfl, aw4 (i := 171) rfl rfl⟩
abbrev mu_X7_isNoTaker : MI := (yX7_isNoTaker, cX7_isNoTaker, 2, (some .boolean))
set_option maxRecDepth 20000 in
theorem mc_X7_isNoTaker : Cond.code yX7_isNoTaker cX7_isNoTaker 2 (some .boolean) ∈ AW := aw4 (i := 176) rfl rfl
set_option maxRecDepth 20000 in
theorem ml_X7_141 : MSV RX7 141 mu_X7_isNoTaker 1 := ⟨aw4 (i := 173) rfl rfl, aw1 (i := 8) rfl rfl, mc_X7_isNoTaker, ⟨by decide, by decide, by decide +kernel⟩, by decide, aw4 (i := 175) rfl rfl, awp (i := 28) rfl rfl⟩
abbrev mu_X7_sent : MI := (yX7_sent, cX7_sent, 3, (some .int))
set_option maxRecDepth 20000 in
theorem mc_X7_sent : Cond.code yX7_sent cX7_sent 3 (some .int) ∈ AW := aw4 (i := 180) rfl rfl
set_option maxRecDepth 20000 in
theorem ml_L_35 : MSV RL 35 mu_X7_sent 2 := ⟨aw4 (i := 177) rfl rfl, aw1 (i := 8) rfl rfl, mc_X7_sent, ⟨by decide, by decide, by decide +kernel⟩, by decide, aw4 (i := 178) rfl rfl, aw4 (i := 179) rfl rfl⟩
abbrev mu_X7_change : MI := (yX7_change, cX7_change, 5, (some .int))
set_option maxRecDepth 20000 in
theorem mc_X7_change : Cond.code yX7_change cX7_change 5 (some .int) ∈ AW := aw4 (i := 184) rfl rfl
set_option maxRecDepth 20000 in
theorem ml_X7_144 : MSV RX7 144 mu_X7_change 3 := ⟨aw4 (i := 181) rfl rfl, aw1 (i := 8) rfl rfl, mc_X7_change, ⟨by decide, by decide, by decide +kernel⟩, by decide, aw4 (i := 183) rfl rfl, awp (i := 29) rfl rfl⟩
abbrev mu_X7_machine : MI := (yX7_machine, cX7_machine, 5, (some .int))
set_option maxRecDepth 20000 in
theorem mc_X7_machine : Cond.code yX7_machine cX7_machine 5 (some .int) ∈ AW := aw4 (i := 188) rfl rfl
set_option maxRecDepth 20000 in
theorem ml_L_39 : MSV RL 39 mu_X7_machine 2 := ⟨aw4 (i := 185) rfl rfl, aw1 (i := 8) rfl rfl, mc_X7_machine, ⟨by decide, by decide, by decide +kernel⟩, by decide, aw4 (i := 186) rfl rfl, aw4 (i := 187) rfl rfl⟩
abbrev mu_X7_comes : MI := (yX7_comes, cX7_comes, 3, (some .int))
set_option maxRecDepth 20000 in
theorem mc_X7_comes : Cond.code yX7_comes cX7_comes 3 (some .int) ∈ AW := aw4 (i := 192) rfl rfl
set_option maxRecDepth 20000 in
theorem ml_L_43 : MSV RL 43 mu_X7_comes 2 := ⟨aw4 (i := 189) rfl rfl, aw1 (i := 8) rfl rfl, mc_X7_comes, ⟨by decide, by decide, by decide +kernel⟩, by decide, aw4 (i := 190) rfl rfl, aw4 (i := 191) rfl rfl⟩
abbrev mu_X7_out : MI := (yX7_out, cX7_out, 3, (some .int))
set_option maxRecDepth 20000 in
theorem mc_X7_out : Cond.code yX7_out cX7_out 3 (some .int) ∈ AW := aw4 (i := 196) rfl rfl
set_option maxRecDepth 20000 in
theorem ml_L_47 : MSV RL 47 mu_X7_out 2 := ⟨aw4 (i := 193) rfl rfl, aw1 (i := 8) rfl rfl, mc_X7_out, ⟨by decide, by decide, by decide +kernel⟩, by decide, aw4 (i := 194) rfl rfl, aw4 (i := 195) rfl rfl⟩
abbrev mu_X7_goTo : MI := (yX7_goTo, cX7_goTo, 7, none)
set_option maxRecDepth 20000 in
theorem mc_X7_goTo : Cond.code yX7_goTo cX7_goTo 7 none ∈ AW := aw4 (i := 200) rfl rfl
set_option maxRecDepth 20000 in
theorem ml_X7_147 : MSV RX7 147 mu_X7_goTo 1 := ⟨aw4 (i := 197) rfl rfl, aw1 (i := 8) rfl rfl, mc_X7_goTo, ⟨by decide, by decide, by decide +kernel⟩, by decide, aw4 (i := 199) rfl rfl, awp (i := 30) rfl rfl⟩
abbrev mu_X7_put : MI := (yX7_put, cX7_put, 4, none)
set_option maxRecDepth 20000 in
theorem mc_X7_put : Cond.code yX7_put cX7_put 4 none ∈ AW := aw4 (i := 204) rfl rfl
set_option maxRecDepth 20000 in
theorem ml_X7_126 : MSV RX7 126 mu_X7_put 2 := ⟨aw4 (i := 201) rfl rfl, aw1 (i := 8) rfl rfl, mc_X7_put, ⟨by decide, by decide, by decide +kernel⟩, by decide, aw4 (i := 203) rfl rfl, awp (i := 31) rfl rfl⟩
abbrev mu_X7_chosen : MI := (yX7_chosen, cX7_chosen, 7, (some .int))
set_option maxRecDepth 20000 in
theorem mc_X7_chosen : Cond.code yX7_chosen cX7_chosen 7 (some .int) ∈ AW := aw4 (i := 208) rfl rfl
set_option maxRecDepth 20000 in
theorem ml_X7_130 : MSV RX7 130 mu_X7_chosen 3 := ⟨aw4 (i := 205) rfl rfl, aw1 (i := 8) rfl rfl, mc_X7_chosen, ⟨by decide, by decide, by decide +kernel⟩, by decide, aw4 (i := 207) rfl rfl, awp (i := 32) rfl rfl⟩
abbrev mu_X7_waits : MI := (yX7_waits, cX7_waits, 3, (some .boolean))
set_option maxRecDepth 20000 in
theorem mc_X7_waits : Cond.code yX7_waits cX7_waits 3 (some .boolean) ∈ AW := aw4 (i := 212) rfl rfl
set_option maxRecDepth 20000 in
theorem ml_X7_106 : MSV RX7 106 mu_X7_waits 2 := ⟨aw4 (i := 209) rfl rfl, aw1 (i := 8) rfl rfl, mc_X7_waits, ⟨by decide, by decide, by decide +kernel⟩, by decide, aw4 (i := 211) rfl rfl, awp (i := 33) rfl rfl⟩
abbrev mu_X7_ahead : MI := (yX7_ahead, cX7_ahead, 4, (some .boolean))
set_option maxRecDepth 20000 in
theorem mc_X7_ahead : Cond.code yX7_ahead cX7_ahead 4 (some .boolean) ∈ AW := aw4 (i := 216) rfl rfl
set_option maxRecDepth 20000 in
theorem ml_X7_109 : MSV RX7 109 mu_X7_ahead 3 := ⟨aw4 (i := 213) rfl rfl, aw1 (i := 8) rfl rfl, mc_X7_ahead, ⟨by decide, by decide, by decide +kernel⟩, by decide, aw4 (i := 215) rfl rfl, awp (i := 34) rfl rfl⟩
abbrev mu_X7_take : MI := (yX7_take, cX7_take, 12, none)
set_option maxRecDepth 20000 in
theorem mc_X7_take : Cond.code yX7_take cX7_take 12 none ∈ AW := aw4 (i := 220) rfl rfl
set_option maxRecDepth 20000 in
theorem ml_X7_134 : MSV RX7 134 mu_X7_take 1 := ⟨aw4 (i := 217) rfl rfl, aw1 (i := 8) rfl rfl, mc_X7_take, ⟨by decide, by decide, by decide +kernel⟩, by decide, aw4 (i := 219) rfl rfl, awp (i := 35) rfl rfl⟩
abbrev mu_X7_takesSome : MI := (yX7_takesSome, cX7_takesSome, 3, (some .boolean))
set_option maxRecDepth 20000 in
theorem mc_X7_takesSome : Cond.code yX7_takesSome cX7_takesSome 3 (some .boolean) ∈ AW := aw4 (i := 224) rfl rfl
set_option maxRecDepth 20000 in
theorem ml_X7_123 : MSV RX7 123 mu_X7_takesSome 1 := ⟨aw4 (i := 221) rfl rfl, aw1 (i := 8) rfl rfl, mc_X7_takesSome, ⟨by decide, by decide, by decide +kernel⟩, by decide, aw4 (i := 223) rfl rfl, awp (i := 36) rfl rfl⟩
abbrev mu_X7_isWhole : MI := (yX7_isWhole, cX7_isWhole, 4, (some .boolean))
set_option maxRecDepth 20000 in
theorem mc_X7_isWhole : Cond.code yX7_isWhole cX7_isWhole 4 (some .boolean) ∈ AW := aw4 (i := 228) rfl rfl
set_option maxRecDepth 20000 in
theorem ml_X7_119 : MSV RX7 119 mu_X7_isWhole 1 := ⟨aw4 (i := 225) rfl rfl, aw1 (i := 8) rfl rfl, mc_X7_isWhole, ⟨by decide, by decide, by decide +kernel⟩, by decide, aw4 (i := 227) rfl rfl, awp (i := 37) rfl rfl⟩
abbrev mu_X7_outMany : MI := (yX7_outMany, cX7_outMany, 1, (some .int))
set_option maxRecDepth 20000 in
theorem mc_X7_outMany : Cond.code yX7_outMany cX7_outMany 1 (some .int) ∈ AW := aw4 (i := 232) rfl rfl
set_option maxRecDepth 20000 in
theorem ml_L_51 : MSV RL 51 mu_X7_outMany 0 := ⟨aw4 (i := 229) rfl rfl, aw1 (i := 8) rfl rfl, mc_X7_outMany, ⟨by decide, by decide, by decide +kernel⟩, by decide, aw4 (i := 230) rfl rfl, aw4 (i := 231) rfl rfl⟩
abbrev mu_X7_lies : MI := (yX7_lies, cX7_lies, 3, (some .int))
set_option maxRecDepth 20000 in
theorem mc_X7_lies : Cond.code yX7_lies cX7_lies 3 (some .int) ∈ AW := aw4 (i := 236) rfl rfl
set_option maxRecDepth 20000 in
theorem ml_L_55 : MSV RL 55 mu_X7_lies 2 := ⟨aw4 (i := 233) rfl rfl, aw1 (i := 8) rfl rfl, mc_X7_lies, ⟨by decide, by decide, by decide +kernel⟩, by decide, aw4 (i := 234) rfl rfl, aw4 (i := 235) rfl rfl⟩
abbrev mu_X7_held : MI := (yX7_held, cX7_held, 3, (some .int))
set_option maxRecDepth 20000 in
theorem mc_X7_held : Cond.code yX7_held cX7_held 3 (some .int) ∈ AW := aw5 (i := 0) rfl rfl
set_option maxRecDepth 20000 in
theorem ml_L_59 : MSV RL 59 mu_X7_held 2 := ⟨aw4 (i := 237) rfl rfl, aw1 (i := 8) rfl rfl, mc_X7_held, ⟨by decide, by decide, by decide +kernel⟩, by decide, aw4 (i := 238) rfl rfl, aw4 (i := 239) rfl rfl⟩
abbrev mu_X7_isNoOwner : MI := (yX7_isNoOwner, cX7_isNoOwner, 2, (some .boolean))
set_option maxRecDepth 20000 in
theorem mc_X7_isNoOwner : Cond.code yX7_isNoOwner cX7_isNoOwner 2 (some .boolean) ∈ AW := aw5 (i := 4) rfl rfl
set_option maxRecDepth 20000 in
theorem ml_X7_150 : MSV RX7 150 mu_X7_isNoOwner 1 := ⟨aw5 (i := 1) rfl rfl, aw1 (i := 8) rfl rfl, mc_X7_isNoOwner, ⟨by decide, by decide, by decide +kernel⟩, by decide, aw5 (i := 3) rfl rfl, awp (i := 38) rfl rfl⟩
abbrev mu_X7_has : MI := (yX7_has, cX7_has, 5, (some .int))
set_option maxRecDepth 20000 in
theorem mc_X7_has : Cond.code yX7_has cX7_has 5 (some .int) ∈ AW := aw5 (i := 8) rfl rfl
set_option maxRecDepth 20000 in
theorem ml_X7_153 : MSV RX7 153 mu_X7_has 2 := ⟨aw5 (i := 5) rfl rfl, aw1 (i := 8) rfl rfl, mc_X7_has, ⟨by decide, by decide, by decide +kernel⟩, by decide, aw5 (i := 7) rfl rfl, awp (i := 39) rfl rfl⟩
abbrev mu_X7_who : MI := (yX7_who, cX7_who, 2, (some .int))
set_option maxRecDepth 20000 in
theorem mc_X7_who : Cond.code yX7_who cX7_who 2 (some .int) ∈ AW := aw5 (i := 12) rfl rfl
set_option maxRecDepth 20000 in
theorem ml_L_63 : MSV RL 63 mu_X7_who 1 := ⟨aw5 (i := 9) rfl rfl, aw1 (i := 8) rfl rfl, mc_X7_who, ⟨by decide, by decide, by decide +kernel⟩, by decide, aw5 (i := 10) rfl rfl, aw5 (i := 11) rfl rfl⟩
abbrev mu_X7_missing : MI := (yX7_missing, cX7_missing, 4, (some .int))
set_option maxRecDepth 20000 in
theorem mc_X7_missing : Cond.code yX7_missing cX7_missing 4 (some .int) ∈ AW := aw5 (i := 16) rfl rfl
set_option maxRecDepth 20000 in
theorem ml_L_67 : MSV RL 67 mu_X7_missing 1 := ⟨aw5 (i := 13) rfl rfl, aw1 (i := 8) rfl rfl, mc_X7_missing, ⟨by decide, by decide, by decide +kernel⟩, by decide, aw5 (i := 14) rfl rfl, aw5 (i := 15) rfl rfl⟩
abbrev mu_X7_ask : MI := (yX7_ask, cX7_ask, 4, (some .int))
set_option maxRecDepth 20000 in
theorem mc_X7_ask : Cond.code yX7_ask cX7_ask 4 (some .int) ∈ AW := aw5 (i := 20) rfl rfl
set_option maxRecDepth 20000 in
theorem ml_L_71 : MSV RL 71 mu_X7_ask 1 := ⟨aw5 (i := 17) rfl rfl, aw1 (i := 8) rfl rfl, mc_X7_ask, ⟨by decide, by decide, by decide +kernel⟩, by decide, aw5 (i := 18) rfl rfl, aw5 (i := 19) rfl rfl⟩
abbrev mu_X7_ready : MI := (yX7_ready, cX7_ready, 2, (some .int))
set_option maxRecDepth 20000 in
theorem mc_X7_ready : Cond.code yX7_ready cX7_ready 2 (some .int) ∈ AW := aw5 (i := 24) rfl rfl
set_option maxRecDepth 20000 in
theorem ml_L_75 : MSV RL 75 mu_X7_ready 1 := ⟨aw5 (i := 21) rfl rfl, aw1 (i := 8) rfl rfl, mc_X7_ready, ⟨by decide, by decide, by decide +kernel⟩, by decide, aw5 (i := 22) rfl rfl, aw5 (i := 23) rfl rfl⟩
abbrev mu_X7_when : MI := (yX7_when, cX7_when, 7, (some .int))
set_option maxRecDepth 20000 in
theorem mc_X7_when : Cond.code yX7_when cX7_when 7 (some .int) ∈ AW := aw5 (i := 28) rfl rfl
set_option maxRecDepth 20000 in
theorem ml_X7_157 : MSV RX7 157 mu_X7_when 1 := ⟨aw5 (i := 25) rfl rfl, aw1 (i := 8) rfl rfl, mc_X7_when, ⟨by decide, by decide, by decide +kernel⟩, by decide, aw5 (i := 27) rfl rfl, awp (i := 40) rfl rfl⟩
abbrev mu_X7_mixed : MI := (yX7_mixed, cX7_mixed, 1, (some .int))
set_option maxRecDepth 20000 in
theorem mc_X7_mixed : Cond.code yX7_mixed cX7_mixed 1 (some .int) ∈ AW := aw5 (i := 32) rfl rfl
set_option maxRecDepth 20000 in
theorem ml_L_79 : MSV RL 79 mu_X7_mixed 0 := ⟨aw5 (i := 29) rfl rfl, aw1 (i := 8) rfl rfl, mc_X7_mixed, ⟨by decide, by decide, by decide +kernel⟩, by decide, aw5 (i := 30) rfl rfl, aw5 (i := 31) rfl rfl⟩
abbrev mu_X7_mixing : MI := (yX7_mixing, cX7_mixing, 3, (some .int))
set_option maxRecDepth 20000 in
theorem mc_X7_mixing : Cond.code yX7_mixing cX7_mixing 3 (some .int) ∈ AW := aw5 (i := 36) rfl rfl
set_option maxRecDepth 20000 in
theorem ml_X7_160 : MSV RX7 160 mu_X7_mixing 0 := ⟨aw5 (i := 33) rfl rfl, aw1 (i := 8) rfl rfl, mc_X7_mixing, ⟨by decide, by decide, by decide +kernel⟩, by decide, aw5 (i := 35) rfl rfl, awp (i := 41) rfl rfl⟩
abbrev mu_X7_byKind : MI := (yX7_byKind, cX7_byKind, 6, (some .int))
set_option maxRecDepth 20000 in
theorem mc_X7_byKind : Cond.code yX7_byKind cX7_byKind 6 (some .int) ∈ AW := aw5 (i := 40) rfl rfl
set_option maxRecDepth 20000 in
theorem ml_L_83 : MSV RL 83 mu_X7_byKind 0 := ⟨aw5 (i := 37) rfl rfl, aw1 (i := 8) rfl rfl, mc_X7_byKind, ⟨by decide, by decide, by decide +kernel⟩, by decide, aw5 (i := 38) rfl rfl, aw5 (i := 39) rfl rfl⟩
set_option maxRecDepth 20000 in
theorem ml_X7_163 : MSV RX7 163 mu_X7_mixed 0 := ⟨aw5 (i := 41) rfl rfl, aw1 (i := 8) rfl rfl, mc_X7_mixed, ⟨by decide, by decide, by decide +kernel⟩, by decide, aw5 (i := 30) rfl rfl, aw5 (i := 31) rfl rfl⟩
abbrev mu_X7_send : MI := (yX7_send, cX7_send, 8, (some .int))
set_option maxRecDepth 20000 in
theorem mc_X7_send : Cond.code yX7_send cX7_send 8 (some .int) ∈ AW := aw5 (i := 45) rfl rfl
set_option maxRecDepth 20000 in
theorem ml_L_87 : MSV RL 87 mu_X7_send 2 := ⟨aw5 (i := 42) rfl rfl, aw1 (i := 8) rfl rfl, mc_X7_send, ⟨by decide, by decide, by decide +kernel⟩, by decide, aw5 (i := 43) rfl rfl, aw5 (i := 44) rfl rfl⟩
abbrev mu_X7_two : MI := (yX7_two, cX7_two, 3, (some .int))
set_option maxRecDepth 20000 in
theorem mc_X7_two : Cond.code yX7_two cX7_two 3 (some .int) ∈ AW := aw5 (i := 49) rfl rfl
set_option maxRecDepth 20000 in
theorem ml_L_91 : MSV RL 91 mu_X7_two 2 := ⟨aw5 (i := 46) rfl rfl, aw1 (i := 8) rfl rfl, mc_X7_two, ⟨by decide, by decide, by decide +kernel⟩, by decide, aw5 (i := 47) rfl rfl, aw5 (i := 48) rfl rfl⟩
abbrev mu_X7_together : MI := (yX7_together, cX7_together, 9, (some .int))
set_option maxRecDepth 20000 in
theorem mc_X7_together : Cond.code yX7_together cX7_together 9 (some .int) ∈ AW := aw5 (i := 53) rfl rfl
set_option maxRecDepth 20000 in
theorem ml_X7_169 : MSV RX7 169 mu_X7_together 3 := ⟨aw5 (i := 50) rfl rfl, aw1 (i := 8) rfl rfl, mc_X7_together, ⟨by decide, by decide, by decide +kernel⟩, by decide, aw5 (i := 52) rfl rfl, awp (i := 42) rfl rfl⟩
abbrev mu_X7_three : MI := (yX7_three, cX7_three, 4, (some .int))
set_option maxRecDepth 20000 in
theorem mc_X7_three : Cond.code yX7_three cX7_three 4 (some .int) ∈ AW := aw5 (i := 57) rfl rfl
set_option maxRecDepth 20000 in
theorem ml_L_96 : MSV RL 96 mu_X7_three 3 := ⟨aw5 (i := 54) rfl rfl, aw1 (i := 8) rfl rfl, mc_X7_three, ⟨by decide, by decide, by decide +kernel⟩, by decide, aw5 (i := 55) rfl rfl, aw5 (i := 56) rfl rfl⟩
abbrev mu_X7_parts : MI := (yX7_parts, cX7_parts, 5, (some .int))
set_option maxRecDepth 20000 in
theorem mc_X7_parts : Cond.code yX7_parts cX7_parts 5 (some .int) ∈ AW := aw5 (i := 61) rfl rfl
set_option maxRecDepth 20000 in
theorem ml_L_100 : MSV RL 100 mu_X7_parts 0 := ⟨aw5 (i := 58) rfl rfl, aw1 (i := 8) rfl rfl, mc_X7_parts, ⟨by decide, by decide, by decide +kernel⟩, by decide, aw5 (i := 59) rfl rfl, aw5 (i := 60) rfl rfl⟩
set_option maxRecDepth 20000 in
theorem ml_X7_172 : MSS RX7 172 mu_Math_max 2 := ⟨aw5 (i := 62) rfl rfl, aw1 (i := 11) rfl rfl, mc_Math_max, ⟨by decide, by decide, by decide +kernel⟩, by decide, aw2 (i := 88) rfl rfl⟩
abbrev mu_X7_lacks : MI := (yX7_lacks, cX7_lacks, 4, (some .int))
set_option maxRecDepth 20000 in
theorem mc_X7_lacks : Cond.code yX7_lacks cX7_lacks 4 (some .int) ∈ AW := aw5 (i := 66) rfl rfl
set_option maxRecDepth 20000 in
theorem ml_L_104 : MSV RL 104 mu_X7_lacks 1 := ⟨aw5 (i := 63) rfl rfl, aw1 (i := 8) rfl rfl, mc_X7_lacks, ⟨by decide, by decide, by decide +kernel⟩, by decide, aw5 (i := 64) rfl rfl, aw5 (i := 65) rfl rfl⟩
abbrev mu_X7_laps : MI := (yX7_laps, cX7_laps, 6, (some .int))
set_option maxRecDepth 20000 in
theorem mc_X7_laps : Cond.code yX7_laps cX7_laps 6 (some .int) ∈ AW := aw5 (i := 70) rfl rfl
set_option maxRecDepth 20000 in
theorem ml_L_108 : MSV RL 108 mu_X7_laps 1 := ⟨aw5 (i := 67) rfl rfl, aw1 (i := 8) rfl rfl, mc_X7_laps, ⟨by decide, by decide, by decide +kernel⟩, by decide, aw5 (i := 68) rfl rfl, aw5 (i := 69) rfl rfl⟩
abbrev mu_X7_firstPlace : MI := (yX7_firstPlace, cX7_firstPlace, 3, (some .int))
set_option maxRecDepth 20000 in
theorem mc_X7_firstPlace : Cond.code yX7_firstPlace cX7_firstPlace 3 (some .int) ∈ AW := aw5 (i := 74) rfl rfl
set_option maxRecDepth 20000 in
theorem ml_X7_178 : MSV RX7 178 mu_X7_firstPlace 1 := ⟨aw5 (i := 71) rfl rfl, aw1 (i := 8) rfl rfl, mc_X7_firstPlace, ⟨by decide, by decide, by decide +kernel⟩, by decide, aw5 (i := 73) rfl rfl, awp (i := 43) rfl rfl⟩
abbrev mu_X7_waits_ : MI := (yX7_waits_, cX7_waits_, 5, (some .int))
set_option maxRecDepth 20000 in
theorem mc_X7_waits_ : Cond.code yX7_waits_ cX7_waits_ 5 (some .int) ∈ AW := aw5 (i := 78) rfl rfl
set_option maxRecDepth 20000 in
theorem ml_L_112 : MSV RL 112 mu_X7_waits_ 3 := ⟨aw5 (i := 75) rfl rfl, aw1 (i := 8) rfl rfl, mc_X7_waits_, ⟨by decide, by decide, by decide +kernel⟩, by decide, aw5 (i := 76) rfl rfl, aw5 (i := 77) rfl rfl⟩
abbrev mu_X7_vain : MI := (yX7_vain, cX7_vain, 7, (some .int))
set_option maxRecDepth 20000 in
theorem mc_X7_vain : Cond.code yX7_vain cX7_vain 7 (some .int) ∈ AW := aw5 (i := 82) rfl rfl
set_option maxRecDepth 20000 in
theorem ml_L_116 : MSV RL 116 mu_X7_vain 3 := ⟨aw5 (i := 79) rfl rfl, aw1 (i := 8) rfl rfl, mc_X7_vain, ⟨by decide, by decide, by decide +kernel⟩, by decide, aw5 (i := 80) rfl rfl, aw5 (i := 81) rfl rfl⟩
abbrev mu_X7_seen : MI := (yX7_seen, cX7_seen, 7, (some .int))
set_option maxRecDepth 20000 in
theorem mc_X7_seen : Cond.code yX7_seen cX7_seen 7 (some .int) ∈ AW := aw5 (i := 86) rfl rfl
set_option maxRecDepth 20000 in
theorem ml_L_120 : MSV RL 120 mu_X7_seen 1 := ⟨aw5 (i := 83) rfl rfl, aw1 (i := 8) rfl rfl, mc_X7_seen, ⟨by decide, by decide, by decide +kernel⟩, by decide, aw5 (i := 84) rfl rfl, aw5 (i := 85) rfl rfl⟩
abbrev mu_X7_row : MI := (yX7_row, cX7_row, 2, (some .int))
set_option maxRecDepth 20000 in
theorem mc_X7_row : Cond.code yX7_row cX7_row 2 (some .int) ∈ AW := aw5 (i := 90) rfl rfl
set_option maxRecDepth 20000 in
theorem ml_L_124 : MSV RL 124 mu_X7_row 1 := ⟨aw5 (i := 87) rfl rfl, aw1 (i := 8) rfl rfl, mc_X7_row, ⟨by decide, by decide, by decide +kernel⟩, by decide, aw5 (i := 88) rfl rfl, aw5 (i := 89) rfl rfl⟩
abbrev mu_X7_judge : MI := (yX7_judge, cX7_judge, 3, (some .int))
set_option maxRecDepth 20000 in
theorem mc_X7_judge : Cond.code yX7_judge cX7_judge 3 (some .int) ∈ AW := aw5 (i := 94) rfl rfl
set_option maxRecDepth 20000 in
theorem ml_L_128 : MSV RL 128 mu_X7_judge 0 := ⟨aw5 (i := 91) rfl rfl, aw1 (i := 8) rfl rfl, mc_X7_judge, ⟨by decide, by decide, by decide +kernel⟩, by decide, aw5 (i := 92) rfl rfl, aw5 (i := 93) rfl rfl⟩
abbrev mu_X7_lots : MI := (yX7_lots, cX7_lots, 8, (some .int))
set_option maxRecDepth 20000 in
theorem mc_X7_lots : Cond.code yX7_lots cX7_lots 8 (some .int) ∈ AW := aw5 (i := 98) rfl rfl
set_option maxRecDepth 20000 in
theorem ml_L_132 : MSV RL 132 mu_X7_lots 2 := ⟨aw5 (i := 95) rfl rfl, aw1 (i := 8) rfl rfl, mc_X7_lots, ⟨by decide, by decide, by decide +kernel⟩, by decide, aw5 (i := 96) rfl rfl, aw5 (i := 97) rfl rfl⟩
abbrev mu_X7_count : MI := (yX7_count, cX7_count, 4, (some .int))
set_option maxRecDepth 20000 in
theorem mc_X7_count : Cond.code yX7_count cX7_count 4 (some .int) ∈ AW := aw5 (i := 105) rfl rfl
set_option maxRecDepth 20000 in
theorem ml_L_144 : MSV RL 144 mu_X7_count 1 := ⟨aw5 (i := 102) rfl rfl, aw1 (i := 8) rfl rfl, mc_X7_count, ⟨by decide, by decide, by decide +kernel⟩, by decide, aw5 (i := 103) rfl rfl, aw5 (i := 104) rfl rfl⟩
set_option maxRecDepth 20000 in
theorem cn_L_7 : CN RL 7 6 := ⟨_, _, _, tyX6, rfl, uw_X6, tyX6_ok, aw1 (i := 17) rfl rfl, aw1 (i := 18) rfl rfl, aw1 (i := 1) rfl rfl⟩
set_option maxRecDepth 20000 in
theorem oi_X6_3 : Cond.methodLink RX6 3 objectInit ∈ AW := aw1 (i := 22) rfl rfl
set_option maxRecDepth 20000 in
theorem cn_X6_9 : CN RX6 9 1 := ⟨_, _, _, tyX1, rfl, uw_X1, tyX1_ok, aw1 (i := 25) rfl rfl, aw1 (i := 26) rfl rfl, aw1 (i := 2) rfl rfl⟩
set_option maxRecDepth 20000 in
theorem oi_X1_3 : Cond.methodLink RX1 3 objectInit ∈ AW := aw1 (i := 30) rfl rfl
set_option maxRecDepth 20000 in
theorem cn_X6_22 : CN RX6 22 4 := ⟨_, _, _, tyX4, rfl, uw_X4, tyX4_ok, aw1 (i := 91) rfl rfl, aw1 (i := 92) rfl rfl, aw1 (i := 3) rfl rfl⟩
set_option maxRecDepth 20000 in
theorem oi_X4_3 : Cond.methodLink RX4 3 objectInit ∈ AW := aw1 (i := 96) rfl rfl
set_option maxRecDepth 20000 in
theorem cn_X6_29 : CN RX6 29 2 := ⟨_, _, _, tyX2, rfl, uw_X2, tyX2_ok, aw1 (i := 124) rfl rfl, aw1 (i := 125) rfl rfl, aw1 (i := 4) rfl rfl⟩
set_option maxRecDepth 20000 in
theorem oi_X2_3 : Cond.methodLink RX2 3 objectInit ∈ AW := aw1 (i := 129) rfl rfl
set_option maxRecDepth 20000 in
theorem cn_X6_36 : CN RX6 36 0 := ⟨_, _, _, tyX0, rfl, uw_X0, tyX0_ok, aw1 (i := 146) rfl rfl, aw1 (i := 147) rfl rfl, aw1 (i := 5) rfl rfl⟩
set_option maxRecDepth 20000 in
theorem oi_X0_3 : Cond.methodLink RX0 3 objectInit ∈ AW := aw1 (i := 151) rfl rfl
set_option maxRecDepth 20000 in
theorem cn_X0_9 : CN RX0 9 2 := ⟨_, _, _, tyX2, rfl, uw_X2, tyX2_ok, aw1 (i := 152) rfl rfl, aw1 (i := 125) rfl rfl, aw1 (i := 4) rfl rfl⟩
set_option maxRecDepth 20000 in
theorem cn_X0_18 : CN RX0 18 5 := ⟨_, _, _, tyX5, rfl, uw_X5, tyX5_ok, aw1 (i := 154) rfl rfl, aw1 (i := 155) rfl rfl, aw1 (i := 6) rfl rfl⟩
set_option maxRecDepth 20000 in
theorem oi_X5_3 : Cond.methodLink RX5 3 objectInit ∈ AW := aw1 (i := 159) rfl rfl
set_option maxRecDepth 20000 in
theorem cn_X6_43 : CN RX6 43 3 := ⟨_, _, _, tyX3, rfl, uw_X3, tyX3_ok, aw1 (i := 196) rfl rfl, aw1 (i := 197) rfl rfl, aw1 (i := 7) rfl rfl⟩
set_option maxRecDepth 20000 in
theorem oi_X3_3 : Cond.methodLink RX3 3 objectInit ∈ AW := aw1 (i := 201) rfl rfl
set_option maxRecDepth 20000 in
theorem kc_J2_227 : Cond.constant RJ2 227 65536 ∈ AW := aw2 (i := 101) rfl rfl
set_option maxRecDepth 20000 in
theorem kc_J11_110 : Cond.constant RJ11 110 55232 ∈ AW := aw2 (i := 140) rfl rfl
set_option maxRecDepth 20000 in
theorem kc_J11_76 : Cond.constant RJ11 76 56320 ∈ AW := aw2 (i := 144) rfl rfl
set_option maxRecDepth 20000 in
theorem ac_X1_56 : Cond.methodLink RX1 56 arraycopyName ∈ AW := aw2 (i := 154) rfl rfl
set_option maxRecDepth 20000 in
theorem ac_X5_22 : Cond.methodLink RX5 22 arraycopyName ∈ AW := aw3 (i := 39) rfl rfl
set_option maxRecDepth 20000 in
theorem kc_X6_186 : Cond.constant RX6 186 2147483647 ∈ AW := aw3 (i := 154) rfl rfl
set_option maxRecDepth 20000 in
theorem kc_X6_229 : Cond.constant RX6 229 1664525 ∈ AW := aw4 (i := 13) rfl rfl
set_option maxRecDepth 20000 in
theorem kc_X6_230 : Cond.constant RX6 230 1013904223 ∈ AW := aw4 (i := 14) rfl rfl
set_option maxRecDepth 20000 in
theorem cn_L_10 : CN RL 10 7 := ⟨_, _, _, tyX7, rfl, uw_X7, tyX7_ok, aw4 (i := 32) rfl rfl, aw4 (i := 33) rfl rfl, aw1 (i := 8) rfl rfl⟩
set_option maxRecDepth 20000 in
theorem oi_X7_7 : Cond.methodLink RX7 7 objectInit ∈ AW := aw4 (i := 37) rfl rfl
set_option maxRecDepth 20000 in
theorem kc_X7_181 : Cond.constant RX7 181 1664525 ∈ AW := aw5 (i := 99) rfl rfl
set_option maxRecDepth 20000 in
theorem kc_X7_182 : Cond.constant RX7 182 1013904223 ∈ AW := aw5 (i := 100) rfl rfl
set_option maxRecDepth 20000 in
theorem kc_X7_183 : Cond.constant RX7 183 2147483647 ∈ AW := aw5 (i := 101) rfl rfl
set_option maxRecDepth 20000 in
theorem oi_inst : Cond.instanceMethod objectInit ∈ AW := aw1 (i := 23) rfl rfl
set_option maxRecDepth 20000 in
theorem oi_code : Cond.code objectInit ⟨#[0xb1]⟩ 1 none ∈ AW := aw1 (i := 24) rfl rfl
set_option maxRecDepth 20000 in
theorem ac_nat : Cond.native arraycopyName ∈ AW := aw2 (i := 156) rfl rfl
set_option maxRecDepth 20000 in
theorem ac_sta : Cond.static arraycopyName ∈ AW := aw2 (i := 155) rfl rfl
set_option maxRecDepth 20000 in
theorem ac_ini : Cond.initialized "java/lang/System" ∈ AW := aw1 (i := 15) rfl rfl
set_option maxRecDepth 20000 in
theorem acl_int : Cond.arrayClass .int ∈ AW := aw1 (i := 90) rfl rfl
set_option maxRecDepth 20000 in
theorem acl_byte : Cond.arrayClass .byte ∈ AW := aw2 (i := 181) rfl rfl
set_option maxRecDepth 20000 in
theorem acl_char : Cond.arrayClass .char ∈ AW := aw4 (i := 111) rfl rfl
set_option maxRecDepth 20000 in
theorem acl_boolean : Cond.arrayClass .boolean ∈ AW := aw4 (i := 112) rfl rfl
end
section
/-! calls whose answer and cells are known -/
def eqP (r0 : Option Value) (h0 : List PCell) : Option Value → List PCell → Prop := fun r h => r = r0 ∧ h = h0
theorem iincN (i : Nat) : nI i + Int32.ofInt 1 = nI (i + 1) := nI_1 i
theorem updH_self : ∀ (is : List Nat) (cs h : List PCell), is.map (fun i => h[i]?) = cs.map some → updH h is cs = h
  | [], cs, h, _ => by simp [updH]
  | i :: is, [], h, _ => by simp [updH]
  | i :: is, c :: cs, h, e => by
    simp only [List.map_cons, List.cons.injEq] at e
    have h1 : h.set i c = h := by
      apply List.ext_getElem?
      intro j
      rw [List.getElem?_set]
      by_cases hij : i = j
      · subst hij
        rw [if_pos rfl, e.1]
        simp [(List.getElem?_eq_some_iff.mp e.1).1]
      · rw [if_neg hij]
    rw [updH, h1]
    exact updH_self is cs h e.2
section Calls2
variable {X : Cx} {cc : ByteArray} {own : String} {ret : Option FieldType} {d mc ms : Nat} {pc : Nat} {L : List (Option Value)} {st rest : List Value} {h hc h0 h1 : List PCell} {kc ks : Nat} {μ : MI} {d' n : Nat} {as : List Value} {v : Int32}
/-- a virtual call that answers an int and leaves its cells -/
theorem PW.vR (hX : Fx X cc own ret d mc ms) {idx ci i : Nat} {fs : List Value} {T : u_T} {N : Nat} (hm : MSV own idx μ n) (hM : PM μ d' 0 0 as hc (eqP (some (.int v)) hc)) (hd : decode cc pc = .ok (.invokevirtual idx, 3))
    (ι : List Nat) (e1 : ι.map (fun i => h[i]?) = hc.map (fun c => some (rC (rho ι ι.length h.length) c))) (hst : st = (as.map (tV (rho ι ι.length h.length))).reverse ++ rest) (hob : (as.map (tV (rho ι ι.length h.length))).head? = some (.ref i)) (hn : as.length = n + 1) (he : h[i]? = some (.inr (ci, fs))) (hci : vwCl[ci]? = some (μ.1.cls, T, N))
    (hnd : va_nd ι = true) (hdd : Nat.blt d' d = true) (hcc : Nat.ble kc mc = true) (hss : Nat.ble ks ms = true) (hr : Nat.ble ((rest.map fun v => v.category).sum) 8 = true) (hok : okH ι.length hc = true) (hsm : Nat.ble ι.length 1000 = true)
    (kk : PW X (pc + 3) L (.int v :: rest) h kc ks) : PW X pc L st h kc ks := by
  refine PW.callV hX hm hM hd ι e1 hst hob hn he hci hnd hsm hdd hcc hss hr (fun r h' hr => ?_) (fun r h' hr => ?_)
  · obtain ⟨rfl, rfl⟩ := hr
    exact ⟨(pick_at e1).1.symm, hok, rfl⟩
  · obtain ⟨rfl, rfl⟩ := hr
    rw [updH_self ι _ h (by rw [e1, List.map_map]; rfl)]
    exact kk
theorem PW.vI (hX : Fx X cc own ret d mc ms) {idx ci i : Nat} {fs : List Value} {T : u_T} {N : Nat} (hm : MSV own idx μ n) (hM : PM μ d' 0 0 as hc (eqP (some (.int v)) h0)) (hd : decode cc pc = .ok (.invokevirtual idx, 3))
    (ι : List Nat) (e1 : ι.map (fun i => h[i]?) = hc.map (fun c => some (rC (rho ι ι.length h.length) c))) (hst : st = (as.map (tV (rho ι ι.length h.length))).reverse ++ rest) (hob : (as.map (tV (rho ι ι.length h.length))).head? = some (.ref i)) (hn : as.length = n + 1) (he : h[i]? = some (.inr (ci, fs))) (hci : vwCl[ci]? = some (μ.1.cls, T, N))
    (hnd : va_nd ι = true) (hdd : Nat.blt d' d = true) (hcc : Nat.ble kc mc = true) (hss : Nat.ble ks ms = true) (hr : Nat.ble ((rest.map fun v => v.category).sum) 8 = true) (hok : okH ι.length h0 = true) (hsm : Nat.ble ι.length 1000 = true) (hl0 : h0.length = ι.length) (eh : updH h ι (h0.map (rC (rho ι ι.length h.length))) = h1)
    (kk : PW X (pc + 3) L (.int v :: rest) h1 kc ks) : PW X pc L st h kc ks := by
  refine PW.callV hX hm hM hd ι e1 hst hob hn he hci hnd hsm hdd hcc hss hr (fun r h' hr => ?_) (fun r h' hr => ?_)
  · obtain ⟨rfl, rfl⟩ := hr
    exact ⟨hl0, hok, rfl⟩
  · obtain ⟨rfl, rfl⟩ := hr
    rw [eh]
    exact kk
theorem PW.vV (hX : Fx X cc own ret d mc ms) {idx ci i : Nat} {fs : List Value} {T : u_T} {N : Nat} (hm : MSV own idx μ n) (hM : PM μ d' 0 0 as hc (eqP none h0)) (hd : decode cc pc = .ok (.invokevirtual idx, 3))
    (ι : List Nat) (e1 : ι.map (fun i => h[i]?) = hc.map (fun c => some (rC (rho ι ι.length h.length) c))) (hst : st = (as.map (tV (rho ι ι.length h.length))).reverse ++ rest) (hob : (as.map (tV (rho ι ι.length h.length))).head? = some (.ref i)) (hn : as.length = n + 1) (he : h[i]? = some (.inr (ci, fs))) (hci : vwCl[ci]? = some (μ.1.cls, T, N))
    (hnd : va_nd ι = true) (hdd : Nat.blt d' d = true) (hcc : Nat.ble kc mc = true) (hss : Nat.ble ks ms = true) (hr : Nat.ble ((rest.map fun v => v.category).sum) 8 = true) (hok : okH ι.length h0 = true) (hsm : Nat.ble ι.length 1000 = true) (hl0 : h0.length = ι.length) (eh : updH h ι (h0.map (rC (rho ι ι.length h.length))) = h1)
    (kk : PW X (pc + 3) L rest h1 kc ks) : PW X pc L st h kc ks := by
  refine PW.callV hX hm hM hd ι e1 hst hob hn he hci hnd hsm hdd hcc hss hr (fun r h' hr => ?_) (fun r h' hr => ?_)
  · obtain ⟨rfl, rfl⟩ := hr
    exact ⟨hl0, hok, rfl⟩
  · obtain ⟨rfl, rfl⟩ := hr
    rw [eh]
    exact kk
/-- static calls of functions of ints (no cells) -/
theorem PW.sR (hX : Fx X cc own ret d mc ms) {idx : Nat} (hm : MSS own idx μ n) (hM : PM μ d' 0 0 as [] (eqP (some (.int v)) [])) (hd : decode cc pc = .ok (.invokestatic idx, 3))
    (hst : st = (as.map (tV (rho [] 0 h.length))).reverse ++ rest) (hn : as.length = n) (hdd : Nat.blt d' d = true) (hcc : Nat.ble kc mc = true) (hss : Nat.ble ks ms = true) (hr : Nat.ble ((rest.map fun v => v.category).sum) 8 = true)
    (kk : PW X (pc + 3) L (.int v :: rest) h kc ks) : PW X pc L st h kc ks := by
  refine PW.callS hX hm hM hd [] rfl hst hn rfl rfl hdd hcc hss hr (fun r h' hr => ?_) (fun r h' hr => ?_)
  · obtain ⟨rfl, rfl⟩ := hr
    exact ⟨rfl, rfl, rfl⟩
  · obtain ⟨rfl, rfl⟩ := hr
    exact kk
theorem PW.nR (hX : Fx X cc own ret d mc ms) {idx : Nat} (hm : MNS own idx μ n) (hM : PM μ d' 0 0 as [] (eqP (some (.int v)) [])) (hd : decode cc pc = .ok (.invokestatic idx, 3))
    (hst : st = (as.map (tV (rho [] 0 h.length))).reverse ++ rest) (hn : as.length = n) (hdd : Nat.blt d' d = true) (hcc : Nat.ble kc mc = true) (hss : Nat.ble ks ms = true) (hr : Nat.ble ((rest.map fun v => v.category).sum) 8 = true)
    (kk : PW X (pc + 3) L (.int v :: rest) h kc ks) : PW X pc L st h kc ks := by
  refine PW.callN hX hm hM hd [] rfl hst hn rfl rfl hdd hcc hss hr (fun r h' hr => ?_) (fun r h' hr => ?_)
  · obtain ⟨rfl, rfl⟩ := hr
    exact ⟨rfl, rfl, rfl⟩
  · obtain ⟨rfl, rfl⟩ := hr
    exact kk
/-- a static void call -/
theorem PW.sV (hX : Fx X cc own ret d mc ms) {idx : Nat} (hm : MSS own idx μ n) (hM : PM μ d' 0 0 as hc (eqP none h0)) (hd : decode cc pc = .ok (.invokestatic idx, 3))
    (ι : List Nat) (e1 : ι.map (fun i => h[i]?) = hc.map (fun c => some (rC (rho ι ι.length h.length) c))) (hst : st = (as.map (tV (rho ι ι.length h.length))).reverse ++ rest) (hn : as.length = n)
    (hnd : va_nd ι = true) (hdd : Nat.blt d' d = true) (hcc : Nat.ble kc mc = true) (hss : Nat.ble ks ms = true) (hr : Nat.ble ((rest.map fun v => v.category).sum) 8 = true) (hok : okH ι.length h0 = true) (hsm : Nat.ble ι.length 1000 = true) (hl0 : h0.length = ι.length) (eh : updH h ι (h0.map (rC (rho ι ι.length h.length))) = h1)
    (kk : PW X (pc + 3) L rest h1 kc ks) : PW X pc L st h kc ks := by
  refine PW.callS hX hm hM hd ι e1 hst hn hnd hsm hdd hcc hss hr (fun r h' hr => ?_) (fun r h' hr => ?_)
  · obtain ⟨rfl, rfl⟩ := hr
    exact ⟨hl0, hok, rfl⟩
  · obtain ⟨rfl, rfl⟩ := hr
    rw [eh]
    exact kk
end Calls2
end
section
/-! ===== numbers ===== -/
def bI (b : Bool) : Int32 := bif b then nI 1 else nI 0
theorem bI_01 (b : Bool) : bI b = 0 ∨ bI b = 1 := by cases b; exact Or.inl rfl; exact Or.inr rfl
def inB (n : Nat) (x : Int32) : Bool := !decide (x < 0) && decide (x < nI n)
theorem inB_of {n : Nat} {x : Int32} (hn : n < 2 ^ 31) (h : inB n x = true) : ∃ k, k < n ∧ x = nI k := by
  simp only [inB, Bool.and_eq_true, Bool.not_eq_true', decide_eq_false_iff_not, decide_eq_true_eq] at h
  obtain ⟨j, h1, rfl⟩ := nI_of h.1
  exact ⟨j, (nI_ltI h1 hn).mp h.2, rfl⟩
theorem inB_nI {n k : Nat} (hn : n < 2 ^ 31) (hk : k < 2 ^ 31) : inB n (nI k) = decide (k < n) := by
  simp only [inB, nI_ltI hk hn, nI_pos hk, decide_false, Bool.not_false, Bool.true_and]
theorem i32_nle {x y : Int32} : ¬ x ≤ y ↔ y < x := Int32.not_le
theorem i32_nlt {x y : Int32} : ¬ x < y ↔ y ≤ x := Int32.not_lt
theorem upd_nI (g : Nat → Nat) (k x : Nat) : upd (fun j => nI (g j)) k (nI x) = fun j => nI (va_up g k x j) := by
  funext j
  simp only [upd, va_up]
  split <;> rfl
theorem cpy_nI (f g : Nat → Nat) (sp dp n : Nat) : va_cpy (fun j => nI (f j)) (fun j => nI (g j)) sp dp n = fun j => nI (va_cpy f g sp dp n j) := by
  funext j
  simp only [va_cpy]
  split <;> rfl
/-! ===== a plan: jobs, takers, the machine ===== -/
abbrev Pl : Type := (Nat → Nat) × (Nat → Nat) × (Nat → Nat) × (Nat → Nat) × (Nat → Nat) × (Nat → Nat) × (Nat → Nat) × Nat × Nat × Nat × Nat
abbrev plow (P : Pl) : Nat → Nat := P.1
abbrev plsh (P : Pl) : Nat → Nat := P.2.1
abbrev plse (P : Pl) : Nat → Nat := P.2.2.1
abbrev pltk (P : Pl) : Nat → Nat := P.2.2.2.1
abbrev pltw (P : Pl) : Nat → Nat := P.2.2.2.2.1
abbrev pltf (P : Pl) : Nat → Nat := P.2.2.2.2.2.1
abbrev pltm (P : Pl) : Nat → Nat := P.2.2.2.2.2.2.1
abbrev plnj (P : Pl) : Nat := P.2.2.2.2.2.2.2.1
abbrev plnt (P : Pl) : Nat := P.2.2.2.2.2.2.2.2.1
abbrev plkd (P : Pl) : Nat := P.2.2.2.2.2.2.2.2.2.1
abbrev plsp (P : Pl) : Nat := P.2.2.2.2.2.2.2.2.2.2
def PlOk (P : Pl) : Prop := plnj P ≤ 6 ∧ plnt P ≤ 6 ∧ plkd P < 6 ∧ plsp P ≤ 9 ∧ (∀ j, j < plnj P → plow P j < 4 ∧ 1 ≤ plsh P j ∧ plsh P j ≤ 9 ∧ plse P j < 60) ∧ ∀ t, t < plnt P → pltk P t < 6 ∧ pltw P t < 4 ∧ pltf P t ≤ 9 ∧ pltm P t < 100
/-- a plan's cells, the object at place b -/
def plB (b : Nat) (P : Pl) : List PCell := [.inr (1, [.ref (b + 1), .ref (b + 2), .ref (b + 3), .ref (b + 4), .ref (b + 5), .ref (b + 6), .ref (b + 7), .int (nI (plnj P)), .int (nI (plnt P)), .int (nI (plkd P)), .int (nI (plsp P))]), .inl (0, 6, fun j => nI (plow P j)), .inl (0, 6, fun j => nI (plsh P j)), .inl (0, 6, fun j => nI (plse P j)), .inl (0, 6, fun j => nI (pltk P j)), .inl (0, 6, fun j => nI (pltw P j)), .inl (0, 6, fun j => nI (pltf P j)), .inl (0, 6, fun j => nI (pltm P j))]
theorem lt31 {n : Nat} (h : n < 1000000) : n < 2 ^ 31 := Nat.lt_of_lt_of_le h (by decide)
theorem rT {b : Bool} (h : b = true) : (some (Value.int (nI 1)) : Option Value) = some (.int (bI b)) := by rw [h]; rfl
theorem rF {b : Bool} (h : b = false) : (some (Value.int (nI 0)) : Option Value) = some (.int (bI b)) := by rw [h]; rfl
theorem pm_hasJob (P : Pl) (x : Int32) : PM mu_X1_hasJob 0 0 0 [.ref 0, .int x] (plB 0 P) (eqP (some (.int (bI (inB (plnj P) x)))) (plB 0 P)) := by
  refine PM.start (by decide +kernel) rfl rfl rfl ?_
  intro X hX hR hx hin
  refine PW.iload_n hX dX1_hasJob_0 rfl rfl ?_
  refine PW.if_lt (tgt := 16) hX dX1_hasJob_1 (by decide) (fun c1 => ?_) (fun c1 => ?_)
  · refine PW.iconst (v := nI 0) hX dX1_hasJob_16 (by decide) ?_
    refine PW.zret hX hR dX1_hasJob_17 (by first | exact Or.inl rfl | exact Or.inr rfl | assumption) rfl rfl ?_
    first | exact ⟨rT (by simp_all [inB, i32_nle, i32_nlt]), rfl⟩ | exact ⟨rF (by simp_all [inB, i32_nle, i32_nlt]), rfl⟩
  · refine PW.iload_n hX dX1_hasJob_4 rfl rfl ?_
    refine PW.aload_n hX dX1_hasJob_5 rfl rfl ?_
    refine PW.getfield hX fl_X1_33 dX1_hasJob_6 rfl rfl ?_
    refine PW.icmp_ge (tgt := 16) hX dX1_hasJob_9 (by decide) (fun c9 => ?_) (fun c9 => ?_)
    · refine PW.iconst (v := nI 0) hX dX1_hasJob_16 (by decide) ?_
      refine PW.zret hX hR dX1_hasJob_17 (by first | exact Or.inl rfl | exact Or.inr rfl | assumption) rfl rfl ?_
      first | exact ⟨rT (by simp_all [inB, i32_nle, i32_nlt]), rfl⟩ | exact ⟨rF (by simp_all [inB, i32_nle, i32_nlt]), rfl⟩
    · refine PW.iconst (v := nI 1) hX dX1_hasJob_12 (by decide) ?_
      refine PW.goto (tgt := 17) hX dX1_hasJob_13 (by decide) ?_
      refine PW.zret hX hR dX1_hasJob_17 (by first | exact Or.inl rfl | exact Or.inr rfl | assumption) rfl rfl ?_
      first | exact ⟨rT (by simp_all [inB, i32_nle, i32_nlt]), rfl⟩ | exact ⟨rF (by simp_all [inB, i32_nle, i32_nlt]), rfl⟩
theorem pm_hasTaker (P : Pl) (x : Int32) : PM mu_X1_hasTaker 0 0 0 [.ref 0, .int x] (plB 0 P) (eqP (some (.int (bI (inB (plnt P) x)))) (plB 0 P)) := by
  refine PM.start (by decide +kernel) rfl rfl rfl ?_
  intro X hX hR hx hin
  refine PW.iload_n hX dX1_hasTaker_0 rfl rfl ?_
  refine PW.if_lt (tgt := 16) hX dX1_hasTaker_1 (by decide) (fun c1 => ?_) (fun c1 => ?_)
  · refine PW.iconst (v := nI 0) hX dX1_hasTaker_16 (by decide) ?_
    refine PW.zret hX hR dX1_hasTaker_17 (by first | exact Or.inl rfl | exact Or.inr rfl | assumption) rfl rfl ?_
    first | exact ⟨rT (by simp_all [inB, i32_nle, i32_nlt]), rfl⟩ | exact ⟨rF (by simp_all [inB, i32_nle, i32_nlt]), rfl⟩
  · refine PW.iload_n hX dX1_hasTaker_4 rfl rfl ?_
    refine PW.aload_n hX dX1_hasTaker_5 rfl rfl ?_
    refine PW.getfield hX fl_X1_37 dX1_hasTaker_6 rfl rfl ?_
    refine PW.icmp_ge (tgt := 16) hX dX1_hasTaker_9 (by decide) (fun c9 => ?_) (fun c9 => ?_)
    · refine PW.iconst (v := nI 0) hX dX1_hasTaker_16 (by decide) ?_
      refine PW.zret hX hR dX1_hasTaker_17 (by first | exact Or.inl rfl | exact Or.inr rfl | assumption) rfl rfl ?_
      first | exact ⟨rT (by simp_all [inB, i32_nle, i32_nlt]), rfl⟩ | exact ⟨rF (by simp_all [inB, i32_nle, i32_nlt]), rfl⟩
    · refine PW.iconst (v := nI 1) hX dX1_hasTaker_12 (by decide) ?_
      refine PW.goto (tgt := 17) hX dX1_hasTaker_13 (by decide) ?_
      refine PW.zret hX hR dX1_hasTaker_17 (by first | exact Or.inl rfl | exact Or.inr rfl | assumption) rfl rfl ?_
      first | exact ⟨rT (by simp_all [inB, i32_nle, i32_nlt]), rfl⟩ | exact ⟨rF (by simp_all [inB, i32_nle, i32_nlt]), rfl⟩
/-! bits -/
theorem s_l : ∀ n, n < 32 → ((nI n &&& 31).toBitVec.smod 32).toNat = n := by decide +kernel
theorem nI_or (a b : Nat) : nI a ||| nI b = nI (a ||| b) := by
  apply Int32.toBitVec_inj.mp
  show BitVec.ofNat 32 a ||| BitVec.ofNat 32 b = BitVec.ofNat 32 (a ||| b)
  apply BitVec.eq_of_getLsbD_eq
  intro i hi
  simp [BitVec.getLsbD_ofNat, hi]
theorem nI_shl1 {k : Nat} (h : k < 31) : nI 1 <<< (nI k &&& 31) = nI (2 ^ k) := by
  rw [pk_shlN _ k (s_l k (by omega)), Nat.one_mul]
  rw [Nat.one_mul]
  exact Nat.pow_lt_pow_right (by decide) (by omega)
theorem bit_nI {m k : Nat} (hm : m < 2 ^ 31) (hk : k < 32) : (nI m >>> (nI k &&& 31)) &&& nI 1 = nI (bif m.testBit k then 1 else 0) := by
  rw [pk_shrN hm _ k (s_l k hk), pk_andN (by have := Nat.div_le_self m (2 ^ k); omega) 1 (by decide), Nat.testBit_eq_decide_div_mod_eq]
  congr 1
  have : m / 2 ^ k % 2 < 2 := Nat.mod_lt _ (by decide)
  rcases (show m / 2 ^ k % 2 = 0 ∨ m / 2 ^ k % 2 = 1 by omega) with h | h <;> simp [h]
theorem pm_isOwner (x : Int32) : PM mu_X6_isOwner 0 0 0 [.int x] [] (eqP (some (.int (bI (inB 4 x)))) []) := by
  refine PM.start (by decide +kernel) rfl rfl rfl ?_
  intro X hX hR hx hin
  refine PW.iload_n hX dX6_isOwner_0 rfl rfl ?_
  refine PW.if_lt (tgt := 13) hX dX6_isOwner_1 (by decide) (fun c1 => ?_) (fun c1 => ?_)
  · refine PW.iconst (v := nI 0) hX dX6_isOwner_13 (by decide) ?_
    refine PW.zret hX hR dX6_isOwner_14 (by first | exact Or.inl rfl | exact Or.inr rfl | assumption) rfl rfl ?_
    first | exact ⟨rT (by simp_all [inB, i32_nle, i32_nlt]), rfl⟩ | exact ⟨rF (by simp_all [inB, i32_nle, i32_nlt]), rfl⟩
  · refine PW.iload_n hX dX6_isOwner_4 rfl rfl ?_
    refine PW.iconst (v := nI 4) hX dX6_isOwner_5 (by decide) ?_
    refine PW.icmp_ge (tgt := 13) hX dX6_isOwner_6 (by decide) (fun c6 => ?_) (fun c6 => ?_)
    · refine PW.iconst (v := nI 0) hX dX6_isOwner_13 (by decide) ?_
      refine PW.zret hX hR dX6_isOwner_14 (by first | exact Or.inl rfl | exact Or.inr rfl | assumption) rfl rfl ?_
      first | exact ⟨rT (by simp_all [inB, i32_nle, i32_nlt]), rfl⟩ | exact ⟨rF (by simp_all [inB, i32_nle, i32_nlt]), rfl⟩
    · refine PW.iconst (v := nI 1) hX dX6_isOwner_9 (by decide) ?_
      refine PW.goto (tgt := 14) hX dX6_isOwner_10 (by decide) ?_
      refine PW.zret hX hR dX6_isOwner_14 (by first | exact Or.inl rfl | exact Or.inr rfl | assumption) rfl rfl ?_
      first | exact ⟨rT (by simp_all [inB, i32_nle, i32_nlt]), rfl⟩ | exact ⟨rF (by simp_all [inB, i32_nle, i32_nlt]), rfl⟩
theorem pm_isZeroOrOne (x : Int32) : PM mu_X6_isZeroOrOne 0 0 0 [.int x] [] (eqP (some (.int (bI (decide (x = nI 0 ∨ x = nI 1))))) []) := by
  refine PM.start (by decide +kernel) rfl rfl rfl ?_
  intro X hX hR hx hin
  refine PW.iload_n hX dX6_isZeroOrOne_0 rfl rfl ?_
  refine PW.if_eq (tgt := 9) hX dX6_isZeroOrOne_1 (by decide) (fun c1 => ?_) (fun c1 => ?_)
  · refine PW.iconst (v := nI 1) hX dX6_isZeroOrOne_9 (by decide) ?_
    refine PW.goto (tgt := 14) hX dX6_isZeroOrOne_10 (by decide) ?_
    refine PW.zret hX hR dX6_isZeroOrOne_14 (by first | exact Or.inl rfl | exact Or.inr rfl | assumption) rfl rfl ?_
    first | exact ⟨rT (decide_eq_true (Or.inl c1)), rfl⟩ | exact ⟨rT (decide_eq_true (Or.inr c6)), rfl⟩ | exact ⟨rF (decide_eq_false (fun h => h.elim c1 c6)), rfl⟩
  · refine PW.iload_n hX dX6_isZeroOrOne_4 rfl rfl ?_
    refine PW.iconst (v := nI 1) hX dX6_isZeroOrOne_5 (by decide) ?_
    refine PW.icmp_ne (tgt := 13) hX dX6_isZeroOrOne_6 (by decide) (fun c6 => ?_) (fun c6 => ?_)
    · refine PW.iconst (v := nI 0) hX dX6_isZeroOrOne_13 (by decide) ?_
      refine PW.zret hX hR dX6_isZeroOrOne_14 (by first | exact Or.inl rfl | exact Or.inr rfl | assumption) rfl rfl ?_
      first | exact ⟨rT (decide_eq_true (Or.inl c1)), rfl⟩ | exact ⟨rT (decide_eq_true (Or.inr c6)), rfl⟩ | exact ⟨rF (decide_eq_false (fun h => h.elim c1 c6)), rfl⟩
    · refine PW.iconst (v := nI 1) hX dX6_isZeroOrOne_9 (by decide) ?_
      refine PW.goto (tgt := 14) hX dX6_isZeroOrOne_10 (by decide) ?_
      refine PW.zret hX hR dX6_isZeroOrOne_14 (by first | exact Or.inl rfl | exact Or.inr rfl | assumption) rfl rfl ?_
      first | exact ⟨rT (decide_eq_true (Or.inl c1)), rfl⟩ | exact ⟨rT (decide_eq_true (Or.inr c6)), rfl⟩ | exact ⟨rF (decide_eq_false (fun h => h.elim c1 c6)), rfl⟩
theorem pm_hasBit (m k : Nat) (hm : m < 2 ^ 31) (hk : k < 32) : PM mu_X6_hasBit 0 0 0 [.int (nI m), .int (nI k)] [] (eqP (some (.int (bI (m.testBit k)))) []) := by
  refine PM.start (by decide +kernel) rfl rfl rfl ?_
  intro X hX hR hx hin
  refine PW.iload_n hX dX6_hasBit_0 rfl rfl ?_
  refine PW.iload_n hX dX6_hasBit_1 rfl rfl ?_
  refine PW.ishr hX dX6_hasBit_2 ?_
  refine PW.iconst (v := nI 1) hX dX6_hasBit_3 (by decide) ?_
  refine PW.iand hX dX6_hasBit_4 ?_
  refine PW.top (bit_nI hm hk) ?_
  refine PW.iconst (v := nI 1) hX dX6_hasBit_5 (by decide) ?_
  refine PW.icmp_ne (tgt := 13) hX dX6_hasBit_6 (by decide) (fun c6 => ?_) (fun c6 => ?_)
  · have h9 : m.testBit k = false := by
      cases h : m.testBit k
      · rfl
      · rw [h] at c6; exact absurd rfl c6
    refine PW.iconst (v := nI 0) hX dX6_hasBit_13 (by decide) ?_
    refine PW.zret hX hR dX6_hasBit_14 (by first | exact Or.inl rfl | exact Or.inr rfl | assumption) rfl rfl ?_
    first | exact ⟨rT h9, rfl⟩ | exact ⟨rF h9, rfl⟩
  · have h9 : m.testBit k = true := by
      cases h : m.testBit k
      · rw [h] at c6; exact absurd c6 (by decide)
      · rfl
    refine PW.iconst (v := nI 1) hX dX6_hasBit_9 (by decide) ?_
    refine PW.goto (tgt := 14) hX dX6_hasBit_10 (by decide) ?_
    refine PW.zret hX hR dX6_hasBit_14 (by first | exact Or.inl rfl | exact Or.inr rfl | assumption) rfl rfl ?_
    first | exact ⟨rT h9, rfl⟩ | exact ⟨rF h9, rfl⟩
def upTo (n : Nat) : Nat := 2 ^ (n + 1) - 2
theorem pm_bitsUpTo (n : Nat) (hn : n < 20) : PM mu_X6_bitsUpTo 0 0 0 [.int (nI n)] [] (eqP (some (.int (nI (upTo n)))) []) := by
  refine PM.start (by decide +kernel) rfl rfl rfl ?_
  intro X hX hR hx hin
  refine PW.iconst (v := nI 1) hX dX6_bitsUpTo_0 (by decide) ?_
  refine PW.iload_n hX dX6_bitsUpTo_1 rfl rfl ?_
  refine PW.iconst (v := nI 1) hX dX6_bitsUpTo_2 (by decide) ?_
  refine PW.iadd hX dX6_bitsUpTo_3 ?_
  refine PW.top (nI_add n 1) ?_
  refine PW.ishl hX dX6_bitsUpTo_4 ?_
  refine PW.top (nI_shl1 (by omega)) ?_
  refine PW.iconst (v := nI 2) hX dX6_bitsUpTo_5 (by decide) ?_
  refine PW.isub hX dX6_bitsUpTo_6 ?_
  refine PW.top (pk_sub (Nat.pow_le_pow_right (n := 2) (by decide) (show 1 ≤ n + 1 by omega))) ?_
  refine PW.iret hX hR dX6_bitsUpTo_7 rfl rfl ?_
  exact ⟨rfl, rfl⟩
/-! Plan's methods -/
theorem div10 {k : Nat} (hk : k < 2 ^ 31) : nI k / nI 10 = nI (k / 10) := pk_div hk (by decide) (by decide)
theorem rem10 {k : Nat} (hk : k < 2 ^ 31) : nI k - nI k / nI 10 * nI 10 = nI (k % 10) := pk_rem hk (by decide) (by decide)
/-- a sheet that there is -/
def isSh (P : Pl) (k : Nat) : Bool := decide (k / 10 < plnj P) && (decide (1 ≤ k % 10) && decide (k % 10 ≤ plsh P (k / 10)))
def isShI (P : Pl) (x : Int32) : Bool := !decide (x < 0) && isSh P x.toNatClampNeg
theorem isShI_nI {P : Pl} {k : Nat} (hk : k < 2 ^ 31) : isShI P (nI k) = isSh P k := by
  simp [isShI, nI_pos hk, nI_clamp hk]
theorem pm_hasSheet (P : Pl) (ok : PlOk P) (x : Int32) : PM mu_X1_hasSheet 1 0 0 [.ref 0, .int x] (plB 0 P) (eqP (some (.int (bI (isShI P x)))) (plB 0 P)) := by
  obtain ⟨o1, o2, o3, o4, o5, o6⟩ := ok
  by_cases hx0 : x < 0
  · have hF : isShI P x = false := by simp [isShI, hx0]
    refine PM.start (by decide +kernel) rfl rfl rfl ?_
    intro X hX hR hx hin
    refine PW.iload_n hX dX1_hasSheet_0 rfl rfl ?_
    refine PW.if_lt (tgt := 15) hX dX1_hasSheet_1 (by decide) (fun c1 => ?_) (fun c1 => ?_)
    · refine PW.iconst (v := nI 0) hX dX1_hasSheet_15 (by decide) ?_
      refine PW.zret hX hR dX1_hasSheet_16 (by first | exact Or.inl rfl | exact Or.inr rfl | assumption) rfl rfl ?_
      exact ⟨rF hF, rfl⟩
    · exact absurd hx0 c1 -- CLOSED
  · obtain ⟨k, hk, rfl⟩ := nI_of hx0
    rw [isShI_nI hk]
    refine PM.start (by decide +kernel) rfl rfl rfl ?_
    intro X hX hR hx hin
    refine PW.iload_n hX dX1_hasSheet_0 rfl rfl ?_
    refine PW.if_lt (tgt := 15) hX dX1_hasSheet_1 (by decide) (fun c1 => ?_) (fun c1 => ?_)
    · exact absurd c1 hx0 -- CLOSED
    · refine PW.aload_n hX dX1_hasSheet_4 rfl rfl ?_
      refine PW.iload_n hX dX1_hasSheet_5 rfl rfl ?_
      refine PW.bipush (v := nI 10) hX dX1_hasSheet_6 (by decide) ?_
      refine PW.idiv hX dX1_hasSheet_8 (by decide) ?_
      refine PW.top (div10 hk) ?_
      refine PW.vR hX ml_X1_46 (pm_hasJob P (nI (k / 10))) dX1_hasSheet_9 [0, 1, 2, 3, 4, 5, 6, 7] rfl rfl rfl rfl rfl rfl rfl rfl rfl rfl rfl rfl rfl ?_
      refine PW.top (show _ = bI (decide (k / 10 < plnj P)) by rw [inB_nI (by omega) (by omega)]) ?_
      refine PW.if_ne (tgt := 17) hX dX1_hasSheet_12 (by decide) (fun c12 => ?_) (fun c12 => ?_)
      · have h9 : k / 10 < plnj P := by
          by_cases h : k / 10 < plnj P
          · exact h
          · rw [decide_eq_false h] at c12; exact absurd rfl c12
        refine PW.iload_n hX dX1_hasSheet_17 rfl rfl ?_
        refine PW.bipush (v := nI 10) hX dX1_hasSheet_18 (by decide) ?_
        refine PW.irem hX dX1_hasSheet_20 (by decide) ?_
        refine PW.top (rem10 hk) ?_
        refine PW.istore_n hX dX1_hasSheet_21 rfl rfl ?_
        refine PW.iload_n hX dX1_hasSheet_22 rfl rfl ?_
        refine PW.iconst (v := nI 1) hX dX1_hasSheet_23 (by decide) ?_
        refine PW.icmp_lt (tgt := 44) hX dX1_hasSheet_24 (by decide) (fun c24 => ?_) (fun c24 => ?_)
        · rw [nI_ltI (by omega) (by omega)] at c24
          refine PW.iconst (v := nI 0) hX dX1_hasSheet_44 (by decide) ?_
          refine PW.zret hX hR dX1_hasSheet_45 (by first | exact Or.inl rfl | exact Or.inr rfl | assumption) rfl rfl ?_
          first | exact ⟨rT (by simp only [isSh, Bool.and_eq_true, decide_eq_true_eq]; exact ⟨h9, by omega, by omega⟩), rfl⟩ | exact ⟨rF (by simp only [isSh, Bool.and_eq_false_iff, decide_eq_false_iff_not]; omega), rfl⟩
        · rw [nI_ltI (by omega) (by omega)] at c24
          refine PW.iload_n hX dX1_hasSheet_27 rfl rfl ?_
          refine PW.aload_n hX dX1_hasSheet_28 rfl rfl ?_
          refine PW.getfield hX fl_X1_15 dX1_hasSheet_29 rfl rfl ?_
          refine PW.iload_n hX dX1_hasSheet_32 rfl rfl ?_
          refine PW.bipush (v := nI 10) hX dX1_hasSheet_33 (by decide) ?_
          refine PW.idiv hX dX1_hasSheet_35 (by decide) ?_
          refine PW.top (div10 hk) ?_
          refine PW.iaload hX dX1_hasSheet_36 rfl rfl rfl (by omega) ?_
          have hsh := o5 (k / 10) h9
          refine PW.icmp_gt (tgt := 44) hX dX1_hasSheet_37 (by decide) (fun c37 => ?_) (fun c37 => ?_)
          · rw [nI_ltI (by omega) (by omega)] at c37
            refine PW.iconst (v := nI 0) hX dX1_hasSheet_44 (by decide) ?_
            refine PW.zret hX hR dX1_hasSheet_45 (by first | exact Or.inl rfl | exact Or.inr rfl | assumption) rfl rfl ?_
            first | exact ⟨rT (by simp only [isSh, Bool.and_eq_true, decide_eq_true_eq]; exact ⟨h9, by omega, by omega⟩), rfl⟩ | exact ⟨rF (by simp only [isSh, Bool.and_eq_false_iff, decide_eq_false_iff_not]; omega), rfl⟩
          · rw [nI_ltI (by omega) (by omega)] at c37
            refine PW.iconst (v := nI 1) hX dX1_hasSheet_40 (by decide) ?_
            refine PW.goto (tgt := 45) hX dX1_hasSheet_41 (by decide) ?_
            refine PW.zret hX hR dX1_hasSheet_45 (by first | exact Or.inl rfl | exact Or.inr rfl | assumption) rfl rfl ?_
            first | exact ⟨rT (by simp only [isSh, Bool.and_eq_true, decide_eq_true_eq]; exact ⟨h9, by omega, by omega⟩), rfl⟩ | exact ⟨rF (by simp only [isSh, Bool.and_eq_false_iff, decide_eq_false_iff_not]; omega), rfl⟩
      · have h9 : ¬ k / 10 < plnj P := fun h => by rw [decide_eq_true h] at c12; exact absurd c12 (by decide)
        refine PW.iconst (v := nI 0) hX dX1_hasSheet_15 (by decide) ?_
        refine PW.zret hX hR dX1_hasSheet_16 (by first | exact Or.inl rfl | exact Or.inr rfl | assumption) rfl rfl ?_
        exact ⟨rF (by simp [isSh, h9]), rfl⟩
theorem pm_isOf (P : Pl) (ok : PlOk P) (k o : Nat) (hk : k < 2 ^ 31) (ho : o < 2 ^ 31) : PM mu_X1_isOf 2 0 0 [.ref 0, .int (nI k), .int (nI o)] (plB 0 P) (eqP (some (.int (bI (isSh P k && decide (plow P (k / 10) = o))))) (plB 0 P)) := by
  have ok' := ok
  obtain ⟨o1, o2, o3, o4, o5, o6⟩ := ok
  refine PM.start (by decide +kernel) rfl rfl rfl ?_
  intro X hX hR hx hin
  refine PW.aload_n hX dX1_isOf_0 rfl rfl ?_
  refine PW.iload_n hX dX1_isOf_1 rfl rfl ?_
  refine PW.vR hX ml_X1_50 (pm_hasSheet P ok' (nI k)) dX1_isOf_2 [0, 1, 2, 3, 4, 5, 6, 7] rfl rfl rfl rfl rfl rfl rfl rfl rfl rfl rfl rfl rfl ?_
  refine PW.top (show _ = bI (isSh P k) by rw [isShI_nI hk]) ?_
  refine PW.if_eq (tgt := 25) hX dX1_isOf_5 (by decide) (fun c5 => ?_) (fun c5 => ?_)
  · have h9 : isSh P k = false := by
      cases h : isSh P k
      · rfl
      · rw [h] at c5; exact absurd c5 (by decide)
    refine PW.iconst (v := nI 0) hX dX1_isOf_25 (by decide) ?_
    refine PW.zret hX hR dX1_isOf_26 (by first | exact Or.inl rfl | exact Or.inr rfl | assumption) rfl rfl ?_
    exact ⟨rF (by simp [h9]), rfl⟩
  · have h9 : isSh P k = true := by
      cases h : isSh P k
      · rw [h] at c5; exact absurd rfl c5
      · rfl
    have h8 : k / 10 < plnj P := by simp only [isSh, Bool.and_eq_true, decide_eq_true_eq] at h9; exact h9.1
    refine PW.aload_n hX dX1_isOf_8 rfl rfl ?_
    refine PW.getfield hX fl_X1_9 dX1_isOf_9 rfl rfl ?_
    refine PW.iload_n hX dX1_isOf_12 rfl rfl ?_
    refine PW.bipush (v := nI 10) hX dX1_isOf_13 (by decide) ?_
    refine PW.idiv hX dX1_isOf_15 (by decide) ?_
    refine PW.top (div10 hk) ?_
    refine PW.iaload hX dX1_isOf_16 rfl rfl rfl (by omega) ?_
    have hsh := o5 (k / 10) h8
    refine PW.iload_n hX dX1_isOf_17 rfl rfl ?_
    refine PW.icmp_ne (tgt := 25) hX dX1_isOf_18 (by decide) (fun c18 => ?_) (fun c18 => ?_)
    · rw [nI_eq (by omega) ho] at c18
      refine PW.iconst (v := nI 0) hX dX1_isOf_25 (by decide) ?_
      refine PW.zret hX hR dX1_isOf_26 (by first | exact Or.inl rfl | exact Or.inr rfl | assumption) rfl rfl ?_
      exact ⟨rF (by simp [h9, c18]), rfl⟩
    · rw [nI_eq (by omega) ho] at c18
      refine PW.iconst (v := nI 1) hX dX1_isOf_21 (by decide) ?_
      refine PW.goto (tgt := 26) hX dX1_isOf_22 (by decide) ?_
      refine PW.zret hX hR dX1_isOf_26 (by first | exact Or.inl rfl | exact Or.inr rfl | assumption) rfl rfl ?_
      exact ⟨rT (by simp [h9, c18]), rfl⟩
def plAddJ (P : Pl) (o s m : Nat) : Pl := (va_up (plow P) (plnj P) o, va_up (plsh P) (plnj P) s, va_up (plse P) (plnj P) m, pltk P, pltw P, pltf P, pltm P, plnj P + 1, plnt P, plkd P, plsp P)
def okJ (P : Pl) (o s m : Nat) : Bool := decide (o < 4 ∧ 1 ≤ s ∧ s ≤ 9 ∧ m < 60 ∧ plnj P < 6)
theorem pm_addJob (P : Pl) (ok : PlOk P) (o s m : Nat) (ho : o < 100) (hs : s < 100) (hm : m < 100) : PM mu_X1_addJob 1 0 0 [.ref 0, .int (nI o), .int (nI s), .int (nI m)] (plB 0 P) (eqP (some (.int (bI (okJ P o s m)))) (plB 0 (bif okJ P o s m then plAddJ P o s m else P))) := by
  obtain ⟨o1, o2, o3, o4, o5, o6⟩ := ok
  have e0 : (bI (inB 4 (nI o))) = bI (decide (o < 4)) := by rw [inB_nI (by omega) (by omega)]
  refine PM.start (by decide +kernel) rfl rfl rfl ?_
  intro X hX hR hx hin
  have hj : PW X 33 [some (.ref 0), some (.int (nI o)), some (.int (nI s)), some (.int (nI m)), none] [.int (bI (decide (o < 4 ∧ 1 ≤ s ∧ s ≤ 9 ∧ m < 60)))] (plB 0 P) 0 0 := by
    cases hb : decide (o < 4 ∧ 1 ≤ s ∧ s ≤ 9 ∧ m < 60)
    · have hF : okJ P o s m = false := by simp only [okJ, decide_eq_false_iff_not] at hb ⊢; omega
      rw [hF] at hR
      refine PW.istore hX dX1_addJob_33 rfl ?_
      refine PW.iload hX dX1_addJob_35 rfl ?_
      refine PW.if_eq (tgt := 49) hX dX1_addJob_37 (by decide) (fun c37 => ?_) (fun c37 => ?_)
      · refine PW.iconst (v := nI 0) hX dX1_addJob_49 (by decide) ?_
        refine PW.zret hX hR dX1_addJob_50 (by first | exact Or.inl rfl | exact Or.inr rfl | assumption) rfl rfl ?_
        exact ⟨rfl, rfl⟩
      · exact absurd rfl c37 -- CLOSED
    · simp only [decide_eq_true_eq] at hb
      refine PW.istore hX dX1_addJob_33 rfl ?_
      refine PW.iload hX dX1_addJob_35 rfl ?_
      refine PW.if_eq (tgt := 49) hX dX1_addJob_37 (by decide) (fun c37 => ?_) (fun c37 => ?_)
      · exact absurd c37 (by decide) -- CLOSED
      · refine PW.aload_n hX dX1_addJob_40 rfl rfl ?_
        refine PW.getfield hX fl_X1_33 dX1_addJob_41 rfl rfl ?_
        refine PW.bipush (v := nI 6) hX dX1_addJob_44 (by decide) ?_
        refine PW.icmp_lt (tgt := 51) hX dX1_addJob_46 (by decide) (fun c46 => ?_) (fun c46 => ?_)
        · rw [nI_ltI (by omega) (by omega)] at c46
          refine PW.aload_n hX dX1_addJob_51 rfl rfl ?_
          refine PW.getfield hX fl_X1_9 dX1_addJob_52 rfl rfl ?_
          refine PW.aload_n hX dX1_addJob_55 rfl rfl ?_
          refine PW.getfield hX fl_X1_33 dX1_addJob_56 rfl rfl ?_
          refine PW.iload_n hX dX1_addJob_59 rfl rfl ?_
          refine PW.iastore hX dX1_addJob_60 rfl rfl rfl (by omega) ?_
          refine PW.aload_n hX dX1_addJob_61 rfl rfl ?_
          refine PW.getfield hX fl_X1_15 dX1_addJob_62 rfl rfl ?_
          refine PW.aload_n hX dX1_addJob_65 rfl rfl ?_
          refine PW.getfield hX fl_X1_33 dX1_addJob_66 rfl rfl ?_
          refine PW.iload_n hX dX1_addJob_69 rfl rfl ?_
          refine PW.iastore hX dX1_addJob_70 rfl rfl rfl (by omega) ?_
          refine PW.aload_n hX dX1_addJob_71 rfl rfl ?_
          refine PW.getfield hX fl_X1_18 dX1_addJob_72 rfl rfl ?_
          refine PW.aload_n hX dX1_addJob_75 rfl rfl ?_
          refine PW.getfield hX fl_X1_33 dX1_addJob_76 rfl rfl ?_
          refine PW.iload_n hX dX1_addJob_79 rfl rfl ?_
          refine PW.iastore hX dX1_addJob_80 rfl rfl rfl (by omega) ?_
          refine PW.aload_n hX dX1_addJob_81 rfl rfl ?_
          refine PW.dup hX dX1_addJob_82 rfl ?_
          refine PW.getfield hX fl_X1_33 dX1_addJob_83 rfl rfl ?_
          refine PW.iconst (v := nI 1) hX dX1_addJob_86 (by decide) ?_
          refine PW.iadd hX dX1_addJob_87 ?_
          refine PW.top (nI_add (plnj P) 1) ?_
          refine PW.putI hX fp_X1_33 dX1_addJob_88 rfl rfl ?_
          refine PW.iconst (v := nI 1) hX dX1_addJob_91 (by decide) ?_
          refine PW.zret hX hR dX1_addJob_92 (by first | exact Or.inl rfl | exact Or.inr rfl | assumption) rfl rfl ?_
          have hT : okJ P o s m = true := by simp only [okJ, decide_eq_true_eq]; omega
          rw [hT]
          exact ⟨rfl, by simp only [upd_nI]; rfl⟩
        · rw [nI_ltI (by omega) (by omega)] at c46
          refine PW.iconst (v := nI 0) hX dX1_addJob_49 (by decide) ?_
          refine PW.zret hX hR dX1_addJob_50 (by first | exact Or.inl rfl | exact Or.inr rfl | assumption) rfl rfl ?_
          exact ⟨rF (by simp only [okJ, decide_eq_false_iff_not]; omega), by rw [show okJ P o s m = false by simp only [okJ, decide_eq_false_iff_not]; omega]; rfl⟩
  refine PW.iload_n hX dX1_addJob_0 rfl rfl ?_
  refine PW.nR hX ml_X1_53 (pm_isOwner (nI o)) dX1_addJob_1 rfl rfl rfl rfl rfl rfl ?_
  refine PW.top e0 ?_
  refine PW.if_eq (tgt := 32) hX dX1_addJob_4 (by decide) (fun c4 => ?_) (fun c4 => ?_)
  · have h4 : ¬ o < 4 := fun h => by rw [decide_eq_true h] at c4; exact absurd c4 (by decide)
    have hz : nI 0 = bI (decide (o < 4 ∧ 1 ≤ s ∧ s ≤ 9 ∧ m < 60)) := by rw [decide_eq_false (by omega)]; rfl
    refine PW.iconst (v := nI 0) hX dX1_addJob_32 (by decide) ?_
    exact PW.top hz hj
  · have h4 : o < 4 := by
      by_cases h : o < 4
      · exact h
      · rw [decide_eq_false h] at c4; exact absurd rfl c4
    refine PW.iload_n hX dX1_addJob_7 rfl rfl ?_
    refine PW.iconst (v := nI 1) hX dX1_addJob_8 (by decide) ?_
    refine PW.icmp_lt (tgt := 32) hX dX1_addJob_9 (by decide) (fun c9 => ?_) (fun c9 => ?_)
    · rw [nI_ltI (by omega) (by omega)] at c9
      have hz : nI 0 = bI (decide (o < 4 ∧ 1 ≤ s ∧ s ≤ 9 ∧ m < 60)) := by rw [decide_eq_false (by omega)]; rfl
      refine PW.iconst (v := nI 0) hX dX1_addJob_32 (by decide) ?_
      exact PW.top hz hj
    · rw [nI_ltI (by omega) (by omega)] at c9
      refine PW.iload_n hX dX1_addJob_12 rfl rfl ?_
      refine PW.bipush (v := nI 9) hX dX1_addJob_13 (by decide) ?_
      refine PW.icmp_gt (tgt := 32) hX dX1_addJob_15 (by decide) (fun c15 => ?_) (fun c15 => ?_)
      · rw [nI_ltI (by omega) (by omega)] at c15
        have hz : nI 0 = bI (decide (o < 4 ∧ 1 ≤ s ∧ s ≤ 9 ∧ m < 60)) := by rw [decide_eq_false (by omega)]; rfl
        refine PW.iconst (v := nI 0) hX dX1_addJob_32 (by decide) ?_
        exact PW.top hz hj
      · rw [nI_ltI (by omega) (by omega)] at c15
        refine PW.iload_n hX dX1_addJob_18 rfl rfl ?_
        refine PW.if_lt (tgt := 32) hX dX1_addJob_19 (by decide) (fun c19 => ?_) (fun c19 => ?_)
        · exact absurd c19 (nI_pos (by omega)) -- CLOSED
        · refine PW.iload_n hX dX1_addJob_22 rfl rfl ?_
          refine PW.bipush (v := nI 60) hX dX1_addJob_23 (by decide) ?_
          refine PW.icmp_ge (tgt := 32) hX dX1_addJob_25 (by decide) (fun c25 => ?_) (fun c25 => ?_)
          · rw [nI_leI (by omega) (by omega)] at c25
            have hz : nI 0 = bI (decide (o < 4 ∧ 1 ≤ s ∧ s ≤ 9 ∧ m < 60)) := by rw [decide_eq_false (by omega)]; rfl
            refine PW.iconst (v := nI 0) hX dX1_addJob_32 (by decide) ?_
            exact PW.top hz hj
          · rw [nI_leI (by omega) (by omega)] at c25
            have hz : nI 1 = bI (decide (o < 4 ∧ 1 ≤ s ∧ s ≤ 9 ∧ m < 60)) := by rw [decide_eq_true (by omega)]; rfl
            refine PW.iconst (v := nI 1) hX dX1_addJob_28 (by decide) ?_
            refine PW.goto (tgt := 33) hX dX1_addJob_29 (by decide) ?_
            exact PW.top hz hj
def plAddT (P : Pl) (k o f m : Nat) : Pl := (plow P, plsh P, plse P, va_up (pltk P) (plnt P) k, va_up (pltw P) (plnt P) o, va_up (pltf P) (plnt P) f, va_up (pltm P) (plnt P) m, plnj P, plnt P + 1, plkd P, plsp P)
def okT (P : Pl) (o m : Nat) : Bool := decide (o < 4 ∧ m < 100 ∧ plnt P < 6)
theorem pm_addTaker (P : Pl) (ok : PlOk P) (k o f m : Nat) (ho : o < 100) (hm : m < 100) : PM mu_X1_addTaker 1 0 0 [.ref 0, .int (nI k), .int (nI o), .int (nI f), .int (nI m)] (plB 0 P) (eqP (some (.int (bI (okT P o m)))) (plB 0 (bif okT P o m then plAddT P k o f m else P))) := by
  obtain ⟨o1, o2, o3, o4, o5, o6⟩ := ok
  have e0 : (bI (inB 4 (nI o))) = bI (decide (o < 4)) := by rw [inB_nI (by omega) (by omega)]
  refine PM.start (by decide +kernel) rfl rfl rfl ?_
  intro X hX hR hx hin
  have hj : PW X 24 [some (.ref 0), some (.int (nI k)), some (.int (nI o)), some (.int (nI f)), some (.int (nI m)), none] [.int (bI (decide (o < 4 ∧ m < 100)))] (plB 0 P) 0 0 := by
    cases hb : decide (o < 4 ∧ m < 100)
    · have hF : okT P o m = false := by simp only [okT, decide_eq_false_iff_not] at hb ⊢; omega
      rw [hF] at hR
      refine PW.istore hX dX1_addTaker_24 rfl ?_
      refine PW.iload hX dX1_addTaker_26 rfl ?_
      refine PW.if_eq (tgt := 40) hX dX1_addTaker_28 (by decide) (fun c28 => ?_) (fun c28 => ?_)
      · refine PW.iconst (v := nI 0) hX dX1_addTaker_40 (by decide) ?_
        refine PW.zret hX hR dX1_addTaker_41 (by first | exact Or.inl rfl | exact Or.inr rfl | assumption) rfl rfl ?_
        exact ⟨rfl, rfl⟩
      · exact absurd rfl c28 -- CLOSED
    · simp only [decide_eq_true_eq] at hb
      refine PW.istore hX dX1_addTaker_24 rfl ?_
      refine PW.iload hX dX1_addTaker_26 rfl ?_
      refine PW.if_eq (tgt := 40) hX dX1_addTaker_28 (by decide) (fun c28 => ?_) (fun c28 => ?_)
      · exact absurd c28 (by decide) -- CLOSED
      · refine PW.aload_n hX dX1_addTaker_31 rfl rfl ?_
        refine PW.getfield hX fl_X1_37 dX1_addTaker_32 rfl rfl ?_
        refine PW.bipush (v := nI 6) hX dX1_addTaker_35 (by decide) ?_
        refine PW.icmp_lt (tgt := 42) hX dX1_addTaker_37 (by decide) (fun c37 => ?_) (fun c37 => ?_)
        · rw [nI_ltI (by omega) (by omega)] at c37
          refine PW.aload_n hX dX1_addTaker_42 rfl rfl ?_
          refine PW.getfield hX fl_X1_21 dX1_addTaker_43 rfl rfl ?_
          refine PW.aload_n hX dX1_addTaker_46 rfl rfl ?_
          refine PW.getfield hX fl_X1_37 dX1_addTaker_47 rfl rfl ?_
          refine PW.iload_n hX dX1_addTaker_50 rfl rfl ?_
          refine PW.iastore hX dX1_addTaker_51 rfl rfl rfl (by omega) ?_
          refine PW.aload_n hX dX1_addTaker_52 rfl rfl ?_
          refine PW.getfield hX fl_X1_24 dX1_addTaker_53 rfl rfl ?_
          refine PW.aload_n hX dX1_addTaker_56 rfl rfl ?_
          refine PW.getfield hX fl_X1_37 dX1_addTaker_57 rfl rfl ?_
          refine PW.iload_n hX dX1_addTaker_60 rfl rfl ?_
          refine PW.iastore hX dX1_addTaker_61 rfl rfl rfl (by omega) ?_
          refine PW.aload_n hX dX1_addTaker_62 rfl rfl ?_
          refine PW.getfield hX fl_X1_27 dX1_addTaker_63 rfl rfl ?_
          refine PW.aload_n hX dX1_addTaker_66 rfl rfl ?_
          refine PW.getfield hX fl_X1_37 dX1_addTaker_67 rfl rfl ?_
          refine PW.iload_n hX dX1_addTaker_70 rfl rfl ?_
          refine PW.iastore hX dX1_addTaker_71 rfl rfl rfl (by omega) ?_
          refine PW.aload_n hX dX1_addTaker_72 rfl rfl ?_
          refine PW.getfield hX fl_X1_30 dX1_addTaker_73 rfl rfl ?_
          refine PW.aload_n hX dX1_addTaker_76 rfl rfl ?_
          refine PW.getfield hX fl_X1_37 dX1_addTaker_77 rfl rfl ?_
          refine PW.iload hX dX1_addTaker_80 rfl ?_
          refine PW.iastore hX dX1_addTaker_82 rfl rfl rfl (by omega) ?_
          refine PW.aload_n hX dX1_addTaker_83 rfl rfl ?_
          refine PW.dup hX dX1_addTaker_84 rfl ?_
          refine PW.getfield hX fl_X1_37 dX1_addTaker_85 rfl rfl ?_
          refine PW.iconst (v := nI 1) hX dX1_addTaker_88 (by decide) ?_
          refine PW.iadd hX dX1_addTaker_89 ?_
          refine PW.top (nI_add (plnt P) 1) ?_
          refine PW.putI hX fp_X1_37 dX1_addTaker_90 rfl rfl ?_
          refine PW.iconst (v := nI 1) hX dX1_addTaker_93 (by decide) ?_
          refine PW.zret hX hR dX1_addTaker_94 (by first | exact Or.inl rfl | exact Or.inr rfl | assumption) rfl rfl ?_
          have hT : okT P o m = true := by simp only [okT, decide_eq_true_eq]; omega
          rw [hT]
          exact ⟨rfl, by simp only [upd_nI]; rfl⟩
        · rw [nI_ltI (by omega) (by omega)] at c37
          refine PW.iconst (v := nI 0) hX dX1_addTaker_40 (by decide) ?_
          refine PW.zret hX hR dX1_addTaker_41 (by first | exact Or.inl rfl | exact Or.inr rfl | assumption) rfl rfl ?_
          exact ⟨rF (by simp only [okT, decide_eq_false_iff_not]; omega), by rw [show okT P o m = false by simp only [okT, decide_eq_false_iff_not]; omega]; rfl⟩
  refine PW.iload_n hX dX1_addTaker_0 rfl rfl ?_
  refine PW.nR hX ml_X1_53 (pm_isOwner (nI o)) dX1_addTaker_1 rfl rfl rfl rfl rfl rfl ?_
  refine PW.top e0 ?_
  refine PW.if_eq (tgt := 23) hX dX1_addTaker_4 (by decide) (fun c4 => ?_) (fun c4 => ?_)
  · have h4 : ¬ o < 4 := fun h => by rw [decide_eq_true h] at c4; exact absurd c4 (by decide)
    have hz : nI 0 = bI (decide (o < 4 ∧ m < 100)) := by rw [decide_eq_false (by omega)]; rfl
    refine PW.iconst (v := nI 0) hX dX1_addTaker_23 (by decide) ?_
    exact PW.top hz hj
  · have h4 : o < 4 := by
      by_cases h : o < 4
      · exact h
      · rw [decide_eq_false h] at c4; exact absurd rfl c4
    refine PW.iload hX dX1_addTaker_7 rfl ?_
    refine PW.if_lt (tgt := 23) hX dX1_addTaker_9 (by decide) (fun c9 => ?_) (fun c9 => ?_)
    · exact absurd c9 (nI_pos (by omega)) -- CLOSED
    · refine PW.iload hX dX1_addTaker_12 rfl ?_
      refine PW.bipush (v := nI 100) hX dX1_addTaker_14 (by decide) ?_
      refine PW.icmp_ge (tgt := 23) hX dX1_addTaker_16 (by decide) (fun c16 => ?_) (fun c16 => ?_)
      · rw [nI_leI (by omega) (by omega)] at c16
        have hz : nI 0 = bI (decide (o < 4 ∧ m < 100)) := by rw [decide_eq_false (by omega)]; rfl
        refine PW.iconst (v := nI 0) hX dX1_addTaker_23 (by decide) ?_
        exact PW.top hz hj
      · rw [nI_leI (by omega) (by omega)] at c16
        have hz : nI 1 = bI (decide (o < 4 ∧ m < 100)) := by rw [decide_eq_true (by omega)]; rfl
        refine PW.iconst (v := nI 1) hX dX1_addTaker_19 (by decide) ?_
        refine PW.goto (tgt := 24) hX dX1_addTaker_20 (by decide) ?_
        exact PW.top hz hj
def plMac (P : Pl) (k s : Nat) : Pl := (plow P, plsh P, plse P, pltk P, pltw P, pltf P, pltm P, plnj P, plnt P, k, s)
theorem pm_setMachine (P : Pl) (k s : Nat) : PM mu_X1_setMachine 0 0 0 [.ref 0, .int (nI k), .int (nI s)] (plB 0 P) (eqP none (plB 0 (plMac P k s))) := by
  refine PM.start (by decide +kernel) rfl rfl rfl ?_
  intro X hX hR hx hin
  refine PW.aload_n hX dX1_setMachine_0 rfl rfl ?_
  refine PW.iload_n hX dX1_setMachine_1 rfl rfl ?_
  refine PW.putI hX fp_X1_40 dX1_setMachine_2 rfl rfl ?_
  refine PW.aload_n hX dX1_setMachine_5 rfl rfl ?_
  refine PW.iload_n hX dX1_setMachine_6 rfl rfl ?_
  refine PW.putI hX fp_X1_43 dX1_setMachine_7 rfl rfl ?_
  refine PW.vret hX hR dX1_setMachine_10 rfl rfl ?_
  exact ⟨rfl, rfl⟩
def sumN (f : Nat → Nat) : Nat → Nat
  | 0 => 0
  | n + 1 => sumN f n + f n
def orN (f : Nat → Nat) : Nat → Nat
  | 0 => 0
  | n + 1 => orN f n ||| f n
theorem pm_allSheets (P : Pl) (ok : PlOk P) : PM mu_X1_allSheets 0 0 0 [.ref 0] (plB 0 P) (eqP (some (.int (nI (sumN (plsh P) (plnj P))))) (plB 0 P)) := by
  obtain ⟨o1, o2, o3, o4, o5, o6⟩ := ok
  refine PM.start (by decide +kernel) rfl rfl rfl ?_
  intro X hX hR hx hin
  have loop : ∀ n i : Nat, i ≤ plnj P → plnj P < i + n → PW X 4 [some (.ref 0), some (.int (nI (sumN (plsh P) i))), some (.int (nI i))] [] (plB 0 P) 0 0 := by
    intro n
    induction n with
    | zero => intro i h1 h2; exact absurd h2 (by omega)
    | succ n ih =>
      intro i h1 h2
      refine PW.iload_n hX dX1_allSheets_4 rfl rfl ?_
      refine PW.aload_n hX dX1_allSheets_5 rfl rfl ?_
      refine PW.getfield hX fl_X1_33 dX1_allSheets_6 rfl rfl ?_
      refine PW.icmp_ge (tgt := 27) hX dX1_allSheets_9 (by decide) (fun c9 => ?_) (fun c9 => ?_)
      · rw [nI_leI (by omega) (by omega)] at c9
        have e : i = plnj P := by omega
        subst e
        refine PW.iload_n hX dX1_allSheets_27 rfl rfl ?_
        refine PW.iret hX hR dX1_allSheets_28 rfl rfl ?_
        exact ⟨rfl, rfl⟩
      · rw [nI_leI (by omega) (by omega)] at c9
        refine PW.iload_n hX dX1_allSheets_12 rfl rfl ?_
        refine PW.aload_n hX dX1_allSheets_13 rfl rfl ?_
        refine PW.getfield hX fl_X1_15 dX1_allSheets_14 rfl rfl ?_
        refine PW.iload_n hX dX1_allSheets_17 rfl rfl ?_
        refine PW.iaload hX dX1_allSheets_18 rfl rfl rfl (by omega) ?_
        refine PW.iadd hX dX1_allSheets_19 ?_
        refine PW.top (nI_add _ _) ?_
        refine PW.istore_n hX dX1_allSheets_20 rfl rfl ?_
        first | refine PW.iinc hX dX1_allSheets_21 rfl (iincN _) ?_ | refine PW.iinc hX dX1_allSheets_21 rfl rfl ?_
        refine PW.goto (tgt := 4) hX dX1_allSheets_24 (by decide) ?_
        exact ih (i + 1) (by omega) (by omega)
  refine PW.iconst (v := nI 0) hX dX1_allSheets_0 (by decide) ?_
  refine PW.istore_n hX dX1_allSheets_1 rfl rfl ?_
  refine PW.iconst (v := nI 0) hX dX1_allSheets_2 (by decide) ?_
  refine PW.istore_n hX dX1_allSheets_3 rfl rfl ?_
  exact loop (plnj P + 1) 0 (by omega) (by omega)
def ofW (P : Pl) (o : Nat) : Nat → Nat := fun j => if plow P j = o then plsh P j else 0
theorem pm_sheetsOf (P : Pl) (ok : PlOk P) (o : Nat) (ho : o < 4) : PM mu_X1_sheetsOf 0 0 0 [.ref 0, .int (nI o)] (plB 0 P) (eqP (some (.int (nI (sumN (ofW P o) (plnj P))))) (plB 0 P)) := by
  obtain ⟨o1, o2, o3, o4, o5, o6⟩ := ok
  refine PM.start (by decide +kernel) rfl rfl rfl ?_
  intro X hX hR hx hin
  have loop : ∀ n i : Nat, i ≤ plnj P → plnj P < i + n → PW X 4 [some (.ref 0), some (.int (nI o)), some (.int (nI (sumN (ofW P o) i))), some (.int (nI i))] [] (plB 0 P) 0 0 := by
    intro n
    induction n with
    | zero => intro i h1 h2; exact absurd h2 (by omega)
    | succ n ih =>
      intro i h1 h2
      refine PW.iload_n hX dX1_sheetsOf_4 rfl rfl ?_
      refine PW.aload_n hX dX1_sheetsOf_5 rfl rfl ?_
      refine PW.getfield hX fl_X1_33 dX1_sheetsOf_6 rfl rfl ?_
      refine PW.icmp_ge (tgt := 41) hX dX1_sheetsOf_9 (by decide) (fun c9 => ?_) (fun c9 => ?_)
      · rw [nI_leI (by omega) (by omega)] at c9
        have e : i = plnj P := by omega
        subst e
        refine PW.iload_n hX dX1_sheetsOf_41 rfl rfl ?_
        refine PW.iret hX hR dX1_sheetsOf_42 rfl rfl ?_
        exact ⟨rfl, rfl⟩
      · rw [nI_leI (by omega) (by omega)] at c9
        have h5 := o5 i (by omega)
        refine PW.iload_n hX dX1_sheetsOf_12 rfl rfl ?_
        refine PW.aload_n hX dX1_sheetsOf_13 rfl rfl ?_
        refine PW.getfield hX fl_X1_9 dX1_sheetsOf_14 rfl rfl ?_
        refine PW.iload_n hX dX1_sheetsOf_17 rfl rfl ?_
        refine PW.iaload hX dX1_sheetsOf_18 rfl rfl rfl (by omega) ?_
        refine PW.iload_n hX dX1_sheetsOf_19 rfl rfl ?_
        refine PW.icmp_ne (tgt := 32) hX dX1_sheetsOf_20 (by decide) (fun c20 => ?_) (fun c20 => ?_)
        · rw [nI_eq (by omega) (by omega)] at c20
          have e : ofW P o i = 0 := by simp [ofW, c20]
          refine PW.iconst (v := nI 0) hX dX1_sheetsOf_32 (by decide) ?_
          refine PW.top (congrArg nI e.symm) ?_
          refine PW.iadd hX dX1_sheetsOf_33 ?_
          refine PW.top (nI_add _ _) ?_
          refine PW.istore_n hX dX1_sheetsOf_34 rfl rfl ?_
          first | refine PW.iinc hX dX1_sheetsOf_35 rfl (iincN _) ?_ | refine PW.iinc hX dX1_sheetsOf_35 rfl rfl ?_
          refine PW.goto (tgt := 4) hX dX1_sheetsOf_38 (by decide) ?_
          exact ih (i + 1) (by omega) (by omega)
        · rw [nI_eq (by omega) (by omega)] at c20
          have e : ofW P o i = plsh P i := by simp [ofW, c20]
          refine PW.aload_n hX dX1_sheetsOf_23 rfl rfl ?_
          refine PW.getfield hX fl_X1_15 dX1_sheetsOf_24 rfl rfl ?_
          refine PW.iload_n hX dX1_sheetsOf_27 rfl rfl ?_
          refine PW.iaload hX dX1_sheetsOf_28 rfl rfl rfl (by omega) ?_
          refine PW.goto (tgt := 33) hX dX1_sheetsOf_29 (by decide) ?_
          refine PW.top (congrArg nI e.symm) ?_
          refine PW.iadd hX dX1_sheetsOf_33 ?_
          refine PW.top (nI_add _ _) ?_
          refine PW.istore_n hX dX1_sheetsOf_34 rfl rfl ?_
          first | refine PW.iinc hX dX1_sheetsOf_35 rfl (iincN _) ?_ | refine PW.iinc hX dX1_sheetsOf_35 rfl rfl ?_
          refine PW.goto (tgt := 4) hX dX1_sheetsOf_38 (by decide) ?_
          exact ih (i + 1) (by omega) (by omega)
  refine PW.iconst (v := nI 0) hX dX1_sheetsOf_0 (by decide) ?_
  refine PW.istore_n hX dX1_sheetsOf_1 rfl rfl ?_
  refine PW.iconst (v := nI 0) hX dX1_sheetsOf_2 (by decide) ?_
  refine PW.istore_n hX dX1_sheetsOf_3 rfl rfl ?_
  exact loop (plnj P + 1) 0 (by omega) (by omega)
def ofB (P : Pl) (o : Nat) : Nat → Nat := fun j => if plow P j = o then 2 ^ j else 0
theorem pm_jobsOf (P : Pl) (ok : PlOk P) (o : Nat) (ho : o < 4) : PM mu_X1_jobsOf 0 0 0 [.ref 0, .int (nI o)] (plB 0 P) (eqP (some (.int (nI (orN (ofB P o) (plnj P))))) (plB 0 P)) := by
  obtain ⟨o1, o2, o3, o4, o5, o6⟩ := ok
  refine PM.start (by decide +kernel) rfl rfl rfl ?_
  intro X hX hR hx hin
  have loop : ∀ n i : Nat, i ≤ plnj P → plnj P < i + n → PW X 4 [some (.ref 0), some (.int (nI o)), some (.int (nI (orN (ofB P o) i))), some (.int (nI i))] [] (plB 0 P) 0 0 := by
    intro n
    induction n with
    | zero => intro i h1 h2; exact absurd h2 (by omega)
    | succ n ih =>
      intro i h1 h2
      refine PW.iload_n hX dX1_jobsOf_4 rfl rfl ?_
      refine PW.aload_n hX dX1_jobsOf_5 rfl rfl ?_
      refine PW.getfield hX fl_X1_33 dX1_jobsOf_6 rfl rfl ?_
      refine PW.icmp_ge (tgt := 38) hX dX1_jobsOf_9 (by decide) (fun c9 => ?_) (fun c9 => ?_)
      · rw [nI_leI (by omega) (by omega)] at c9
        have e : i = plnj P := by omega
        subst e
        refine PW.iload_n hX dX1_jobsOf_38 rfl rfl ?_
        refine PW.iret hX hR dX1_jobsOf_39 rfl rfl ?_
        exact ⟨rfl, rfl⟩
      · rw [nI_leI (by omega) (by omega)] at c9
        have h5 := o5 i (by omega)
        refine PW.iload_n hX dX1_jobsOf_12 rfl rfl ?_
        refine PW.aload_n hX dX1_jobsOf_13 rfl rfl ?_
        refine PW.getfield hX fl_X1_9 dX1_jobsOf_14 rfl rfl ?_
        refine PW.iload_n hX dX1_jobsOf_17 rfl rfl ?_
        refine PW.iaload hX dX1_jobsOf_18 rfl rfl rfl (by omega) ?_
        refine PW.iload_n hX dX1_jobsOf_19 rfl rfl ?_
        refine PW.icmp_ne (tgt := 29) hX dX1_jobsOf_20 (by decide) (fun c20 => ?_) (fun c20 => ?_)
        · rw [nI_eq (by omega) (by omega)] at c20
          have e : ofB P o i = 0 := by simp [ofB, c20]
          refine PW.iconst (v := nI 0) hX dX1_jobsOf_29 (by decide) ?_
          refine PW.top (congrArg nI e.symm) ?_
          refine PW.ior hX dX1_jobsOf_30 ?_
          refine PW.top (nI_or _ _) ?_
          refine PW.istore_n hX dX1_jobsOf_31 rfl rfl ?_
          first | refine PW.iinc hX dX1_jobsOf_32 rfl (iincN _) ?_ | refine PW.iinc hX dX1_jobsOf_32 rfl rfl ?_
          refine PW.goto (tgt := 4) hX dX1_jobsOf_35 (by decide) ?_
          exact ih (i + 1) (by omega) (by omega)
        · rw [nI_eq (by omega) (by omega)] at c20
          have e : ofB P o i = 2 ^ i := by simp [ofB, c20]
          refine PW.iconst (v := nI 1) hX dX1_jobsOf_23 (by decide) ?_
          refine PW.iload_n hX dX1_jobsOf_24 rfl rfl ?_
          refine PW.ishl hX dX1_jobsOf_25 ?_
          refine PW.top (nI_shl1 (by omega)) ?_
          refine PW.goto (tgt := 30) hX dX1_jobsOf_26 (by decide) ?_
          refine PW.top (congrArg nI e.symm) ?_
          refine PW.ior hX dX1_jobsOf_30 ?_
          refine PW.top (nI_or _ _) ?_
          refine PW.istore_n hX dX1_jobsOf_31 rfl rfl ?_
          first | refine PW.iinc hX dX1_jobsOf_32 rfl (iincN _) ?_ | refine PW.iinc hX dX1_jobsOf_32 rfl rfl ?_
          refine PW.goto (tgt := 4) hX dX1_jobsOf_35 (by decide) ?_
          exact ih (i + 1) (by omega) (by omega)
  refine PW.iconst (v := nI 0) hX dX1_jobsOf_0 (by decide) ?_
  refine PW.istore_n hX dX1_jobsOf_1 rfl rfl ?_
  refine PW.iconst (v := nI 0) hX dX1_jobsOf_2 (by decide) ?_
  refine PW.istore_n hX dX1_jobsOf_3 rfl rfl ?_
  exact loop (plnj P + 1) 0 (by omega) (by omega)
/-- a plan that another is copied into -/
def plCp (P Q : Pl) : Pl := (va_cpy (plow Q) (plow P) 0 0 6, va_cpy (plsh Q) (plsh P) 0 0 6, va_cpy (plse Q) (plse P) 0 0 6, va_cpy (pltk Q) (pltk P) 0 0 6, va_cpy (pltw Q) (pltw P) 0 0 6, va_cpy (pltf Q) (pltf P) 0 0 6, va_cpy (pltm Q) (pltm P) 0 0 6, plnj Q, plnt Q, plkd Q, plsp Q)
theorem pm_copyFrom (P Q : Pl) : PM mu_X1_copyFrom 1 0 0 [.ref 0, .ref 8] (plB 0 P ++ plB 8 Q) (eqP none (plB 0 (plCp P Q) ++ plB 8 Q)) := by
  refine PM.start (by decide +kernel) rfl rfl rfl ?_
  intro X hX hR hx hin
  refine PW.aload_n hX dX1_copyFrom_0 rfl rfl ?_
  refine PW.getfield hX fl_X1_9 dX1_copyFrom_1 rfl rfl ?_
  refine PW.iconst (v := nI 0) hX dX1_copyFrom_4 (by decide) ?_
  refine PW.aload_n hX dX1_copyFrom_5 rfl rfl ?_
  refine PW.getfield hX fl_X1_9 dX1_copyFrom_6 rfl rfl ?_
  refine PW.iconst (v := nI 0) hX dX1_copyFrom_9 (by decide) ?_
  refine PW.bipush (v := nI 6) hX dX1_copyFrom_10 (by decide) ?_
  refine PW.acopy (sp := 0) (dp := 0) (n := 6) hX ac_X1_56 ac_nat ac_sta ac_ini dX1_copyFrom_12 rfl rfl rfl rfl rfl rfl rfl (by omega) (by omega) rfl rfl ?_
  refine PW.aload_n hX dX1_copyFrom_15 rfl rfl ?_
  refine PW.getfield hX fl_X1_15 dX1_copyFrom_16 rfl rfl ?_
  refine PW.iconst (v := nI 0) hX dX1_copyFrom_19 (by decide) ?_
  refine PW.aload_n hX dX1_copyFrom_20 rfl rfl ?_
  refine PW.getfield hX fl_X1_15 dX1_copyFrom_21 rfl rfl ?_
  refine PW.iconst (v := nI 0) hX dX1_copyFrom_24 (by decide) ?_
  refine PW.bipush (v := nI 6) hX dX1_copyFrom_25 (by decide) ?_
  refine PW.acopy (sp := 0) (dp := 0) (n := 6) hX ac_X1_56 ac_nat ac_sta ac_ini dX1_copyFrom_27 rfl rfl rfl rfl rfl rfl rfl (by omega) (by omega) rfl rfl ?_
  refine PW.aload_n hX dX1_copyFrom_30 rfl rfl ?_
  refine PW.getfield hX fl_X1_18 dX1_copyFrom_31 rfl rfl ?_
  refine PW.iconst (v := nI 0) hX dX1_copyFrom_34 (by decide) ?_
  refine PW.aload_n hX dX1_copyFrom_35 rfl rfl ?_
  refine PW.getfield hX fl_X1_18 dX1_copyFrom_36 rfl rfl ?_
  refine PW.iconst (v := nI 0) hX dX1_copyFrom_39 (by decide) ?_
  refine PW.bipush (v := nI 6) hX dX1_copyFrom_40 (by decide) ?_
  refine PW.acopy (sp := 0) (dp := 0) (n := 6) hX ac_X1_56 ac_nat ac_sta ac_ini dX1_copyFrom_42 rfl rfl rfl rfl rfl rfl rfl (by omega) (by omega) rfl rfl ?_
  refine PW.aload_n hX dX1_copyFrom_45 rfl rfl ?_
  refine PW.getfield hX fl_X1_21 dX1_copyFrom_46 rfl rfl ?_
  refine PW.iconst (v := nI 0) hX dX1_copyFrom_49 (by decide) ?_
  refine PW.aload_n hX dX1_copyFrom_50 rfl rfl ?_
  refine PW.getfield hX fl_X1_21 dX1_copyFrom_51 rfl rfl ?_
  refine PW.iconst (v := nI 0) hX dX1_copyFrom_54 (by decide) ?_
  refine PW.bipush (v := nI 6) hX dX1_copyFrom_55 (by decide) ?_
  refine PW.acopy (sp := 0) (dp := 0) (n := 6) hX ac_X1_56 ac_nat ac_sta ac_ini dX1_copyFrom_57 rfl rfl rfl rfl rfl rfl rfl (by omega) (by omega) rfl rfl ?_
  refine PW.aload_n hX dX1_copyFrom_60 rfl rfl ?_
  refine PW.getfield hX fl_X1_24 dX1_copyFrom_61 rfl rfl ?_
  refine PW.iconst (v := nI 0) hX dX1_copyFrom_64 (by decide) ?_
  refine PW.aload_n hX dX1_copyFrom_65 rfl rfl ?_
  refine PW.getfield hX fl_X1_24 dX1_copyFrom_66 rfl rfl ?_
  refine PW.iconst (v := nI 0) hX dX1_copyFrom_69 (by decide) ?_
  refine PW.bipush (v := nI 6) hX dX1_copyFrom_70 (by decide) ?_
  refine PW.acopy (sp := 0) (dp := 0) (n := 6) hX ac_X1_56 ac_nat ac_sta ac_ini dX1_copyFrom_72 rfl rfl rfl rfl rfl rfl rfl (by omega) (by omega) rfl rfl ?_
  refine PW.aload_n hX dX1_copyFrom_75 rfl rfl ?_
  refine PW.getfield hX fl_X1_27 dX1_copyFrom_76 rfl rfl ?_
  refine PW.iconst (v := nI 0) hX dX1_copyFrom_79 (by decide) ?_
  refine PW.aload_n hX dX1_copyFrom_80 rfl rfl ?_
  refine PW.getfield hX fl_X1_27 dX1_copyFrom_81 rfl rfl ?_
  refine PW.iconst (v := nI 0) hX dX1_copyFrom_84 (by decide) ?_
  refine PW.bipush (v := nI 6) hX dX1_copyFrom_85 (by decide) ?_
  refine PW.acopy (sp := 0) (dp := 0) (n := 6) hX ac_X1_56 ac_nat ac_sta ac_ini dX1_copyFrom_87 rfl rfl rfl rfl rfl rfl rfl (by omega) (by omega) rfl rfl ?_
  refine PW.aload_n hX dX1_copyFrom_90 rfl rfl ?_
  refine PW.getfield hX fl_X1_30 dX1_copyFrom_91 rfl rfl ?_
  refine PW.iconst (v := nI 0) hX dX1_copyFrom_94 (by decide) ?_
  refine PW.aload_n hX dX1_copyFrom_95 rfl rfl ?_
  refine PW.getfield hX fl_X1_30 dX1_copyFrom_96 rfl rfl ?_
  refine PW.iconst (v := nI 0) hX dX1_copyFrom_99 (by decide) ?_
  refine PW.bipush (v := nI 6) hX dX1_copyFrom_100 (by decide) ?_
  refine PW.acopy (sp := 0) (dp := 0) (n := 6) hX ac_X1_56 ac_nat ac_sta ac_ini dX1_copyFrom_102 rfl rfl rfl rfl rfl rfl rfl (by omega) (by omega) rfl rfl ?_
  refine PW.aload_n hX dX1_copyFrom_105 rfl rfl ?_
  refine PW.aload_n hX dX1_copyFrom_106 rfl rfl ?_
  refine PW.getfield hX fl_X1_33 dX1_copyFrom_107 rfl rfl ?_
  refine PW.putI hX fp_X1_33 dX1_copyFrom_110 rfl rfl ?_
  refine PW.aload_n hX dX1_copyFrom_113 rfl rfl ?_
  refine PW.aload_n hX dX1_copyFrom_114 rfl rfl ?_
  refine PW.getfield hX fl_X1_37 dX1_copyFrom_115 rfl rfl ?_
  refine PW.putI hX fp_X1_37 dX1_copyFrom_118 rfl rfl ?_
  refine PW.aload_n hX dX1_copyFrom_121 rfl rfl ?_
  refine PW.aload_n hX dX1_copyFrom_122 rfl rfl ?_
  refine PW.getfield hX fl_X1_40 dX1_copyFrom_123 rfl rfl ?_
  refine PW.putI hX fp_X1_40 dX1_copyFrom_126 rfl rfl ?_
  refine PW.aload_n hX dX1_copyFrom_129 rfl rfl ?_
  refine PW.aload_n hX dX1_copyFrom_130 rfl rfl ?_
  refine PW.getfield hX fl_X1_43 dX1_copyFrom_131 rfl rfl ?_
  refine PW.putI hX fp_X1_43 dX1_copyFrom_134 rfl rfl ?_
  refine PW.vret hX hR dX1_copyFrom_137 rfl rfl ?_
  exact ⟨rfl, by simp only [cpy_nI]; rfl⟩
end
