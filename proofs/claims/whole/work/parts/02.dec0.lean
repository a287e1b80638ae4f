theorem dX0_init_0 : decode cX0_init 0 = .ok (.aload_n 0, 1) := by decide +kernel
theorem dX0_init_1 : decode cX0_init 1 = .ok (.invokespecial 3, 3) := by decide +kernel
theorem dX0_init_4 : decode cX0_init 4 = .ok (.aload_n 0, 1) := by decide +kernel
theorem dX0_init_5 : decode cX0_init 5 = .ok (.new 9, 3) := by decide +kernel
theorem dX0_init_8 : decode cX0_init 8 = .ok (.dup, 1) := by decide +kernel
theorem dX0_init_9 : decode cX0_init 9 = .ok (.invokespecial 11, 3) := by decide +kernel
theorem dX0_init_12 : decode cX0_init 12 = .ok (.putfield 12, 3) := by decide +kernel
theorem dX0_init_15 : decode cX0_init 15 = .ok (.aload_n 0, 1) := by decide +kernel
theorem dX0_init_16 : decode cX0_init 16 = .ok (.new 18, 3) := by decide +kernel
theorem dX0_init_19 : decode cX0_init 19 = .ok (.dup, 1) := by decide +kernel
theorem dX0_init_20 : decode cX0_init 20 = .ok (.invokespecial 20, 3) := by decide +kernel
theorem dX0_init_23 : decode cX0_init 23 = .ok (.putfield 21, 3) := by decide +kernel
theorem dX0_init_26 : decode cX0_init 26 = .ok (.aload_n 0, 1) := by decide +kernel
theorem dX0_init_27 : decode cX0_init 27 = .ok (.bipush 100, 2) := by decide +kernel
theorem dX0_init_29 : decode cX0_init 29 = .ok (.newarray .int, 2) := by decide +kernel
theorem dX0_init_31 : decode cX0_init 31 = .ok (.putfield 25, 3) := by decide +kernel
theorem dX0_init_34 : decode cX0_init 34 = .ok (.aload_n 0, 1) := by decide +kernel
theorem dX0_init_35 : decode cX0_init 35 = .ok (.bipush 100, 2) := by decide +kernel
theorem dX0_init_37 : decode cX0_init 37 = .ok (.newarray .int, 2) := by decide +kernel
theorem dX0_init_39 : decode cX0_init 39 = .ok (.putfield 29, 3) := by decide +kernel
theorem dX0_init_42 : decode cX0_init 42 = .ok (.aload_n 0, 1) := by decide +kernel
theorem dX0_init_43 : decode cX0_init 43 = .ok (.iconst 0, 1) := by decide +kernel
theorem dX0_init_44 : decode cX0_init 44 = .ok (.putfield 32, 3) := by decide +kernel
theorem dX0_init_47 : decode cX0_init 47 = .ok (.aload_n 0, 1) := by decide +kernel
theorem dX0_init_48 : decode cX0_init 48 = .ok (.bipush 60, 2) := by decide +kernel
theorem dX0_init_50 : decode cX0_init 50 = .ok (.newarray .int, 2) := by decide +kernel
theorem dX0_init_52 : decode cX0_init 52 = .ok (.putfield 36, 3) := by decide +kernel
theorem dX0_init_55 : decode cX0_init 55 = .ok (.aload_n 0, 1) := by decide +kernel
theorem dX0_init_56 : decode cX0_init 56 = .ok (.bipush 60, 2) := by decide +kernel
theorem dX0_init_58 : decode cX0_init 58 = .ok (.newarray .int, 2) := by decide +kernel
theorem dX0_init_60 : decode cX0_init 60 = .ok (.putfield 39, 3) := by decide +kernel
theorem dX0_init_63 : decode cX0_init 63 = .ok (.return_, 1) := by decide +kernel
theorem dX0_begin_0 : decode cX0_begin 0 = .ok (.aload_n 0, 1) := by decide +kernel
theorem dX0_begin_1 : decode cX0_begin 1 = .ok (.getfield 12, 3) := by decide +kernel
theorem dX0_begin_4 : decode cX0_begin 4 = .ok (.aload_n 1, 1) := by decide +kernel
theorem dX0_begin_5 : decode cX0_begin 5 = .ok (.invokevirtual 42, 3) := by decide +kernel
theorem dX0_begin_8 : decode cX0_begin 8 = .ok (.aload_n 0, 1) := by decide +kernel
theorem dX0_begin_9 : decode cX0_begin 9 = .ok (.getfield 21, 3) := by decide +kernel
theorem dX0_begin_12 : decode cX0_begin 12 = .ok (.iconst 0, 1) := by decide +kernel
theorem dX0_begin_13 : decode cX0_begin 13 = .ok (.putfield 46, 3) := by decide +kernel
theorem dX0_begin_16 : decode cX0_begin 16 = .ok (.aload_n 0, 1) := by decide +kernel
theorem dX0_begin_17 : decode cX0_begin 17 = .ok (.iconst 0, 1) := by decide +kernel
theorem dX0_begin_18 : decode cX0_begin 18 = .ok (.putfield 32, 3) := by decide +kernel
theorem dX0_begin_21 : decode cX0_begin 21 = .ok (.aload_n 0, 1) := by decide +kernel
theorem dX0_begin_22 : decode cX0_begin 22 = .ok (.getfield 36, 3) := by decide +kernel
theorem dX0_begin_25 : decode cX0_begin 25 = .ok (.bipush (-9), 2) := by decide +kernel
theorem dX0_begin_27 : decode cX0_begin 27 = .ok (.invokestatic 49, 3) := by decide +kernel
theorem dX0_begin_30 : decode cX0_begin 30 = .ok (.aload_n 0, 1) := by decide +kernel
theorem dX0_begin_31 : decode cX0_begin 31 = .ok (.getfield 39, 3) := by decide +kernel
theorem dX0_begin_34 : decode cX0_begin 34 = .ok (.bipush (-9), 2) := by decide +kernel
theorem dX0_begin_36 : decode cX0_begin 36 = .ok (.invokestatic 49, 3) := by decide +kernel
theorem dX0_begin_39 : decode cX0_begin 39 = .ok (.return_, 1) := by decide +kernel
theorem dX0_passThrough_0 : decode cX0_passThrough 0 = .ok (.aload_n 0, 1) := by decide +kernel
theorem dX0_passThrough_1 : decode cX0_passThrough 1 = .ok (.aload_n 1, 1) := by decide +kernel
theorem dX0_passThrough_2 : decode cX0_passThrough 2 = .ok (.invokevirtual 55, 3) := by decide +kernel
theorem dX0_passThrough_5 : decode cX0_passThrough 5 = .ok (.iconst 0, 1) := by decide +kernel
theorem dX0_passThrough_6 : decode cX0_passThrough 6 = .ok (.istore_n 3, 1) := by decide +kernel
theorem dX0_passThrough_7 : decode cX0_passThrough 7 = .ok (.iload_n 3, 1) := by decide +kernel
theorem dX0_passThrough_8 : decode cX0_passThrough 8 = .ok (.iload_n 2, 1) := by decide +kernel
theorem dX0_passThrough_9 : decode cX0_passThrough 9 = .ok (.if_icmp .gt 15, 3) := by decide +kernel
theorem dX0_passThrough_12 : decode cX0_passThrough 12 = .ok (.aload_n 0, 1) := by decide +kernel
theorem dX0_passThrough_13 : decode cX0_passThrough 13 = .ok (.aload_n 1, 1) := by decide +kernel
theorem dX0_passThrough_14 : decode cX0_passThrough 14 = .ok (.iload_n 3, 1) := by decide +kernel
theorem dX0_passThrough_15 : decode cX0_passThrough 15 = .ok (.invokevirtual 56, 3) := by decide +kernel
theorem dX0_passThrough_18 : decode cX0_passThrough 18 = .ok (.iinc 3 1, 3) := by decide +kernel
theorem dX0_passThrough_21 : decode cX0_passThrough 21 = .ok (.goto (-14), 3) := by decide +kernel
theorem dX0_passThrough_24 : decode cX0_passThrough 24 = .ok (.return_, 1) := by decide +kernel
theorem dX0_passMinute_0 : decode cX0_passMinute 0 = .ok (.aload_n 0, 1) := by decide +kernel
theorem dX0_passMinute_1 : decode cX0_passMinute 1 = .ok (.getfield 12, 3) := by decide +kernel
theorem dX0_passMinute_4 : decode cX0_passMinute 4 = .ok (.aload_n 1, 1) := by decide +kernel
theorem dX0_passMinute_5 : decode cX0_passMinute 5 = .ok (.iload_n 2, 1) := by decide +kernel
theorem dX0_passMinute_6 : decode cX0_passMinute 6 = .ok (.invokevirtual 60, 3) := by decide +kernel
theorem dX0_passMinute_9 : decode cX0_passMinute 9 = .ok (.istore_n 3, 1) := by decide +kernel
theorem dX0_passMinute_10 : decode cX0_passMinute 10 = .ok (.aload_n 1, 1) := by decide +kernel
theorem dX0_passMinute_11 : decode cX0_passMinute 11 = .ok (.iload_n 3, 1) := by decide +kernel
theorem dX0_passMinute_12 : decode cX0_passMinute 12 = .ok (.invokevirtual 64, 3) := by decide +kernel
theorem dX0_passMinute_15 : decode cX0_passMinute 15 = .ok (.ifCond .eq 45, 3) := by decide +kernel
theorem dX0_passMinute_18 : decode cX0_passMinute 18 = .ok (.aload_n 0, 1) := by decide +kernel
theorem dX0_passMinute_19 : decode cX0_passMinute 19 = .ok (.getfield 32, 3) := by decide +kernel
theorem dX0_passMinute_22 : decode cX0_passMinute 22 = .ok (.bipush 100, 2) := by decide +kernel
theorem dX0_passMinute_24 : decode cX0_passMinute 24 = .ok (.if_icmp .ge 36, 3) := by decide +kernel
theorem dX0_passMinute_27 : decode cX0_passMinute 27 = .ok (.aload_n 0, 1) := by decide +kernel
theorem dX0_passMinute_28 : decode cX0_passMinute 28 = .ok (.iload_n 3, 1) := by decide +kernel
theorem dX0_passMinute_29 : decode cX0_passMinute 29 = .ok (.iload_n 2, 1) := by decide +kernel
theorem dX0_passMinute_30 : decode cX0_passMinute 30 = .ok (.invokevirtual 70, 3) := by decide +kernel
theorem dX0_passMinute_33 : decode cX0_passMinute 33 = .ok (.aload_n 1, 1) := by decide +kernel
theorem dX0_passMinute_34 : decode cX0_passMinute 34 = .ok (.getfield 74, 3) := by decide +kernel
theorem dX0_passMinute_37 : decode cX0_passMinute 37 = .ok (.iconst 3, 1) := by decide +kernel
theorem dX0_passMinute_38 : decode cX0_passMinute 38 = .ok (.if_icmp .ne 14, 3) := by decide +kernel
theorem dX0_passMinute_41 : decode cX0_passMinute 41 = .ok (.aload_n 0, 1) := by decide +kernel
theorem dX0_passMinute_42 : decode cX0_passMinute 42 = .ok (.getfield 21, 3) := by decide +kernel
theorem dX0_passMinute_45 : decode cX0_passMinute 45 = .ok (.iload_n 3, 1) := by decide +kernel
theorem dX0_passMinute_46 : decode cX0_passMinute 46 = .ok (.invokevirtual 77, 3) := by decide +kernel
theorem dX0_passMinute_49 : decode cX0_passMinute 49 = .ok (.goto 11, 3) := by decide +kernel
theorem dX0_passMinute_52 : decode cX0_passMinute 52 = .ok (.aload_n 0, 1) := by decide +kernel
theorem dX0_passMinute_53 : decode cX0_passMinute 53 = .ok (.getfield 21, 3) := by decide +kernel
theorem dX0_passMinute_56 : decode cX0_passMinute 56 = .ok (.iload_n 3, 1) := by decide +kernel
theorem dX0_passMinute_57 : decode cX0_passMinute 57 = .ok (.invokevirtual 81, 3) := by decide +kernel
theorem dX0_passMinute_60 : decode cX0_passMinute 60 = .ok (.iconst 0, 1) := by decide +kernel
theorem dX0_passMinute_61 : decode cX0_passMinute 61 = .ok (.istore 4, 2) := by decide +kernel
theorem dX0_passMinute_63 : decode cX0_passMinute 63 = .ok (.iload 4, 2) := by decide +kernel
theorem dX0_passMinute_65 : decode cX0_passMinute 65 = .ok (.aload_n 1, 1) := by decide +kernel
theorem dX0_passMinute_66 : decode cX0_passMinute 66 = .ok (.getfield 84, 3) := by decide +kernel
theorem dX0_passMinute_69 : decode cX0_passMinute 69 = .ok (.if_icmp .ge 34, 3) := by decide +kernel
theorem dX0_passMinute_72 : decode cX0_passMinute 72 = .ok (.aload_n 1, 1) := by decide +kernel
theorem dX0_passMinute_73 : decode cX0_passMinute 73 = .ok (.getfield 87, 3) := by decide +kernel
theorem dX0_passMinute_76 : decode cX0_passMinute 76 = .ok (.iload 4, 2) := by decide +kernel
theorem dX0_passMinute_78 : decode cX0_passMinute 78 = .ok (.iaload, 1) := by decide +kernel
theorem dX0_passMinute_79 : decode cX0_passMinute 79 = .ok (.iload_n 2, 1) := by decide +kernel
theorem dX0_passMinute_80 : decode cX0_passMinute 80 = .ok (.if_icmp .ne 17, 3) := by decide +kernel
theorem dX0_passMinute_83 : decode cX0_passMinute 83 = .ok (.aload_n 0, 1) := by decide +kernel
theorem dX0_passMinute_84 : decode cX0_passMinute 84 = .ok (.getfield 21, 3) := by decide +kernel
theorem dX0_passMinute_87 : decode cX0_passMinute 87 = .ok (.aload_n 1, 1) := by decide +kernel
theorem dX0_passMinute_88 : decode cX0_passMinute 88 = .ok (.iload 4, 2) := by decide +kernel
theorem dX0_passMinute_90 : decode cX0_passMinute 90 = .ok (.aload_n 0, 1) := by decide +kernel
theorem dX0_passMinute_91 : decode cX0_passMinute 91 = .ok (.getfield 39, 3) := by decide +kernel
theorem dX0_passMinute_94 : decode cX0_passMinute 94 = .ok (.invokevirtual 90, 3) := by decide +kernel
theorem dX0_passMinute_97 : decode cX0_passMinute 97 = .ok (.iinc 4 1, 3) := by decide +kernel
theorem dX0_passMinute_100 : decode cX0_passMinute 100 = .ok (.goto (-37), 3) := by decide +kernel
theorem dX0_passMinute_103 : decode cX0_passMinute 103 = .ok (.return_, 1) := by decide +kernel
theorem dX0_noteOut_0 : decode cX0_noteOut 0 = .ok (.aload_n 0, 1) := by decide +kernel
theorem dX0_noteOut_1 : decode cX0_noteOut 1 = .ok (.getfield 25, 3) := by decide +kernel
theorem dX0_noteOut_4 : decode cX0_noteOut 4 = .ok (.aload_n 0, 1) := by decide +kernel
theorem dX0_noteOut_5 : decode cX0_noteOut 5 = .ok (.getfield 32, 3) := by decide +kernel
theorem dX0_noteOut_8 : decode cX0_noteOut 8 = .ok (.iload_n 1, 1) := by decide +kernel
theorem dX0_noteOut_9 : decode cX0_noteOut 9 = .ok (.iastore, 1) := by decide +kernel
theorem dX0_noteOut_10 : decode cX0_noteOut 10 = .ok (.aload_n 0, 1) := by decide +kernel
theorem dX0_noteOut_11 : decode cX0_noteOut 11 = .ok (.getfield 29, 3) := by decide +kernel
theorem dX0_noteOut_14 : decode cX0_noteOut 14 = .ok (.aload_n 0, 1) := by decide +kernel
theorem dX0_noteOut_15 : decode cX0_noteOut 15 = .ok (.getfield 32, 3) := by decide +kernel
theorem dX0_noteOut_18 : decode cX0_noteOut 18 = .ok (.iload_n 2, 1) := by decide +kernel
theorem dX0_noteOut_19 : decode cX0_noteOut 19 = .ok (.iastore, 1) := by decide +kernel
theorem dX0_noteOut_20 : decode cX0_noteOut 20 = .ok (.aload_n 0, 1) := by decide +kernel
theorem dX0_noteOut_21 : decode cX0_noteOut 21 = .ok (.dup, 1) := by decide +kernel
theorem dX0_noteOut_22 : decode cX0_noteOut 22 = .ok (.getfield 32, 3) := by decide +kernel
theorem dX0_noteOut_25 : decode cX0_noteOut 25 = .ok (.iconst 1, 1) := by decide +kernel
theorem dX0_noteOut_26 : decode cX0_noteOut 26 = .ok (.iadd, 1) := by decide +kernel
theorem dX0_noteOut_27 : decode cX0_noteOut 27 = .ok (.putfield 32, 3) := by decide +kernel
theorem dX0_noteOut_30 : decode cX0_noteOut 30 = .ok (.aload_n 0, 1) := by decide +kernel
theorem dX0_noteOut_31 : decode cX0_noteOut 31 = .ok (.getfield 36, 3) := by decide +kernel
theorem dX0_noteOut_34 : decode cX0_noteOut 34 = .ok (.iload_n 1, 1) := by decide +kernel
theorem dX0_noteOut_35 : decode cX0_noteOut 35 = .ok (.iaload, 1) := by decide +kernel
theorem dX0_noteOut_36 : decode cX0_noteOut 36 = .ok (.bipush (-9), 2) := by decide +kernel
theorem dX0_noteOut_38 : decode cX0_noteOut 38 = .ok (.if_icmp .ne 10, 3) := by decide +kernel
theorem dX0_noteOut_41 : decode cX0_noteOut 41 = .ok (.aload_n 0, 1) := by decide +kernel
theorem dX0_noteOut_42 : decode cX0_noteOut 42 = .ok (.getfield 36, 3) := by decide +kernel
theorem dX0_noteOut_45 : decode cX0_noteOut 45 = .ok (.iload_n 1, 1) := by decide +kernel
theorem dX0_noteOut_46 : decode cX0_noteOut 46 = .ok (.iload_n 2, 1) := by decide +kernel
theorem dX0_noteOut_47 : decode cX0_noteOut 47 = .ok (.iastore, 1) := by decide +kernel
theorem dX0_noteOut_48 : decode cX0_noteOut 48 = .ok (.return_, 1) := by decide +kernel
theorem dX0_sheetOut_0 : decode cX0_sheetOut 0 = .ok (.iload_n 1, 1) := by decide +kernel
theorem dX0_sheetOut_1 : decode cX0_sheetOut 1 = .ok (.ifCond .lt 20, 3) := by decide +kernel
theorem dX0_sheetOut_4 : decode cX0_sheetOut 4 = .ok (.iload_n 1, 1) := by decide +kernel
theorem dX0_sheetOut_5 : decode cX0_sheetOut 5 = .ok (.aload_n 0, 1) := by decide +kernel
theorem dX0_sheetOut_6 : decode cX0_sheetOut 6 = .ok (.getfield 32, 3) := by decide +kernel
theorem dX0_sheetOut_9 : decode cX0_sheetOut 9 = .ok (.if_icmp .ge 12, 3) := by decide +kernel
theorem dX0_sheetOut_12 : decode cX0_sheetOut 12 = .ok (.aload_n 0, 1) := by decide +kernel
theorem dX0_sheetOut_13 : decode cX0_sheetOut 13 = .ok (.getfield 25, 3) := by decide +kernel
theorem dX0_sheetOut_16 : decode cX0_sheetOut 16 = .ok (.iload_n 1, 1) := by decide +kernel
theorem dX0_sheetOut_17 : decode cX0_sheetOut 17 = .ok (.iaload, 1) := by decide +kernel
theorem dX0_sheetOut_18 : decode cX0_sheetOut 18 = .ok (.goto 5, 3) := by decide +kernel
theorem dX0_sheetOut_21 : decode cX0_sheetOut 21 = .ok (.bipush (-9), 2) := by decide +kernel
theorem dX0_sheetOut_23 : decode cX0_sheetOut 23 = .ok (.ireturn, 1) := by decide +kernel
theorem dX0_minuteOut_0 : decode cX0_minuteOut 0 = .ok (.iload_n 1, 1) := by decide +kernel
theorem dX0_minuteOut_1 : decode cX0_minuteOut 1 = .ok (.ifCond .lt 20, 3) := by decide +kernel
theorem dX0_minuteOut_4 : decode cX0_minuteOut 4 = .ok (.iload_n 1, 1) := by decide +kernel
theorem dX0_minuteOut_5 : decode cX0_minuteOut 5 = .ok (.aload_n 0, 1) := by decide +kernel
theorem dX0_minuteOut_6 : decode cX0_minuteOut 6 = .ok (.getfield 32, 3) := by decide +kernel
theorem dX0_minuteOut_9 : decode cX0_minuteOut 9 = .ok (.if_icmp .ge 12, 3) := by decide +kernel
theorem dX0_minuteOut_12 : decode cX0_minuteOut 12 = .ok (.aload_n 0, 1) := by decide +kernel
theorem dX0_minuteOut_13 : decode cX0_minuteOut 13 = .ok (.getfield 29, 3) := by decide +kernel
theorem dX0_minuteOut_16 : decode cX0_minuteOut 16 = .ok (.iload_n 1, 1) := by decide +kernel
theorem dX0_minuteOut_17 : decode cX0_minuteOut 17 = .ok (.iaload, 1) := by decide +kernel
theorem dX0_minuteOut_18 : decode cX0_minuteOut 18 = .ok (.goto 5, 3) := by decide +kernel
theorem dX0_minuteOut_21 : decode cX0_minuteOut 21 = .ok (.bipush (-9), 2) := by decide +kernel
theorem dX0_minuteOut_23 : decode cX0_minuteOut 23 = .ok (.ireturn, 1) := by decide +kernel
theorem dX0_holderOf_0 : decode cX0_holderOf 0 = .ok (.iload_n 1, 1) := by decide +kernel
theorem dX0_holderOf_1 : decode cX0_holderOf 1 = .ok (.ifCond .lt 20, 3) := by decide +kernel
theorem dX0_holderOf_4 : decode cX0_holderOf 4 = .ok (.iload_n 1, 1) := by decide +kernel
theorem dX0_holderOf_5 : decode cX0_holderOf 5 = .ok (.bipush 60, 2) := by decide +kernel
theorem dX0_holderOf_7 : decode cX0_holderOf 7 = .ok (.if_icmp .ge 14, 3) := by decide +kernel
theorem dX0_holderOf_10 : decode cX0_holderOf 10 = .ok (.aload_n 0, 1) := by decide +kernel
theorem dX0_holderOf_11 : decode cX0_holderOf 11 = .ok (.getfield 36, 3) := by decide +kernel
theorem dX0_holderOf_14 : decode cX0_holderOf 14 = .ok (.iload_n 1, 1) := by decide +kernel
theorem dX0_holderOf_15 : decode cX0_holderOf 15 = .ok (.iaload, 1) := by decide +kernel
theorem dX0_holderOf_16 : decode cX0_holderOf 16 = .ok (.bipush (-9), 2) := by decide +kernel
theorem dX0_holderOf_18 : decode cX0_holderOf 18 = .ok (.if_icmp .ne 6, 3) := by decide +kernel
theorem dX0_holderOf_21 : decode cX0_holderOf 21 = .ok (.bipush (-8), 2) := by decide +kernel
theorem dX0_holderOf_23 : decode cX0_holderOf 23 = .ok (.ireturn, 1) := by decide +kernel
theorem dX0_holderOf_24 : decode cX0_holderOf 24 = .ok (.aload_n 0, 1) := by decide +kernel
theorem dX0_holderOf_25 : decode cX0_holderOf 25 = .ok (.getfield 39, 3) := by decide +kernel
theorem dX0_holderOf_28 : decode cX0_holderOf 28 = .ok (.iload_n 1, 1) := by decide +kernel
theorem dX0_holderOf_29 : decode cX0_holderOf 29 = .ok (.iaload, 1) := by decide +kernel
theorem dX0_holderOf_30 : decode cX0_holderOf 30 = .ok (.ireturn, 1) := by decide +kernel
theorem dX0_heldBy_0 : decode cX0_heldBy 0 = .ok (.iconst 0, 1) := by decide +kernel
theorem dX0_heldBy_1 : decode cX0_heldBy 1 = .ok (.istore 4, 2) := by decide +kernel
theorem dX0_heldBy_3 : decode cX0_heldBy 3 = .ok (.iconst 0, 1) := by decide +kernel
theorem dX0_heldBy_4 : decode cX0_heldBy 4 = .ok (.istore 5, 2) := by decide +kernel
theorem dX0_heldBy_6 : decode cX0_heldBy 6 = .ok (.iload 5, 2) := by decide +kernel
theorem dX0_heldBy_8 : decode cX0_heldBy 8 = .ok (.bipush 60, 2) := by decide +kernel
theorem dX0_heldBy_10 : decode cX0_heldBy 10 = .ok (.if_icmp .ge 34, 3) := by decide +kernel
theorem dX0_heldBy_13 : decode cX0_heldBy 13 = .ok (.aload_n 0, 1) := by decide +kernel
theorem dX0_heldBy_14 : decode cX0_heldBy 14 = .ok (.getfield 39, 3) := by decide +kernel
theorem dX0_heldBy_17 : decode cX0_heldBy 17 = .ok (.iload 5, 2) := by decide +kernel
theorem dX0_heldBy_19 : decode cX0_heldBy 19 = .ok (.iaload, 1) := by decide +kernel
theorem dX0_heldBy_20 : decode cX0_heldBy 20 = .ok (.iload_n 2, 1) := by decide +kernel
theorem dX0_heldBy_21 : decode cX0_heldBy 21 = .ok (.if_icmp .ne 17, 3) := by decide +kernel
theorem dX0_heldBy_24 : decode cX0_heldBy 24 = .ok (.aload_n 1, 1) := by decide +kernel
theorem dX0_heldBy_25 : decode cX0_heldBy 25 = .ok (.iload 5, 2) := by decide +kernel
theorem dX0_heldBy_27 : decode cX0_heldBy 27 = .ok (.iload_n 2, 1) := by decide +kernel
theorem dX0_heldBy_28 : decode cX0_heldBy 28 = .ok (.invokevirtual 94, 3) := by decide +kernel
theorem dX0_heldBy_31 : decode cX0_heldBy 31 = .ok (.iload_n 3, 1) := by decide +kernel
theorem dX0_heldBy_32 : decode cX0_heldBy 32 = .ok (.if_icmp .ne 6, 3) := by decide +kernel
theorem dX0_heldBy_35 : decode cX0_heldBy 35 = .ok (.iinc 4 1, 3) := by decide +kernel
theorem dX0_heldBy_38 : decode cX0_heldBy 38 = .ok (.iinc 5 1, 3) := by decide +kernel
theorem dX0_heldBy_41 : decode cX0_heldBy 41 = .ok (.goto (-35), 3) := by decide +kernel
theorem dX0_heldBy_44 : decode cX0_heldBy 44 = .ok (.iload 4, 2) := by decide +kernel
theorem dX0_heldBy_46 : decode cX0_heldBy 46 = .ok (.ireturn, 1) := by decide +kernel
theorem dX0_othersWith_0 : decode cX0_othersWith 0 = .ok (.iconst 0, 1) := by decide +kernel
theorem dX0_othersWith_1 : decode cX0_othersWith 1 = .ok (.istore_n 3, 1) := by decide +kernel
theorem dX0_othersWith_2 : decode cX0_othersWith 2 = .ok (.iconst 0, 1) := by decide +kernel
theorem dX0_othersWith_3 : decode cX0_othersWith 3 = .ok (.istore 4, 2) := by decide +kernel
theorem dX0_othersWith_5 : decode cX0_othersWith 5 = .ok (.iload 4, 2) := by decide +kernel
theorem dX0_othersWith_7 : decode cX0_othersWith 7 = .ok (.bipush 60, 2) := by decide +kernel
theorem dX0_othersWith_9 : decode cX0_othersWith 9 = .ok (.if_icmp .ge 46, 3) := by decide +kernel
theorem dX0_othersWith_12 : decode cX0_othersWith 12 = .ok (.aload_n 0, 1) := by decide +kernel
theorem dX0_othersWith_13 : decode cX0_othersWith 13 = .ok (.getfield 39, 3) := by decide +kernel
theorem dX0_othersWith_16 : decode cX0_othersWith 16 = .ok (.iload 4, 2) := by decide +kernel
theorem dX0_othersWith_18 : decode cX0_othersWith 18 = .ok (.iaload, 1) := by decide +kernel
theorem dX0_othersWith_19 : decode cX0_othersWith 19 = .ok (.istore 5, 2) := by decide +kernel
theorem dX0_othersWith_21 : decode cX0_othersWith 21 = .ok (.iload 5, 2) := by decide +kernel
theorem dX0_othersWith_23 : decode cX0_othersWith 23 = .ok (.ifCond .lt 26, 3) := by decide +kernel
theorem dX0_othersWith_26 : decode cX0_othersWith 26 = .ok (.iload 5, 2) := by decide +kernel
theorem dX0_othersWith_28 : decode cX0_othersWith 28 = .ok (.iload_n 2, 1) := by decide +kernel
theorem dX0_othersWith_29 : decode cX0_othersWith 29 = .ok (.if_icmp .eq 20, 3) := by decide +kernel
theorem dX0_othersWith_32 : decode cX0_othersWith 32 = .ok (.aload_n 1, 1) := by decide +kernel
theorem dX0_othersWith_33 : decode cX0_othersWith 33 = .ok (.iload 4, 2) := by decide +kernel
theorem dX0_othersWith_35 : decode cX0_othersWith 35 = .ok (.iload_n 2, 1) := by decide +kernel
theorem dX0_othersWith_36 : decode cX0_othersWith 36 = .ok (.invokevirtual 94, 3) := by decide +kernel
theorem dX0_othersWith_39 : decode cX0_othersWith 39 = .ok (.ifCond .eq 10, 3) := by decide +kernel
theorem dX0_othersWith_42 : decode cX0_othersWith 42 = .ok (.iload_n 3, 1) := by decide +kernel
theorem dX0_othersWith_43 : decode cX0_othersWith 43 = .ok (.iconst 1, 1) := by decide +kernel
theorem dX0_othersWith_44 : decode cX0_othersWith 44 = .ok (.iload 5, 2) := by decide +kernel
theorem dX0_othersWith_46 : decode cX0_othersWith 46 = .ok (.ishl, 1) := by decide +kernel
theorem dX0_othersWith_47 : decode cX0_othersWith 47 = .ok (.ior, 1) := by decide +kernel
theorem dX0_othersWith_48 : decode cX0_othersWith 48 = .ok (.istore_n 3, 1) := by decide +kernel
theorem dX0_othersWith_49 : decode cX0_othersWith 49 = .ok (.iinc 4 1, 3) := by decide +kernel
theorem dX0_othersWith_52 : decode cX0_othersWith 52 = .ok (.goto (-47), 3) := by decide +kernel
theorem dX0_othersWith_55 : decode cX0_othersWith 55 = .ok (.iload_n 3, 1) := by decide +kernel
theorem dX0_othersWith_56 : decode cX0_othersWith 56 = .ok (.ireturn, 1) := by decide +kernel
theorem dX0_lastFirstOut_0 : decode cX0_lastFirstOut 0 = .ok (.bipush (-9), 2) := by decide +kernel
theorem dX0_lastFirstOut_2 : decode cX0_lastFirstOut 2 = .ok (.istore_n 3, 1) := by decide +kernel
theorem dX0_lastFirstOut_3 : decode cX0_lastFirstOut 3 = .ok (.iconst 0, 1) := by decide +kernel
theorem dX0_lastFirstOut_4 : decode cX0_lastFirstOut 4 = .ok (.istore 4, 2) := by decide +kernel
theorem dX0_lastFirstOut_6 : decode cX0_lastFirstOut 6 = .ok (.iload 4, 2) := by decide +kernel
theorem dX0_lastFirstOut_8 : decode cX0_lastFirstOut 8 = .ok (.bipush 60, 2) := by decide +kernel
theorem dX0_lastFirstOut_10 : decode cX0_lastFirstOut 10 = .ok (.if_icmp .ge 46, 3) := by decide +kernel
theorem dX0_lastFirstOut_13 : decode cX0_lastFirstOut 13 = .ok (.aload_n 1, 1) := by decide +kernel
theorem dX0_lastFirstOut_14 : decode cX0_lastFirstOut 14 = .ok (.iload 4, 2) := by decide +kernel
theorem dX0_lastFirstOut_16 : decode cX0_lastFirstOut 16 = .ok (.iload_n 2, 1) := by decide +kernel
theorem dX0_lastFirstOut_17 : decode cX0_lastFirstOut 17 = .ok (.invokevirtual 94, 3) := by decide +kernel
theorem dX0_lastFirstOut_20 : decode cX0_lastFirstOut 20 = .ok (.ifCond .eq 30, 3) := by decide +kernel
theorem dX0_lastFirstOut_23 : decode cX0_lastFirstOut 23 = .ok (.aload_n 0, 1) := by decide +kernel
theorem dX0_lastFirstOut_24 : decode cX0_lastFirstOut 24 = .ok (.getfield 36, 3) := by decide +kernel
theorem dX0_lastFirstOut_27 : decode cX0_lastFirstOut 27 = .ok (.iload 4, 2) := by decide +kernel
theorem dX0_lastFirstOut_29 : decode cX0_lastFirstOut 29 = .ok (.iaload, 1) := by decide +kernel
theorem dX0_lastFirstOut_30 : decode cX0_lastFirstOut 30 = .ok (.bipush (-9), 2) := by decide +kernel
theorem dX0_lastFirstOut_32 : decode cX0_lastFirstOut 32 = .ok (.if_icmp .ne 6, 3) := by decide +kernel
theorem dX0_lastFirstOut_35 : decode cX0_lastFirstOut 35 = .ok (.bipush (-9), 2) := by decide +kernel
theorem dX0_lastFirstOut_37 : decode cX0_lastFirstOut 37 = .ok (.ireturn, 1) := by decide +kernel
theorem dX0_lastFirstOut_38 : decode cX0_lastFirstOut 38 = .ok (.iload_n 3, 1) := by decide +kernel
theorem dX0_lastFirstOut_39 : decode cX0_lastFirstOut 39 = .ok (.aload_n 0, 1) := by decide +kernel
theorem dX0_lastFirstOut_40 : decode cX0_lastFirstOut 40 = .ok (.getfield 36, 3) := by decide +kernel
theorem dX0_lastFirstOut_43 : decode cX0_lastFirstOut 43 = .ok (.iload 4, 2) := by decide +kernel
theorem dX0_lastFirstOut_45 : decode cX0_lastFirstOut 45 = .ok (.iaload, 1) := by decide +kernel
theorem dX0_lastFirstOut_46 : decode cX0_lastFirstOut 46 = .ok (.invokestatic 98, 3) := by decide +kernel
theorem dX0_lastFirstOut_49 : decode cX0_lastFirstOut 49 = .ok (.istore_n 3, 1) := by decide +kernel
theorem dX0_lastFirstOut_50 : decode cX0_lastFirstOut 50 = .ok (.iinc 4 1, 3) := by decide +kernel
theorem dX0_lastFirstOut_53 : decode cX0_lastFirstOut 53 = .ok (.goto (-47), 3) := by decide +kernel
theorem dX0_lastFirstOut_56 : decode cX0_lastFirstOut 56 = .ok (.iload_n 3, 1) := by decide +kernel
theorem dX0_lastFirstOut_57 : decode cX0_lastFirstOut 57 = .ok (.ireturn, 1) := by decide +kernel
theorem dX1_init_0 : decode cX1_init 0 = .ok (.aload_n 0, 1) := by decide +kernel
theorem dX1_init_1 : decode cX1_init 1 = .ok (.invokespecial 3, 3) := by decide +kernel
theorem dX1_init_4 : decode cX1_init 4 = .ok (.aload_n 0, 1) := by decide +kernel
theorem dX1_init_5 : decode cX1_init 5 = .ok (.bipush 6, 2) := by decide +kernel
theorem dX1_init_7 : decode cX1_init 7 = .ok (.newarray .int, 2) := by decide +kernel
theorem dX1_init_9 : decode cX1_init 9 = .ok (.putfield 9, 3) := by decide +kernel
theorem dX1_init_12 : decode cX1_init 12 = .ok (.aload_n 0, 1) := by decide +kernel
theorem dX1_init_13 : decode cX1_init 13 = .ok (.bipush 6, 2) := by decide +kernel
theorem dX1_init_15 : decode cX1_init 15 = .ok (.newarray .int, 2) := by decide +kernel
theorem dX1_init_17 : decode cX1_init 17 = .ok (.putfield 15, 3) := by decide +kernel
theorem dX1_init_20 : decode cX1_init 20 = .ok (.aload_n 0, 1) := by decide +kernel
theorem dX1_init_21 : decode cX1_init 21 = .ok (.bipush 6, 2) := by decide +kernel
theorem dX1_init_23 : decode cX1_init 23 = .ok (.newarray .int, 2) := by decide +kernel
theorem dX1_init_25 : decode cX1_init 25 = .ok (.putfield 18, 3) := by decide +kernel
theorem dX1_init_28 : decode cX1_init 28 = .ok (.aload_n 0, 1) := by decide +kernel
theorem dX1_init_29 : decode cX1_init 29 = .ok (.bipush 6, 2) := by decide +kernel
theorem dX1_init_31 : decode cX1_init 31 = .ok (.newarray .int, 2) := by decide +kernel
theorem dX1_init_33 : decode cX1_init 33 = .ok (.putfield 21, 3) := by decide +kernel
theorem dX1_init_36 : decode cX1_init 36 = .ok (.aload_n 0, 1) := by decide +kernel
theorem dX1_init_37 : decode cX1_init 37 = .ok (.bipush 6, 2) := by decide +kernel
theorem dX1_init_39 : decode cX1_init 39 = .ok (.newarray .int, 2) := by decide +kernel
theorem dX1_init_41 : decode cX1_init 41 = .ok (.putfield 24, 3) := by decide +kernel
theorem dX1_init_44 : decode cX1_init 44 = .ok (.aload_n 0, 1) := by decide +kernel
theorem dX1_init_45 : decode cX1_init 45 = .ok (.bipush 6, 2) := by decide +kernel
theorem dX1_init_47 : decode cX1_init 47 = .ok (.newarray .int, 2) := by decide +kernel
theorem dX1_init_49 : decode cX1_init 49 = .ok (.putfield 27, 3) := by decide +kernel
theorem dX1_init_52 : decode cX1_init 52 = .ok (.aload_n 0, 1) := by decide +kernel
theorem dX1_init_53 : decode cX1_init 53 = .ok (.bipush 6, 2) := by decide +kernel
theorem dX1_init_55 : decode cX1_init 55 = .ok (.newarray .int, 2) := by decide +kernel
theorem dX1_init_57 : decode cX1_init 57 = .ok (.putfield 30, 3) := by decide +kernel
theorem dX1_init_60 : decode cX1_init 60 = .ok (.aload_n 0, 1) := by decide +kernel
theorem dX1_init_61 : decode cX1_init 61 = .ok (.iconst 0, 1) := by decide +kernel
theorem dX1_init_62 : decode cX1_init 62 = .ok (.putfield 33, 3) := by decide +kernel
theorem dX1_init_65 : decode cX1_init 65 = .ok (.aload_n 0, 1) := by decide +kernel
theorem dX1_init_66 : decode cX1_init 66 = .ok (.iconst 0, 1) := by decide +kernel
theorem dX1_init_67 : decode cX1_init 67 = .ok (.putfield 37, 3) := by decide +kernel
theorem dX1_init_70 : decode cX1_init 70 = .ok (.aload_n 0, 1) := by decide +kernel
theorem dX1_init_71 : decode cX1_init 71 = .ok (.iconst 0, 1) := by decide +kernel
theorem dX1_init_72 : decode cX1_init 72 = .ok (.putfield 40, 3) := by decide +kernel
theorem dX1_init_75 : decode cX1_init 75 = .ok (.aload_n 0, 1) := by decide +kernel
theorem dX1_init_76 : decode cX1_init 76 = .ok (.iconst 0, 1) := by decide +kernel
theorem dX1_init_77 : decode cX1_init 77 = .ok (.putfield 43, 3) := by decide +kernel
theorem dX1_init_80 : decode cX1_init 80 = .ok (.return_, 1) := by decide +kernel
theorem dX1_hasJob_0 : decode cX1_hasJob 0 = .ok (.iload_n 1, 1) := by decide +kernel
theorem dX1_hasJob_1 : decode cX1_hasJob 1 = .ok (.ifCond .lt 15, 3) := by decide +kernel
theorem dX1_hasJob_4 : decode cX1_hasJob 4 = .ok (.iload_n 1, 1) := by decide +kernel
theorem dX1_hasJob_5 : decode cX1_hasJob 5 = .ok (.aload_n 0, 1) := by decide +kernel
theorem dX1_hasJob_6 : decode cX1_hasJob 6 = .ok (.getfield 33, 3) := by decide +kernel
theorem dX1_hasJob_9 : decode cX1_hasJob 9 = .ok (.if_icmp .ge 7, 3) := by decide +kernel
theorem dX1_hasJob_12 : decode cX1_hasJob 12 = .ok (.iconst 1, 1) := by decide +kernel
theorem dX1_hasJob_13 : decode cX1_hasJob 13 = .ok (.goto 4, 3) := by decide +kernel
theorem dX1_hasJob_16 : decode cX1_hasJob 16 = .ok (.iconst 0, 1) := by decide +kernel
theorem dX1_hasJob_17 : decode cX1_hasJob 17 = .ok (.ireturn, 1) := by decide +kernel
theorem dX1_hasTaker_0 : decode cX1_hasTaker 0 = .ok (.iload_n 1, 1) := by decide +kernel
theorem dX1_hasTaker_1 : decode cX1_hasTaker 1 = .ok (.ifCond .lt 15, 3) := by decide +kernel
theorem dX1_hasTaker_4 : decode cX1_hasTaker 4 = .ok (.iload_n 1, 1) := by decide +kernel
theorem dX1_hasTaker_5 : decode cX1_hasTaker 5 = .ok (.aload_n 0, 1) := by decide +kernel
theorem dX1_hasTaker_6 : decode cX1_hasTaker 6 = .ok (.getfield 37, 3) := by decide +kernel
theorem dX1_hasTaker_9 : decode cX1_hasTaker 9 = .ok (.if_icmp .ge 7, 3) := by decide +kernel
theorem dX1_hasTaker_12 : decode cX1_hasTaker 12 = .ok (.iconst 1, 1) := by decide +kernel
theorem dX1_hasTaker_13 : decode cX1_hasTaker 13 = .ok (.goto 4, 3) := by decide +kernel
theorem dX1_hasTaker_16 : decode cX1_hasTaker 16 = .ok (.iconst 0, 1) := by decide +kernel
theorem dX1_hasTaker_17 : decode cX1_hasTaker 17 = .ok (.ireturn, 1) := by decide +kernel
theorem dX1_hasSheet_0 : decode cX1_hasSheet 0 = .ok (.iload_n 1, 1) := by decide +kernel
theorem dX1_hasSheet_1 : decode cX1_hasSheet 1 = .ok (.ifCond .lt 14, 3) := by decide +kernel
theorem dX1_hasSheet_4 : decode cX1_hasSheet 4 = .ok (.aload_n 0, 1) := by decide +kernel
theorem dX1_hasSheet_5 : decode cX1_hasSheet 5 = .ok (.iload_n 1, 1) := by decide +kernel
theorem dX1_hasSheet_6 : decode cX1_hasSheet 6 = .ok (.bipush 10, 2) := by decide +kernel
theorem dX1_hasSheet_8 : decode cX1_hasSheet 8 = .ok (.idiv, 1) := by decide +kernel
theorem dX1_hasSheet_9 : decode cX1_hasSheet 9 = .ok (.invokevirtual 46, 3) := by decide +kernel
theorem dX1_hasSheet_12 : decode cX1_hasSheet 12 = .ok (.ifCond .ne 5, 3) := by decide +kernel
theorem dX1_hasSheet_15 : decode cX1_hasSheet 15 = .ok (.iconst 0, 1) := by decide +kernel
theorem dX1_hasSheet_16 : decode cX1_hasSheet 16 = .ok (.ireturn, 1) := by decide +kernel
theorem dX1_hasSheet_17 : decode cX1_hasSheet 17 = .ok (.iload_n 1, 1) := by decide +kernel
theorem dX1_hasSheet_18 : decode cX1_hasSheet 18 = .ok (.bipush 10, 2) := by decide +kernel
theorem dX1_hasSheet_20 : decode cX1_hasSheet 20 = .ok (.irem, 1) := by decide +kernel
theorem dX1_hasSheet_21 : decode cX1_hasSheet 21 = .ok (.istore_n 2, 1) := by decide +kernel
theorem dX1_hasSheet_22 : decode cX1_hasSheet 22 = .ok (.iload_n 2, 1) := by decide +kernel
theorem dX1_hasSheet_23 : decode cX1_hasSheet 23 = .ok (.iconst 1, 1) := by decide +kernel
theorem dX1_hasSheet_24 : decode cX1_hasSheet 24 = .ok (.if_icmp .lt 20, 3) := by decide +kernel
theorem dX1_hasSheet_27 : decode cX1_hasSheet 27 = .ok (.iload_n 2, 1) := by decide +kernel
theorem dX1_hasSheet_28 : decode cX1_hasSheet 28 = .ok (.aload_n 0, 1) := by decide +kernel
theorem dX1_hasSheet_29 : decode cX1_hasSheet 29 = .ok (.getfield 15, 3) := by decide +kernel
theorem dX1_hasSheet_32 : decode cX1_hasSheet 32 = .ok (.iload_n 1, 1) := by decide +kernel
theorem dX1_hasSheet_33 : decode cX1_hasSheet 33 = .ok (.bipush 10, 2) := by decide +kernel
theorem dX1_hasSheet_35 : decode cX1_hasSheet 35 = .ok (.idiv, 1) := by decide +kernel
theorem dX1_hasSheet_36 : decode cX1_hasSheet 36 = .ok (.iaload, 1) := by decide +kernel
theorem dX1_hasSheet_37 : decode cX1_hasSheet 37 = .ok (.if_icmp .gt 7, 3) := by decide +kernel
theorem dX1_hasSheet_40 : decode cX1_hasSheet 40 = .ok (.iconst 1, 1) := by decide +kernel
theorem dX1_hasSheet_41 : decode cX1_hasSheet 41 = .ok (.goto 4, 3) := by decide +kernel
theorem dX1_hasSheet_44 : decode cX1_hasSheet 44 = .ok (.iconst 0, 1) := by decide +kernel
theorem dX1_hasSheet_45 : decode cX1_hasSheet 45 = .ok (.ireturn, 1) := by decide +kernel
theorem dX1_isOf_0 : decode cX1_isOf 0 = .ok (.aload_n 0, 1) := by decide +kernel
theorem dX1_isOf_1 : decode cX1_isOf 1 = .ok (.iload_n 1, 1) := by decide +kernel
theorem dX1_isOf_2 : decode cX1_isOf 2 = .ok (.invokevirtual 50, 3) := by decide +kernel
theorem dX1_isOf_5 : decode cX1_isOf 5 = .ok (.ifCond .eq 20, 3) := by decide +kernel
theorem dX1_isOf_8 : decode cX1_isOf 8 = .ok (.aload_n 0, 1) := by decide +kernel
theorem dX1_isOf_9 : decode cX1_isOf 9 = .ok (.getfield 9, 3) := by decide +kernel
theorem dX1_isOf_12 : decode cX1_isOf 12 = .ok (.iload_n 1, 1) := by decide +kernel
theorem dX1_isOf_13 : decode cX1_isOf 13 = .ok (.bipush 10, 2) := by decide +kernel
theorem dX1_isOf_15 : decode cX1_isOf 15 = .ok (.idiv, 1) := by decide +kernel
theorem dX1_isOf_16 : decode cX1_isOf 16 = .ok (.iaload, 1) := by decide +kernel
theorem dX1_isOf_17 : decode cX1_isOf 17 = .ok (.iload_n 2, 1) := by decide +kernel
theorem dX1_isOf_18 : decode cX1_isOf 18 = .ok (.if_icmp .ne 7, 3) := by decide +kernel
theorem dX1_isOf_21 : decode cX1_isOf 21 = .ok (.iconst 1, 1) := by decide +kernel
theorem dX1_isOf_22 : decode cX1_isOf 22 = .ok (.goto 4, 3) := by decide +kernel
theorem dX1_isOf_25 : decode cX1_isOf 25 = .ok (.iconst 0, 1) := by decide +kernel
theorem dX1_isOf_26 : decode cX1_isOf 26 = .ok (.ireturn, 1) := by decide +kernel
theorem dX1_addJob_0 : decode cX1_addJob 0 = .ok (.iload_n 1, 1) := by decide +kernel
theorem dX1_addJob_1 : decode cX1_addJob 1 = .ok (.invokestatic 53, 3) := by decide +kernel
theorem dX1_addJob_4 : decode cX1_addJob 4 = .ok (.ifCond .eq 28, 3) := by decide +kernel
theorem dX1_addJob_7 : decode cX1_addJob 7 = .ok (.iload_n 2, 1) := by decide +kernel
theorem dX1_addJob_8 : decode cX1_addJob 8 = .ok (.iconst 1, 1) := by decide +kernel
theorem dX1_addJob_9 : decode cX1_addJob 9 = .ok (.if_icmp .lt 23, 3) := by decide +kernel
theorem dX1_addJob_12 : decode cX1_addJob 12 = .ok (.iload_n 2, 1) := by decide +kernel
theorem dX1_addJob_13 : decode cX1_addJob 13 = .ok (.bipush 9, 2) := by decide +kernel
theorem dX1_addJob_15 : decode cX1_addJob 15 = .ok (.if_icmp .gt 17, 3) := by decide +kernel
theorem dX1_addJob_18 : decode cX1_addJob 18 = .ok (.iload_n 3, 1) := by decide +kernel
theorem dX1_addJob_19 : decode cX1_addJob 19 = .ok (.ifCond .lt 13, 3) := by decide +kernel
theorem dX1_addJob_22 : decode cX1_addJob 22 = .ok (.iload_n 3, 1) := by decide +kernel
theorem dX1_addJob_23 : decode cX1_addJob 23 = .ok (.bipush 60, 2) := by decide +kernel
theorem dX1_addJob_25 : decode cX1_addJob 25 = .ok (.if_icmp .ge 7, 3) := by decide +kernel
theorem dX1_addJob_28 : decode cX1_addJob 28 = .ok (.iconst 1, 1) := by decide +kernel
theorem dX1_addJob_29 : decode cX1_addJob 29 = .ok (.goto 4, 3) := by decide +kernel
theorem dX1_addJob_32 : decode cX1_addJob 32 = .ok (.iconst 0, 1) := by decide +kernel
theorem dX1_addJob_33 : decode cX1_addJob 33 = .ok (.istore 4, 2) := by decide +kernel
theorem dX1_addJob_35 : decode cX1_addJob 35 = .ok (.iload 4, 2) := by decide +kernel
theorem dX1_addJob_37 : decode cX1_addJob 37 = .ok (.ifCond .eq 12, 3) := by decide +kernel
theorem dX1_addJob_40 : decode cX1_addJob 40 = .ok (.aload_n 0, 1) := by decide +kernel
theorem dX1_addJob_41 : decode cX1_addJob 41 = .ok (.getfield 33, 3) := by decide +kernel
theorem dX1_addJob_44 : decode cX1_addJob 44 = .ok (.bipush 6, 2) := by decide +kernel
theorem dX1_addJob_46 : decode cX1_addJob 46 = .ok (.if_icmp .lt 5, 3) := by decide +kernel
theorem dX1_addJob_49 : decode cX1_addJob 49 = .ok (.iconst 0, 1) := by decide +kernel
theorem dX1_addJob_50 : decode cX1_addJob 50 = .ok (.ireturn, 1) := by decide +kernel
theorem dX1_addJob_51 : decode cX1_addJob 51 = .ok (.aload_n 0, 1) := by decide +kernel
theorem dX1_addJob_52 : decode cX1_addJob 52 = .ok (.getfield 9, 3) := by decide +kernel
theorem dX1_addJob_55 : decode cX1_addJob 55 = .ok (.aload_n 0, 1) := by decide +kernel
theorem dX1_addJob_56 : decode cX1_addJob 56 = .ok (.getfield 33, 3) := by decide +kernel
theorem dX1_addJob_59 : decode cX1_addJob 59 = .ok (.iload_n 1, 1) := by decide +kernel
theorem dX1_addJob_60 : decode cX1_addJob 60 = .ok (.iastore, 1) := by decide +kernel
theorem dX1_addJob_61 : decode cX1_addJob 61 = .ok (.aload_n 0, 1) := by decide +kernel
theorem dX1_addJob_62 : decode cX1_addJob 62 = .ok (.getfield 15, 3) := by decide +kernel
theorem dX1_addJob_65 : decode cX1_addJob 65 = .ok (.aload_n 0, 1) := by decide +kernel
theorem dX1_addJob_66 : decode cX1_addJob 66 = .ok (.getfield 33, 3) := by decide +kernel
theorem dX1_addJob_69 : decode cX1_addJob 69 = .ok (.iload_n 2, 1) := by decide +kernel
theorem dX1_addJob_70 : decode cX1_addJob 70 = .ok (.iastore, 1) := by decide +kernel
theorem dX1_addJob_71 : decode cX1_addJob 71 = .ok (.aload_n 0, 1) := by decide +kernel
theorem dX1_addJob_72 : decode cX1_addJob 72 = .ok (.getfield 18, 3) := by decide +kernel
theorem dX1_addJob_75 : decode cX1_addJob 75 = .ok (.aload_n 0, 1) := by decide +kernel
theorem dX1_addJob_76 : decode cX1_addJob 76 = .ok (.getfield 33, 3) := by decide +kernel
theorem dX1_addJob_79 : decode cX1_addJob 79 = .ok (.iload_n 3, 1) := by decide +kernel
theorem dX1_addJob_80 : decode cX1_addJob 80 = .ok (.iastore, 1) := by decide +kernel
theorem dX1_addJob_81 : decode cX1_addJob 81 = .ok (.aload_n 0, 1) := by decide +kernel
theorem dX1_addJob_82 : decode cX1_addJob 82 = .ok (.dup, 1) := by decide +kernel
theorem dX1_addJob_83 : decode cX1_addJob 83 = .ok (.getfield 33, 3) := by decide +kernel
theorem dX1_addJob_86 : decode cX1_addJob 86 = .ok (.iconst 1, 1) := by decide +kernel
theorem dX1_addJob_87 : decode cX1_addJob 87 = .ok (.iadd, 1) := by decide +kernel
theorem dX1_addJob_88 : decode cX1_addJob 88 = .ok (.putfield 33, 3) := by decide +kernel
theorem dX1_addJob_91 : decode cX1_addJob 91 = .ok (.iconst 1, 1) := by decide +kernel
theorem dX1_addJob_92 : decode cX1_addJob 92 = .ok (.ireturn, 1) := by decide +kernel
theorem dX1_addTaker_0 : decode cX1_addTaker 0 = .ok (.iload_n 2, 1) := by decide +kernel
theorem dX1_addTaker_1 : decode cX1_addTaker 1 = .ok (.invokestatic 53, 3) := by decide +kernel
theorem dX1_addTaker_4 : decode cX1_addTaker 4 = .ok (.ifCond .eq 19, 3) := by decide +kernel
theorem dX1_addTaker_7 : decode cX1_addTaker 7 = .ok (.iload 4, 2) := by decide +kernel
theorem dX1_addTaker_9 : decode cX1_addTaker 9 = .ok (.ifCond .lt 14, 3) := by decide +kernel
theorem dX1_addTaker_12 : decode cX1_addTaker 12 = .ok (.iload 4, 2) := by decide +kernel
theorem dX1_addTaker_14 : decode cX1_addTaker 14 = .ok (.bipush 100, 2) := by decide +kernel
theorem dX1_addTaker_16 : decode cX1_addTaker 16 = .ok (.if_icmp .ge 7, 3) := by decide +kernel
theorem dX1_addTaker_19 : decode cX1_addTaker 19 = .ok (.iconst 1, 1) := by decide +kernel
theorem dX1_addTaker_20 : decode cX1_addTaker 20 = .ok (.goto 4, 3) := by decide +kernel
theorem dX1_addTaker_23 : decode cX1_addTaker 23 = .ok (.iconst 0, 1) := by decide +kernel
theorem dX1_addTaker_24 : decode cX1_addTaker 24 = .ok (.istore 5, 2) := by decide +kernel
theorem dX1_addTaker_26 : decode cX1_addTaker 26 = .ok (.iload 5, 2) := by decide +kernel
theorem dX1_addTaker_28 : decode cX1_addTaker 28 = .ok (.ifCond .eq 12, 3) := by decide +kernel
theorem dX1_addTaker_31 : decode cX1_addTaker 31 = .ok (.aload_n 0, 1) := by decide +kernel
theorem dX1_addTaker_32 : decode cX1_addTaker 32 = .ok (.getfield 37, 3) := by decide +kernel
theorem dX1_addTaker_35 : decode cX1_addTaker 35 = .ok (.bipush 6, 2) := by decide +kernel
theorem dX1_addTaker_37 : decode cX1_addTaker 37 = .ok (.if_icmp .lt 5, 3) := by decide +kernel
theorem dX1_addTaker_40 : decode cX1_addTaker 40 = .ok (.iconst 0, 1) := by decide +kernel
theorem dX1_addTaker_41 : decode cX1_addTaker 41 = .ok (.ireturn, 1) := by decide +kernel
theorem dX1_addTaker_42 : decode cX1_addTaker 42 = .ok (.aload_n 0, 1) := by decide +kernel
theorem dX1_addTaker_43 : decode cX1_addTaker 43 = .ok (.getfield 21, 3) := by decide +kernel
theorem dX1_addTaker_46 : decode cX1_addTaker 46 = .ok (.aload_n 0, 1) := by decide +kernel
theorem dX1_addTaker_47 : decode cX1_addTaker 47 = .ok (.getfield 37, 3) := by decide +kernel
theorem dX1_addTaker_50 : decode cX1_addTaker 50 = .ok (.iload_n 1, 1) := by decide +kernel
theorem dX1_addTaker_51 : decode cX1_addTaker 51 = .ok (.iastore, 1) := by decide +kernel
theorem dX1_addTaker_52 : decode cX1_addTaker 52 = .ok (.aload_n 0, 1) := by decide +kernel
theorem dX1_addTaker_53 : decode cX1_addTaker 53 = .ok (.getfield 24, 3) := by decide +kernel
theorem dX1_addTaker_56 : decode cX1_addTaker 56 = .ok (.aload_n 0, 1) := by decide +kernel
theorem dX1_addTaker_57 : decode cX1_addTaker 57 = .ok (.getfield 37, 3) := by decide +kernel
theorem dX1_addTaker_60 : decode cX1_addTaker 60 = .ok (.iload_n 2, 1) := by decide +kernel
theorem dX1_addTaker_61 : decode cX1_addTaker 61 = .ok (.iastore, 1) := by decide +kernel
theorem dX1_addTaker_62 : decode cX1_addTaker 62 = .ok (.aload_n 0, 1) := by decide +kernel
theorem dX1_addTaker_63 : decode cX1_addTaker 63 = .ok (.getfield 27, 3) := by decide +kernel
theorem dX1_addTaker_66 : decode cX1_addTaker 66 = .ok (.aload_n 0, 1) := by decide +kernel
theorem dX1_addTaker_67 : decode cX1_addTaker 67 = .ok (.getfield 37, 3) := by decide +kernel
theorem dX1_addTaker_70 : decode cX1_addTaker 70 = .ok (.iload_n 3, 1) := by decide +kernel
theorem dX1_addTaker_71 : decode cX1_addTaker 71 = .ok (.iastore, 1) := by decide +kernel
theorem dX1_addTaker_72 : decode cX1_addTaker 72 = .ok (.aload_n 0, 1) := by decide +kernel
theorem dX1_addTaker_73 : decode cX1_addTaker 73 = .ok (.getfield 30, 3) := by decide +kernel
theorem dX1_addTaker_76 : decode cX1_addTaker 76 = .ok (.aload_n 0, 1) := by decide +kernel
theorem dX1_addTaker_77 : decode cX1_addTaker 77 = .ok (.getfield 37, 3) := by decide +kernel
theorem dX1_addTaker_80 : decode cX1_addTaker 80 = .ok (.iload 4, 2) := by decide +kernel
theorem dX1_addTaker_82 : decode cX1_addTaker 82 = .ok (.iastore, 1) := by decide +kernel
theorem dX1_addTaker_83 : decode cX1_addTaker 83 = .ok (.aload_n 0, 1) := by decide +kernel
theorem dX1_addTaker_84 : decode cX1_addTaker 84 = .ok (.dup, 1) := by decide +kernel
theorem dX1_addTaker_85 : decode cX1_addTaker 85 = .ok (.getfield 37, 3) := by decide +kernel
theorem dX1_addTaker_88 : decode cX1_addTaker 88 = .ok (.iconst 1, 1) := by decide +kernel
theorem dX1_addTaker_89 : decode cX1_addTaker 89 = .ok (.iadd, 1) := by decide +kernel
theorem dX1_addTaker_90 : decode cX1_addTaker 90 = .ok (.putfield 37, 3) := by decide +kernel
theorem dX1_addTaker_93 : decode cX1_addTaker 93 = .ok (.iconst 1, 1) := by decide +kernel
theorem dX1_addTaker_94 : decode cX1_addTaker 94 = .ok (.ireturn, 1) := by decide +kernel
theorem dX1_setMachine_0 : decode cX1_setMachine 0 = .ok (.aload_n 0, 1) := by decide +kernel
theorem dX1_setMachine_1 : decode cX1_setMachine 1 = .ok (.iload_n 1, 1) := by decide +kernel
theorem dX1_setMachine_2 : decode cX1_setMachine 2 = .ok (.putfield 40, 3) := by decide +kernel
theorem dX1_setMachine_5 : decode cX1_setMachine 5 = .ok (.aload_n 0, 1) := by decide +kernel
theorem dX1_setMachine_6 : decode cX1_setMachine 6 = .ok (.iload_n 2, 1) := by decide +kernel
theorem dX1_setMachine_7 : decode cX1_setMachine 7 = .ok (.putfield 43, 3) := by decide +kernel
theorem dX1_setMachine_10 : decode cX1_setMachine 10 = .ok (.return_, 1) := by decide +kernel
theorem dX1_allSheets_0 : decode cX1_allSheets 0 = .ok (.iconst 0, 1) := by decide +kernel
theorem dX1_allSheets_1 : decode cX1_allSheets 1 = .ok (.istore_n 1, 1) := by decide +kernel
theorem dX1_allSheets_2 : decode cX1_allSheets 2 = .ok (.iconst 0, 1) := by decide +kernel
theorem dX1_allSheets_3 : decode cX1_allSheets 3 = .ok (.istore_n 2, 1) := by decide +kernel
theorem dX1_allSheets_4 : decode cX1_allSheets 4 = .ok (.iload_n 2, 1) := by decide +kernel
theorem dX1_allSheets_5 : decode cX1_allSheets 5 = .ok (.aload_n 0, 1) := by decide +kernel
theorem dX1_allSheets_6 : decode cX1_allSheets 6 = .ok (.getfield 33, 3) := by decide +kernel
theorem dX1_allSheets_9 : decode cX1_allSheets 9 = .ok (.if_icmp .ge 18, 3) := by decide +kernel
theorem dX1_allSheets_12 : decode cX1_allSheets 12 = .ok (.iload_n 1, 1) := by decide +kernel
theorem dX1_allSheets_13 : decode cX1_allSheets 13 = .ok (.aload_n 0, 1) := by decide +kernel
theorem dX1_allSheets_14 : decode cX1_allSheets 14 = .ok (.getfield 15, 3) := by decide +kernel
theorem dX1_allSheets_17 : decode cX1_allSheets 17 = .ok (.iload_n 2, 1) := by decide +kernel
theorem dX1_allSheets_18 : decode cX1_allSheets 18 = .ok (.iaload, 1) := by decide +kernel
theorem dX1_allSheets_19 : decode cX1_allSheets 19 = .ok (.iadd, 1) := by decide +kernel
theorem dX1_allSheets_20 : decode cX1_allSheets 20 = .ok (.istore_n 1, 1) := by decide +kernel
theorem dX1_allSheets_21 : decode cX1_allSheets 21 = .ok (.iinc 2 1, 3) := by decide +kernel
theorem dX1_allSheets_24 : decode cX1_allSheets 24 = .ok (.goto (-20), 3) := by decide +kernel
theorem dX1_allSheets_27 : decode cX1_allSheets 27 = .ok (.iload_n 1, 1) := by decide +kernel
theorem dX1_allSheets_28 : decode cX1_allSheets 28 = .ok (.ireturn, 1) := by decide +kernel
theorem dX1_sheetsOf_0 : decode cX1_sheetsOf 0 = .ok (.iconst 0, 1) := by decide +kernel
theorem dX1_sheetsOf_1 : decode cX1_sheetsOf 1 = .ok (.istore_n 2, 1) := by decide +kernel
theorem dX1_sheetsOf_2 : decode cX1_sheetsOf 2 = .ok (.iconst 0, 1) := by decide +kernel
theorem dX1_sheetsOf_3 : decode cX1_sheetsOf 3 = .ok (.istore_n 3, 1) := by decide +kernel
theorem dX1_sheetsOf_4 : decode cX1_sheetsOf 4 = .ok (.iload_n 3, 1) := by decide +kernel
theorem dX1_sheetsOf_5 : decode cX1_sheetsOf 5 = .ok (.aload_n 0, 1) := by decide +kernel
theorem dX1_sheetsOf_6 : decode cX1_sheetsOf 6 = .ok (.getfield 33, 3) := by decide +kernel
theorem dX1_sheetsOf_9 : decode cX1_sheetsOf 9 = .ok (.if_icmp .ge 32, 3) := by decide +kernel
theorem dX1_sheetsOf_12 : decode cX1_sheetsOf 12 = .ok (.iload_n 2, 1) := by decide +kernel
theorem dX1_sheetsOf_13 : decode cX1_sheetsOf 13 = .ok (.aload_n 0, 1) := by decide +kernel
theorem dX1_sheetsOf_14 : decode cX1_sheetsOf 14 = .ok (.getfield 9, 3) := by decide +kernel
theorem dX1_sheetsOf_17 : decode cX1_sheetsOf 17 = .ok (.iload_n 3, 1) := by decide +kernel
theorem dX1_sheetsOf_18 : decode cX1_sheetsOf 18 = .ok (.iaload, 1) := by decide +kernel
theorem dX1_sheetsOf_19 : decode cX1_sheetsOf 19 = .ok (.iload_n 1, 1) := by decide +kernel
theorem dX1_sheetsOf_20 : decode cX1_sheetsOf 20 = .ok (.if_icmp .ne 12, 3) := by decide +kernel
theorem dX1_sheetsOf_23 : decode cX1_sheetsOf 23 = .ok (.aload_n 0, 1) := by decide +kernel
theorem dX1_sheetsOf_24 : decode cX1_sheetsOf 24 = .ok (.getfield 15, 3) := by decide +kernel
theorem dX1_sheetsOf_27 : decode cX1_sheetsOf 27 = .ok (.iload_n 3, 1) := by decide +kernel
theorem dX1_sheetsOf_28 : decode cX1_sheetsOf 28 = .ok (.iaload, 1) := by decide +kernel
theorem dX1_sheetsOf_29 : decode cX1_sheetsOf 29 = .ok (.goto 4, 3) := by decide +kernel
theorem dX1_sheetsOf_32 : decode cX1_sheetsOf 32 = .ok (.iconst 0, 1) := by decide +kernel
theorem dX1_sheetsOf_33 : decode cX1_sheetsOf 33 = .ok (.iadd, 1) := by decide +kernel
theorem dX1_sheetsOf_34 : decode cX1_sheetsOf 34 = .ok (.istore_n 2, 1) := by decide +kernel
theorem dX1_sheetsOf_35 : decode cX1_sheetsOf 35 = .ok (.iinc 3 1, 3) := by decide +kernel
theorem dX1_sheetsOf_38 : decode cX1_sheetsOf 38 = .ok (.goto (-34), 3) := by decide +kernel
theorem dX1_sheetsOf_41 : decode cX1_sheetsOf 41 = .ok (.iload_n 2, 1) := by decide +kernel
theorem dX1_sheetsOf_42 : decode cX1_sheetsOf 42 = .ok (.ireturn, 1) := by decide +kernel
theorem dX1_jobsOf_0 : decode cX1_jobsOf 0 = .ok (.iconst 0, 1) := by decide +kernel
theorem dX1_jobsOf_1 : decode cX1_jobsOf 1 = .ok (.istore_n 2, 1) := by decide +kernel
theorem dX1_jobsOf_2 : decode cX1_jobsOf 2 = .ok (.iconst 0, 1) := by decide +kernel
theorem dX1_jobsOf_3 : decode cX1_jobsOf 3 = .ok (.istore_n 3, 1) := by decide +kernel
theorem dX1_jobsOf_4 : decode cX1_jobsOf 4 = .ok (.iload_n 3, 1) := by decide +kernel
theorem dX1_jobsOf_5 : decode cX1_jobsOf 5 = .ok (.aload_n 0, 1) := by decide +kernel
theorem dX1_jobsOf_6 : decode cX1_jobsOf 6 = .ok (.getfield 33, 3) := by decide +kernel
theorem dX1_jobsOf_9 : decode cX1_jobsOf 9 = .ok (.if_icmp .ge 29, 3) := by decide +kernel
theorem dX1_jobsOf_12 : decode cX1_jobsOf 12 = .ok (.iload_n 2, 1) := by decide +kernel
theorem dX1_jobsOf_13 : decode cX1_jobsOf 13 = .ok (.aload_n 0, 1) := by decide +kernel
theorem dX1_jobsOf_14 : decode cX1_jobsOf 14 = .ok (.getfield 9, 3) := by decide +kernel
theorem dX1_jobsOf_17 : decode cX1_jobsOf 17 = .ok (.iload_n 3, 1) := by decide +kernel
theorem dX1_jobsOf_18 : decode cX1_jobsOf 18 = .ok (.iaload, 1) := by decide +kernel
theorem dX1_jobsOf_19 : decode cX1_jobsOf 19 = .ok (.iload_n 1, 1) := by decide +kernel
theorem dX1_jobsOf_20 : decode cX1_jobsOf 20 = .ok (.if_icmp .ne 9, 3) := by decide +kernel
theorem dX1_jobsOf_23 : decode cX1_jobsOf 23 = .ok (.iconst 1, 1) := by decide +kernel
theorem dX1_jobsOf_24 : decode cX1_jobsOf 24 = .ok (.iload_n 3, 1) := by decide +kernel
theorem dX1_jobsOf_25 : decode cX1_jobsOf 25 = .ok (.ishl, 1) := by decide +kernel
theorem dX1_jobsOf_26 : decode cX1_jobsOf 26 = .ok (.goto 4, 3) := by decide +kernel
theorem dX1_jobsOf_29 : decode cX1_jobsOf 29 = .ok (.iconst 0, 1) := by decide +kernel
theorem dX1_jobsOf_30 : decode cX1_jobsOf 30 = .ok (.ior, 1) := by decide +kernel
theorem dX1_jobsOf_31 : decode cX1_jobsOf 31 = .ok (.istore_n 2, 1) := by decide +kernel
theorem dX1_jobsOf_32 : decode cX1_jobsOf 32 = .ok (.iinc 3 1, 3) := by decide +kernel
theorem dX1_jobsOf_35 : decode cX1_jobsOf 35 = .ok (.goto (-31), 3) := by decide +kernel
theorem dX1_jobsOf_38 : decode cX1_jobsOf 38 = .ok (.iload_n 2, 1) := by decide +kernel
theorem dX1_jobsOf_39 : decode cX1_jobsOf 39 = .ok (.ireturn, 1) := by decide +kernel
theorem dX1_copyFrom_0 : decode cX1_copyFrom 0 = .ok (.aload_n 1, 1) := by decide +kernel
theorem dX1_copyFrom_1 : decode cX1_copyFrom 1 = .ok (.getfield 9, 3) := by decide +kernel
theorem dX1_copyFrom_4 : decode cX1_copyFrom 4 = .ok (.iconst 0, 1) := by decide +kernel
theorem dX1_copyFrom_5 : decode cX1_copyFrom 5 = .ok (.aload_n 0, 1) := by decide +kernel
theorem dX1_copyFrom_6 : decode cX1_copyFrom 6 = .ok (.getfield 9, 3) := by decide +kernel
theorem dX1_copyFrom_9 : decode cX1_copyFrom 9 = .ok (.iconst 0, 1) := by decide +kernel
theorem dX1_copyFrom_10 : decode cX1_copyFrom 10 = .ok (.bipush 6, 2) := by decide +kernel
theorem dX1_copyFrom_12 : decode cX1_copyFrom 12 = .ok (.invokestatic 56, 3) := by decide +kernel
theorem dX1_copyFrom_15 : decode cX1_copyFrom 15 = .ok (.aload_n 1, 1) := by decide +kernel
theorem dX1_copyFrom_16 : decode cX1_copyFrom 16 = .ok (.getfield 15, 3) := by decide +kernel
theorem dX1_copyFrom_19 : decode cX1_copyFrom 19 = .ok (.iconst 0, 1) := by decide +kernel
theorem dX1_copyFrom_20 : decode cX1_copyFrom 20 = .ok (.aload_n 0, 1) := by decide +kernel
theorem dX1_copyFrom_21 : decode cX1_copyFrom 21 = .ok (.getfield 15, 3) := by decide +kernel
theorem dX1_copyFrom_24 : decode cX1_copyFrom 24 = .ok (.iconst 0, 1) := by decide +kernel
theorem dX1_copyFrom_25 : decode cX1_copyFrom 25 = .ok (.bipush 6, 2) := by decide +kernel
theorem dX1_copyFrom_27 : decode cX1_copyFrom 27 = .ok (.invokestatic 56, 3) := by decide +kernel
theorem dX1_copyFrom_30 : decode cX1_copyFrom 30 = .ok (.aload_n 1, 1) := by decide +kernel
theorem dX1_copyFrom_31 : decode cX1_copyFrom 31 = .ok (.getfield 18, 3) := by decide +kernel
theorem dX1_copyFrom_34 : decode cX1_copyFrom 34 = .ok (.iconst 0, 1) := by decide +kernel
theorem dX1_copyFrom_35 : decode cX1_copyFrom 35 = .ok (.aload_n 0, 1) := by decide +kernel
theorem dX1_copyFrom_36 : decode cX1_copyFrom 36 = .ok (.getfield 18, 3) := by decide +kernel
theorem dX1_copyFrom_39 : decode cX1_copyFrom 39 = .ok (.iconst 0, 1) := by decide +kernel
theorem dX1_copyFrom_40 : decode cX1_copyFrom 40 = .ok (.bipush 6, 2) := by decide +kernel
theorem dX1_copyFrom_42 : decode cX1_copyFrom 42 = .ok (.invokestatic 56, 3) := by decide +kernel
theorem dX1_copyFrom_45 : decode cX1_copyFrom 45 = .ok (.aload_n 1, 1) := by decide +kernel
theorem dX1_copyFrom_46 : decode cX1_copyFrom 46 = .ok (.getfield 21, 3) := by decide +kernel
theorem dX1_copyFrom_49 : decode cX1_copyFrom 49 = .ok (.iconst 0, 1) := by decide +kernel
theorem dX1_copyFrom_50 : decode cX1_copyFrom 50 = .ok (.aload_n 0, 1) := by decide +kernel
theorem dX1_copyFrom_51 : decode cX1_copyFrom 51 = .ok (.getfield 21, 3) := by decide +kernel
theorem dX1_copyFrom_54 : decode cX1_copyFrom 54 = .ok (.iconst 0, 1) := by decide +kernel
theorem dX1_copyFrom_55 : decode cX1_copyFrom 55 = .ok (.bipush 6, 2) := by decide +kernel
theorem dX1_copyFrom_57 : decode cX1_copyFrom 57 = .ok (.invokestatic 56, 3) := by decide +kernel
theorem dX1_copyFrom_60 : decode cX1_copyFrom 60 = .ok (.aload_n 1, 1) := by decide +kernel
theorem dX1_copyFrom_61 : decode cX1_copyFrom 61 = .ok (.getfield 24, 3) := by decide +kernel
theorem dX1_copyFrom_64 : decode cX1_copyFrom 64 = .ok (.iconst 0, 1) := by decide +kernel
theorem dX1_copyFrom_65 : decode cX1_copyFrom 65 = .ok (.aload_n 0, 1) := by decide +kernel
theorem dX1_copyFrom_66 : decode cX1_copyFrom 66 = .ok (.getfield 24, 3) := by decide +kernel
theorem dX1_copyFrom_69 : decode cX1_copyFrom 69 = .ok (.iconst 0, 1) := by decide +kernel
theorem dX1_copyFrom_70 : decode cX1_copyFrom 70 = .ok (.bipush 6, 2) := by decide +kernel
theorem dX1_copyFrom_72 : decode cX1_copyFrom 72 = .ok (.invokestatic 56, 3) := by decide +kernel
theorem dX1_copyFrom_75 : decode cX1_copyFrom 75 = .ok (.aload_n 1, 1) := by decide +kernel
theorem dX1_copyFrom_76 : decode cX1_copyFrom 76 = .ok (.getfield 27, 3) := by decide +kernel
theorem dX1_copyFrom_79 : decode cX1_copyFrom 79 = .ok (.iconst 0, 1) := by decide +kernel
theorem dX1_copyFrom_80 : decode cX1_copyFrom 80 = .ok (.aload_n 0, 1) := by decide +kernel
theorem dX1_copyFrom_81 : decode cX1_copyFrom 81 = .ok (.getfield 27, 3) := by decide +kernel
theorem dX1_copyFrom_84 : decode cX1_copyFrom 84 = .ok (.iconst 0, 1) := by decide +kernel
theorem dX1_copyFrom_85 : decode cX1_copyFrom 85 = .ok (.bipush 6, 2) := by decide +kernel
theorem dX1_copyFrom_87 : decode cX1_copyFrom 87 = .ok (.invokestatic 56, 3) := by decide +kernel
theorem dX1_copyFrom_90 : decode cX1_copyFrom 90 = .ok (.aload_n 1, 1) := by decide +kernel
theorem dX1_copyFrom_91 : decode cX1_copyFrom 91 = .ok (.getfield 30, 3) := by decide +kernel
theorem dX1_copyFrom_94 : decode cX1_copyFrom 94 = .ok (.iconst 0, 1) := by decide +kernel
theorem dX1_copyFrom_95 : decode cX1_copyFrom 95 = .ok (.aload_n 0, 1) := by decide +kernel
theorem dX1_copyFrom_96 : decode cX1_copyFrom 96 = .ok (.getfield 30, 3) := by decide +kernel
theorem dX1_copyFrom_99 : decode cX1_copyFrom 99 = .ok (.iconst 0, 1) := by decide +kernel
theorem dX1_copyFrom_100 : decode cX1_copyFrom 100 = .ok (.bipush 6, 2) := by decide +kernel
theorem dX1_copyFrom_102 : decode cX1_copyFrom 102 = .ok (.invokestatic 56, 3) := by decide +kernel
theorem dX1_copyFrom_105 : decode cX1_copyFrom 105 = .ok (.aload_n 0, 1) := by decide +kernel
theorem dX1_copyFrom_106 : decode cX1_copyFrom 106 = .ok (.aload_n 1, 1) := by decide +kernel
theorem dX1_copyFrom_107 : decode cX1_copyFrom 107 = .ok (.getfield 33, 3) := by decide +kernel
theorem dX1_copyFrom_110 : decode cX1_copyFrom 110 = .ok (.putfield 33, 3) := by decide +kernel
theorem dX1_copyFrom_113 : decode cX1_copyFrom 113 = .ok (.aload_n 0, 1) := by decide +kernel
theorem dX1_copyFrom_114 : decode cX1_copyFrom 114 = .ok (.aload_n 1, 1) := by decide +kernel
theorem dX1_copyFrom_115 : decode cX1_copyFrom 115 = .ok (.getfield 37, 3) := by decide +kernel
theorem dX1_copyFrom_118 : decode cX1_copyFrom 118 = .ok (.putfield 37, 3) := by decide +kernel
theorem dX1_copyFrom_121 : decode cX1_copyFrom 121 = .ok (.aload_n 0, 1) := by decide +kernel
theorem dX1_copyFrom_122 : decode cX1_copyFrom 122 = .ok (.aload_n 1, 1) := by decide +kernel
theorem dX1_copyFrom_123 : decode cX1_copyFrom 123 = .ok (.getfield 40, 3) := by decide +kernel
theorem dX1_copyFrom_126 : decode cX1_copyFrom 126 = .ok (.putfield 40, 3) := by decide +kernel
theorem dX1_copyFrom_129 : decode cX1_copyFrom 129 = .ok (.aload_n 0, 1) := by decide +kernel
theorem dX1_copyFrom_130 : decode cX1_copyFrom 130 = .ok (.aload_n 1, 1) := by decide +kernel
theorem dX1_copyFrom_131 : decode cX1_copyFrom 131 = .ok (.getfield 43, 3) := by decide +kernel
theorem dX1_copyFrom_134 : decode cX1_copyFrom 134 = .ok (.putfield 43, 3) := by decide +kernel
theorem dX1_copyFrom_137 : decode cX1_copyFrom 137 = .ok (.return_, 1) := by decide +kernel
theorem dX2_init_0 : decode cX2_init 0 = .ok (.aload_n 0, 1) := by decide +kernel
theorem dX2_init_1 : decode cX2_init 1 = .ok (.invokespecial 3, 3) := by decide +kernel
theorem dX2_init_4 : decode cX2_init 4 = .ok (.aload_n 0, 1) := by decide +kernel
theorem dX2_init_5 : decode cX2_init 5 = .ok (.bipush 6, 2) := by decide +kernel
theorem dX2_init_7 : decode cX2_init 7 = .ok (.newarray .int, 2) := by decide +kernel
theorem dX2_init_9 : decode cX2_init 9 = .ok (.putfield 9, 3) := by decide +kernel
theorem dX2_init_12 : decode cX2_init 12 = .ok (.aload_n 0, 1) := by decide +kernel
theorem dX2_init_13 : decode cX2_init 13 = .ok (.iconst 0, 1) := by decide +kernel
theorem dX2_init_14 : decode cX2_init 14 = .ok (.putfield 15, 3) := by decide +kernel
theorem dX2_init_17 : decode cX2_init 17 = .ok (.aload_n 0, 1) := by decide +kernel
theorem dX2_init_18 : decode cX2_init 18 = .ok (.bipush (-9), 2) := by decide +kernel
theorem dX2_init_20 : decode cX2_init 20 = .ok (.putfield 19, 3) := by decide +kernel
theorem dX2_init_23 : decode cX2_init 23 = .ok (.aload_n 0, 1) := by decide +kernel
theorem dX2_init_24 : decode cX2_init 24 = .ok (.iconst 0, 1) := by decide +kernel
theorem dX2_init_25 : decode cX2_init 25 = .ok (.putfield 22, 3) := by decide +kernel
theorem dX2_init_28 : decode cX2_init 28 = .ok (.aload_n 0, 1) := by decide +kernel
theorem dX2_init_29 : decode cX2_init 29 = .ok (.iconst 0, 1) := by decide +kernel
theorem dX2_init_30 : decode cX2_init 30 = .ok (.putfield 25, 3) := by decide +kernel
theorem dX2_init_33 : decode cX2_init 33 = .ok (.return_, 1) := by decide +kernel
theorem dX2_begin_0 : decode cX2_begin 0 = .ok (.iconst 0, 1) := by decide +kernel
theorem dX2_begin_1 : decode cX2_begin 1 = .ok (.istore_n 2, 1) := by decide +kernel
theorem dX2_begin_2 : decode cX2_begin 2 = .ok (.iload_n 2, 1) := by decide +kernel
theorem dX2_begin_3 : decode cX2_begin 3 = .ok (.aload_n 1, 1) := by decide +kernel
theorem dX2_begin_4 : decode cX2_begin 4 = .ok (.getfield 28, 3) := by decide +kernel
theorem dX2_begin_7 : decode cX2_begin 7 = .ok (.if_icmp .ge 21, 3) := by decide +kernel
theorem dX2_begin_10 : decode cX2_begin 10 = .ok (.aload_n 0, 1) := by decide +kernel
theorem dX2_begin_11 : decode cX2_begin 11 = .ok (.getfield 9, 3) := by decide +kernel
theorem dX2_begin_14 : decode cX2_begin 14 = .ok (.iload_n 2, 1) := by decide +kernel
theorem dX2_begin_15 : decode cX2_begin 15 = .ok (.aload_n 1, 1) := by decide +kernel
theorem dX2_begin_16 : decode cX2_begin 16 = .ok (.getfield 33, 3) := by decide +kernel
theorem dX2_begin_19 : decode cX2_begin 19 = .ok (.iload_n 2, 1) := by decide +kernel
theorem dX2_begin_20 : decode cX2_begin 20 = .ok (.iaload, 1) := by decide +kernel
theorem dX2_begin_21 : decode cX2_begin 21 = .ok (.iastore, 1) := by decide +kernel
theorem dX2_begin_22 : decode cX2_begin 22 = .ok (.iinc 2 1, 3) := by decide +kernel
theorem dX2_begin_25 : decode cX2_begin 25 = .ok (.goto (-23), 3) := by decide +kernel
theorem dX2_begin_28 : decode cX2_begin 28 = .ok (.aload_n 0, 1) := by decide +kernel
theorem dX2_begin_29 : decode cX2_begin 29 = .ok (.aload_n 1, 1) := by decide +kernel
theorem dX2_begin_30 : decode cX2_begin 30 = .ok (.invokevirtual 36, 3) := by decide +kernel
theorem dX2_begin_33 : decode cX2_begin 33 = .ok (.putfield 15, 3) := by decide +kernel
theorem dX2_begin_36 : decode cX2_begin 36 = .ok (.aload_n 0, 1) := by decide +kernel
theorem dX2_begin_37 : decode cX2_begin 37 = .ok (.bipush (-9), 2) := by decide +kernel
theorem dX2_begin_39 : decode cX2_begin 39 = .ok (.putfield 19, 3) := by decide +kernel
theorem dX2_begin_42 : decode cX2_begin 42 = .ok (.aload_n 0, 1) := by decide +kernel
theorem dX2_begin_43 : decode cX2_begin 43 = .ok (.iconst 0, 1) := by decide +kernel
theorem dX2_begin_44 : decode cX2_begin 44 = .ok (.putfield 22, 3) := by decide +kernel
theorem dX2_begin_47 : decode cX2_begin 47 = .ok (.aload_n 0, 1) := by decide +kernel
theorem dX2_begin_48 : decode cX2_begin 48 = .ok (.iconst 0, 1) := by decide +kernel
theorem dX2_begin_49 : decode cX2_begin 49 = .ok (.putfield 25, 3) := by decide +kernel
theorem dX2_begin_52 : decode cX2_begin 52 = .ok (.return_, 1) := by decide +kernel
theorem dX2_putOut_0 : decode cX2_putOut 0 = .ok (.aload_n 1, 1) := by decide +kernel
theorem dX2_putOut_1 : decode cX2_putOut 1 = .ok (.getfield 40, 3) := by decide +kernel
theorem dX2_putOut_4 : decode cX2_putOut 4 = .ok (.iconst 4, 1) := by decide +kernel
theorem dX2_putOut_5 : decode cX2_putOut 5 = .ok (.if_icmp .ne 31, 3) := by decide +kernel
theorem dX2_putOut_8 : decode cX2_putOut 8 = .ok (.aload_n 1, 1) := by decide +kernel
theorem dX2_putOut_9 : decode cX2_putOut 9 = .ok (.getfield 43, 3) := by decide +kernel
theorem dX2_putOut_12 : decode cX2_putOut 12 = .ok (.ifCond .le 24, 3) := by decide +kernel
theorem dX2_putOut_15 : decode cX2_putOut 15 = .ok (.aload_n 0, 1) := by decide +kernel
theorem dX2_putOut_16 : decode cX2_putOut 16 = .ok (.getfield 22, 3) := by decide +kernel
theorem dX2_putOut_19 : decode cX2_putOut 19 = .ok (.aload_n 1, 1) := by decide +kernel
theorem dX2_putOut_20 : decode cX2_putOut 20 = .ok (.getfield 43, 3) := by decide +kernel
theorem dX2_putOut_23 : decode cX2_putOut 23 = .ok (.if_icmp .lt 13, 3) := by decide +kernel
theorem dX2_putOut_26 : decode cX2_putOut 26 = .ok (.aload_n 0, 1) := by decide +kernel
theorem dX2_putOut_27 : decode cX2_putOut 27 = .ok (.iconst 0, 1) := by decide +kernel
theorem dX2_putOut_28 : decode cX2_putOut 28 = .ok (.putfield 22, 3) := by decide +kernel
theorem dX2_putOut_31 : decode cX2_putOut 31 = .ok (.aload_n 0, 1) := by decide +kernel
theorem dX2_putOut_32 : decode cX2_putOut 32 = .ok (.getfield 19, 3) := by decide +kernel
theorem dX2_putOut_35 : decode cX2_putOut 35 = .ok (.ireturn, 1) := by decide +kernel
theorem dX2_putOut_36 : decode cX2_putOut 36 = .ok (.aload_n 0, 1) := by decide +kernel
theorem dX2_putOut_37 : decode cX2_putOut 37 = .ok (.aload_n 1, 1) := by decide +kernel
theorem dX2_putOut_38 : decode cX2_putOut 38 = .ok (.iload_n 2, 1) := by decide +kernel
theorem dX2_putOut_39 : decode cX2_putOut 39 = .ok (.invokevirtual 46, 3) := by decide +kernel
theorem dX2_putOut_42 : decode cX2_putOut 42 = .ok (.istore_n 3, 1) := by decide +kernel
theorem dX2_putOut_43 : decode cX2_putOut 43 = .ok (.iload_n 3, 1) := by decide +kernel
theorem dX2_putOut_44 : decode cX2_putOut 44 = .ok (.bipush (-9), 2) := by decide +kernel
theorem dX2_putOut_46 : decode cX2_putOut 46 = .ok (.if_icmp .ne 6, 3) := by decide +kernel
theorem dX2_putOut_49 : decode cX2_putOut 49 = .ok (.bipush (-9), 2) := by decide +kernel
theorem dX2_putOut_51 : decode cX2_putOut 51 = .ok (.ireturn, 1) := by decide +kernel
theorem dX2_putOut_52 : decode cX2_putOut 52 = .ok (.aload_n 0, 1) := by decide +kernel
theorem dX2_putOut_53 : decode cX2_putOut 53 = .ok (.getfield 19, 3) := by decide +kernel
theorem dX2_putOut_56 : decode cX2_putOut 56 = .ok (.bipush (-9), 2) := by decide +kernel
theorem dX2_putOut_58 : decode cX2_putOut 58 = .ok (.if_icmp .eq 24, 3) := by decide +kernel
theorem dX2_putOut_61 : decode cX2_putOut 61 = .ok (.aload_n 0, 1) := by decide +kernel
theorem dX2_putOut_62 : decode cX2_putOut 62 = .ok (.getfield 19, 3) := by decide +kernel
theorem dX2_putOut_65 : decode cX2_putOut 65 = .ok (.bipush 10, 2) := by decide +kernel
theorem dX2_putOut_67 : decode cX2_putOut 67 = .ok (.idiv, 1) := by decide +kernel
theorem dX2_putOut_68 : decode cX2_putOut 68 = .ok (.iload_n 3, 1) := by decide +kernel
theorem dX2_putOut_69 : decode cX2_putOut 69 = .ok (.if_icmp .eq 13, 3) := by decide +kernel
theorem dX2_putOut_72 : decode cX2_putOut 72 = .ok (.aload_n 0, 1) := by decide +kernel
theorem dX2_putOut_73 : decode cX2_putOut 73 = .ok (.dup, 1) := by decide +kernel
theorem dX2_putOut_74 : decode cX2_putOut 74 = .ok (.getfield 25, 3) := by decide +kernel
theorem dX2_putOut_77 : decode cX2_putOut 77 = .ok (.iconst 1, 1) := by decide +kernel
theorem dX2_putOut_78 : decode cX2_putOut 78 = .ok (.iadd, 1) := by decide +kernel
theorem dX2_putOut_79 : decode cX2_putOut 79 = .ok (.putfield 25, 3) := by decide +kernel
theorem dX2_putOut_82 : decode cX2_putOut 82 = .ok (.aload_n 0, 1) := by decide +kernel
theorem dX2_putOut_83 : decode cX2_putOut 83 = .ok (.bipush 10, 2) := by decide +kernel
theorem dX2_putOut_85 : decode cX2_putOut 85 = .ok (.iload_n 3, 1) := by decide +kernel
theorem dX2_putOut_86 : decode cX2_putOut 86 = .ok (.imul, 1) := by decide +kernel
theorem dX2_putOut_87 : decode cX2_putOut 87 = .ok (.aload_n 1, 1) := by decide +kernel
theorem dX2_putOut_88 : decode cX2_putOut 88 = .ok (.getfield 33, 3) := by decide +kernel
theorem dX2_putOut_91 : decode cX2_putOut 91 = .ok (.iload_n 3, 1) := by decide +kernel
theorem dX2_putOut_92 : decode cX2_putOut 92 = .ok (.iaload, 1) := by decide +kernel
theorem dX2_putOut_93 : decode cX2_putOut 93 = .ok (.iadd, 1) := by decide +kernel
theorem dX2_putOut_94 : decode cX2_putOut 94 = .ok (.aload_n 0, 1) := by decide +kernel
theorem dX2_putOut_95 : decode cX2_putOut 95 = .ok (.getfield 9, 3) := by decide +kernel
theorem dX2_putOut_98 : decode cX2_putOut 98 = .ok (.iload_n 3, 1) := by decide +kernel
theorem dX2_putOut_99 : decode cX2_putOut 99 = .ok (.iaload, 1) := by decide +kernel
theorem dX2_putOut_100 : decode cX2_putOut 100 = .ok (.isub, 1) := by decide +kernel
theorem dX2_putOut_101 : decode cX2_putOut 101 = .ok (.iconst 1, 1) := by decide +kernel
theorem dX2_putOut_102 : decode cX2_putOut 102 = .ok (.iadd, 1) := by decide +kernel
theorem dX2_putOut_103 : decode cX2_putOut 103 = .ok (.putfield 19, 3) := by decide +kernel
theorem dX2_putOut_106 : decode cX2_putOut 106 = .ok (.aload_n 0, 1) := by decide +kernel
theorem dX2_putOut_107 : decode cX2_putOut 107 = .ok (.getfield 9, 3) := by decide +kernel
theorem dX2_putOut_110 : decode cX2_putOut 110 = .ok (.iload_n 3, 1) := by decide +kernel
theorem dX2_putOut_111 : decode cX2_putOut 111 = .ok (.dup2, 1) := by decide +kernel
theorem dX2_putOut_112 : decode cX2_putOut 112 = .ok (.iaload, 1) := by decide +kernel
theorem dX2_putOut_113 : decode cX2_putOut 113 = .ok (.iconst 1, 1) := by decide +kernel
theorem dX2_putOut_114 : decode cX2_putOut 114 = .ok (.isub, 1) := by decide +kernel
theorem dX2_putOut_115 : decode cX2_putOut 115 = .ok (.iastore, 1) := by decide +kernel
theorem dX2_putOut_116 : decode cX2_putOut 116 = .ok (.aload_n 0, 1) := by decide +kernel
theorem dX2_putOut_117 : decode cX2_putOut 117 = .ok (.dup, 1) := by decide +kernel
theorem dX2_putOut_118 : decode cX2_putOut 118 = .ok (.getfield 15, 3) := by decide +kernel
theorem dX2_putOut_121 : decode cX2_putOut 121 = .ok (.iconst 1, 1) := by decide +kernel
theorem dX2_putOut_122 : decode cX2_putOut 122 = .ok (.isub, 1) := by decide +kernel
theorem dX2_putOut_123 : decode cX2_putOut 123 = .ok (.putfield 15, 3) := by decide +kernel
theorem dX2_putOut_126 : decode cX2_putOut 126 = .ok (.aload_n 0, 1) := by decide +kernel
theorem dX2_putOut_127 : decode cX2_putOut 127 = .ok (.dup, 1) := by decide +kernel
theorem dX2_putOut_128 : decode cX2_putOut 128 = .ok (.getfield 22, 3) := by decide +kernel
theorem dX2_putOut_131 : decode cX2_putOut 131 = .ok (.iconst 1, 1) := by decide +kernel
theorem dX2_putOut_132 : decode cX2_putOut 132 = .ok (.iadd, 1) := by decide +kernel
theorem dX2_putOut_133 : decode cX2_putOut 133 = .ok (.putfield 22, 3) := by decide +kernel
theorem dX2_putOut_136 : decode cX2_putOut 136 = .ok (.aload_n 0, 1) := by decide +kernel
theorem dX2_putOut_137 : decode cX2_putOut 137 = .ok (.getfield 19, 3) := by decide +kernel
theorem dX2_putOut_140 : decode cX2_putOut 140 = .ok (.ireturn, 1) := by decide +kernel
theorem dX2_mixedIn_0 : decode cX2_mixedIn 0 = .ok (.aload_n 0, 1) := by decide +kernel
theorem dX2_mixedIn_1 : decode cX2_mixedIn 1 = .ok (.aload_n 1, 1) := by decide +kernel
theorem dX2_mixedIn_2 : decode cX2_mixedIn 2 = .ok (.invokevirtual 50, 3) := by decide +kernel
theorem dX2_mixedIn_5 : decode cX2_mixedIn 5 = .ok (.iconst 0, 1) := by decide +kernel
theorem dX2_mixedIn_6 : decode cX2_mixedIn 6 = .ok (.istore_n 2, 1) := by decide +kernel
theorem dX2_mixedIn_7 : decode cX2_mixedIn 7 = .ok (.iload_n 2, 1) := by decide +kernel
theorem dX2_mixedIn_8 : decode cX2_mixedIn 8 = .ok (.bipush 100, 2) := by decide +kernel
theorem dX2_mixedIn_10 : decode cX2_mixedIn 10 = .ok (.if_icmp .ge 23, 3) := by decide +kernel
theorem dX2_mixedIn_13 : decode cX2_mixedIn 13 = .ok (.aload_n 0, 1) := by decide +kernel
theorem dX2_mixedIn_14 : decode cX2_mixedIn 14 = .ok (.getfield 15, 3) := by decide +kernel
theorem dX2_mixedIn_17 : decode cX2_mixedIn 17 = .ok (.ifCond .le 16, 3) := by decide +kernel
theorem dX2_mixedIn_20 : decode cX2_mixedIn 20 = .ok (.aload_n 0, 1) := by decide +kernel
theorem dX2_mixedIn_21 : decode cX2_mixedIn 21 = .ok (.aload_n 1, 1) := by decide +kernel
theorem dX2_mixedIn_22 : decode cX2_mixedIn 22 = .ok (.iload_n 2, 1) := by decide +kernel
theorem dX2_mixedIn_23 : decode cX2_mixedIn 23 = .ok (.invokevirtual 54, 3) := by decide +kernel
theorem dX2_mixedIn_26 : decode cX2_mixedIn 26 = .ok (.pop, 1) := by decide +kernel
theorem dX2_mixedIn_27 : decode cX2_mixedIn 27 = .ok (.iinc 2 1, 3) := by decide +kernel
theorem dX2_mixedIn_30 : decode cX2_mixedIn 30 = .ok (.goto (-23), 3) := by decide +kernel
theorem dX2_mixedIn_33 : decode cX2_mixedIn 33 = .ok (.aload_n 0, 1) := by decide +kernel
theorem dX2_mixedIn_34 : decode cX2_mixedIn 34 = .ok (.getfield 25, 3) := by decide +kernel
theorem dX2_mixedIn_37 : decode cX2_mixedIn 37 = .ok (.ireturn, 1) := by decide +kernel
theorem dX2_chosenJob_0 : decode cX2_chosenJob 0 = .ok (.bipush (-9), 2) := by decide +kernel
theorem dX2_chosenJob_2 : decode cX2_chosenJob 2 = .ok (.istore_n 3, 1) := by decide +kernel
theorem dX2_chosenJob_3 : decode cX2_chosenJob 3 = .ok (.iconst 0, 1) := by decide +kernel
theorem dX2_chosenJob_4 : decode cX2_chosenJob 4 = .ok (.istore 4, 2) := by decide +kernel
theorem dX2_chosenJob_6 : decode cX2_chosenJob 6 = .ok (.iload 4, 2) := by decide +kernel
theorem dX2_chosenJob_8 : decode cX2_chosenJob 8 = .ok (.aload_n 1, 1) := by decide +kernel
theorem dX2_chosenJob_9 : decode cX2_chosenJob 9 = .ok (.getfield 28, 3) := by decide +kernel
theorem dX2_chosenJob_12 : decode cX2_chosenJob 12 = .ok (.if_icmp .ge 62, 3) := by decide +kernel
theorem dX2_chosenJob_15 : decode cX2_chosenJob 15 = .ok (.aload_n 0, 1) := by decide +kernel
theorem dX2_chosenJob_16 : decode cX2_chosenJob 16 = .ok (.getfield 9, 3) := by decide +kernel
theorem dX2_chosenJob_19 : decode cX2_chosenJob 19 = .ok (.iload 4, 2) := by decide +kernel
theorem dX2_chosenJob_21 : decode cX2_chosenJob 21 = .ok (.iaload, 1) := by decide +kernel
theorem dX2_chosenJob_22 : decode cX2_chosenJob 22 = .ok (.ifCond .le 18, 3) := by decide +kernel
theorem dX2_chosenJob_25 : decode cX2_chosenJob 25 = .ok (.aload_n 1, 1) := by decide +kernel
theorem dX2_chosenJob_26 : decode cX2_chosenJob 26 = .ok (.getfield 57, 3) := by decide +kernel
theorem dX2_chosenJob_29 : decode cX2_chosenJob 29 = .ok (.iload 4, 2) := by decide +kernel
theorem dX2_chosenJob_31 : decode cX2_chosenJob 31 = .ok (.iaload, 1) := by decide +kernel
theorem dX2_chosenJob_32 : decode cX2_chosenJob 32 = .ok (.iload_n 2, 1) := by decide +kernel
theorem dX2_chosenJob_33 : decode cX2_chosenJob 33 = .ok (.if_icmp .gt 7, 3) := by decide +kernel
theorem dX2_chosenJob_36 : decode cX2_chosenJob 36 = .ok (.iconst 1, 1) := by decide +kernel
theorem dX2_chosenJob_37 : decode cX2_chosenJob 37 = .ok (.goto 4, 3) := by decide +kernel
theorem dX2_chosenJob_40 : decode cX2_chosenJob 40 = .ok (.iconst 0, 1) := by decide +kernel
theorem dX2_chosenJob_41 : decode cX2_chosenJob 41 = .ok (.istore 5, 2) := by decide +kernel
theorem dX2_chosenJob_43 : decode cX2_chosenJob 43 = .ok (.iload 5, 2) := by decide +kernel
theorem dX2_chosenJob_45 : decode cX2_chosenJob 45 = .ok (.ifCond .eq 23, 3) := by decide +kernel
theorem dX2_chosenJob_48 : decode cX2_chosenJob 48 = .ok (.iload_n 3, 1) := by decide +kernel
theorem dX2_chosenJob_49 : decode cX2_chosenJob 49 = .ok (.bipush (-9), 2) := by decide +kernel
theorem dX2_chosenJob_51 : decode cX2_chosenJob 51 = .ok (.if_icmp .eq 14, 3) := by decide +kernel
theorem dX2_chosenJob_54 : decode cX2_chosenJob 54 = .ok (.aload_n 0, 1) := by decide +kernel
theorem dX2_chosenJob_55 : decode cX2_chosenJob 55 = .ok (.aload_n 1, 1) := by decide +kernel
theorem dX2_chosenJob_56 : decode cX2_chosenJob 56 = .ok (.iload 4, 2) := by decide +kernel
theorem dX2_chosenJob_58 : decode cX2_chosenJob 58 = .ok (.iload_n 3, 1) := by decide +kernel
theorem dX2_chosenJob_59 : decode cX2_chosenJob 59 = .ok (.invokevirtual 60, 3) := by decide +kernel
theorem dX2_chosenJob_62 : decode cX2_chosenJob 62 = .ok (.ifCond .eq 6, 3) := by decide +kernel
theorem dX2_chosenJob_65 : decode cX2_chosenJob 65 = .ok (.iload 4, 2) := by decide +kernel
theorem dX2_chosenJob_67 : decode cX2_chosenJob 67 = .ok (.istore_n 3, 1) := by decide +kernel
theorem dX2_chosenJob_68 : decode cX2_chosenJob 68 = .ok (.iinc 4 1, 3) := by decide +kernel
theorem dX2_chosenJob_71 : decode cX2_chosenJob 71 = .ok (.goto (-65), 3) := by decide +kernel
theorem dX2_chosenJob_74 : decode cX2_chosenJob 74 = .ok (.iload_n 3, 1) := by decide +kernel
theorem dX2_chosenJob_75 : decode cX2_chosenJob 75 = .ok (.ireturn, 1) := by decide +kernel
theorem dX2_isAhead_0 : decode cX2_isAhead 0 = .ok (.aload_n 1, 1) := by decide +kernel
theorem dX2_isAhead_1 : decode cX2_isAhead 1 = .ok (.getfield 40, 3) := by decide +kernel
theorem dX2_isAhead_4 : decode cX2_isAhead 4 = .ok (.iconst 2, 1) := by decide +kernel
theorem dX2_isAhead_5 : decode cX2_isAhead 5 = .ok (.if_icmp .ne 22, 3) := by decide +kernel
theorem dX2_isAhead_8 : decode cX2_isAhead 8 = .ok (.aload_n 0, 1) := by decide +kernel
theorem dX2_isAhead_9 : decode cX2_isAhead 9 = .ok (.iload_n 2, 1) := by decide +kernel
theorem dX2_isAhead_10 : decode cX2_isAhead 10 = .ok (.invokevirtual 64, 3) := by decide +kernel
theorem dX2_isAhead_13 : decode cX2_isAhead 13 = .ok (.aload_n 0, 1) := by decide +kernel
theorem dX2_isAhead_14 : decode cX2_isAhead 14 = .ok (.iload_n 3, 1) := by decide +kernel
theorem dX2_isAhead_15 : decode cX2_isAhead 15 = .ok (.invokevirtual 64, 3) := by decide +kernel
theorem dX2_isAhead_18 : decode cX2_isAhead 18 = .ok (.if_icmp .ge 7, 3) := by decide +kernel
theorem dX2_isAhead_21 : decode cX2_isAhead 21 = .ok (.iconst 1, 1) := by decide +kernel
theorem dX2_isAhead_22 : decode cX2_isAhead 22 = .ok (.goto 4, 3) := by decide +kernel
theorem dX2_isAhead_25 : decode cX2_isAhead 25 = .ok (.iconst 0, 1) := by decide +kernel
theorem dX2_isAhead_26 : decode cX2_isAhead 26 = .ok (.ireturn, 1) := by decide +kernel
theorem dX2_isAhead_27 : decode cX2_isAhead 27 = .ok (.aload_n 1, 1) := by decide +kernel
theorem dX2_isAhead_28 : decode cX2_isAhead 28 = .ok (.getfield 40, 3) := by decide +kernel
theorem dX2_isAhead_31 : decode cX2_isAhead 31 = .ok (.iconst 5, 1) := by decide +kernel
theorem dX2_isAhead_32 : decode cX2_isAhead 32 = .ok (.if_icmp .ne 39, 3) := by decide +kernel
theorem dX2_isAhead_35 : decode cX2_isAhead 35 = .ok (.aload_n 1, 1) := by decide +kernel
theorem dX2_isAhead_36 : decode cX2_isAhead 36 = .ok (.getfield 68, 3) := by decide +kernel
theorem dX2_isAhead_39 : decode cX2_isAhead 39 = .ok (.iload_n 2, 1) := by decide +kernel
theorem dX2_isAhead_40 : decode cX2_isAhead 40 = .ok (.iaload, 1) := by decide +kernel
theorem dX2_isAhead_41 : decode cX2_isAhead 41 = .ok (.aload_n 1, 1) := by decide +kernel
theorem dX2_isAhead_42 : decode cX2_isAhead 42 = .ok (.getfield 68, 3) := by decide +kernel
theorem dX2_isAhead_45 : decode cX2_isAhead 45 = .ok (.iload_n 3, 1) := by decide +kernel
theorem dX2_isAhead_46 : decode cX2_isAhead 46 = .ok (.iaload, 1) := by decide +kernel
theorem dX2_isAhead_47 : decode cX2_isAhead 47 = .ok (.if_icmp .eq 24, 3) := by decide +kernel
theorem dX2_isAhead_50 : decode cX2_isAhead 50 = .ok (.aload_n 1, 1) := by decide +kernel
theorem dX2_isAhead_51 : decode cX2_isAhead 51 = .ok (.getfield 68, 3) := by decide +kernel
theorem dX2_isAhead_54 : decode cX2_isAhead 54 = .ok (.iload_n 2, 1) := by decide +kernel
theorem dX2_isAhead_55 : decode cX2_isAhead 55 = .ok (.iaload, 1) := by decide +kernel
theorem dX2_isAhead_56 : decode cX2_isAhead 56 = .ok (.aload_n 1, 1) := by decide +kernel
theorem dX2_isAhead_57 : decode cX2_isAhead 57 = .ok (.getfield 68, 3) := by decide +kernel
theorem dX2_isAhead_60 : decode cX2_isAhead 60 = .ok (.iload_n 3, 1) := by decide +kernel
theorem dX2_isAhead_61 : decode cX2_isAhead 61 = .ok (.iaload, 1) := by decide +kernel
theorem dX2_isAhead_62 : decode cX2_isAhead 62 = .ok (.if_icmp .ge 7, 3) := by decide +kernel
theorem dX2_isAhead_65 : decode cX2_isAhead 65 = .ok (.iconst 1, 1) := by decide +kernel
theorem dX2_isAhead_66 : decode cX2_isAhead 66 = .ok (.goto 4, 3) := by decide +kernel
theorem dX2_isAhead_69 : decode cX2_isAhead 69 = .ok (.iconst 0, 1) := by decide +kernel
theorem dX2_isAhead_70 : decode cX2_isAhead 70 = .ok (.ireturn, 1) := by decide +kernel
theorem dX2_isAhead_71 : decode cX2_isAhead 71 = .ok (.aload_n 1, 1) := by decide +kernel
theorem dX2_isAhead_72 : decode cX2_isAhead 72 = .ok (.getfield 40, 3) := by decide +kernel
theorem dX2_isAhead_75 : decode cX2_isAhead 75 = .ok (.iconst 1, 1) := by decide +kernel
theorem dX2_isAhead_76 : decode cX2_isAhead 76 = .ok (.if_icmp .eq 11, 3) := by decide +kernel
theorem dX2_isAhead_79 : decode cX2_isAhead 79 = .ok (.aload_n 1, 1) := by decide +kernel
theorem dX2_isAhead_80 : decode cX2_isAhead 80 = .ok (.getfield 40, 3) := by decide +kernel
theorem dX2_isAhead_83 : decode cX2_isAhead 83 = .ok (.iconst 5, 1) := by decide +kernel
theorem dX2_isAhead_84 : decode cX2_isAhead 84 = .ok (.if_icmp .ne 7, 3) := by decide +kernel
theorem dX2_isAhead_87 : decode cX2_isAhead 87 = .ok (.iconst 1, 1) := by decide +kernel
theorem dX2_isAhead_88 : decode cX2_isAhead 88 = .ok (.goto 4, 3) := by decide +kernel
theorem dX2_isAhead_91 : decode cX2_isAhead 91 = .ok (.iconst 0, 1) := by decide +kernel
theorem dX2_isAhead_92 : decode cX2_isAhead 92 = .ok (.istore 4, 2) := by decide +kernel
theorem dX2_isAhead_94 : decode cX2_isAhead 94 = .ok (.iload 4, 2) := by decide +kernel
theorem dX2_isAhead_96 : decode cX2_isAhead 96 = .ok (.ifCond .eq 39, 3) := by decide +kernel
theorem dX2_isAhead_99 : decode cX2_isAhead 99 = .ok (.aload_n 0, 1) := by decide +kernel
theorem dX2_isAhead_100 : decode cX2_isAhead 100 = .ok (.getfield 9, 3) := by decide +kernel
theorem dX2_isAhead_103 : decode cX2_isAhead 103 = .ok (.iload_n 2, 1) := by decide +kernel
theorem dX2_isAhead_104 : decode cX2_isAhead 104 = .ok (.iaload, 1) := by decide +kernel
theorem dX2_isAhead_105 : decode cX2_isAhead 105 = .ok (.aload_n 0, 1) := by decide +kernel
theorem dX2_isAhead_106 : decode cX2_isAhead 106 = .ok (.getfield 9, 3) := by decide +kernel
theorem dX2_isAhead_109 : decode cX2_isAhead 109 = .ok (.iload_n 3, 1) := by decide +kernel
theorem dX2_isAhead_110 : decode cX2_isAhead 110 = .ok (.iaload, 1) := by decide +kernel
theorem dX2_isAhead_111 : decode cX2_isAhead 111 = .ok (.if_icmp .eq 24, 3) := by decide +kernel
theorem dX2_isAhead_114 : decode cX2_isAhead 114 = .ok (.aload_n 0, 1) := by decide +kernel
theorem dX2_isAhead_115 : decode cX2_isAhead 115 = .ok (.getfield 9, 3) := by decide +kernel
theorem dX2_isAhead_118 : decode cX2_isAhead 118 = .ok (.iload_n 2, 1) := by decide +kernel
theorem dX2_isAhead_119 : decode cX2_isAhead 119 = .ok (.iaload, 1) := by decide +kernel
theorem dX2_isAhead_120 : decode cX2_isAhead 120 = .ok (.aload_n 0, 1) := by decide +kernel
theorem dX2_isAhead_121 : decode cX2_isAhead 121 = .ok (.getfield 9, 3) := by decide +kernel
theorem dX2_isAhead_124 : decode cX2_isAhead 124 = .ok (.iload_n 3, 1) := by decide +kernel
theorem dX2_isAhead_125 : decode cX2_isAhead 125 = .ok (.iaload, 1) := by decide +kernel
theorem dX2_isAhead_126 : decode cX2_isAhead 126 = .ok (.if_icmp .ge 7, 3) := by decide +kernel
theorem dX2_isAhead_129 : decode cX2_isAhead 129 = .ok (.iconst 1, 1) := by decide +kernel
theorem dX2_isAhead_130 : decode cX2_isAhead 130 = .ok (.goto 4, 3) := by decide +kernel
theorem dX2_isAhead_133 : decode cX2_isAhead 133 = .ok (.iconst 0, 1) := by decide +kernel
theorem dX2_isAhead_134 : decode cX2_isAhead 134 = .ok (.ireturn, 1) := by decide +kernel
theorem dX2_isAhead_135 : decode cX2_isAhead 135 = .ok (.aload_n 1, 1) := by decide +kernel
theorem dX2_isAhead_136 : decode cX2_isAhead 136 = .ok (.getfield 57, 3) := by decide +kernel
theorem dX2_isAhead_139 : decode cX2_isAhead 139 = .ok (.iload_n 2, 1) := by decide +kernel
theorem dX2_isAhead_140 : decode cX2_isAhead 140 = .ok (.iaload, 1) := by decide +kernel
theorem dX2_isAhead_141 : decode cX2_isAhead 141 = .ok (.aload_n 1, 1) := by decide +kernel
theorem dX2_isAhead_142 : decode cX2_isAhead 142 = .ok (.getfield 57, 3) := by decide +kernel
theorem dX2_isAhead_145 : decode cX2_isAhead 145 = .ok (.iload_n 3, 1) := by decide +kernel
theorem dX2_isAhead_146 : decode cX2_isAhead 146 = .ok (.iaload, 1) := by decide +kernel
theorem dX2_isAhead_147 : decode cX2_isAhead 147 = .ok (.if_icmp .ge 7, 3) := by decide +kernel
theorem dX2_isAhead_150 : decode cX2_isAhead 150 = .ok (.iconst 1, 1) := by decide +kernel
theorem dX2_isAhead_151 : decode cX2_isAhead 151 = .ok (.goto 4, 3) := by decide +kernel
theorem dX2_isAhead_154 : decode cX2_isAhead 154 = .ok (.iconst 0, 1) := by decide +kernel
theorem dX2_isAhead_155 : decode cX2_isAhead 155 = .ok (.ireturn, 1) := by decide +kernel
theorem dX2_turnsUntil_0 : decode cX2_turnsUntil 0 = .ok (.aload_n 0, 1) := by decide +kernel
theorem dX2_turnsUntil_1 : decode cX2_turnsUntil 1 = .ok (.getfield 19, 3) := by decide +kernel
theorem dX2_turnsUntil_4 : decode cX2_turnsUntil 4 = .ok (.bipush (-9), 2) := by decide +kernel
theorem dX2_turnsUntil_6 : decode cX2_turnsUntil 6 = .ok (.if_icmp .ne 5, 3) := by decide +kernel
theorem dX2_turnsUntil_9 : decode cX2_turnsUntil 9 = .ok (.iload_n 1, 1) := by decide +kernel
theorem dX2_turnsUntil_10 : decode cX2_turnsUntil 10 = .ok (.ireturn, 1) := by decide +kernel
theorem dX2_turnsUntil_11 : decode cX2_turnsUntil 11 = .ok (.iload_n 1, 1) := by decide +kernel
theorem dX2_turnsUntil_12 : decode cX2_turnsUntil 12 = .ok (.aload_n 0, 1) := by decide +kernel
theorem dX2_turnsUntil_13 : decode cX2_turnsUntil 13 = .ok (.getfield 19, 3) := by decide +kernel
theorem dX2_turnsUntil_16 : decode cX2_turnsUntil 16 = .ok (.bipush 10, 2) := by decide +kernel
theorem dX2_turnsUntil_18 : decode cX2_turnsUntil 18 = .ok (.idiv, 1) := by decide +kernel
theorem dX2_turnsUntil_19 : decode cX2_turnsUntil 19 = .ok (.isub, 1) := by decide +kernel
theorem dX2_turnsUntil_20 : decode cX2_turnsUntil 20 = .ok (.iconst 1, 1) := by decide +kernel
theorem dX2_turnsUntil_21 : decode cX2_turnsUntil 21 = .ok (.isub, 1) := by decide +kernel
theorem dX2_turnsUntil_22 : decode cX2_turnsUntil 22 = .ok (.istore_n 2, 1) := by decide +kernel
theorem dX2_turnsUntil_23 : decode cX2_turnsUntil 23 = .ok (.iload_n 2, 1) := by decide +kernel
theorem dX2_turnsUntil_24 : decode cX2_turnsUntil 24 = .ok (.ifCond .ge 10, 3) := by decide +kernel
theorem dX2_turnsUntil_27 : decode cX2_turnsUntil 27 = .ok (.iload_n 2, 1) := by decide +kernel
theorem dX2_turnsUntil_28 : decode cX2_turnsUntil 28 = .ok (.bipush 6, 2) := by decide +kernel
theorem dX2_turnsUntil_30 : decode cX2_turnsUntil 30 = .ok (.iadd, 1) := by decide +kernel
theorem dX2_turnsUntil_31 : decode cX2_turnsUntil 31 = .ok (.goto 4, 3) := by decide +kernel
theorem dX2_turnsUntil_34 : decode cX2_turnsUntil 34 = .ok (.iload_n 2, 1) := by decide +kernel
theorem dX2_turnsUntil_35 : decode cX2_turnsUntil 35 = .ok (.ireturn, 1) := by decide +kernel
theorem dX3_init_0 : decode cX3_init 0 = .ok (.aload_n 0, 1) := by decide +kernel
theorem dX3_init_1 : decode cX3_init 1 = .ok (.invokespecial 3, 3) := by decide +kernel
theorem dX3_init_4 : decode cX3_init 4 = .ok (.aload_n 0, 1) := by decide +kernel
theorem dX3_init_5 : decode cX3_init 5 = .ok (.bipush 20, 2) := by decide +kernel
theorem dX3_init_7 : decode cX3_init 7 = .ok (.newarray .int, 2) := by decide +kernel
theorem dX3_init_9 : decode cX3_init 9 = .ok (.putfield 9, 3) := by decide +kernel
theorem dX3_init_12 : decode cX3_init 12 = .ok (.aload_n 0, 1) := by decide +kernel
theorem dX3_init_13 : decode cX3_init 13 = .ok (.iconst 0, 1) := by decide +kernel
theorem dX3_init_14 : decode cX3_init 14 = .ok (.putfield 15, 3) := by decide +kernel
theorem dX3_init_17 : decode cX3_init 17 = .ok (.aload_n 0, 1) := by decide +kernel
theorem dX3_init_18 : decode cX3_init 18 = .ok (.sipush 1000, 3) := by decide +kernel
theorem dX3_init_21 : decode cX3_init 21 = .ok (.newarray .int, 2) := by decide +kernel
theorem dX3_init_23 : decode cX3_init 23 = .ok (.putfield 19, 3) := by decide +kernel
theorem dX3_init_26 : decode cX3_init 26 = .ok (.aload_n 0, 1) := by decide +kernel
theorem dX3_init_27 : decode cX3_init 27 = .ok (.bipush 10, 2) := by decide +kernel
theorem dX3_init_29 : decode cX3_init 29 = .ok (.newarray .int, 2) := by decide +kernel
theorem dX3_init_31 : decode cX3_init 31 = .ok (.putfield 22, 3) := by decide +kernel
theorem dX3_init_34 : decode cX3_init 34 = .ok (.aload_n 0, 1) := by decide +kernel
theorem dX3_init_35 : decode cX3_init 35 = .ok (.bipush 100, 2) := by decide +kernel
theorem dX3_init_37 : decode cX3_init 37 = .ok (.newarray .int, 2) := by decide +kernel
theorem dX3_init_39 : decode cX3_init 39 = .ok (.putfield 25, 3) := by decide +kernel
theorem dX3_init_42 : decode cX3_init 42 = .ok (.return_, 1) := by decide +kernel
theorem dX3_add_0 : decode cX3_add 0 = .ok (.aload_n 0, 1) := by decide +kernel
theorem dX3_add_1 : decode cX3_add 1 = .ok (.getfield 15, 3) := by decide +kernel
theorem dX3_add_4 : decode cX3_add 4 = .ok (.bipush 20, 2) := by decide +kernel
theorem dX3_add_6 : decode cX3_add 6 = .ok (.if_icmp .ge 23, 3) := by decide +kernel
theorem dX3_add_9 : decode cX3_add 9 = .ok (.aload_n 0, 1) := by decide +kernel
theorem dX3_add_10 : decode cX3_add 10 = .ok (.getfield 9, 3) := by decide +kernel
theorem dX3_add_13 : decode cX3_add 13 = .ok (.aload_n 0, 1) := by decide +kernel
theorem dX3_add_14 : decode cX3_add 14 = .ok (.getfield 15, 3) := by decide +kernel
theorem dX3_add_17 : decode cX3_add 17 = .ok (.iload_n 1, 1) := by decide +kernel
theorem dX3_add_18 : decode cX3_add 18 = .ok (.iastore, 1) := by decide +kernel
theorem dX3_add_19 : decode cX3_add 19 = .ok (.aload_n 0, 1) := by decide +kernel
theorem dX3_add_20 : decode cX3_add 20 = .ok (.dup, 1) := by decide +kernel
theorem dX3_add_21 : decode cX3_add 21 = .ok (.getfield 15, 3) := by decide +kernel
theorem dX3_add_24 : decode cX3_add 24 = .ok (.iconst 1, 1) := by decide +kernel
theorem dX3_add_25 : decode cX3_add 25 = .ok (.iadd, 1) := by decide +kernel
theorem dX3_add_26 : decode cX3_add 26 = .ok (.putfield 15, 3) := by decide +kernel
theorem dX3_add_29 : decode cX3_add 29 = .ok (.aload_n 0, 1) := by decide +kernel
theorem dX3_add_30 : decode cX3_add 30 = .ok (.getfield 15, 3) := by decide +kernel
theorem dX3_add_33 : decode cX3_add 33 = .ok (.ireturn, 1) := by decide +kernel
theorem dX3_clear_0 : decode cX3_clear 0 = .ok (.aload_n 0, 1) := by decide +kernel
theorem dX3_clear_1 : decode cX3_clear 1 = .ok (.iconst 0, 1) := by decide +kernel
theorem dX3_clear_2 : decode cX3_clear 2 = .ok (.putfield 15, 3) := by decide +kernel
theorem dX3_clear_5 : decode cX3_clear 5 = .ok (.return_, 1) := by decide +kernel
theorem dX3_waysOfThree_0 : decode cX3_waysOfThree 0 = .ok (.iload_n 1, 1) := by decide +kernel
theorem dX3_waysOfThree_1 : decode cX3_waysOfThree 1 = .ok (.iload_n 2, 1) := by decide +kernel
theorem dX3_waysOfThree_2 : decode cX3_waysOfThree 2 = .ok (.iadd, 1) := by decide +kernel
theorem dX3_waysOfThree_3 : decode cX3_waysOfThree 3 = .ok (.iload_n 3, 1) := by decide +kernel
theorem dX3_waysOfThree_4 : decode cX3_waysOfThree 4 = .ok (.iadd, 1) := by decide +kernel
theorem dX3_waysOfThree_5 : decode cX3_waysOfThree 5 = .ok (.aload_n 0, 1) := by decide +kernel
theorem dX3_waysOfThree_6 : decode cX3_waysOfThree 6 = .ok (.getfield 15, 3) := by decide +kernel
theorem dX3_waysOfThree_9 : decode cX3_waysOfThree 9 = .ok (.if_icmp .eq 5, 3) := by decide +kernel
theorem dX3_waysOfThree_12 : decode cX3_waysOfThree 12 = .ok (.iconst 0, 1) := by decide +kernel
theorem dX3_waysOfThree_13 : decode cX3_waysOfThree 13 = .ok (.ireturn, 1) := by decide +kernel
theorem dX3_waysOfThree_14 : decode cX3_waysOfThree 14 = .ok (.iconst 0, 1) := by decide +kernel
theorem dX3_waysOfThree_15 : decode cX3_waysOfThree 15 = .ok (.istore 4, 2) := by decide +kernel
theorem dX3_waysOfThree_17 : decode cX3_waysOfThree 17 = .ok (.iload 4, 2) := by decide +kernel
theorem dX3_waysOfThree_19 : decode cX3_waysOfThree 19 = .ok (.iload_n 1, 1) := by decide +kernel
theorem dX3_waysOfThree_20 : decode cX3_waysOfThree 20 = .ok (.if_icmp .gt 63, 3) := by decide +kernel
theorem dX3_waysOfThree_23 : decode cX3_waysOfThree 23 = .ok (.iconst 0, 1) := by decide +kernel
theorem dX3_waysOfThree_24 : decode cX3_waysOfThree 24 = .ok (.istore 5, 2) := by decide +kernel
theorem dX3_waysOfThree_26 : decode cX3_waysOfThree 26 = .ok (.iload 5, 2) := by decide +kernel
theorem dX3_waysOfThree_28 : decode cX3_waysOfThree 28 = .ok (.iload_n 2, 1) := by decide +kernel
theorem dX3_waysOfThree_29 : decode cX3_waysOfThree 29 = .ok (.if_icmp .gt 48, 3) := by decide +kernel
theorem dX3_waysOfThree_32 : decode cX3_waysOfThree 32 = .ok (.iconst 0, 1) := by decide +kernel
theorem dX3_waysOfThree_33 : decode cX3_waysOfThree 33 = .ok (.istore 6, 2) := by decide +kernel
theorem dX3_waysOfThree_35 : decode cX3_waysOfThree 35 = .ok (.iload 6, 2) := by decide +kernel
theorem dX3_waysOfThree_37 : decode cX3_waysOfThree 37 = .ok (.iload_n 3, 1) := by decide +kernel
theorem dX3_waysOfThree_38 : decode cX3_waysOfThree 38 = .ok (.if_icmp .gt 33, 3) := by decide +kernel
theorem dX3_waysOfThree_41 : decode cX3_waysOfThree 41 = .ok (.aload_n 0, 1) := by decide +kernel
theorem dX3_waysOfThree_42 : decode cX3_waysOfThree 42 = .ok (.getfield 19, 3) := by decide +kernel
theorem dX3_waysOfThree_45 : decode cX3_waysOfThree 45 = .ok (.iload 4, 2) := by decide +kernel
theorem dX3_waysOfThree_47 : decode cX3_waysOfThree 47 = .ok (.iload 5, 2) := by decide +kernel
theorem dX3_waysOfThree_49 : decode cX3_waysOfThree 49 = .ok (.iload 6, 2) := by decide +kernel
theorem dX3_waysOfThree_51 : decode cX3_waysOfThree 51 = .ok (.invokestatic 28, 3) := by decide +kernel
theorem dX3_waysOfThree_54 : decode cX3_waysOfThree 54 = .ok (.aload_n 0, 1) := by decide +kernel
theorem dX3_waysOfThree_55 : decode cX3_waysOfThree 55 = .ok (.iload 4, 2) := by decide +kernel
theorem dX3_waysOfThree_57 : decode cX3_waysOfThree 57 = .ok (.iload 5, 2) := by decide +kernel
theorem dX3_waysOfThree_59 : decode cX3_waysOfThree 59 = .ok (.iload 6, 2) := by decide +kernel
theorem dX3_waysOfThree_61 : decode cX3_waysOfThree 61 = .ok (.invokevirtual 32, 3) := by decide +kernel
theorem dX3_waysOfThree_64 : decode cX3_waysOfThree 64 = .ok (.iastore, 1) := by decide +kernel
theorem dX3_waysOfThree_65 : decode cX3_waysOfThree 65 = .ok (.iinc 6 1, 3) := by decide +kernel
theorem dX3_waysOfThree_68 : decode cX3_waysOfThree 68 = .ok (.goto (-33), 3) := by decide +kernel
theorem dX3_waysOfThree_71 : decode cX3_waysOfThree 71 = .ok (.iinc 5 1, 3) := by decide +kernel
theorem dX3_waysOfThree_74 : decode cX3_waysOfThree 74 = .ok (.goto (-48), 3) := by decide +kernel
theorem dX3_waysOfThree_77 : decode cX3_waysOfThree 77 = .ok (.iinc 4 1, 3) := by decide +kernel
theorem dX3_waysOfThree_80 : decode cX3_waysOfThree 80 = .ok (.goto (-63), 3) := by decide +kernel
theorem dX3_waysOfThree_83 : decode cX3_waysOfThree 83 = .ok (.aload_n 0, 1) := by decide +kernel
theorem dX3_waysOfThree_84 : decode cX3_waysOfThree 84 = .ok (.getfield 19, 3) := by decide +kernel
theorem dX3_waysOfThree_87 : decode cX3_waysOfThree 87 = .ok (.iload_n 1, 1) := by decide +kernel
theorem dX3_waysOfThree_88 : decode cX3_waysOfThree 88 = .ok (.iload_n 2, 1) := by decide +kernel
theorem dX3_waysOfThree_89 : decode cX3_waysOfThree 89 = .ok (.iload_n 3, 1) := by decide +kernel
theorem dX3_waysOfThree_90 : decode cX3_waysOfThree 90 = .ok (.invokestatic 28, 3) := by decide +kernel
theorem dX3_waysOfThree_93 : decode cX3_waysOfThree 93 = .ok (.iaload, 1) := by decide +kernel
theorem dX3_waysOfThree_94 : decode cX3_waysOfThree 94 = .ok (.ireturn, 1) := by decide +kernel
theorem dX3_waysTo_0 : decode cX3_waysTo 0 = .ok (.iload_n 1, 1) := by decide +kernel
theorem dX3_waysTo_1 : decode cX3_waysTo 1 = .ok (.iload_n 2, 1) := by decide +kernel
theorem dX3_waysTo_2 : decode cX3_waysTo 2 = .ok (.iadd, 1) := by decide +kernel
theorem dX3_waysTo_3 : decode cX3_waysTo 3 = .ok (.iload_n 3, 1) := by decide +kernel
theorem dX3_waysTo_4 : decode cX3_waysTo 4 = .ok (.iadd, 1) := by decide +kernel
theorem dX3_waysTo_5 : decode cX3_waysTo 5 = .ok (.istore 4, 2) := by decide +kernel
theorem dX3_waysTo_7 : decode cX3_waysTo 7 = .ok (.iload 4, 2) := by decide +kernel
theorem dX3_waysTo_9 : decode cX3_waysTo 9 = .ok (.ifCond .ne 5, 3) := by decide +kernel
theorem dX3_waysTo_12 : decode cX3_waysTo 12 = .ok (.iconst 1, 1) := by decide +kernel
theorem dX3_waysTo_13 : decode cX3_waysTo 13 = .ok (.ireturn, 1) := by decide +kernel
theorem dX3_waysTo_14 : decode cX3_waysTo 14 = .ok (.aload_n 0, 1) := by decide +kernel
theorem dX3_waysTo_15 : decode cX3_waysTo 15 = .ok (.getfield 9, 3) := by decide +kernel
theorem dX3_waysTo_18 : decode cX3_waysTo 18 = .ok (.iload 4, 2) := by decide +kernel
theorem dX3_waysTo_20 : decode cX3_waysTo 20 = .ok (.iconst 1, 1) := by decide +kernel
theorem dX3_waysTo_21 : decode cX3_waysTo 21 = .ok (.isub, 1) := by decide +kernel
theorem dX3_waysTo_22 : decode cX3_waysTo 22 = .ok (.iaload, 1) := by decide +kernel
theorem dX3_waysTo_23 : decode cX3_waysTo 23 = .ok (.bipush 10, 2) := by decide +kernel
theorem dX3_waysTo_25 : decode cX3_waysTo 25 = .ok (.irem, 1) := by decide +kernel
theorem dX3_waysTo_26 : decode cX3_waysTo 26 = .ok (.istore 5, 2) := by decide +kernel
theorem dX3_waysTo_28 : decode cX3_waysTo 28 = .ok (.iconst 0, 1) := by decide +kernel
theorem dX3_waysTo_29 : decode cX3_waysTo 29 = .ok (.istore 6, 2) := by decide +kernel
theorem dX3_waysTo_31 : decode cX3_waysTo 31 = .ok (.iload_n 1, 1) := by decide +kernel
theorem dX3_waysTo_32 : decode cX3_waysTo 32 = .ok (.ifCond .le 27, 3) := by decide +kernel
theorem dX3_waysTo_35 : decode cX3_waysTo 35 = .ok (.iload 5, 2) := by decide +kernel
theorem dX3_waysTo_37 : decode cX3_waysTo 37 = .ok (.iload_n 1, 1) := by decide +kernel
theorem dX3_waysTo_38 : decode cX3_waysTo 38 = .ok (.if_icmp .ne 21, 3) := by decide +kernel
theorem dX3_waysTo_41 : decode cX3_waysTo 41 = .ok (.iload 6, 2) := by decide +kernel
theorem dX3_waysTo_43 : decode cX3_waysTo 43 = .ok (.aload_n 0, 1) := by decide +kernel
theorem dX3_waysTo_44 : decode cX3_waysTo 44 = .ok (.getfield 19, 3) := by decide +kernel
theorem dX3_waysTo_47 : decode cX3_waysTo 47 = .ok (.iload_n 1, 1) := by decide +kernel
theorem dX3_waysTo_48 : decode cX3_waysTo 48 = .ok (.iconst 1, 1) := by decide +kernel
theorem dX3_waysTo_49 : decode cX3_waysTo 49 = .ok (.isub, 1) := by decide +kernel
theorem dX3_waysTo_50 : decode cX3_waysTo 50 = .ok (.iload_n 2, 1) := by decide +kernel
theorem dX3_waysTo_51 : decode cX3_waysTo 51 = .ok (.iload_n 3, 1) := by decide +kernel
theorem dX3_waysTo_52 : decode cX3_waysTo 52 = .ok (.invokestatic 28, 3) := by decide +kernel
theorem dX3_waysTo_55 : decode cX3_waysTo 55 = .ok (.iaload, 1) := by decide +kernel
theorem dX3_waysTo_56 : decode cX3_waysTo 56 = .ok (.iadd, 1) := by decide +kernel
theorem dX3_waysTo_57 : decode cX3_waysTo 57 = .ok (.istore 6, 2) := by decide +kernel
theorem dX3_waysTo_59 : decode cX3_waysTo 59 = .ok (.iload_n 2, 1) := by decide +kernel
theorem dX3_waysTo_60 : decode cX3_waysTo 60 = .ok (.ifCond .le 27, 3) := by decide +kernel
theorem dX3_waysTo_63 : decode cX3_waysTo 63 = .ok (.iload 5, 2) := by decide +kernel
theorem dX3_waysTo_65 : decode cX3_waysTo 65 = .ok (.iload_n 2, 1) := by decide +kernel
theorem dX3_waysTo_66 : decode cX3_waysTo 66 = .ok (.if_icmp .ne 21, 3) := by decide +kernel
theorem dX3_waysTo_69 : decode cX3_waysTo 69 = .ok (.iload 6, 2) := by decide +kernel
theorem dX3_waysTo_71 : decode cX3_waysTo 71 = .ok (.aload_n 0, 1) := by decide +kernel
theorem dX3_waysTo_72 : decode cX3_waysTo 72 = .ok (.getfield 19, 3) := by decide +kernel
theorem dX3_waysTo_75 : decode cX3_waysTo 75 = .ok (.iload_n 1, 1) := by decide +kernel
theorem dX3_waysTo_76 : decode cX3_waysTo 76 = .ok (.iload_n 2, 1) := by decide +kernel
theorem dX3_waysTo_77 : decode cX3_waysTo 77 = .ok (.iconst 1, 1) := by decide +kernel
theorem dX3_waysTo_78 : decode cX3_waysTo 78 = .ok (.isub, 1) := by decide +kernel
theorem dX3_waysTo_79 : decode cX3_waysTo 79 = .ok (.iload_n 3, 1) := by decide +kernel
theorem dX3_waysTo_80 : decode cX3_waysTo 80 = .ok (.invokestatic 28, 3) := by decide +kernel
theorem dX3_waysTo_83 : decode cX3_waysTo 83 = .ok (.iaload, 1) := by decide +kernel
theorem dX3_waysTo_84 : decode cX3_waysTo 84 = .ok (.iadd, 1) := by decide +kernel
theorem dX3_waysTo_85 : decode cX3_waysTo 85 = .ok (.istore 6, 2) := by decide +kernel
theorem dX3_waysTo_87 : decode cX3_waysTo 87 = .ok (.iload_n 3, 1) := by decide +kernel
theorem dX3_waysTo_88 : decode cX3_waysTo 88 = .ok (.ifCond .le 27, 3) := by decide +kernel
theorem dX3_waysTo_91 : decode cX3_waysTo 91 = .ok (.iload 5, 2) := by decide +kernel
theorem dX3_waysTo_93 : decode cX3_waysTo 93 = .ok (.iload_n 3, 1) := by decide +kernel
theorem dX3_waysTo_94 : decode cX3_waysTo 94 = .ok (.if_icmp .ne 21, 3) := by decide +kernel
theorem dX3_waysTo_97 : decode cX3_waysTo 97 = .ok (.iload 6, 2) := by decide +kernel
theorem dX3_waysTo_99 : decode cX3_waysTo 99 = .ok (.aload_n 0, 1) := by decide +kernel
theorem dX3_waysTo_100 : decode cX3_waysTo 100 = .ok (.getfield 19, 3) := by decide +kernel
theorem dX3_waysTo_103 : decode cX3_waysTo 103 = .ok (.iload_n 1, 1) := by decide +kernel
theorem dX3_waysTo_104 : decode cX3_waysTo 104 = .ok (.iload_n 2, 1) := by decide +kernel
theorem dX3_waysTo_105 : decode cX3_waysTo 105 = .ok (.iload_n 3, 1) := by decide +kernel
theorem dX3_waysTo_106 : decode cX3_waysTo 106 = .ok (.iconst 1, 1) := by decide +kernel
theorem dX3_waysTo_107 : decode cX3_waysTo 107 = .ok (.isub, 1) := by decide +kernel
theorem dX3_waysTo_108 : decode cX3_waysTo 108 = .ok (.invokestatic 28, 3) := by decide +kernel
theorem dX3_waysTo_111 : decode cX3_waysTo 111 = .ok (.iaload, 1) := by decide +kernel
theorem dX3_waysTo_112 : decode cX3_waysTo 112 = .ok (.iadd, 1) := by decide +kernel
theorem dX3_waysTo_113 : decode cX3_waysTo 113 = .ok (.istore 6, 2) := by decide +kernel
theorem dX3_waysTo_115 : decode cX3_waysTo 115 = .ok (.iload 6, 2) := by decide +kernel
theorem dX3_waysTo_117 : decode cX3_waysTo 117 = .ok (.ireturn, 1) := by decide +kernel
theorem dX3_at_0 : decode cX3_at 0 = .ok (.iload_n 0, 1) := by decide +kernel
theorem dX3_at_1 : decode cX3_at 1 = .ok (.bipush 10, 2) := by decide +kernel
theorem dX3_at_3 : decode cX3_at 3 = .ok (.imul, 1) := by decide +kernel
theorem dX3_at_4 : decode cX3_at 4 = .ok (.iload_n 1, 1) := by decide +kernel
theorem dX3_at_5 : decode cX3_at 5 = .ok (.iadd, 1) := by decide +kernel
theorem dX3_at_6 : decode cX3_at 6 = .ok (.bipush 10, 2) := by decide +kernel
theorem dX3_at_8 : decode cX3_at 8 = .ok (.imul, 1) := by decide +kernel
theorem dX3_at_9 : decode cX3_at 9 = .ok (.iload_n 2, 1) := by decide +kernel
theorem dX3_at_10 : decode cX3_at 10 = .ok (.iadd, 1) := by decide +kernel
theorem dX3_at_11 : decode cX3_at 11 = .ok (.ireturn, 1) := by decide +kernel
theorem dX3_fewestParts_0 : decode cX3_fewestParts 0 = .ok (.aload_n 0, 1) := by decide +kernel
theorem dX3_fewestParts_1 : decode cX3_fewestParts 1 = .ok (.getfield 22, 3) := by decide +kernel
theorem dX3_fewestParts_4 : decode cX3_fewestParts 4 = .ok (.iconst 0, 1) := by decide +kernel
theorem dX3_fewestParts_5 : decode cX3_fewestParts 5 = .ok (.invokestatic 35, 3) := by decide +kernel
theorem dX3_fewestParts_8 : decode cX3_fewestParts 8 = .ok (.iconst 0, 1) := by decide +kernel
theorem dX3_fewestParts_9 : decode cX3_fewestParts 9 = .ok (.istore_n 1, 1) := by decide +kernel
theorem dX3_fewestParts_10 : decode cX3_fewestParts 10 = .ok (.iconst 0, 1) := by decide +kernel
theorem dX3_fewestParts_11 : decode cX3_fewestParts 11 = .ok (.istore_n 2, 1) := by decide +kernel
theorem dX3_fewestParts_12 : decode cX3_fewestParts 12 = .ok (.iload_n 2, 1) := by decide +kernel
theorem dX3_fewestParts_13 : decode cX3_fewestParts 13 = .ok (.aload_n 0, 1) := by decide +kernel
theorem dX3_fewestParts_14 : decode cX3_fewestParts 14 = .ok (.getfield 15, 3) := by decide +kernel
theorem dX3_fewestParts_17 : decode cX3_fewestParts 17 = .ok (.if_icmp .ge 73, 3) := by decide +kernel
theorem dX3_fewestParts_20 : decode cX3_fewestParts 20 = .ok (.aload_n 0, 1) := by decide +kernel
theorem dX3_fewestParts_21 : decode cX3_fewestParts 21 = .ok (.getfield 9, 3) := by decide +kernel
theorem dX3_fewestParts_24 : decode cX3_fewestParts 24 = .ok (.iload_n 2, 1) := by decide +kernel
theorem dX3_fewestParts_25 : decode cX3_fewestParts 25 = .ok (.iaload, 1) := by decide +kernel
theorem dX3_fewestParts_26 : decode cX3_fewestParts 26 = .ok (.bipush 10, 2) := by decide +kernel
theorem dX3_fewestParts_28 : decode cX3_fewestParts 28 = .ok (.irem, 1) := by decide +kernel
theorem dX3_fewestParts_29 : decode cX3_fewestParts 29 = .ok (.istore_n 3, 1) := by decide +kernel
theorem dX3_fewestParts_30 : decode cX3_fewestParts 30 = .ok (.iconst 0, 1) := by decide +kernel
theorem dX3_fewestParts_31 : decode cX3_fewestParts 31 = .ok (.istore 4, 2) := by decide +kernel
theorem dX3_fewestParts_33 : decode cX3_fewestParts 33 = .ok (.iload_n 3, 1) := by decide +kernel
theorem dX3_fewestParts_34 : decode cX3_fewestParts 34 = .ok (.istore 5, 2) := by decide +kernel
theorem dX3_fewestParts_36 : decode cX3_fewestParts 36 = .ok (.iload 5, 2) := by decide +kernel
theorem dX3_fewestParts_38 : decode cX3_fewestParts 38 = .ok (.bipush 10, 2) := by decide +kernel
theorem dX3_fewestParts_40 : decode cX3_fewestParts 40 = .ok (.if_icmp .ge 23, 3) := by decide +kernel
theorem dX3_fewestParts_43 : decode cX3_fewestParts 43 = .ok (.iload 4, 2) := by decide +kernel
theorem dX3_fewestParts_45 : decode cX3_fewestParts 45 = .ok (.aload_n 0, 1) := by decide +kernel
theorem dX3_fewestParts_46 : decode cX3_fewestParts 46 = .ok (.getfield 22, 3) := by decide +kernel
theorem dX3_fewestParts_49 : decode cX3_fewestParts 49 = .ok (.iload 5, 2) := by decide +kernel
theorem dX3_fewestParts_51 : decode cX3_fewestParts 51 = .ok (.iaload, 1) := by decide +kernel
theorem dX3_fewestParts_52 : decode cX3_fewestParts 52 = .ok (.invokestatic 41, 3) := by decide +kernel
theorem dX3_fewestParts_55 : decode cX3_fewestParts 55 = .ok (.istore 4, 2) := by decide +kernel
theorem dX3_fewestParts_57 : decode cX3_fewestParts 57 = .ok (.iinc 5 1, 3) := by decide +kernel
theorem dX3_fewestParts_60 : decode cX3_fewestParts 60 = .ok (.goto (-24), 3) := by decide +kernel
theorem dX3_fewestParts_63 : decode cX3_fewestParts 63 = .ok (.aload_n 0, 1) := by decide +kernel
theorem dX3_fewestParts_64 : decode cX3_fewestParts 64 = .ok (.getfield 22, 3) := by decide +kernel
theorem dX3_fewestParts_67 : decode cX3_fewestParts 67 = .ok (.iload_n 3, 1) := by decide +kernel
theorem dX3_fewestParts_68 : decode cX3_fewestParts 68 = .ok (.iload 4, 2) := by decide +kernel
theorem dX3_fewestParts_70 : decode cX3_fewestParts 70 = .ok (.iconst 1, 1) := by decide +kernel
theorem dX3_fewestParts_71 : decode cX3_fewestParts 71 = .ok (.iadd, 1) := by decide +kernel
theorem dX3_fewestParts_72 : decode cX3_fewestParts 72 = .ok (.iastore, 1) := by decide +kernel
theorem dX3_fewestParts_73 : decode cX3_fewestParts 73 = .ok (.iload_n 1, 1) := by decide +kernel
theorem dX3_fewestParts_74 : decode cX3_fewestParts 74 = .ok (.aload_n 0, 1) := by decide +kernel
theorem dX3_fewestParts_75 : decode cX3_fewestParts 75 = .ok (.getfield 22, 3) := by decide +kernel
theorem dX3_fewestParts_78 : decode cX3_fewestParts 78 = .ok (.iload_n 3, 1) := by decide +kernel
theorem dX3_fewestParts_79 : decode cX3_fewestParts 79 = .ok (.iaload, 1) := by decide +kernel
theorem dX3_fewestParts_80 : decode cX3_fewestParts 80 = .ok (.invokestatic 41, 3) := by decide +kernel
theorem dX3_fewestParts_83 : decode cX3_fewestParts 83 = .ok (.istore_n 1, 1) := by decide +kernel
theorem dX3_fewestParts_84 : decode cX3_fewestParts 84 = .ok (.iinc 2 1, 3) := by decide +kernel
theorem dX3_fewestParts_87 : decode cX3_fewestParts 87 = .ok (.goto (-75), 3) := by decide +kernel
theorem dX3_fewestParts_90 : decode cX3_fewestParts 90 = .ok (.iload_n 1, 1) := by decide +kernel
theorem dX3_fewestParts_91 : decode cX3_fewestParts 91 = .ok (.ireturn, 1) := by decide +kernel
theorem dX3_numbersLacking_0 : decode cX3_numbersLacking 0 = .ok (.iload_n 2, 1) := by decide +kernel
theorem dX3_numbersLacking_1 : decode cX3_numbersLacking 1 = .ok (.invokestatic 47, 3) := by decide +kernel
theorem dX3_numbersLacking_4 : decode cX3_numbersLacking 4 = .ok (.istore_n 3, 1) := by decide +kernel
theorem dX3_numbersLacking_5 : decode cX3_numbersLacking 5 = .ok (.iconst 0, 1) := by decide +kernel
theorem dX3_numbersLacking_6 : decode cX3_numbersLacking 6 = .ok (.istore 4, 2) := by decide +kernel
theorem dX3_numbersLacking_8 : decode cX3_numbersLacking 8 = .ok (.iload 4, 2) := by decide +kernel
theorem dX3_numbersLacking_10 : decode cX3_numbersLacking 10 = .ok (.aload_n 0, 1) := by decide +kernel
theorem dX3_numbersLacking_11 : decode cX3_numbersLacking 11 = .ok (.getfield 15, 3) := by decide +kernel
theorem dX3_numbersLacking_14 : decode cX3_numbersLacking 14 = .ok (.if_icmp .ge 40, 3) := by decide +kernel
theorem dX3_numbersLacking_17 : decode cX3_numbersLacking 17 = .ok (.aload_n 0, 1) := by decide +kernel
theorem dX3_numbersLacking_18 : decode cX3_numbersLacking 18 = .ok (.getfield 9, 3) := by decide +kernel
theorem dX3_numbersLacking_21 : decode cX3_numbersLacking 21 = .ok (.iload 4, 2) := by decide +kernel
theorem dX3_numbersLacking_23 : decode cX3_numbersLacking 23 = .ok (.iaload, 1) := by decide +kernel
theorem dX3_numbersLacking_24 : decode cX3_numbersLacking 24 = .ok (.bipush 10, 2) := by decide +kernel
theorem dX3_numbersLacking_26 : decode cX3_numbersLacking 26 = .ok (.idiv, 1) := by decide +kernel
theorem dX3_numbersLacking_27 : decode cX3_numbersLacking 27 = .ok (.iload_n 1, 1) := by decide +kernel
theorem dX3_numbersLacking_28 : decode cX3_numbersLacking 28 = .ok (.if_icmp .ne 20, 3) := by decide +kernel
theorem dX3_numbersLacking_31 : decode cX3_numbersLacking 31 = .ok (.iload_n 3, 1) := by decide +kernel
theorem dX3_numbersLacking_32 : decode cX3_numbersLacking 32 = .ok (.iconst 1, 1) := by decide +kernel
theorem dX3_numbersLacking_33 : decode cX3_numbersLacking 33 = .ok (.aload_n 0, 1) := by decide +kernel
theorem dX3_numbersLacking_34 : decode cX3_numbersLacking 34 = .ok (.getfield 9, 3) := by decide +kernel
theorem dX3_numbersLacking_37 : decode cX3_numbersLacking 37 = .ok (.iload 4, 2) := by decide +kernel
theorem dX3_numbersLacking_39 : decode cX3_numbersLacking 39 = .ok (.iaload, 1) := by decide +kernel
theorem dX3_numbersLacking_40 : decode cX3_numbersLacking 40 = .ok (.bipush 10, 2) := by decide +kernel
theorem dX3_numbersLacking_42 : decode cX3_numbersLacking 42 = .ok (.irem, 1) := by decide +kernel
theorem dX3_numbersLacking_43 : decode cX3_numbersLacking 43 = .ok (.ishl, 1) := by decide +kernel
theorem dX3_numbersLacking_44 : decode cX3_numbersLacking 44 = .ok (.iconst (-1), 1) := by decide +kernel
theorem dX3_numbersLacking_45 : decode cX3_numbersLacking 45 = .ok (.ixor, 1) := by decide +kernel
theorem dX3_numbersLacking_46 : decode cX3_numbersLacking 46 = .ok (.iand, 1) := by decide +kernel
theorem dX3_numbersLacking_47 : decode cX3_numbersLacking 47 = .ok (.istore_n 3, 1) := by decide +kernel
theorem dX3_numbersLacking_48 : decode cX3_numbersLacking 48 = .ok (.iinc 4 1, 3) := by decide +kernel
theorem dX3_numbersLacking_51 : decode cX3_numbersLacking 51 = .ok (.goto (-43), 3) := by decide +kernel
theorem dX3_numbersLacking_54 : decode cX3_numbersLacking 54 = .ok (.iload_n 3, 1) := by decide +kernel
theorem dX3_numbersLacking_55 : decode cX3_numbersLacking 55 = .ok (.ireturn, 1) := by decide +kernel
theorem dX3_fewestLaps_0 : decode cX3_fewestLaps 0 = .ok (.aload_n 0, 1) := by decide +kernel
theorem dX3_fewestLaps_1 : decode cX3_fewestLaps 1 = .ok (.invokevirtual 51, 3) := by decide +kernel
theorem dX3_fewestLaps_4 : decode cX3_fewestLaps 4 = .ok (.istore_n 2, 1) := by decide +kernel
theorem dX3_fewestLaps_5 : decode cX3_fewestLaps 5 = .ok (.iconst 0, 1) := by decide +kernel
theorem dX3_fewestLaps_6 : decode cX3_fewestLaps 6 = .ok (.istore_n 3, 1) := by decide +kernel
theorem dX3_fewestLaps_7 : decode cX3_fewestLaps 7 = .ok (.iconst 1, 1) := by decide +kernel
theorem dX3_fewestLaps_8 : decode cX3_fewestLaps 8 = .ok (.istore 4, 2) := by decide +kernel
theorem dX3_fewestLaps_10 : decode cX3_fewestLaps 10 = .ok (.iload 4, 2) := by decide +kernel
theorem dX3_fewestLaps_12 : decode cX3_fewestLaps 12 = .ok (.iload_n 2, 1) := by decide +kernel
theorem dX3_fewestLaps_13 : decode cX3_fewestLaps 13 = .ok (.if_icmp .ge 21, 3) := by decide +kernel
theorem dX3_fewestLaps_16 : decode cX3_fewestLaps 16 = .ok (.iload_n 3, 1) := by decide +kernel
theorem dX3_fewestLaps_17 : decode cX3_fewestLaps 17 = .ok (.bipush 20, 2) := by decide +kernel
theorem dX3_fewestLaps_19 : decode cX3_fewestLaps 19 = .ok (.if_icmp .ge 15, 3) := by decide +kernel
theorem dX3_fewestLaps_22 : decode cX3_fewestLaps 22 = .ok (.iload 4, 2) := by decide +kernel
theorem dX3_fewestLaps_24 : decode cX3_fewestLaps 24 = .ok (.iload_n 1, 1) := by decide +kernel
theorem dX3_fewestLaps_25 : decode cX3_fewestLaps 25 = .ok (.imul, 1) := by decide +kernel
theorem dX3_fewestLaps_26 : decode cX3_fewestLaps 26 = .ok (.istore 4, 2) := by decide +kernel
theorem dX3_fewestLaps_28 : decode cX3_fewestLaps 28 = .ok (.iinc 3 1, 3) := by decide +kernel
theorem dX3_fewestLaps_31 : decode cX3_fewestLaps 31 = .ok (.goto (-21), 3) := by decide +kernel
theorem dX3_fewestLaps_34 : decode cX3_fewestLaps 34 = .ok (.iload_n 3, 1) := by decide +kernel
theorem dX3_fewestLaps_35 : decode cX3_fewestLaps 35 = .ok (.ireturn, 1) := by decide +kernel
theorem dX3_runsBySize_0 : decode cX3_runsBySize 0 = .ok (.aload_n 0, 1) := by decide +kernel
theorem dX3_runsBySize_1 : decode cX3_runsBySize 1 = .ok (.getfield 25, 3) := by decide +kernel
theorem dX3_runsBySize_4 : decode cX3_runsBySize 4 = .ok (.bipush (-9), 2) := by decide +kernel
theorem dX3_runsBySize_6 : decode cX3_runsBySize 6 = .ok (.invokestatic 35, 3) := by decide +kernel
theorem dX3_runsBySize_9 : decode cX3_runsBySize 9 = .ok (.aload_n 0, 1) := by decide +kernel
theorem dX3_runsBySize_10 : decode cX3_runsBySize 10 = .ok (.getfield 15, 3) := by decide +kernel
theorem dX3_runsBySize_13 : decode cX3_runsBySize 13 = .ok (.iconst 1, 1) := by decide +kernel
theorem dX3_runsBySize_14 : decode cX3_runsBySize 14 = .ok (.isub, 1) := by decide +kernel
theorem dX3_runsBySize_15 : decode cX3_runsBySize 15 = .ok (.istore_n 1, 1) := by decide +kernel
theorem dX3_runsBySize_16 : decode cX3_runsBySize 16 = .ok (.iload_n 1, 1) := by decide +kernel
theorem dX3_runsBySize_17 : decode cX3_runsBySize 17 = .ok (.ifCond .lt 21, 3) := by decide +kernel
theorem dX3_runsBySize_20 : decode cX3_runsBySize 20 = .ok (.aload_n 0, 1) := by decide +kernel
theorem dX3_runsBySize_21 : decode cX3_runsBySize 21 = .ok (.getfield 25, 3) := by decide +kernel
theorem dX3_runsBySize_24 : decode cX3_runsBySize 24 = .ok (.aload_n 0, 1) := by decide +kernel
theorem dX3_runsBySize_25 : decode cX3_runsBySize 25 = .ok (.getfield 9, 3) := by decide +kernel
theorem dX3_runsBySize_28 : decode cX3_runsBySize 28 = .ok (.iload_n 1, 1) := by decide +kernel
theorem dX3_runsBySize_29 : decode cX3_runsBySize 29 = .ok (.iaload, 1) := by decide +kernel
theorem dX3_runsBySize_30 : decode cX3_runsBySize 30 = .ok (.iload_n 1, 1) := by decide +kernel
theorem dX3_runsBySize_31 : decode cX3_runsBySize 31 = .ok (.iastore, 1) := by decide +kernel
theorem dX3_runsBySize_32 : decode cX3_runsBySize 32 = .ok (.iinc 1 (-1), 3) := by decide +kernel
theorem dX3_runsBySize_35 : decode cX3_runsBySize 35 = .ok (.goto (-19), 3) := by decide +kernel
theorem dX3_runsBySize_38 : decode cX3_runsBySize 38 = .ok (.iconst 0, 1) := by decide +kernel
theorem dX3_runsBySize_39 : decode cX3_runsBySize 39 = .ok (.istore_n 1, 1) := by decide +kernel
theorem dX3_runsBySize_40 : decode cX3_runsBySize 40 = .ok (.aload_n 0, 1) := by decide +kernel
theorem dX3_runsBySize_41 : decode cX3_runsBySize 41 = .ok (.getfield 15, 3) := by decide +kernel
theorem dX3_runsBySize_44 : decode cX3_runsBySize 44 = .ok (.istore_n 2, 1) := by decide +kernel
theorem dX3_runsBySize_45 : decode cX3_runsBySize 45 = .ok (.iconst 0, 1) := by decide +kernel
theorem dX3_runsBySize_46 : decode cX3_runsBySize 46 = .ok (.istore_n 3, 1) := by decide +kernel
theorem dX3_runsBySize_47 : decode cX3_runsBySize 47 = .ok (.iload_n 3, 1) := by decide +kernel
theorem dX3_runsBySize_48 : decode cX3_runsBySize 48 = .ok (.bipush 100, 2) := by decide +kernel
theorem dX3_runsBySize_50 : decode cX3_runsBySize 50 = .ok (.if_icmp .ge 45, 3) := by decide +kernel
theorem dX3_runsBySize_53 : decode cX3_runsBySize 53 = .ok (.aload_n 0, 1) := by decide +kernel
theorem dX3_runsBySize_54 : decode cX3_runsBySize 54 = .ok (.getfield 25, 3) := by decide +kernel
theorem dX3_runsBySize_57 : decode cX3_runsBySize 57 = .ok (.iload_n 3, 1) := by decide +kernel
theorem dX3_runsBySize_58 : decode cX3_runsBySize 58 = .ok (.iaload, 1) := by decide +kernel
theorem dX3_runsBySize_59 : decode cX3_runsBySize 59 = .ok (.bipush (-9), 2) := by decide +kernel
theorem dX3_runsBySize_61 : decode cX3_runsBySize 61 = .ok (.if_icmp .eq 28, 3) := by decide +kernel
theorem dX3_runsBySize_64 : decode cX3_runsBySize 64 = .ok (.iload_n 1, 1) := by decide +kernel
theorem dX3_runsBySize_65 : decode cX3_runsBySize 65 = .ok (.aload_n 0, 1) := by decide +kernel
theorem dX3_runsBySize_66 : decode cX3_runsBySize 66 = .ok (.getfield 25, 3) := by decide +kernel
theorem dX3_runsBySize_69 : decode cX3_runsBySize 69 = .ok (.iload_n 3, 1) := by decide +kernel
theorem dX3_runsBySize_70 : decode cX3_runsBySize 70 = .ok (.iaload, 1) := by decide +kernel
theorem dX3_runsBySize_71 : decode cX3_runsBySize 71 = .ok (.iload_n 2, 1) := by decide +kernel
theorem dX3_runsBySize_72 : decode cX3_runsBySize 72 = .ok (.if_icmp .ge 7, 3) := by decide +kernel
theorem dX3_runsBySize_75 : decode cX3_runsBySize 75 = .ok (.iconst 1, 1) := by decide +kernel
theorem dX3_runsBySize_76 : decode cX3_runsBySize 76 = .ok (.goto 4, 3) := by decide +kernel
theorem dX3_runsBySize_79 : decode cX3_runsBySize 79 = .ok (.iconst 0, 1) := by decide +kernel
theorem dX3_runsBySize_80 : decode cX3_runsBySize 80 = .ok (.iadd, 1) := by decide +kernel
theorem dX3_runsBySize_81 : decode cX3_runsBySize 81 = .ok (.istore_n 1, 1) := by decide +kernel
theorem dX3_runsBySize_82 : decode cX3_runsBySize 82 = .ok (.aload_n 0, 1) := by decide +kernel
theorem dX3_runsBySize_83 : decode cX3_runsBySize 83 = .ok (.getfield 25, 3) := by decide +kernel
theorem dX3_runsBySize_86 : decode cX3_runsBySize 86 = .ok (.iload_n 3, 1) := by decide +kernel
theorem dX3_runsBySize_87 : decode cX3_runsBySize 87 = .ok (.iaload, 1) := by decide +kernel
theorem dX3_runsBySize_88 : decode cX3_runsBySize 88 = .ok (.istore_n 2, 1) := by decide +kernel
theorem dX3_runsBySize_89 : decode cX3_runsBySize 89 = .ok (.iinc 3 1, 3) := by decide +kernel
theorem dX3_runsBySize_92 : decode cX3_runsBySize 92 = .ok (.goto (-45), 3) := by decide +kernel
theorem dX3_runsBySize_95 : decode cX3_runsBySize 95 = .ok (.iload_n 1, 1) := by decide +kernel
theorem dX3_runsBySize_96 : decode cX3_runsBySize 96 = .ok (.ireturn, 1) := by decide +kernel
theorem dX4_init_0 : decode cX4_init 0 = .ok (.aload_n 0, 1) := by decide +kernel
theorem dX4_init_1 : decode cX4_init 1 = .ok (.invokespecial 3, 3) := by decide +kernel
theorem dX4_init_4 : decode cX4_init 4 = .ok (.aload_n 0, 1) := by decide +kernel
theorem dX4_init_5 : decode cX4_init 5 = .ok (.bipush 80, 2) := by decide +kernel
theorem dX4_init_7 : decode cX4_init 7 = .ok (.newarray .int, 2) := by decide +kernel
theorem dX4_init_9 : decode cX4_init 9 = .ok (.putfield 9, 3) := by decide +kernel
theorem dX4_init_12 : decode cX4_init 12 = .ok (.aload_n 0, 1) := by decide +kernel
theorem dX4_init_13 : decode cX4_init 13 = .ok (.iconst 0, 1) := by decide +kernel
theorem dX4_init_14 : decode cX4_init 14 = .ok (.putfield 15, 3) := by decide +kernel
theorem dX4_init_17 : decode cX4_init 17 = .ok (.aload_n 0, 1) := by decide +kernel
theorem dX4_init_18 : decode cX4_init 18 = .ok (.iconst 0, 1) := by decide +kernel
theorem dX4_init_19 : decode cX4_init 19 = .ok (.putfield 19, 3) := by decide +kernel
theorem dX4_init_22 : decode cX4_init 22 = .ok (.aload_n 0, 1) := by decide +kernel
theorem dX4_init_23 : decode cX4_init 23 = .ok (.iconst 0, 1) := by decide +kernel
theorem dX4_init_24 : decode cX4_init 24 = .ok (.putfield 22, 3) := by decide +kernel
theorem dX4_init_27 : decode cX4_init 27 = .ok (.aload_n 0, 1) := by decide +kernel
theorem dX4_init_28 : decode cX4_init 28 = .ok (.iconst 0, 1) := by decide +kernel
theorem dX4_init_29 : decode cX4_init 29 = .ok (.putfield 25, 3) := by decide +kernel
theorem dX4_init_32 : decode cX4_init 32 = .ok (.aload_n 0, 1) := by decide +kernel
theorem dX4_init_33 : decode cX4_init 33 = .ok (.iconst 0, 1) := by decide +kernel
theorem dX4_init_34 : decode cX4_init 34 = .ok (.putfield 28, 3) := by decide +kernel
theorem dX4_init_37 : decode cX4_init 37 = .ok (.aload_n 0, 1) := by decide +kernel
theorem dX4_init_38 : decode cX4_init 38 = .ok (.iconst 0, 1) := by decide +kernel
theorem dX4_init_39 : decode cX4_init 39 = .ok (.putfield 31, 3) := by decide +kernel
theorem dX4_init_42 : decode cX4_init 42 = .ok (.aload_n 0, 1) := by decide +kernel
theorem dX4_init_43 : decode cX4_init 43 = .ok (.iconst 0, 1) := by decide +kernel
theorem dX4_init_44 : decode cX4_init 44 = .ok (.putfield 34, 3) := by decide +kernel
theorem dX4_init_47 : decode cX4_init 47 = .ok (.return_, 1) := by decide +kernel
theorem dX4_add_0 : decode cX4_add 0 = .ok (.aload_n 0, 1) := by decide +kernel
theorem dX4_add_1 : decode cX4_add 1 = .ok (.getfield 15, 3) := by decide +kernel
theorem dX4_add_4 : decode cX4_add 4 = .ok (.bipush 80, 2) := by decide +kernel
theorem dX4_add_6 : decode cX4_add 6 = .ok (.if_icmp .ge 23, 3) := by decide +kernel
theorem dX4_add_9 : decode cX4_add 9 = .ok (.aload_n 0, 1) := by decide +kernel
theorem dX4_add_10 : decode cX4_add 10 = .ok (.getfield 9, 3) := by decide +kernel
theorem dX4_add_13 : decode cX4_add 13 = .ok (.aload_n 0, 1) := by decide +kernel
theorem dX4_add_14 : decode cX4_add 14 = .ok (.getfield 15, 3) := by decide +kernel
theorem dX4_add_17 : decode cX4_add 17 = .ok (.iload_n 1, 1) := by decide +kernel
theorem dX4_add_18 : decode cX4_add 18 = .ok (.iastore, 1) := by decide +kernel
theorem dX4_add_19 : decode cX4_add 19 = .ok (.aload_n 0, 1) := by decide +kernel
theorem dX4_add_20 : decode cX4_add 20 = .ok (.dup, 1) := by decide +kernel
theorem dX4_add_21 : decode cX4_add 21 = .ok (.getfield 15, 3) := by decide +kernel
theorem dX4_add_24 : decode cX4_add 24 = .ok (.iconst 1, 1) := by decide +kernel
theorem dX4_add_25 : decode cX4_add 25 = .ok (.iadd, 1) := by decide +kernel
theorem dX4_add_26 : decode cX4_add 26 = .ok (.putfield 15, 3) := by decide +kernel
theorem dX4_add_29 : decode cX4_add 29 = .ok (.aload_n 0, 1) := by decide +kernel
theorem dX4_add_30 : decode cX4_add 30 = .ok (.getfield 15, 3) := by decide +kernel
theorem dX4_add_33 : decode cX4_add 33 = .ok (.ireturn, 1) := by decide +kernel
theorem dX4_clear_0 : decode cX4_clear 0 = .ok (.aload_n 0, 1) := by decide +kernel
theorem dX4_clear_1 : decode cX4_clear 1 = .ok (.iconst 0, 1) := by decide +kernel
theorem dX4_clear_2 : decode cX4_clear 2 = .ok (.putfield 15, 3) := by decide +kernel
theorem dX4_clear_5 : decode cX4_clear 5 = .ok (.return_, 1) := by decide +kernel
theorem dX4_wrongPlace_0 : decode cX4_wrongPlace 0 = .ok (.aload_n 0, 1) := by decide +kernel
theorem dX4_wrongPlace_1 : decode cX4_wrongPlace 1 = .ok (.iconst 0, 1) := by decide +kernel
theorem dX4_wrongPlace_2 : decode cX4_wrongPlace 2 = .ok (.putfield 19, 3) := by decide +kernel
theorem dX4_wrongPlace_5 : decode cX4_wrongPlace 5 = .ok (.iconst 0, 1) := by decide +kernel
theorem dX4_wrongPlace_6 : decode cX4_wrongPlace 6 = .ok (.istore_n 1, 1) := by decide +kernel
theorem dX4_wrongPlace_7 : decode cX4_wrongPlace 7 = .ok (.iload_n 1, 1) := by decide +kernel
theorem dX4_wrongPlace_8 : decode cX4_wrongPlace 8 = .ok (.bipush 80, 2) := by decide +kernel
theorem dX4_wrongPlace_10 : decode cX4_wrongPlace 10 = .ok (.if_icmp .ge 35, 3) := by decide +kernel
theorem dX4_wrongPlace_13 : decode cX4_wrongPlace 13 = .ok (.aload_n 0, 1) := by decide +kernel
theorem dX4_wrongPlace_14 : decode cX4_wrongPlace 14 = .ok (.invokevirtual 37, 3) := by decide +kernel
theorem dX4_wrongPlace_17 : decode cX4_wrongPlace 17 = .ok (.ifCond .ne 8, 3) := by decide +kernel
theorem dX4_wrongPlace_20 : decode cX4_wrongPlace 20 = .ok (.aload_n 0, 1) := by decide +kernel
theorem dX4_wrongPlace_21 : decode cX4_wrongPlace 21 = .ok (.getfield 19, 3) := by decide +kernel
theorem dX4_wrongPlace_24 : decode cX4_wrongPlace 24 = .ok (.ireturn, 1) := by decide +kernel
theorem dX4_wrongPlace_25 : decode cX4_wrongPlace 25 = .ok (.aload_n 0, 1) := by decide +kernel
theorem dX4_wrongPlace_26 : decode cX4_wrongPlace 26 = .ok (.getfield 19, 3) := by decide +kernel
theorem dX4_wrongPlace_29 : decode cX4_wrongPlace 29 = .ok (.aload_n 0, 1) := by decide +kernel
theorem dX4_wrongPlace_30 : decode cX4_wrongPlace 30 = .ok (.getfield 15, 3) := by decide +kernel
theorem dX4_wrongPlace_33 : decode cX4_wrongPlace 33 = .ok (.if_icmp .lt 6, 3) := by decide +kernel
theorem dX4_wrongPlace_36 : decode cX4_wrongPlace 36 = .ok (.bipush (-9), 2) := by decide +kernel
theorem dX4_wrongPlace_38 : decode cX4_wrongPlace 38 = .ok (.ireturn, 1) := by decide +kernel
theorem dX4_wrongPlace_39 : decode cX4_wrongPlace 39 = .ok (.iinc 1 1, 3) := by decide +kernel
theorem dX4_wrongPlace_42 : decode cX4_wrongPlace 42 = .ok (.goto (-35), 3) := by decide +kernel
theorem dX4_wrongPlace_45 : decode cX4_wrongPlace 45 = .ok (.bipush (-9), 2) := by decide +kernel
theorem dX4_wrongPlace_47 : decode cX4_wrongPlace 47 = .ok (.ireturn, 1) := by decide +kernel
theorem dX4_readStatement_0 : decode cX4_readStatement 0 = .ok (.aload_n 0, 1) := by decide +kernel
theorem dX4_readStatement_1 : decode cX4_readStatement 1 = .ok (.aload_n 0, 1) := by decide +kernel
theorem dX4_readStatement_2 : decode cX4_readStatement 2 = .ok (.getfield 19, 3) := by decide +kernel
theorem dX4_readStatement_5 : decode cX4_readStatement 5 = .ok (.aload_n 0, 1) := by decide +kernel
theorem dX4_readStatement_6 : decode cX4_readStatement 6 = .ok (.getfield 15, 3) := by decide +kernel
theorem dX4_readStatement_9 : decode cX4_readStatement 9 = .ok (.if_icmp .ge 15, 3) := by decide +kernel
theorem dX4_readStatement_12 : decode cX4_readStatement 12 = .ok (.aload_n 0, 1) := by decide +kernel
theorem dX4_readStatement_13 : decode cX4_readStatement 13 = .ok (.getfield 9, 3) := by decide +kernel
theorem dX4_readStatement_16 : decode cX4_readStatement 16 = .ok (.aload_n 0, 1) := by decide +kernel
theorem dX4_readStatement_17 : decode cX4_readStatement 17 = .ok (.getfield 19, 3) := by decide +kernel
theorem dX4_readStatement_20 : decode cX4_readStatement 20 = .ok (.iaload, 1) := by decide +kernel
theorem dX4_readStatement_21 : decode cX4_readStatement 21 = .ok (.goto 4, 3) := by decide +kernel
theorem dX4_readStatement_24 : decode cX4_readStatement 24 = .ok (.iconst 0, 1) := by decide +kernel
theorem dX4_readStatement_25 : decode cX4_readStatement 25 = .ok (.putfield 22, 3) := by decide +kernel
theorem dX4_readStatement_28 : decode cX4_readStatement 28 = .ok (.aload_n 0, 1) := by decide +kernel
theorem dX4_readStatement_29 : decode cX4_readStatement 29 = .ok (.getfield 22, 3) := by decide +kernel
theorem dX4_readStatement_32 : decode cX4_readStatement 32 = .ok (.lookupswitch 124 #[(106, 36), (109, 51), (116, 92)], 36) := by decide +kernel
theorem dX4_readStatement_68 : decode cX4_readStatement 68 = .ok (.aload_n 0, 1) := by decide +kernel
theorem dX4_readStatement_69 : decode cX4_readStatement 69 = .ok (.dup, 1) := by decide +kernel
theorem dX4_readStatement_70 : decode cX4_readStatement 70 = .ok (.getfield 19, 3) := by decide +kernel
theorem dX4_readStatement_73 : decode cX4_readStatement 73 = .ok (.iconst 1, 1) := by decide +kernel
theorem dX4_readStatement_74 : decode cX4_readStatement 74 = .ok (.iadd, 1) := by decide +kernel
theorem dX4_readStatement_75 : decode cX4_readStatement 75 = .ok (.putfield 19, 3) := by decide +kernel
theorem dX4_readStatement_78 : decode cX4_readStatement 78 = .ok (.aload_n 0, 1) := by decide +kernel
theorem dX4_readStatement_79 : decode cX4_readStatement 79 = .ok (.invokevirtual 41, 3) := by decide +kernel
theorem dX4_readStatement_82 : decode cX4_readStatement 82 = .ok (.ireturn, 1) := by decide +kernel
theorem dX4_readStatement_83 : decode cX4_readStatement 83 = .ok (.aload_n 0, 1) := by decide +kernel
theorem dX4_readStatement_84 : decode cX4_readStatement 84 = .ok (.dup, 1) := by decide +kernel
theorem dX4_readStatement_85 : decode cX4_readStatement 85 = .ok (.getfield 19, 3) := by decide +kernel
theorem dX4_readStatement_88 : decode cX4_readStatement 88 = .ok (.iconst 1, 1) := by decide +kernel
theorem dX4_readStatement_89 : decode cX4_readStatement 89 = .ok (.iadd, 1) := by decide +kernel
theorem dX4_readStatement_90 : decode cX4_readStatement 90 = .ok (.putfield 19, 3) := by decide +kernel
theorem dX4_readStatement_93 : decode cX4_readStatement 93 = .ok (.aload_n 0, 1) := by decide +kernel
theorem dX4_readStatement_94 : decode cX4_readStatement 94 = .ok (.ldc 44, 2) := by decide +kernel
theorem dX4_readStatement_96 : decode cX4_readStatement 96 = .ok (.invokevirtual 46, 3) := by decide +kernel
theorem dX4_readStatement_99 : decode cX4_readStatement 99 = .ok (.ifCond .eq 23, 3) := by decide +kernel
theorem dX4_readStatement_102 : decode cX4_readStatement 102 = .ok (.aload_n 0, 1) := by decide +kernel
theorem dX4_readStatement_103 : decode cX4_readStatement 103 = .ok (.invokevirtual 50, 3) := by decide +kernel
theorem dX4_readStatement_106 : decode cX4_readStatement 106 = .ok (.ifCond .eq 16, 3) := by decide +kernel
theorem dX4_readStatement_109 : decode cX4_readStatement 109 = .ok (.aload_n 0, 1) := by decide +kernel
theorem dX4_readStatement_110 : decode cX4_readStatement 110 = .ok (.bipush 59, 2) := by decide +kernel
theorem dX4_readStatement_112 : decode cX4_readStatement 112 = .ok (.invokevirtual 53, 3) := by decide +kernel
theorem dX4_readStatement_115 : decode cX4_readStatement 115 = .ok (.ifCond .eq 7, 3) := by decide +kernel
theorem dX4_readStatement_118 : decode cX4_readStatement 118 = .ok (.iconst 1, 1) := by decide +kernel
theorem dX4_readStatement_119 : decode cX4_readStatement 119 = .ok (.goto 4, 3) := by decide +kernel
theorem dX4_readStatement_122 : decode cX4_readStatement 122 = .ok (.iconst 0, 1) := by decide +kernel
theorem dX4_readStatement_123 : decode cX4_readStatement 123 = .ok (.ireturn, 1) := by decide +kernel
theorem dX4_readStatement_124 : decode cX4_readStatement 124 = .ok (.aload_n 0, 1) := by decide +kernel
theorem dX4_readStatement_125 : decode cX4_readStatement 125 = .ok (.dup, 1) := by decide +kernel
theorem dX4_readStatement_126 : decode cX4_readStatement 126 = .ok (.getfield 19, 3) := by decide +kernel
theorem dX4_readStatement_129 : decode cX4_readStatement 129 = .ok (.iconst 1, 1) := by decide +kernel
theorem dX4_readStatement_130 : decode cX4_readStatement 130 = .ok (.iadd, 1) := by decide +kernel
theorem dX4_readStatement_131 : decode cX4_readStatement 131 = .ok (.putfield 19, 3) := by decide +kernel
theorem dX4_readStatement_134 : decode cX4_readStatement 134 = .ok (.aload_n 0, 1) := by decide +kernel
theorem dX4_readStatement_135 : decode cX4_readStatement 135 = .ok (.ldc 57, 2) := by decide +kernel
theorem dX4_readStatement_137 : decode cX4_readStatement 137 = .ok (.invokevirtual 46, 3) := by decide +kernel
theorem dX4_readStatement_140 : decode cX4_readStatement 140 = .ok (.ifCond .eq 14, 3) := by decide +kernel
theorem dX4_readStatement_143 : decode cX4_readStatement 143 = .ok (.aload_n 0, 1) := by decide +kernel
theorem dX4_readStatement_144 : decode cX4_readStatement 144 = .ok (.invokevirtual 41, 3) := by decide +kernel
theorem dX4_readStatement_147 : decode cX4_readStatement 147 = .ok (.ifCond .eq 7, 3) := by decide +kernel
theorem dX4_readStatement_150 : decode cX4_readStatement 150 = .ok (.iconst 1, 1) := by decide +kernel
theorem dX4_readStatement_151 : decode cX4_readStatement 151 = .ok (.goto 4, 3) := by decide +kernel
theorem dX4_readStatement_154 : decode cX4_readStatement 154 = .ok (.iconst 0, 1) := by decide +kernel
theorem dX4_readStatement_155 : decode cX4_readStatement 155 = .ok (.ireturn, 1) := by decide +kernel
theorem dX4_readStatement_156 : decode cX4_readStatement 156 = .ok (.iconst 0, 1) := by decide +kernel
theorem dX4_readStatement_157 : decode cX4_readStatement 157 = .ok (.ireturn, 1) := by decide +kernel
theorem dX4_tellTo_0 : decode cX4_tellTo 0 = .ok (.aload_n 0, 1) := by decide +kernel
theorem dX4_tellTo_1 : decode cX4_tellTo 1 = .ok (.getfield 22, 3) := by decide +kernel
theorem dX4_tellTo_4 : decode cX4_tellTo 4 = .ok (.lookupswitch 66 #[(106, 28), (116, 45)], 28) := by decide +kernel
theorem dX4_tellTo_32 : decode cX4_tellTo 32 = .ok (.aload_n 1, 1) := by decide +kernel
theorem dX4_tellTo_33 : decode cX4_tellTo 33 = .ok (.aload_n 0, 1) := by decide +kernel
theorem dX4_tellTo_34 : decode cX4_tellTo 34 = .ok (.getfield 28, 3) := by decide +kernel
theorem dX4_tellTo_37 : decode cX4_tellTo 37 = .ok (.aload_n 0, 1) := by decide +kernel
theorem dX4_tellTo_38 : decode cX4_tellTo 38 = .ok (.getfield 31, 3) := by decide +kernel
theorem dX4_tellTo_41 : decode cX4_tellTo 41 = .ok (.aload_n 0, 1) := by decide +kernel
theorem dX4_tellTo_42 : decode cX4_tellTo 42 = .ok (.getfield 34, 3) := by decide +kernel
theorem dX4_tellTo_45 : decode cX4_tellTo 45 = .ok (.invokevirtual 59, 3) := by decide +kernel
theorem dX4_tellTo_48 : decode cX4_tellTo 48 = .ok (.ireturn, 1) := by decide +kernel
theorem dX4_tellTo_49 : decode cX4_tellTo 49 = .ok (.aload_n 1, 1) := by decide +kernel
theorem dX4_tellTo_50 : decode cX4_tellTo 50 = .ok (.aload_n 0, 1) := by decide +kernel
theorem dX4_tellTo_51 : decode cX4_tellTo 51 = .ok (.getfield 25, 3) := by decide +kernel
theorem dX4_tellTo_54 : decode cX4_tellTo 54 = .ok (.aload_n 0, 1) := by decide +kernel
theorem dX4_tellTo_55 : decode cX4_tellTo 55 = .ok (.getfield 28, 3) := by decide +kernel
theorem dX4_tellTo_58 : decode cX4_tellTo 58 = .ok (.aload_n 0, 1) := by decide +kernel
theorem dX4_tellTo_59 : decode cX4_tellTo 59 = .ok (.getfield 31, 3) := by decide +kernel
theorem dX4_tellTo_62 : decode cX4_tellTo 62 = .ok (.aload_n 0, 1) := by decide +kernel
theorem dX4_tellTo_63 : decode cX4_tellTo 63 = .ok (.getfield 34, 3) := by decide +kernel
theorem dX4_tellTo_66 : decode cX4_tellTo 66 = .ok (.invokevirtual 65, 3) := by decide +kernel
theorem dX4_tellTo_69 : decode cX4_tellTo 69 = .ok (.ireturn, 1) := by decide +kernel
theorem dX4_tellTo_70 : decode cX4_tellTo 70 = .ok (.aload_n 1, 1) := by decide +kernel
theorem dX4_tellTo_71 : decode cX4_tellTo 71 = .ok (.aload_n 0, 1) := by decide +kernel
theorem dX4_tellTo_72 : decode cX4_tellTo 72 = .ok (.getfield 25, 3) := by decide +kernel
theorem dX4_tellTo_75 : decode cX4_tellTo 75 = .ok (.aload_n 0, 1) := by decide +kernel
theorem dX4_tellTo_76 : decode cX4_tellTo 76 = .ok (.getfield 31, 3) := by decide +kernel
theorem dX4_tellTo_79 : decode cX4_tellTo 79 = .ok (.invokevirtual 69, 3) := by decide +kernel
theorem dX4_tellTo_82 : decode cX4_tellTo 82 = .ok (.iconst 1, 1) := by decide +kernel
theorem dX4_tellTo_83 : decode cX4_tellTo 83 = .ok (.ireturn, 1) := by decide +kernel
theorem dX4_readOwnerFigureMinute_0 : decode cX4_readOwnerFigureMinute 0 = .ok (.aload_n 0, 1) := by decide +kernel
theorem dX4_readOwnerFigureMinute_1 : decode cX4_readOwnerFigureMinute 1 = .ok (.aload_n 0, 1) := by decide +kernel
theorem dX4_readOwnerFigureMinute_2 : decode cX4_readOwnerFigureMinute 2 = .ok (.invokevirtual 73, 3) := by decide +kernel
theorem dX4_readOwnerFigureMinute_5 : decode cX4_readOwnerFigureMinute 5 = .ok (.putfield 28, 3) := by decide +kernel
theorem dX4_readOwnerFigureMinute_8 : decode cX4_readOwnerFigureMinute 8 = .ok (.aload_n 0, 1) := by decide +kernel
theorem dX4_readOwnerFigureMinute_9 : decode cX4_readOwnerFigureMinute 9 = .ok (.getfield 28, 3) := by decide +kernel
theorem dX4_readOwnerFigureMinute_12 : decode cX4_readOwnerFigureMinute 12 = .ok (.ifCond .lt 39, 3) := by decide +kernel
theorem dX4_readOwnerFigureMinute_15 : decode cX4_readOwnerFigureMinute 15 = .ok (.aload_n 0, 1) := by decide +kernel
theorem dX4_readOwnerFigureMinute_16 : decode cX4_readOwnerFigureMinute 16 = .ok (.invokevirtual 50, 3) := by decide +kernel
theorem dX4_readOwnerFigureMinute_19 : decode cX4_readOwnerFigureMinute 19 = .ok (.ifCond .eq 32, 3) := by decide +kernel
theorem dX4_readOwnerFigureMinute_22 : decode cX4_readOwnerFigureMinute 22 = .ok (.aload_n 0, 1) := by decide +kernel
theorem dX4_readOwnerFigureMinute_23 : decode cX4_readOwnerFigureMinute 23 = .ok (.bipush 44, 2) := by decide +kernel
theorem dX4_readOwnerFigureMinute_25 : decode cX4_readOwnerFigureMinute 25 = .ok (.invokevirtual 53, 3) := by decide +kernel
theorem dX4_readOwnerFigureMinute_28 : decode cX4_readOwnerFigureMinute 28 = .ok (.ifCond .eq 23, 3) := by decide +kernel
theorem dX4_readOwnerFigureMinute_31 : decode cX4_readOwnerFigureMinute 31 = .ok (.aload_n 0, 1) := by decide +kernel
theorem dX4_readOwnerFigureMinute_32 : decode cX4_readOwnerFigureMinute 32 = .ok (.invokevirtual 77, 3) := by decide +kernel
theorem dX4_readOwnerFigureMinute_35 : decode cX4_readOwnerFigureMinute 35 = .ok (.ifCond .eq 16, 3) := by decide +kernel
theorem dX4_readOwnerFigureMinute_38 : decode cX4_readOwnerFigureMinute 38 = .ok (.aload_n 0, 1) := by decide +kernel
theorem dX4_readOwnerFigureMinute_39 : decode cX4_readOwnerFigureMinute 39 = .ok (.bipush 59, 2) := by decide +kernel
theorem dX4_readOwnerFigureMinute_41 : decode cX4_readOwnerFigureMinute 41 = .ok (.invokevirtual 53, 3) := by decide +kernel
theorem dX4_readOwnerFigureMinute_44 : decode cX4_readOwnerFigureMinute 44 = .ok (.ifCond .eq 7, 3) := by decide +kernel
theorem dX4_readOwnerFigureMinute_47 : decode cX4_readOwnerFigureMinute 47 = .ok (.iconst 1, 1) := by decide +kernel
theorem dX4_readOwnerFigureMinute_48 : decode cX4_readOwnerFigureMinute 48 = .ok (.goto 4, 3) := by decide +kernel
theorem dX4_readOwnerFigureMinute_51 : decode cX4_readOwnerFigureMinute 51 = .ok (.iconst 0, 1) := by decide +kernel
theorem dX4_readOwnerFigureMinute_52 : decode cX4_readOwnerFigureMinute 52 = .ok (.ireturn, 1) := by decide +kernel
theorem dX4_readKind_0 : decode cX4_readKind 0 = .ok (.aload_n 0, 1) := by decide +kernel
theorem dX4_readKind_1 : decode cX4_readKind 1 = .ok (.aload_n 0, 1) := by decide +kernel
theorem dX4_readKind_2 : decode cX4_readKind 2 = .ok (.getfield 19, 3) := by decide +kernel
theorem dX4_readKind_5 : decode cX4_readKind 5 = .ok (.aload_n 0, 1) := by decide +kernel
theorem dX4_readKind_6 : decode cX4_readKind 6 = .ok (.getfield 15, 3) := by decide +kernel
theorem dX4_readKind_9 : decode cX4_readKind 9 = .ok (.if_icmp .ge 20, 3) := by decide +kernel
theorem dX4_readKind_12 : decode cX4_readKind 12 = .ok (.aload_n 1, 1) := by decide +kernel
theorem dX4_readKind_13 : decode cX4_readKind 13 = .ok (.aload_n 0, 1) := by decide +kernel
theorem dX4_readKind_14 : decode cX4_readKind 14 = .ok (.getfield 9, 3) := by decide +kernel
theorem dX4_readKind_17 : decode cX4_readKind 17 = .ok (.aload_n 0, 1) := by decide +kernel
theorem dX4_readKind_18 : decode cX4_readKind 18 = .ok (.getfield 19, 3) := by decide +kernel
theorem dX4_readKind_21 : decode cX4_readKind 21 = .ok (.iaload, 1) := by decide +kernel
theorem dX4_readKind_22 : decode cX4_readKind 22 = .ok (.i2c, 1) := by decide +kernel
theorem dX4_readKind_23 : decode cX4_readKind 23 = .ok (.invokevirtual 80, 3) := by decide +kernel
theorem dX4_readKind_26 : decode cX4_readKind 26 = .ok (.goto 5, 3) := by decide +kernel
theorem dX4_readKind_29 : decode cX4_readKind 29 = .ok (.bipush (-9), 2) := by decide +kernel
theorem dX4_readKind_31 : decode cX4_readKind 31 = .ok (.putfield 25, 3) := by decide +kernel
theorem dX4_readKind_34 : decode cX4_readKind 34 = .ok (.aload_n 0, 1) := by decide +kernel
theorem dX4_readKind_35 : decode cX4_readKind 35 = .ok (.getfield 25, 3) := by decide +kernel
theorem dX4_readKind_38 : decode cX4_readKind 38 = .ok (.ifCond .ge 5, 3) := by decide +kernel
theorem dX4_readKind_41 : decode cX4_readKind 41 = .ok (.iconst 0, 1) := by decide +kernel
theorem dX4_readKind_42 : decode cX4_readKind 42 = .ok (.ireturn, 1) := by decide +kernel
theorem dX4_readKind_43 : decode cX4_readKind 43 = .ok (.aload_n 0, 1) := by decide +kernel
theorem dX4_readKind_44 : decode cX4_readKind 44 = .ok (.dup, 1) := by decide +kernel
theorem dX4_readKind_45 : decode cX4_readKind 45 = .ok (.getfield 19, 3) := by decide +kernel
theorem dX4_readKind_48 : decode cX4_readKind 48 = .ok (.iconst 1, 1) := by decide +kernel
theorem dX4_readKind_49 : decode cX4_readKind 49 = .ok (.iadd, 1) := by decide +kernel
theorem dX4_readKind_50 : decode cX4_readKind 50 = .ok (.putfield 19, 3) := by decide +kernel
theorem dX4_readKind_53 : decode cX4_readKind 53 = .ok (.iconst 1, 1) := by decide +kernel
theorem dX4_readKind_54 : decode cX4_readKind 54 = .ok (.ireturn, 1) := by decide +kernel
theorem dX4_readFigure_0 : decode cX4_readFigure 0 = .ok (.aload_n 0, 1) := by decide +kernel
theorem dX4_readFigure_1 : decode cX4_readFigure 1 = .ok (.aload_n 0, 1) := by decide +kernel
theorem dX4_readFigure_2 : decode cX4_readFigure 2 = .ok (.invokevirtual 73, 3) := by decide +kernel
theorem dX4_readFigure_5 : decode cX4_readFigure 5 = .ok (.putfield 31, 3) := by decide +kernel
theorem dX4_readFigure_8 : decode cX4_readFigure 8 = .ok (.aload_n 0, 1) := by decide +kernel
theorem dX4_readFigure_9 : decode cX4_readFigure 9 = .ok (.getfield 31, 3) := by decide +kernel
theorem dX4_readFigure_12 : decode cX4_readFigure 12 = .ok (.ifCond .lt 7, 3) := by decide +kernel
theorem dX4_readFigure_15 : decode cX4_readFigure 15 = .ok (.iconst 1, 1) := by decide +kernel
theorem dX4_readFigure_16 : decode cX4_readFigure 16 = .ok (.goto 4, 3) := by decide +kernel
theorem dX4_readFigure_19 : decode cX4_readFigure 19 = .ok (.iconst 0, 1) := by decide +kernel
theorem dX4_readFigure_20 : decode cX4_readFigure 20 = .ok (.ireturn, 1) := by decide +kernel
theorem dX4_readMinute_0 : decode cX4_readMinute 0 = .ok (.aload_n 0, 1) := by decide +kernel
theorem dX4_readMinute_1 : decode cX4_readMinute 1 = .ok (.aload_n 0, 1) := by decide +kernel
theorem dX4_readMinute_2 : decode cX4_readMinute 2 = .ok (.invokevirtual 73, 3) := by decide +kernel
theorem dX4_readMinute_5 : decode cX4_readMinute 5 = .ok (.putfield 34, 3) := by decide +kernel
theorem dX4_readMinute_8 : decode cX4_readMinute 8 = .ok (.aload_n 0, 1) := by decide +kernel
theorem dX4_readMinute_9 : decode cX4_readMinute 9 = .ok (.getfield 34, 3) := by decide +kernel
theorem dX4_readMinute_12 : decode cX4_readMinute 12 = .ok (.ifCond .ge 5, 3) := by decide +kernel
theorem dX4_readMinute_15 : decode cX4_readMinute 15 = .ok (.iconst 0, 1) := by decide +kernel
theorem dX4_readMinute_16 : decode cX4_readMinute 16 = .ok (.ireturn, 1) := by decide +kernel
theorem dX4_readMinute_17 : decode cX4_readMinute 17 = .ok (.aload_n 0, 1) := by decide +kernel
theorem dX4_readMinute_18 : decode cX4_readMinute 18 = .ok (.invokevirtual 73, 3) := by decide +kernel
theorem dX4_readMinute_21 : decode cX4_readMinute 21 = .ok (.istore_n 1, 1) := by decide +kernel
theorem dX4_readMinute_22 : decode cX4_readMinute 22 = .ok (.iload_n 1, 1) := by decide +kernel
theorem dX4_readMinute_23 : decode cX4_readMinute 23 = .ok (.ifCond .lt 16, 3) := by decide +kernel
theorem dX4_readMinute_26 : decode cX4_readMinute 26 = .ok (.aload_n 0, 1) := by decide +kernel
theorem dX4_readMinute_27 : decode cX4_readMinute 27 = .ok (.bipush 10, 2) := by decide +kernel
theorem dX4_readMinute_29 : decode cX4_readMinute 29 = .ok (.aload_n 0, 1) := by decide +kernel
theorem dX4_readMinute_30 : decode cX4_readMinute 30 = .ok (.getfield 34, 3) := by decide +kernel
theorem dX4_readMinute_33 : decode cX4_readMinute 33 = .ok (.imul, 1) := by decide +kernel
theorem dX4_readMinute_34 : decode cX4_readMinute 34 = .ok (.iload_n 1, 1) := by decide +kernel
theorem dX4_readMinute_35 : decode cX4_readMinute 35 = .ok (.iadd, 1) := by decide +kernel
theorem dX4_readMinute_36 : decode cX4_readMinute 36 = .ok (.putfield 34, 3) := by decide +kernel
theorem dX4_readMinute_39 : decode cX4_readMinute 39 = .ok (.iconst 1, 1) := by decide +kernel
theorem dX4_readMinute_40 : decode cX4_readMinute 40 = .ok (.ireturn, 1) := by decide +kernel
theorem dX4_readDigit_0 : decode cX4_readDigit 0 = .ok (.aload_n 0, 1) := by decide +kernel
theorem dX4_readDigit_1 : decode cX4_readDigit 1 = .ok (.getfield 19, 3) := by decide +kernel
theorem dX4_readDigit_4 : decode cX4_readDigit 4 = .ok (.aload_n 0, 1) := by decide +kernel
theorem dX4_readDigit_5 : decode cX4_readDigit 5 = .ok (.getfield 15, 3) := by decide +kernel
theorem dX4_readDigit_8 : decode cX4_readDigit 8 = .ok (.if_icmp .ge 31, 3) := by decide +kernel
theorem dX4_readDigit_11 : decode cX4_readDigit 11 = .ok (.aload_n 0, 1) := by decide +kernel
theorem dX4_readDigit_12 : decode cX4_readDigit 12 = .ok (.getfield 9, 3) := by decide +kernel
theorem dX4_readDigit_15 : decode cX4_readDigit 15 = .ok (.aload_n 0, 1) := by decide +kernel
theorem dX4_readDigit_16 : decode cX4_readDigit 16 = .ok (.getfield 19, 3) := by decide +kernel
theorem dX4_readDigit_19 : decode cX4_readDigit 19 = .ok (.iaload, 1) := by decide +kernel
theorem dX4_readDigit_20 : decode cX4_readDigit 20 = .ok (.bipush 48, 2) := by decide +kernel
theorem dX4_readDigit_22 : decode cX4_readDigit 22 = .ok (.if_icmp .lt 17, 3) := by decide +kernel
theorem dX4_readDigit_25 : decode cX4_readDigit 25 = .ok (.aload_n 0, 1) := by decide +kernel
theorem dX4_readDigit_26 : decode cX4_readDigit 26 = .ok (.getfield 9, 3) := by decide +kernel
theorem dX4_readDigit_29 : decode cX4_readDigit 29 = .ok (.aload_n 0, 1) := by decide +kernel
theorem dX4_readDigit_30 : decode cX4_readDigit 30 = .ok (.getfield 19, 3) := by decide +kernel
theorem dX4_readDigit_33 : decode cX4_readDigit 33 = .ok (.iaload, 1) := by decide +kernel
theorem dX4_readDigit_34 : decode cX4_readDigit 34 = .ok (.bipush 57, 2) := by decide +kernel
theorem dX4_readDigit_36 : decode cX4_readDigit 36 = .ok (.if_icmp .le 6, 3) := by decide +kernel
theorem dX4_readDigit_39 : decode cX4_readDigit 39 = .ok (.bipush (-9), 2) := by decide +kernel
theorem dX4_readDigit_41 : decode cX4_readDigit 41 = .ok (.ireturn, 1) := by decide +kernel
theorem dX4_readDigit_42 : decode cX4_readDigit 42 = .ok (.aload_n 0, 1) := by decide +kernel
theorem dX4_readDigit_43 : decode cX4_readDigit 43 = .ok (.getfield 9, 3) := by decide +kernel
theorem dX4_readDigit_46 : decode cX4_readDigit 46 = .ok (.aload_n 0, 1) := by decide +kernel
theorem dX4_readDigit_47 : decode cX4_readDigit 47 = .ok (.getfield 19, 3) := by decide +kernel
theorem dX4_readDigit_50 : decode cX4_readDigit 50 = .ok (.iaload, 1) := by decide +kernel
theorem dX4_readDigit_51 : decode cX4_readDigit 51 = .ok (.bipush 48, 2) := by decide +kernel
theorem dX4_readDigit_53 : decode cX4_readDigit 53 = .ok (.isub, 1) := by decide +kernel
theorem dX4_readDigit_54 : decode cX4_readDigit 54 = .ok (.istore_n 1, 1) := by decide +kernel
theorem dX4_readDigit_55 : decode cX4_readDigit 55 = .ok (.aload_n 0, 1) := by decide +kernel
theorem dX4_readDigit_56 : decode cX4_readDigit 56 = .ok (.dup, 1) := by decide +kernel
theorem dX4_readDigit_57 : decode cX4_readDigit 57 = .ok (.getfield 19, 3) := by decide +kernel
theorem dX4_readDigit_60 : decode cX4_readDigit 60 = .ok (.iconst 1, 1) := by decide +kernel
theorem dX4_readDigit_61 : decode cX4_readDigit 61 = .ok (.iadd, 1) := by decide +kernel
theorem dX4_readDigit_62 : decode cX4_readDigit 62 = .ok (.putfield 19, 3) := by decide +kernel
theorem dX4_readDigit_65 : decode cX4_readDigit 65 = .ok (.iload_n 1, 1) := by decide +kernel
theorem dX4_readDigit_66 : decode cX4_readDigit 66 = .ok (.ireturn, 1) := by decide +kernel
theorem dX4_readSign_0 : decode cX4_readSign 0 = .ok (.aload_n 0, 1) := by decide +kernel
theorem dX4_readSign_1 : decode cX4_readSign 1 = .ok (.getfield 19, 3) := by decide +kernel
theorem dX4_readSign_4 : decode cX4_readSign 4 = .ok (.aload_n 0, 1) := by decide +kernel
theorem dX4_readSign_5 : decode cX4_readSign 5 = .ok (.getfield 15, 3) := by decide +kernel
theorem dX4_readSign_8 : decode cX4_readSign 8 = .ok (.if_icmp .ge 16, 3) := by decide +kernel
theorem dX4_readSign_11 : decode cX4_readSign 11 = .ok (.aload_n 0, 1) := by decide +kernel
theorem dX4_readSign_12 : decode cX4_readSign 12 = .ok (.getfield 9, 3) := by decide +kernel
theorem dX4_readSign_15 : decode cX4_readSign 15 = .ok (.aload_n 0, 1) := by decide +kernel
theorem dX4_readSign_16 : decode cX4_readSign 16 = .ok (.getfield 19, 3) := by decide +kernel
theorem dX4_readSign_19 : decode cX4_readSign 19 = .ok (.iaload, 1) := by decide +kernel
theorem dX4_readSign_20 : decode cX4_readSign 20 = .ok (.iload_n 1, 1) := by decide +kernel
theorem dX4_readSign_21 : decode cX4_readSign 21 = .ok (.if_icmp .eq 5, 3) := by decide +kernel
theorem dX4_readSign_24 : decode cX4_readSign 24 = .ok (.iconst 0, 1) := by decide +kernel
theorem dX4_readSign_25 : decode cX4_readSign 25 = .ok (.ireturn, 1) := by decide +kernel
theorem dX4_readSign_26 : decode cX4_readSign 26 = .ok (.aload_n 0, 1) := by decide +kernel
theorem dX4_readSign_27 : decode cX4_readSign 27 = .ok (.dup, 1) := by decide +kernel
theorem dX4_readSign_28 : decode cX4_readSign 28 = .ok (.getfield 19, 3) := by decide +kernel
theorem dX4_readSign_31 : decode cX4_readSign 31 = .ok (.iconst 1, 1) := by decide +kernel
theorem dX4_readSign_32 : decode cX4_readSign 32 = .ok (.iadd, 1) := by decide +kernel
theorem dX4_readSign_33 : decode cX4_readSign 33 = .ok (.putfield 19, 3) := by decide +kernel
theorem dX4_readSign_36 : decode cX4_readSign 36 = .ok (.iconst 1, 1) := by decide +kernel
theorem dX4_readSign_37 : decode cX4_readSign 37 = .ok (.ireturn, 1) := by decide +kernel
theorem dX5_init_0 : decode cX5_init 0 = .ok (.aload_n 0, 1) := by decide +kernel
theorem dX5_init_1 : decode cX5_init 1 = .ok (.invokespecial 3, 3) := by decide +kernel
theorem dX5_init_4 : decode cX5_init 4 = .ok (.aload_n 0, 1) := by decide +kernel
theorem dX5_init_5 : decode cX5_init 5 = .ok (.bipush 100, 2) := by decide +kernel
theorem dX5_init_7 : decode cX5_init 7 = .ok (.newarray .int, 2) := by decide +kernel
theorem dX5_init_9 : decode cX5_init 9 = .ok (.putfield 9, 3) := by decide +kernel
theorem dX5_init_12 : decode cX5_init 12 = .ok (.aload_n 0, 1) := by decide +kernel
theorem dX5_init_13 : decode cX5_init 13 = .ok (.bipush 6, 2) := by decide +kernel
theorem dX5_init_15 : decode cX5_init 15 = .ok (.newarray .int, 2) := by decide +kernel
theorem dX5_init_17 : decode cX5_init 17 = .ok (.putfield 15, 3) := by decide +kernel
theorem dX5_init_20 : decode cX5_init 20 = .ok (.aload_n 0, 1) := by decide +kernel
theorem dX5_init_21 : decode cX5_init 21 = .ok (.iconst 0, 1) := by decide +kernel
theorem dX5_init_22 : decode cX5_init 22 = .ok (.putfield 18, 3) := by decide +kernel
theorem dX5_init_25 : decode cX5_init 25 = .ok (.return_, 1) := by decide +kernel
theorem dX5_putUpon_0 : decode cX5_putUpon 0 = .ok (.aload_n 0, 1) := by decide +kernel
theorem dX5_putUpon_1 : decode cX5_putUpon 1 = .ok (.getfield 18, 3) := by decide +kernel
theorem dX5_putUpon_4 : decode cX5_putUpon 4 = .ok (.bipush 100, 2) := by decide +kernel
theorem dX5_putUpon_6 : decode cX5_putUpon 6 = .ok (.if_icmp .ge 23, 3) := by decide +kernel
theorem dX5_putUpon_9 : decode cX5_putUpon 9 = .ok (.aload_n 0, 1) := by decide +kernel
theorem dX5_putUpon_10 : decode cX5_putUpon 10 = .ok (.getfield 9, 3) := by decide +kernel
theorem dX5_putUpon_13 : decode cX5_putUpon 13 = .ok (.aload_n 0, 1) := by decide +kernel
theorem dX5_putUpon_14 : decode cX5_putUpon 14 = .ok (.getfield 18, 3) := by decide +kernel
theorem dX5_putUpon_17 : decode cX5_putUpon 17 = .ok (.iload_n 1, 1) := by decide +kernel
theorem dX5_putUpon_18 : decode cX5_putUpon 18 = .ok (.iastore, 1) := by decide +kernel
theorem dX5_putUpon_19 : decode cX5_putUpon 19 = .ok (.aload_n 0, 1) := by decide +kernel
theorem dX5_putUpon_20 : decode cX5_putUpon 20 = .ok (.dup, 1) := by decide +kernel
theorem dX5_putUpon_21 : decode cX5_putUpon 21 = .ok (.getfield 18, 3) := by decide +kernel
theorem dX5_putUpon_24 : decode cX5_putUpon 24 = .ok (.iconst 1, 1) := by decide +kernel
theorem dX5_putUpon_25 : decode cX5_putUpon 25 = .ok (.iadd, 1) := by decide +kernel
theorem dX5_putUpon_26 : decode cX5_putUpon 26 = .ok (.putfield 18, 3) := by decide +kernel
theorem dX5_putUpon_29 : decode cX5_putUpon 29 = .ok (.return_, 1) := by decide +kernel
theorem dX5_putBeneath_0 : decode cX5_putBeneath 0 = .ok (.aload_n 0, 1) := by decide +kernel
theorem dX5_putBeneath_1 : decode cX5_putBeneath 1 = .ok (.getfield 18, 3) := by decide +kernel
theorem dX5_putBeneath_4 : decode cX5_putBeneath 4 = .ok (.bipush 100, 2) := by decide +kernel
theorem dX5_putBeneath_6 : decode cX5_putBeneath 6 = .ok (.if_icmp .ge 37, 3) := by decide +kernel
theorem dX5_putBeneath_9 : decode cX5_putBeneath 9 = .ok (.aload_n 0, 1) := by decide +kernel
theorem dX5_putBeneath_10 : decode cX5_putBeneath 10 = .ok (.getfield 9, 3) := by decide +kernel
theorem dX5_putBeneath_13 : decode cX5_putBeneath 13 = .ok (.iconst 0, 1) := by decide +kernel
theorem dX5_putBeneath_14 : decode cX5_putBeneath 14 = .ok (.aload_n 0, 1) := by decide +kernel
theorem dX5_putBeneath_15 : decode cX5_putBeneath 15 = .ok (.getfield 9, 3) := by decide +kernel
theorem dX5_putBeneath_18 : decode cX5_putBeneath 18 = .ok (.iconst 1, 1) := by decide +kernel
theorem dX5_putBeneath_19 : decode cX5_putBeneath 19 = .ok (.aload_n 0, 1) := by decide +kernel
theorem dX5_putBeneath_20 : decode cX5_putBeneath 20 = .ok (.getfield 18, 3) := by decide +kernel
theorem dX5_putBeneath_23 : decode cX5_putBeneath 23 = .ok (.invokestatic 22, 3) := by decide +kernel
theorem dX5_putBeneath_26 : decode cX5_putBeneath 26 = .ok (.aload_n 0, 1) := by decide +kernel
theorem dX5_putBeneath_27 : decode cX5_putBeneath 27 = .ok (.getfield 9, 3) := by decide +kernel
theorem dX5_putBeneath_30 : decode cX5_putBeneath 30 = .ok (.iconst 0, 1) := by decide +kernel
theorem dX5_putBeneath_31 : decode cX5_putBeneath 31 = .ok (.iload_n 1, 1) := by decide +kernel
theorem dX5_putBeneath_32 : decode cX5_putBeneath 32 = .ok (.iastore, 1) := by decide +kernel
theorem dX5_putBeneath_33 : decode cX5_putBeneath 33 = .ok (.aload_n 0, 1) := by decide +kernel
theorem dX5_putBeneath_34 : decode cX5_putBeneath 34 = .ok (.dup, 1) := by decide +kernel
theorem dX5_putBeneath_35 : decode cX5_putBeneath 35 = .ok (.getfield 18, 3) := by decide +kernel
theorem dX5_putBeneath_38 : decode cX5_putBeneath 38 = .ok (.iconst 1, 1) := by decide +kernel
theorem dX5_putBeneath_39 : decode cX5_putBeneath 39 = .ok (.iadd, 1) := by decide +kernel
theorem dX5_putBeneath_40 : decode cX5_putBeneath 40 = .ok (.putfield 18, 3) := by decide +kernel
theorem dX5_putBeneath_43 : decode cX5_putBeneath 43 = .ok (.return_, 1) := by decide +kernel
theorem dX5_fromTop_0 : decode cX5_fromTop 0 = .ok (.iload_n 1, 1) := by decide +kernel
theorem dX5_fromTop_1 : decode cX5_fromTop 1 = .ok (.ifCond .lt 27, 3) := by decide +kernel
theorem dX5_fromTop_4 : decode cX5_fromTop 4 = .ok (.iload_n 1, 1) := by decide +kernel
theorem dX5_fromTop_5 : decode cX5_fromTop 5 = .ok (.aload_n 0, 1) := by decide +kernel
theorem dX5_fromTop_6 : decode cX5_fromTop 6 = .ok (.getfield 18, 3) := by decide +kernel
theorem dX5_fromTop_9 : decode cX5_fromTop 9 = .ok (.if_icmp .ge 19, 3) := by decide +kernel
theorem dX5_fromTop_12 : decode cX5_fromTop 12 = .ok (.aload_n 0, 1) := by decide +kernel
theorem dX5_fromTop_13 : decode cX5_fromTop 13 = .ok (.getfield 9, 3) := by decide +kernel
theorem dX5_fromTop_16 : decode cX5_fromTop 16 = .ok (.aload_n 0, 1) := by decide +kernel
theorem dX5_fromTop_17 : decode cX5_fromTop 17 = .ok (.getfield 18, 3) := by decide +kernel
theorem dX5_fromTop_20 : decode cX5_fromTop 20 = .ok (.iconst 1, 1) := by decide +kernel
theorem dX5_fromTop_21 : decode cX5_fromTop 21 = .ok (.isub, 1) := by decide +kernel
theorem dX5_fromTop_22 : decode cX5_fromTop 22 = .ok (.iload_n 1, 1) := by decide +kernel
theorem dX5_fromTop_23 : decode cX5_fromTop 23 = .ok (.isub, 1) := by decide +kernel
theorem dX5_fromTop_24 : decode cX5_fromTop 24 = .ok (.iaload, 1) := by decide +kernel
theorem dX5_fromTop_25 : decode cX5_fromTop 25 = .ok (.goto 5, 3) := by decide +kernel
theorem dX5_fromTop_28 : decode cX5_fromTop 28 = .ok (.bipush (-9), 2) := by decide +kernel
theorem dX5_fromTop_30 : decode cX5_fromTop 30 = .ok (.ireturn, 1) := by decide +kernel
theorem dX5_looksAs_0 : decode cX5_looksAs 0 = .ok (.aload_n 1, 1) := by decide +kernel
theorem dX5_looksAs_1 : decode cX5_looksAs 1 = .ok (.getfield 28, 3) := by decide +kernel
theorem dX5_looksAs_4 : decode cX5_looksAs 4 = .ok (.aload_n 0, 1) := by decide +kernel
theorem dX5_looksAs_5 : decode cX5_looksAs 5 = .ok (.getfield 18, 3) := by decide +kernel
theorem dX5_looksAs_8 : decode cX5_looksAs 8 = .ok (.if_icmp .eq 5, 3) := by decide +kernel
theorem dX5_looksAs_11 : decode cX5_looksAs 11 = .ok (.iconst 0, 1) := by decide +kernel
theorem dX5_looksAs_12 : decode cX5_looksAs 12 = .ok (.ireturn, 1) := by decide +kernel
theorem dX5_looksAs_13 : decode cX5_looksAs 13 = .ok (.iconst 0, 1) := by decide +kernel
theorem dX5_looksAs_14 : decode cX5_looksAs 14 = .ok (.istore_n 2, 1) := by decide +kernel
theorem dX5_looksAs_15 : decode cX5_looksAs 15 = .ok (.iload_n 2, 1) := by decide +kernel
theorem dX5_looksAs_16 : decode cX5_looksAs 16 = .ok (.aload_n 0, 1) := by decide +kernel
theorem dX5_looksAs_17 : decode cX5_looksAs 17 = .ok (.getfield 18, 3) := by decide +kernel
theorem dX5_looksAs_20 : decode cX5_looksAs 20 = .ok (.if_icmp .ge 25, 3) := by decide +kernel
theorem dX5_looksAs_23 : decode cX5_looksAs 23 = .ok (.aload_n 0, 1) := by decide +kernel
theorem dX5_looksAs_24 : decode cX5_looksAs 24 = .ok (.iload_n 2, 1) := by decide +kernel
theorem dX5_looksAs_25 : decode cX5_looksAs 25 = .ok (.invokevirtual 31, 3) := by decide +kernel
theorem dX5_looksAs_28 : decode cX5_looksAs 28 = .ok (.aload_n 1, 1) := by decide +kernel
theorem dX5_looksAs_29 : decode cX5_looksAs 29 = .ok (.getfield 35, 3) := by decide +kernel
theorem dX5_looksAs_32 : decode cX5_looksAs 32 = .ok (.iload_n 2, 1) := by decide +kernel
theorem dX5_looksAs_33 : decode cX5_looksAs 33 = .ok (.iaload, 1) := by decide +kernel
theorem dX5_looksAs_34 : decode cX5_looksAs 34 = .ok (.if_icmp .eq 5, 3) := by decide +kernel
theorem dX5_looksAs_37 : decode cX5_looksAs 37 = .ok (.iconst 0, 1) := by decide +kernel
theorem dX5_looksAs_38 : decode cX5_looksAs 38 = .ok (.ireturn, 1) := by decide +kernel
theorem dX5_looksAs_39 : decode cX5_looksAs 39 = .ok (.iinc 2 1, 3) := by decide +kernel
theorem dX5_looksAs_42 : decode cX5_looksAs 42 = .ok (.goto (-27), 3) := by decide +kernel
theorem dX5_looksAs_45 : decode cX5_looksAs 45 = .ok (.iconst 1, 1) := by decide +kernel
theorem dX5_looksAs_46 : decode cX5_looksAs 46 = .ok (.ireturn, 1) := by decide +kernel
theorem dX5_giveTo_0 : decode cX5_giveTo 0 = .ok (.aload_n 1, 1) := by decide +kernel
theorem dX5_giveTo_1 : decode cX5_giveTo 1 = .ok (.getfield 38, 3) := by decide +kernel
theorem dX5_giveTo_4 : decode cX5_giveTo 4 = .ok (.iload_n 2, 1) := by decide +kernel
theorem dX5_giveTo_5 : decode cX5_giveTo 5 = .ok (.iaload, 1) := by decide +kernel
theorem dX5_giveTo_6 : decode cX5_giveTo 6 = .ok (.istore 4, 2) := by decide +kernel
theorem dX5_giveTo_8 : decode cX5_giveTo 8 = .ok (.aload_n 1, 1) := by decide +kernel
theorem dX5_giveTo_9 : decode cX5_giveTo 9 = .ok (.getfield 43, 3) := by decide +kernel
theorem dX5_giveTo_12 : decode cX5_giveTo 12 = .ok (.iload_n 2, 1) := by decide +kernel
theorem dX5_giveTo_13 : decode cX5_giveTo 13 = .ok (.iaload, 1) := by decide +kernel
theorem dX5_giveTo_14 : decode cX5_giveTo 14 = .ok (.istore 5, 2) := by decide +kernel
theorem dX5_giveTo_16 : decode cX5_giveTo 16 = .ok (.aload_n 1, 1) := by decide +kernel
theorem dX5_giveTo_17 : decode cX5_giveTo 17 = .ok (.getfield 46, 3) := by decide +kernel
theorem dX5_giveTo_20 : decode cX5_giveTo 20 = .ok (.iload_n 2, 1) := by decide +kernel
theorem dX5_giveTo_21 : decode cX5_giveTo 21 = .ok (.iaload, 1) := by decide +kernel
theorem dX5_giveTo_22 : decode cX5_giveTo 22 = .ok (.istore 6, 2) := by decide +kernel
theorem dX5_giveTo_24 : decode cX5_giveTo 24 = .ok (.iload 4, 2) := by decide +kernel
theorem dX5_giveTo_26 : decode cX5_giveTo 26 = .ok (.iconst 2, 1) := by decide +kernel
theorem dX5_giveTo_27 : decode cX5_giveTo 27 = .ok (.if_icmp .ne 13, 3) := by decide +kernel
theorem dX5_giveTo_30 : decode cX5_giveTo 30 = .ok (.aload_n 0, 1) := by decide +kernel
theorem dX5_giveTo_31 : decode cX5_giveTo 31 = .ok (.getfield 18, 3) := by decide +kernel
theorem dX5_giveTo_34 : decode cX5_giveTo 34 = .ok (.iload 6, 2) := by decide +kernel
theorem dX5_giveTo_36 : decode cX5_giveTo 36 = .ok (.isub, 1) := by decide +kernel
theorem dX5_giveTo_37 : decode cX5_giveTo 37 = .ok (.goto 4, 3) := by decide +kernel
theorem dX5_giveTo_40 : decode cX5_giveTo 40 = .ok (.iconst 0, 1) := by decide +kernel
theorem dX5_giveTo_41 : decode cX5_giveTo 41 = .ok (.istore 7, 2) := by decide +kernel
theorem dX5_giveTo_43 : decode cX5_giveTo 43 = .ok (.iload 4, 2) := by decide +kernel
theorem dX5_giveTo_45 : decode cX5_giveTo 45 = .ok (.iconst 4, 1) := by decide +kernel
theorem dX5_giveTo_46 : decode cX5_giveTo 46 = .ok (.if_icmp .ne 8, 3) := by decide +kernel
theorem dX5_giveTo_49 : decode cX5_giveTo 49 = .ok (.iload 6, 2) := by decide +kernel
theorem dX5_giveTo_51 : decode cX5_giveTo 51 = .ok (.goto 7, 3) := by decide +kernel
theorem dX5_giveTo_54 : decode cX5_giveTo 54 = .ok (.aload_n 0, 1) := by decide +kernel
theorem dX5_giveTo_55 : decode cX5_giveTo 55 = .ok (.getfield 18, 3) := by decide +kernel
theorem dX5_giveTo_58 : decode cX5_giveTo 58 = .ok (.istore 8, 2) := by decide +kernel
theorem dX5_giveTo_60 : decode cX5_giveTo 60 = .ok (.aload_n 0, 1) := by decide +kernel
theorem dX5_giveTo_61 : decode cX5_giveTo 61 = .ok (.aload_n 1, 1) := by decide +kernel
theorem dX5_giveTo_62 : decode cX5_giveTo 62 = .ok (.iload 4, 2) := by decide +kernel
theorem dX5_giveTo_64 : decode cX5_giveTo 64 = .ok (.iload 5, 2) := by decide +kernel
theorem dX5_giveTo_66 : decode cX5_giveTo 66 = .ok (.invokevirtual 49, 3) := by decide +kernel
theorem dX5_giveTo_69 : decode cX5_giveTo 69 = .ok (.istore 9, 2) := by decide +kernel
theorem dX5_giveTo_71 : decode cX5_giveTo 71 = .ok (.iconst 0, 1) := by decide +kernel
theorem dX5_giveTo_72 : decode cX5_giveTo 72 = .ok (.istore 10, 2) := by decide +kernel
theorem dX5_giveTo_74 : decode cX5_giveTo 74 = .ok (.iconst 0, 1) := by decide +kernel
theorem dX5_giveTo_75 : decode cX5_giveTo 75 = .ok (.istore 11, 2) := by decide +kernel
theorem dX5_giveTo_77 : decode cX5_giveTo 77 = .ok (.iload 11, 2) := by decide +kernel
theorem dX5_giveTo_79 : decode cX5_giveTo 79 = .ok (.aload_n 0, 1) := by decide +kernel
theorem dX5_giveTo_80 : decode cX5_giveTo 80 = .ok (.getfield 18, 3) := by decide +kernel
theorem dX5_giveTo_83 : decode cX5_giveTo 83 = .ok (.if_icmp .ge 66, 3) := by decide +kernel
theorem dX5_giveTo_86 : decode cX5_giveTo 86 = .ok (.aload_n 0, 1) := by decide +kernel
theorem dX5_giveTo_87 : decode cX5_giveTo 87 = .ok (.getfield 9, 3) := by decide +kernel
theorem dX5_giveTo_90 : decode cX5_giveTo 90 = .ok (.iload 11, 2) := by decide +kernel
theorem dX5_giveTo_92 : decode cX5_giveTo 92 = .ok (.iaload, 1) := by decide +kernel
theorem dX5_giveTo_93 : decode cX5_giveTo 93 = .ok (.istore 12, 2) := by decide +kernel
theorem dX5_giveTo_95 : decode cX5_giveTo 95 = .ok (.iload 11, 2) := by decide +kernel
theorem dX5_giveTo_97 : decode cX5_giveTo 97 = .ok (.iload 7, 2) := by decide +kernel
theorem dX5_giveTo_99 : decode cX5_giveTo 99 = .ok (.if_icmp .lt 32, 3) := by decide +kernel
theorem dX5_giveTo_102 : decode cX5_giveTo 102 = .ok (.iload 11, 2) := by decide +kernel
theorem dX5_giveTo_104 : decode cX5_giveTo 104 = .ok (.iload 8, 2) := by decide +kernel
theorem dX5_giveTo_106 : decode cX5_giveTo 106 = .ok (.if_icmp .ge 25, 3) := by decide +kernel
theorem dX5_giveTo_109 : decode cX5_giveTo 109 = .ok (.iload 9, 2) := by decide +kernel
theorem dX5_giveTo_111 : decode cX5_giveTo 111 = .ok (.iload 12, 2) := by decide +kernel
theorem dX5_giveTo_113 : decode cX5_giveTo 113 = .ok (.bipush 10, 2) := by decide +kernel
theorem dX5_giveTo_115 : decode cX5_giveTo 115 = .ok (.idiv, 1) := by decide +kernel
theorem dX5_giveTo_116 : decode cX5_giveTo 116 = .ok (.invokestatic 53, 3) := by decide +kernel
theorem dX5_giveTo_119 : decode cX5_giveTo 119 = .ok (.ifCond .eq 12, 3) := by decide +kernel
theorem dX5_giveTo_122 : decode cX5_giveTo 122 = .ok (.aload_n 3, 1) := by decide +kernel
theorem dX5_giveTo_123 : decode cX5_giveTo 123 = .ok (.iload 12, 2) := by decide +kernel
theorem dX5_giveTo_125 : decode cX5_giveTo 125 = .ok (.iload 5, 2) := by decide +kernel
theorem dX5_giveTo_127 : decode cX5_giveTo 127 = .ok (.iastore, 1) := by decide +kernel
theorem dX5_giveTo_128 : decode cX5_giveTo 128 = .ok (.goto 15, 3) := by decide +kernel
theorem dX5_giveTo_131 : decode cX5_giveTo 131 = .ok (.aload_n 0, 1) := by decide +kernel
theorem dX5_giveTo_132 : decode cX5_giveTo 132 = .ok (.getfield 9, 3) := by decide +kernel
theorem dX5_giveTo_135 : decode cX5_giveTo 135 = .ok (.iload 10, 2) := by decide +kernel
theorem dX5_giveTo_137 : decode cX5_giveTo 137 = .ok (.iload 12, 2) := by decide +kernel
theorem dX5_giveTo_139 : decode cX5_giveTo 139 = .ok (.iastore, 1) := by decide +kernel
theorem dX5_giveTo_140 : decode cX5_giveTo 140 = .ok (.iinc 10 1, 3) := by decide +kernel
theorem dX5_giveTo_143 : decode cX5_giveTo 143 = .ok (.iinc 11 1, 3) := by decide +kernel
theorem dX5_giveTo_146 : decode cX5_giveTo 146 = .ok (.goto (-69), 3) := by decide +kernel
theorem dX5_giveTo_149 : decode cX5_giveTo 149 = .ok (.aload_n 0, 1) := by decide +kernel
theorem dX5_giveTo_150 : decode cX5_giveTo 150 = .ok (.iload 10, 2) := by decide +kernel
theorem dX5_giveTo_152 : decode cX5_giveTo 152 = .ok (.putfield 18, 3) := by decide +kernel
theorem dX5_giveTo_155 : decode cX5_giveTo 155 = .ok (.return_, 1) := by decide +kernel
theorem dX5_jobsWanted_0 : decode cX5_jobsWanted 0 = .ok (.aload_n 1, 1) := by decide +kernel
theorem dX5_jobsWanted_1 : decode cX5_jobsWanted 1 = .ok (.iload_n 3, 1) := by decide +kernel
theorem dX5_jobsWanted_2 : decode cX5_jobsWanted 2 = .ok (.invokevirtual 57, 3) := by decide +kernel
theorem dX5_jobsWanted_5 : decode cX5_jobsWanted 5 = .ok (.istore 4, 2) := by decide +kernel
theorem dX5_jobsWanted_7 : decode cX5_jobsWanted 7 = .ok (.iload_n 2, 1) := by decide +kernel
theorem dX5_jobsWanted_8 : decode cX5_jobsWanted 8 = .ok (.tableswitch 66 1 5 #[36, 66, 39, 66, 57], 36) := by decide +kernel
theorem dX5_jobsWanted_44 : decode cX5_jobsWanted 44 = .ok (.iload 4, 2) := by decide +kernel
theorem dX5_jobsWanted_46 : decode cX5_jobsWanted 46 = .ok (.ireturn, 1) := by decide +kernel
theorem dX5_jobsWanted_47 : decode cX5_jobsWanted 47 = .ok (.aload_n 0, 1) := by decide +kernel
theorem dX5_jobsWanted_48 : decode cX5_jobsWanted 48 = .ok (.aload_n 1, 1) := by decide +kernel
theorem dX5_jobsWanted_49 : decode cX5_jobsWanted 49 = .ok (.invokevirtual 60, 3) := by decide +kernel
theorem dX5_jobsWanted_52 : decode cX5_jobsWanted 52 = .ok (.iload 4, 2) := by decide +kernel
theorem dX5_jobsWanted_54 : decode cX5_jobsWanted 54 = .ok (.iand, 1) := by decide +kernel
theorem dX5_jobsWanted_55 : decode cX5_jobsWanted 55 = .ok (.ifCond .eq 8, 3) := by decide +kernel
theorem dX5_jobsWanted_58 : decode cX5_jobsWanted 58 = .ok (.iload 4, 2) := by decide +kernel
theorem dX5_jobsWanted_60 : decode cX5_jobsWanted 60 = .ok (.goto 4, 3) := by decide +kernel
theorem dX5_jobsWanted_63 : decode cX5_jobsWanted 63 = .ok (.iconst 0, 1) := by decide +kernel
theorem dX5_jobsWanted_64 : decode cX5_jobsWanted 64 = .ok (.ireturn, 1) := by decide +kernel
theorem dX5_jobsWanted_65 : decode cX5_jobsWanted 65 = .ok (.aload_n 0, 1) := by decide +kernel
theorem dX5_jobsWanted_66 : decode cX5_jobsWanted 66 = .ok (.aload_n 1, 1) := by decide +kernel
theorem dX5_jobsWanted_67 : decode cX5_jobsWanted 67 = .ok (.invokevirtual 60, 3) := by decide +kernel
theorem dX5_jobsWanted_70 : decode cX5_jobsWanted 70 = .ok (.iload 4, 2) := by decide +kernel
theorem dX5_jobsWanted_72 : decode cX5_jobsWanted 72 = .ok (.iand, 1) := by decide +kernel
theorem dX5_jobsWanted_73 : decode cX5_jobsWanted 73 = .ok (.ireturn, 1) := by decide +kernel
theorem dX5_jobsWanted_74 : decode cX5_jobsWanted 74 = .ok (.bipush 63, 2) := by decide +kernel
theorem dX5_jobsWanted_76 : decode cX5_jobsWanted 76 = .ok (.ireturn, 1) := by decide +kernel
theorem dX5_wholeJobs_0 : decode cX5_wholeJobs 0 = .ok (.aload_n 0, 1) := by decide +kernel
theorem dX5_wholeJobs_1 : decode cX5_wholeJobs 1 = .ok (.getfield 15, 3) := by decide +kernel
theorem dX5_wholeJobs_4 : decode cX5_wholeJobs 4 = .ok (.iconst 0, 1) := by decide +kernel
theorem dX5_wholeJobs_5 : decode cX5_wholeJobs 5 = .ok (.invokestatic 64, 3) := by decide +kernel
theorem dX5_wholeJobs_8 : decode cX5_wholeJobs 8 = .ok (.iconst 0, 1) := by decide +kernel
theorem dX5_wholeJobs_9 : decode cX5_wholeJobs 9 = .ok (.istore_n 2, 1) := by decide +kernel
theorem dX5_wholeJobs_10 : decode cX5_wholeJobs 10 = .ok (.iload_n 2, 1) := by decide +kernel
theorem dX5_wholeJobs_11 : decode cX5_wholeJobs 11 = .ok (.aload_n 0, 1) := by decide +kernel
theorem dX5_wholeJobs_12 : decode cX5_wholeJobs 12 = .ok (.getfield 18, 3) := by decide +kernel
theorem dX5_wholeJobs_15 : decode cX5_wholeJobs 15 = .ok (.if_icmp .ge 37, 3) := by decide +kernel
theorem dX5_wholeJobs_18 : decode cX5_wholeJobs 18 = .ok (.aload_n 0, 1) := by decide +kernel
theorem dX5_wholeJobs_19 : decode cX5_wholeJobs 19 = .ok (.getfield 15, 3) := by decide +kernel
theorem dX5_wholeJobs_22 : decode cX5_wholeJobs 22 = .ok (.aload_n 0, 1) := by decide +kernel
theorem dX5_wholeJobs_23 : decode cX5_wholeJobs 23 = .ok (.getfield 9, 3) := by decide +kernel
theorem dX5_wholeJobs_26 : decode cX5_wholeJobs 26 = .ok (.iload_n 2, 1) := by decide +kernel
theorem dX5_wholeJobs_27 : decode cX5_wholeJobs 27 = .ok (.iaload, 1) := by decide +kernel
theorem dX5_wholeJobs_28 : decode cX5_wholeJobs 28 = .ok (.bipush 10, 2) := by decide +kernel
theorem dX5_wholeJobs_30 : decode cX5_wholeJobs 30 = .ok (.idiv, 1) := by decide +kernel
theorem dX5_wholeJobs_31 : decode cX5_wholeJobs 31 = .ok (.dup2, 1) := by decide +kernel
theorem dX5_wholeJobs_32 : decode cX5_wholeJobs 32 = .ok (.iaload, 1) := by decide +kernel
theorem dX5_wholeJobs_33 : decode cX5_wholeJobs 33 = .ok (.iconst 1, 1) := by decide +kernel
theorem dX5_wholeJobs_34 : decode cX5_wholeJobs 34 = .ok (.aload_n 0, 1) := by decide +kernel
theorem dX5_wholeJobs_35 : decode cX5_wholeJobs 35 = .ok (.getfield 9, 3) := by decide +kernel
theorem dX5_wholeJobs_38 : decode cX5_wholeJobs 38 = .ok (.iload_n 2, 1) := by decide +kernel
theorem dX5_wholeJobs_39 : decode cX5_wholeJobs 39 = .ok (.iaload, 1) := by decide +kernel
theorem dX5_wholeJobs_40 : decode cX5_wholeJobs 40 = .ok (.bipush 10, 2) := by decide +kernel
theorem dX5_wholeJobs_42 : decode cX5_wholeJobs 42 = .ok (.irem, 1) := by decide +kernel
theorem dX5_wholeJobs_43 : decode cX5_wholeJobs 43 = .ok (.ishl, 1) := by decide +kernel
theorem dX5_wholeJobs_44 : decode cX5_wholeJobs 44 = .ok (.ior, 1) := by decide +kernel
theorem dX5_wholeJobs_45 : decode cX5_wholeJobs 45 = .ok (.iastore, 1) := by decide +kernel
theorem dX5_wholeJobs_46 : decode cX5_wholeJobs 46 = .ok (.iinc 2 1, 3) := by decide +kernel
theorem dX5_wholeJobs_49 : decode cX5_wholeJobs 49 = .ok (.goto (-39), 3) := by decide +kernel
theorem dX5_wholeJobs_52 : decode cX5_wholeJobs 52 = .ok (.iconst 0, 1) := by decide +kernel
theorem dX5_wholeJobs_53 : decode cX5_wholeJobs 53 = .ok (.istore_n 2, 1) := by decide +kernel
theorem dX5_wholeJobs_54 : decode cX5_wholeJobs 54 = .ok (.iconst 0, 1) := by decide +kernel
theorem dX5_wholeJobs_55 : decode cX5_wholeJobs 55 = .ok (.istore_n 3, 1) := by decide +kernel
theorem dX5_wholeJobs_56 : decode cX5_wholeJobs 56 = .ok (.iload_n 3, 1) := by decide +kernel
theorem dX5_wholeJobs_57 : decode cX5_wholeJobs 57 = .ok (.aload_n 1, 1) := by decide +kernel
theorem dX5_wholeJobs_58 : decode cX5_wholeJobs 58 = .ok (.getfield 70, 3) := by decide +kernel
theorem dX5_wholeJobs_61 : decode cX5_wholeJobs 61 = .ok (.if_icmp .ge 37, 3) := by decide +kernel
theorem dX5_wholeJobs_64 : decode cX5_wholeJobs 64 = .ok (.iload_n 2, 1) := by decide +kernel
theorem dX5_wholeJobs_65 : decode cX5_wholeJobs 65 = .ok (.aload_n 0, 1) := by decide +kernel
theorem dX5_wholeJobs_66 : decode cX5_wholeJobs 66 = .ok (.getfield 15, 3) := by decide +kernel
theorem dX5_wholeJobs_69 : decode cX5_wholeJobs 69 = .ok (.iload_n 3, 1) := by decide +kernel
theorem dX5_wholeJobs_70 : decode cX5_wholeJobs 70 = .ok (.iaload, 1) := by decide +kernel
theorem dX5_wholeJobs_71 : decode cX5_wholeJobs 71 = .ok (.aload_n 1, 1) := by decide +kernel
theorem dX5_wholeJobs_72 : decode cX5_wholeJobs 72 = .ok (.getfield 73, 3) := by decide +kernel
theorem dX5_wholeJobs_75 : decode cX5_wholeJobs 75 = .ok (.iload_n 3, 1) := by decide +kernel
theorem dX5_wholeJobs_76 : decode cX5_wholeJobs 76 = .ok (.iaload, 1) := by decide +kernel
theorem dX5_wholeJobs_77 : decode cX5_wholeJobs 77 = .ok (.invokestatic 76, 3) := by decide +kernel
theorem dX5_wholeJobs_80 : decode cX5_wholeJobs 80 = .ok (.if_icmp .ne 9, 3) := by decide +kernel
theorem dX5_wholeJobs_83 : decode cX5_wholeJobs 83 = .ok (.iconst 1, 1) := by decide +kernel
theorem dX5_wholeJobs_84 : decode cX5_wholeJobs 84 = .ok (.iload_n 3, 1) := by decide +kernel
theorem dX5_wholeJobs_85 : decode cX5_wholeJobs 85 = .ok (.ishl, 1) := by decide +kernel
theorem dX5_wholeJobs_86 : decode cX5_wholeJobs 86 = .ok (.goto 4, 3) := by decide +kernel
theorem dX5_wholeJobs_89 : decode cX5_wholeJobs 89 = .ok (.iconst 0, 1) := by decide +kernel
theorem dX5_wholeJobs_90 : decode cX5_wholeJobs 90 = .ok (.ior, 1) := by decide +kernel
theorem dX5_wholeJobs_91 : decode cX5_wholeJobs 91 = .ok (.istore_n 2, 1) := by decide +kernel
theorem dX5_wholeJobs_92 : decode cX5_wholeJobs 92 = .ok (.iinc 3 1, 3) := by decide +kernel
theorem dX5_wholeJobs_95 : decode cX5_wholeJobs 95 = .ok (.goto (-39), 3) := by decide +kernel
theorem dX5_wholeJobs_98 : decode cX5_wholeJobs 98 = .ok (.iload_n 2, 1) := by decide +kernel
theorem dX5_wholeJobs_99 : decode cX5_wholeJobs 99 = .ok (.ireturn, 1) := by decide +kernel
theorem dJ11_isValidCodePoint_9a6ad_0 : decode cJ11_isValidCodePoint_9a6ad 0 = .ok (.iload_n 0, 1) := by decide +kernel
theorem dJ11_isValidCodePoint_9a6ad_1 : decode cJ11_isValidCodePoint_9a6ad 1 = .ok (.bipush 16, 2) := by decide +kernel
theorem dJ11_isValidCodePoint_9a6ad_3 : decode cJ11_isValidCodePoint_9a6ad 3 = .ok (.iushr, 1) := by decide +kernel
theorem dJ11_isValidCodePoint_9a6ad_4 : decode cJ11_isValidCodePoint_9a6ad 4 = .ok (.istore_n 1, 1) := by decide +kernel
theorem dJ11_isValidCodePoint_9a6ad_5 : decode cJ11_isValidCodePoint_9a6ad 5 = .ok (.iload_n 1, 1) := by decide +kernel
theorem dJ11_isValidCodePoint_9a6ad_6 : decode cJ11_isValidCodePoint_9a6ad 6 = .ok (.bipush 17, 2) := by decide +kernel
theorem dJ11_isValidCodePoint_9a6ad_8 : decode cJ11_isValidCodePoint_9a6ad 8 = .ok (.if_icmp .ge 7, 3) := by decide +kernel
theorem dJ11_isValidCodePoint_9a6ad_11 : decode cJ11_isValidCodePoint_9a6ad 11 = .ok (.iconst 1, 1) := by decide +kernel
theorem dJ11_isValidCodePoint_9a6ad_12 : decode cJ11_isValidCodePoint_9a6ad 12 = .ok (.goto 4, 3) := by decide +kernel
theorem dJ11_isValidCodePoint_9a6ad_15 : decode cJ11_isValidCodePoint_9a6ad 15 = .ok (.iconst 0, 1) := by decide +kernel
theorem dJ11_isValidCodePoint_9a6ad_16 : decode cJ11_isValidCodePoint_9a6ad 16 = .ok (.ireturn, 1) := by decide +kernel
theorem dJ11_highSurrogate_5068e_0 : decode cJ11_highSurrogate_5068e 0 = .ok (.iload_n 0, 1) := by decide +kernel
theorem dJ11_highSurrogate_5068e_1 : decode cJ11_highSurrogate_5068e 1 = .ok (.bipush 10, 2) := by decide +kernel
theorem dJ11_highSurrogate_5068e_3 : decode cJ11_highSurrogate_5068e 3 = .ok (.iushr, 1) := by decide +kernel
theorem dJ11_highSurrogate_5068e_4 : decode cJ11_highSurrogate_5068e 4 = .ok (.ldc 110, 2) := by decide +kernel
theorem dJ11_highSurrogate_5068e_6 : decode cJ11_highSurrogate_5068e 6 = .ok (.iadd, 1) := by decide +kernel
theorem dJ11_highSurrogate_5068e_7 : decode cJ11_highSurrogate_5068e 7 = .ok (.i2c, 1) := by decide +kernel
theorem dJ11_highSurrogate_5068e_8 : decode cJ11_highSurrogate_5068e 8 = .ok (.ireturn, 1) := by decide +kernel
theorem dJ11_lowSurrogate_5068e_0 : decode cJ11_lowSurrogate_5068e 0 = .ok (.iload_n 0, 1) := by decide +kernel
theorem dJ11_lowSurrogate_5068e_1 : decode cJ11_lowSurrogate_5068e 1 = .ok (.sipush 1023, 3) := by decide +kernel
theorem dJ11_lowSurrogate_5068e_4 : decode cJ11_lowSurrogate_5068e 4 = .ok (.iand, 1) := by decide +kernel
theorem dJ11_lowSurrogate_5068e_5 : decode cJ11_lowSurrogate_5068e 5 = .ok (.ldc 76, 2) := by decide +kernel
theorem dJ11_lowSurrogate_5068e_7 : decode cJ11_lowSurrogate_5068e 7 = .ok (.iadd, 1) := by decide +kernel
theorem dJ11_lowSurrogate_5068e_8 : decode cJ11_lowSurrogate_5068e 8 = .ok (.i2c, 1) := by decide +kernel
theorem dJ11_lowSurrogate_5068e_9 : decode cJ11_lowSurrogate_5068e 9 = .ok (.ireturn, 1) := by decide +kernel
theorem dJ9_max_7cf53_0 : decode cJ9_max_7cf53 0 = .ok (.iload_n 0, 1) := by decide +kernel
theorem dJ9_max_7cf53_1 : decode cJ9_max_7cf53 1 = .ok (.iload_n 1, 1) := by decide +kernel
theorem dJ9_max_7cf53_2 : decode cJ9_max_7cf53 2 = .ok (.if_icmp .lt 7, 3) := by decide +kernel
theorem dJ9_max_7cf53_5 : decode cJ9_max_7cf53 5 = .ok (.iload_n 0, 1) := by decide +kernel
theorem dJ9_max_7cf53_6 : decode cJ9_max_7cf53 6 = .ok (.goto 4, 3) := by decide +kernel
theorem dJ9_max_7cf53_9 : decode cJ9_max_7cf53 9 = .ok (.iload_n 1, 1) := by decide +kernel
theorem dJ9_max_7cf53_10 : decode cJ9_max_7cf53 10 = .ok (.ireturn, 1) := by decide +kernel
theorem dJ9_min_7cf53_0 : decode cJ9_min_7cf53 0 = .ok (.iload_n 0, 1) := by decide +kernel
theorem dJ9_min_7cf53_1 : decode cJ9_min_7cf53 1 = .ok (.iload_n 1, 1) := by decide +kernel
theorem dJ9_min_7cf53_2 : decode cJ9_min_7cf53 2 = .ok (.if_icmp .gt 7, 3) := by decide +kernel
theorem dJ9_min_7cf53_5 : decode cJ9_min_7cf53 5 = .ok (.iload_n 0, 1) := by decide +kernel
theorem dJ9_min_7cf53_6 : decode cJ9_min_7cf53 6 = .ok (.goto 4, 3) := by decide +kernel
theorem dJ9_min_7cf53_9 : decode cJ9_min_7cf53 9 = .ok (.iload_n 1, 1) := by decide +kernel
theorem dJ9_min_7cf53_10 : decode cJ9_min_7cf53 10 = .ok (.ireturn, 1) := by decide +kernel
theorem dJ0_length_8abf5_0 : decode cJ0_length_8abf5 0 = .ok (.aload_n 0, 1) := by decide +kernel
theorem dJ0_length_8abf5_1 : decode cJ0_length_8abf5 1 = .ok (.getfield 9, 3) := by decide +kernel
theorem dJ0_length_8abf5_4 : decode cJ0_length_8abf5 4 = .ok (.arraylength, 1) := by decide +kernel
theorem dJ0_length_8abf5_5 : decode cJ0_length_8abf5 5 = .ok (.aload_n 0, 1) := by decide +kernel
theorem dJ0_length_8abf5_6 : decode cJ0_length_8abf5 6 = .ok (.invokevirtual 335, 3) := by decide +kernel
theorem dJ0_length_8abf5_9 : decode cJ0_length_8abf5 9 = .ok (.ishr, 1) := by decide +kernel
theorem dJ0_length_8abf5_10 : decode cJ0_length_8abf5 10 = .ok (.ireturn, 1) := by decide +kernel
theorem dJ0_indexOf_0f7a4_0 : decode cJ0_indexOf_0f7a4 0 = .ok (.aload_n 0, 1) := by decide +kernel
theorem dJ0_indexOf_0f7a4_1 : decode cJ0_indexOf_0f7a4 1 = .ok (.iload_n 1, 1) := by decide +kernel
theorem dJ0_indexOf_0f7a4_2 : decode cJ0_indexOf_0f7a4 2 = .ok (.iconst 0, 1) := by decide +kernel
theorem dJ0_indexOf_0f7a4_3 : decode cJ0_indexOf_0f7a4 3 = .ok (.invokevirtual 633, 3) := by decide +kernel
theorem dJ0_indexOf_0f7a4_6 : decode cJ0_indexOf_0f7a4 6 = .ok (.ireturn, 1) := by decide +kernel
theorem dJ0_indexOf_7cf53_0 : decode cJ0_indexOf_7cf53 0 = .ok (.aload_n 0, 1) := by decide +kernel
theorem dJ0_indexOf_7cf53_1 : decode cJ0_indexOf_7cf53 1 = .ok (.invokevirtual 492, 3) := by decide +kernel
theorem dJ0_indexOf_7cf53_4 : decode cJ0_indexOf_7cf53 4 = .ok (.ifCond .eq 19, 3) := by decide +kernel
theorem dJ0_indexOf_7cf53_7 : decode cJ0_indexOf_7cf53 7 = .ok (.aload_n 0, 1) := by decide +kernel
theorem dJ0_indexOf_7cf53_8 : decode cJ0_indexOf_7cf53 8 = .ok (.getfield 9, 3) := by decide +kernel
theorem dJ0_indexOf_7cf53_11 : decode cJ0_indexOf_7cf53 11 = .ok (.iload_n 1, 1) := by decide +kernel
theorem dJ0_indexOf_7cf53_12 : decode cJ0_indexOf_7cf53 12 = .ok (.iload_n 2, 1) := by decide +kernel
theorem dJ0_indexOf_7cf53_13 : decode cJ0_indexOf_7cf53 13 = .ok (.aload_n 0, 1) := by decide +kernel
theorem dJ0_indexOf_7cf53_14 : decode cJ0_indexOf_7cf53 14 = .ok (.invokevirtual 505, 3) := by decide +kernel
theorem dJ0_indexOf_7cf53_17 : decode cJ0_indexOf_7cf53 17 = .ok (.invokestatic 637, 3) := by decide +kernel
theorem dJ0_indexOf_7cf53_20 : decode cJ0_indexOf_7cf53 20 = .ok (.goto 16, 3) := by decide +kernel
theorem dJ0_indexOf_7cf53_23 : decode cJ0_indexOf_7cf53 23 = .ok (.aload_n 0, 1) := by decide +kernel
theorem dJ0_indexOf_7cf53_24 : decode cJ0_indexOf_7cf53 24 = .ok (.getfield 9, 3) := by decide +kernel
theorem dJ0_indexOf_7cf53_27 : decode cJ0_indexOf_7cf53 27 = .ok (.iload_n 1, 1) := by decide +kernel
theorem dJ0_indexOf_7cf53_28 : decode cJ0_indexOf_7cf53 28 = .ok (.iload_n 2, 1) := by decide +kernel
theorem dJ0_indexOf_7cf53_29 : decode cJ0_indexOf_7cf53 29 = .ok (.aload_n 0, 1) := by decide +kernel
theorem dJ0_indexOf_7cf53_30 : decode cJ0_indexOf_7cf53 30 = .ok (.invokevirtual 505, 3) := by decide +kernel
theorem dJ0_indexOf_7cf53_33 : decode cJ0_indexOf_7cf53 33 = .ok (.invokestatic 640, 3) := by decide +kernel
theorem dJ0_indexOf_7cf53_36 : decode cJ0_indexOf_7cf53 36 = .ok (.ireturn, 1) := by decide +kernel
theorem dJ0_coder_7d493_0 : decode cJ0_coder_7d493 0 = .ok (.getstatic 38, 3) := by decide +kernel
theorem dJ0_coder_7d493_3 : decode cJ0_coder_7d493 3 = .ok (.ifCond .eq 10, 3) := by decide +kernel
theorem dJ0_coder_7d493_6 : decode cJ0_coder_7d493 6 = .ok (.aload_n 0, 1) := by decide +kernel
theorem dJ0_coder_7d493_7 : decode cJ0_coder_7d493 7 = .ok (.getfield 15, 3) := by decide +kernel
theorem dJ0_coder_7d493_10 : decode cJ0_coder_7d493 10 = .ok (.goto 4, 3) := by decide +kernel
theorem dJ0_coder_7d493_13 : decode cJ0_coder_7d493 13 = .ok (.iconst 1, 1) := by decide +kernel
theorem dJ0_coder_7d493_14 : decode cJ0_coder_7d493 14 = .ok (.ireturn, 1) := by decide +kernel
theorem dJ0_isLatin1_aae02_0 : decode cJ0_isLatin1_aae02 0 = .ok (.getstatic 38, 3) := by decide +kernel
theorem dJ0_isLatin1_aae02_3 : decode cJ0_isLatin1_aae02 3 = .ok (.ifCond .eq 14, 3) := by decide +kernel
theorem dJ0_isLatin1_aae02_6 : decode cJ0_isLatin1_aae02 6 = .ok (.aload_n 0, 1) := by decide +kernel
theorem dJ0_isLatin1_aae02_7 : decode cJ0_isLatin1_aae02 7 = .ok (.getfield 15, 3) := by decide +kernel
theorem dJ0_isLatin1_aae02_10 : decode cJ0_isLatin1_aae02 10 = .ok (.ifCond .ne 7, 3) := by decide +kernel
theorem dJ0_isLatin1_aae02_13 : decode cJ0_isLatin1_aae02 13 = .ok (.iconst 1, 1) := by decide +kernel
theorem dJ0_isLatin1_aae02_14 : decode cJ0_isLatin1_aae02 14 = .ok (.goto 4, 3) := by decide +kernel
theorem dJ0_isLatin1_aae02_17 : decode cJ0_isLatin1_aae02 17 = .ok (.iconst 0, 1) := by decide +kernel
theorem dJ0_isLatin1_aae02_18 : decode cJ0_isLatin1_aae02 18 = .ok (.ireturn, 1) := by decide +kernel
theorem dJ0_checkBoundsBeginEnd_23922_0 : decode cJ0_checkBoundsBeginEnd_23922 0 = .ok (.iload_n 0, 1) := by decide +kernel
theorem dJ0_checkBoundsBeginEnd_23922_1 : decode cJ0_checkBoundsBeginEnd_23922 1 = .ok (.iload_n 1, 1) := by decide +kernel
theorem dJ0_checkBoundsBeginEnd_23922_2 : decode cJ0_checkBoundsBeginEnd_23922 2 = .ok (.iload_n 2, 1) := by decide +kernel
theorem dJ0_checkBoundsBeginEnd_23922_3 : decode cJ0_checkBoundsBeginEnd_23922 3 = .ok (.getstatic 1053, 3) := by decide +kernel
theorem dJ0_checkBoundsBeginEnd_23922_6 : decode cJ0_checkBoundsBeginEnd_23922 6 = .ok (.invokestatic 1062, 3) := by decide +kernel
theorem dJ0_checkBoundsBeginEnd_23922_9 : decode cJ0_checkBoundsBeginEnd_23922 9 = .ok (.pop, 1) := by decide +kernel
theorem dJ0_checkBoundsBeginEnd_23922_10 : decode cJ0_checkBoundsBeginEnd_23922 10 = .ok (.return_, 1) := by decide +kernel
theorem dJ1_canEncode_9a6ad_0 : decode cJ1_canEncode_9a6ad 0 = .ok (.iload_n 0, 1) := by decide +kernel
theorem dJ1_canEncode_9a6ad_1 : decode cJ1_canEncode_9a6ad 1 = .ok (.ifCond .lt 14, 3) := by decide +kernel
theorem dJ1_canEncode_9a6ad_4 : decode cJ1_canEncode_9a6ad 4 = .ok (.iload_n 0, 1) := by decide +kernel
theorem dJ1_canEncode_9a6ad_5 : decode cJ1_canEncode_9a6ad 5 = .ok (.sipush 255, 3) := by decide +kernel
theorem dJ1_canEncode_9a6ad_8 : decode cJ1_canEncode_9a6ad 8 = .ok (.if_icmp .gt 7, 3) := by decide +kernel
theorem dJ1_canEncode_9a6ad_11 : decode cJ1_canEncode_9a6ad 11 = .ok (.iconst 1, 1) := by decide +kernel
theorem dJ1_canEncode_9a6ad_12 : decode cJ1_canEncode_9a6ad 12 = .ok (.goto 4, 3) := by decide +kernel
theorem dJ1_canEncode_9a6ad_15 : decode cJ1_canEncode_9a6ad 15 = .ok (.iconst 0, 1) := by decide +kernel
theorem dJ1_canEncode_9a6ad_16 : decode cJ1_canEncode_9a6ad 16 = .ok (.ireturn, 1) := by decide +kernel
theorem dJ1_indexOf_4cfef_0 : decode cJ1_indexOf_4cfef 0 = .ok (.iload_n 1, 1) := by decide +kernel
theorem dJ1_indexOf_4cfef_1 : decode cJ1_indexOf_4cfef 1 = .ok (.invokestatic 88, 3) := by decide +kernel
theorem dJ1_indexOf_4cfef_4 : decode cJ1_indexOf_4cfef 4 = .ok (.ifCond .ne 5, 3) := by decide +kernel
theorem dJ1_indexOf_4cfef_7 : decode cJ1_indexOf_4cfef 7 = .ok (.iconst (-1), 1) := by decide +kernel
theorem dJ1_indexOf_4cfef_8 : decode cJ1_indexOf_4cfef 8 = .ok (.ireturn, 1) := by decide +kernel
theorem dJ1_indexOf_4cfef_9 : decode cJ1_indexOf_4cfef 9 = .ok (.iload_n 2, 1) := by decide +kernel
theorem dJ1_indexOf_4cfef_10 : decode cJ1_indexOf_4cfef 10 = .ok (.iconst 0, 1) := by decide +kernel
theorem dJ1_indexOf_4cfef_11 : decode cJ1_indexOf_4cfef 11 = .ok (.invokestatic 92, 3) := by decide +kernel
theorem dJ1_indexOf_4cfef_14 : decode cJ1_indexOf_4cfef 14 = .ok (.istore_n 2, 1) := by decide +kernel
theorem dJ1_indexOf_4cfef_15 : decode cJ1_indexOf_4cfef 15 = .ok (.iload_n 3, 1) := by decide +kernel
theorem dJ1_indexOf_4cfef_16 : decode cJ1_indexOf_4cfef 16 = .ok (.aload_n 0, 1) := by decide +kernel
theorem dJ1_indexOf_4cfef_17 : decode cJ1_indexOf_4cfef 17 = .ok (.arraylength, 1) := by decide +kernel
theorem dJ1_indexOf_4cfef_18 : decode cJ1_indexOf_4cfef 18 = .ok (.invokestatic 38, 3) := by decide +kernel
theorem dJ1_indexOf_4cfef_21 : decode cJ1_indexOf_4cfef 21 = .ok (.istore_n 3, 1) := by decide +kernel
theorem dJ1_indexOf_4cfef_22 : decode cJ1_indexOf_4cfef 22 = .ok (.iload_n 2, 1) := by decide +kernel
theorem dJ1_indexOf_4cfef_23 : decode cJ1_indexOf_4cfef 23 = .ok (.iload_n 3, 1) := by decide +kernel
theorem dJ1_indexOf_4cfef_24 : decode cJ1_indexOf_4cfef 24 = .ok (.if_icmp .lt 5, 3) := by decide +kernel
theorem dJ1_indexOf_4cfef_27 : decode cJ1_indexOf_4cfef 27 = .ok (.iconst (-1), 1) := by decide +kernel
theorem dJ1_indexOf_4cfef_28 : decode cJ1_indexOf_4cfef 28 = .ok (.ireturn, 1) := by decide +kernel
theorem dJ1_indexOf_4cfef_29 : decode cJ1_indexOf_4cfef 29 = .ok (.aload_n 0, 1) := by decide +kernel
theorem dJ1_indexOf_4cfef_30 : decode cJ1_indexOf_4cfef 30 = .ok (.iload_n 1, 1) := by decide +kernel
theorem dJ1_indexOf_4cfef_31 : decode cJ1_indexOf_4cfef 31 = .ok (.iload_n 2, 1) := by decide +kernel
theorem dJ1_indexOf_4cfef_32 : decode cJ1_indexOf_4cfef 32 = .ok (.iload_n 3, 1) := by decide +kernel
theorem dJ1_indexOf_4cfef_33 : decode cJ1_indexOf_4cfef 33 = .ok (.invokestatic 95, 3) := by decide +kernel
theorem dJ1_indexOf_4cfef_36 : decode cJ1_indexOf_4cfef 36 = .ok (.ireturn, 1) := by decide +kernel
theorem dJ1_indexOfChar_4cfef_0 : decode cJ1_indexOfChar_4cfef 0 = .ok (.iload_n 1, 1) := by decide +kernel
theorem dJ1_indexOfChar_4cfef_1 : decode cJ1_indexOfChar_4cfef 1 = .ok (.i2b, 1) := by decide +kernel
theorem dJ1_indexOfChar_4cfef_2 : decode cJ1_indexOfChar_4cfef 2 = .ok (.istore 4, 2) := by decide +kernel
theorem dJ1_indexOfChar_4cfef_4 : decode cJ1_indexOfChar_4cfef 4 = .ok (.iload_n 2, 1) := by decide +kernel
theorem dJ1_indexOfChar_4cfef_5 : decode cJ1_indexOfChar_4cfef 5 = .ok (.istore 5, 2) := by decide +kernel
theorem dJ1_indexOfChar_4cfef_7 : decode cJ1_indexOfChar_4cfef 7 = .ok (.iload 5, 2) := by decide +kernel
theorem dJ1_indexOfChar_4cfef_9 : decode cJ1_indexOfChar_4cfef 9 = .ok (.iload_n 3, 1) := by decide +kernel
theorem dJ1_indexOfChar_4cfef_10 : decode cJ1_indexOfChar_4cfef 10 = .ok (.if_icmp .ge 21, 3) := by decide +kernel
theorem dJ1_indexOfChar_4cfef_13 : decode cJ1_indexOfChar_4cfef 13 = .ok (.aload_n 0, 1) := by decide +kernel
theorem dJ1_indexOfChar_4cfef_14 : decode cJ1_indexOfChar_4cfef 14 = .ok (.iload 5, 2) := by decide +kernel
theorem dJ1_indexOfChar_4cfef_16 : decode cJ1_indexOfChar_4cfef 16 = .ok (.baload, 1) := by decide +kernel
theorem dJ1_indexOfChar_4cfef_17 : decode cJ1_indexOfChar_4cfef 17 = .ok (.iload 4, 2) := by decide +kernel
theorem dJ1_indexOfChar_4cfef_19 : decode cJ1_indexOfChar_4cfef 19 = .ok (.if_icmp .ne 6, 3) := by decide +kernel
theorem dJ1_indexOfChar_4cfef_22 : decode cJ1_indexOfChar_4cfef 22 = .ok (.iload 5, 2) := by decide +kernel
theorem dJ1_indexOfChar_4cfef_24 : decode cJ1_indexOfChar_4cfef 24 = .ok (.ireturn, 1) := by decide +kernel
theorem dJ1_indexOfChar_4cfef_25 : decode cJ1_indexOfChar_4cfef 25 = .ok (.iinc 5 1, 3) := by decide +kernel
theorem dJ1_indexOfChar_4cfef_28 : decode cJ1_indexOfChar_4cfef 28 = .ok (.goto (-21), 3) := by decide +kernel
theorem dJ1_indexOfChar_4cfef_31 : decode cJ1_indexOfChar_4cfef 31 = .ok (.iconst (-1), 1) := by decide +kernel
theorem dJ1_indexOfChar_4cfef_32 : decode cJ1_indexOfChar_4cfef 32 = .ok (.ireturn, 1) := by decide +kernel
theorem dJ2_getChar_3b067_0 : decode cJ2_getChar_3b067 0 = .ok (.getstatic 44, 3) := by decide +kernel
theorem dJ2_getChar_3b067_3 : decode cJ2_getChar_3b067 3 = .ok (.ifCond .ne 25, 3) := by decide +kernel
theorem dJ2_getChar_3b067_6 : decode cJ2_getChar_3b067 6 = .ok (.iload_n 1, 1) := by decide +kernel
theorem dJ2_getChar_3b067_7 : decode cJ2_getChar_3b067 7 = .ok (.ifCond .lt 11, 3) := by decide +kernel
theorem dJ2_getChar_3b067_10 : decode cJ2_getChar_3b067 10 = .ok (.iload_n 1, 1) := by decide +kernel
theorem dJ2_getChar_3b067_11 : decode cJ2_getChar_3b067 11 = .ok (.aload_n 0, 1) := by decide +kernel
theorem dJ2_getChar_3b067_12 : decode cJ2_getChar_3b067 12 = .ok (.invokestatic 48, 3) := by decide +kernel
theorem dJ2_getChar_3b067_15 : decode cJ2_getChar_3b067 15 = .ok (.if_icmp .lt 13, 3) := by decide +kernel
theorem dJ2_getChar_3b067_18 : decode cJ2_getChar_3b067 18 = .ok (.new 52, 3) := by decide +kernel
theorem dJ2_getChar_3b067_21 : decode cJ2_getChar_3b067 21 = .ok (.dup, 1) := by decide +kernel
theorem dJ2_getChar_3b067_22 : decode cJ2_getChar_3b067 22 = .ok (.ldc 54, 2) := by decide +kernel
theorem dJ2_getChar_3b067_24 : decode cJ2_getChar_3b067 24 = .ok (.invokespecial 56, 3) := by decide +kernel
theorem dJ2_getChar_3b067_27 : decode cJ2_getChar_3b067 27 = .ok (.athrow, 1) := by decide +kernel
theorem dJ2_getChar_3b067_28 : decode cJ2_getChar_3b067 28 = .ok (.iload_n 1, 1) := by decide +kernel
theorem dJ2_getChar_3b067_29 : decode cJ2_getChar_3b067 29 = .ok (.iconst 1, 1) := by decide +kernel
theorem dJ2_getChar_3b067_30 : decode cJ2_getChar_3b067 30 = .ok (.ishl, 1) := by decide +kernel
theorem dJ2_getChar_3b067_31 : decode cJ2_getChar_3b067 31 = .ok (.istore_n 1, 1) := by decide +kernel
theorem dJ2_getChar_3b067_32 : decode cJ2_getChar_3b067 32 = .ok (.aload_n 0, 1) := by decide +kernel
theorem dJ2_getChar_3b067_33 : decode cJ2_getChar_3b067 33 = .ok (.iload_n 1, 1) := by decide +kernel
theorem dJ2_getChar_3b067_34 : decode cJ2_getChar_3b067 34 = .ok (.iinc 1 1, 3) := by decide +kernel
theorem dJ2_getChar_3b067_37 : decode cJ2_getChar_3b067 37 = .ok (.baload, 1) := by decide +kernel
theorem dJ2_getChar_3b067_38 : decode cJ2_getChar_3b067 38 = .ok (.sipush 255, 3) := by decide +kernel
theorem dJ2_getChar_3b067_41 : decode cJ2_getChar_3b067 41 = .ok (.iand, 1) := by decide +kernel
theorem dJ2_getChar_3b067_42 : decode cJ2_getChar_3b067 42 = .ok (.getstatic 59, 3) := by decide +kernel
theorem dJ2_getChar_3b067_45 : decode cJ2_getChar_3b067 45 = .ok (.ishl, 1) := by decide +kernel
theorem dJ2_getChar_3b067_46 : decode cJ2_getChar_3b067 46 = .ok (.aload_n 0, 1) := by decide +kernel
theorem dJ2_getChar_3b067_47 : decode cJ2_getChar_3b067 47 = .ok (.iload_n 1, 1) := by decide +kernel
theorem dJ2_getChar_3b067_48 : decode cJ2_getChar_3b067 48 = .ok (.baload, 1) := by decide +kernel
theorem dJ2_getChar_3b067_49 : decode cJ2_getChar_3b067 49 = .ok (.sipush 255, 3) := by decide +kernel
theorem dJ2_getChar_3b067_52 : decode cJ2_getChar_3b067 52 = .ok (.iand, 1) := by decide +kernel
theorem dJ2_getChar_3b067_53 : decode cJ2_getChar_3b067 53 = .ok (.getstatic 63, 3) := by decide +kernel
theorem dJ2_getChar_3b067_56 : decode cJ2_getChar_3b067 56 = .ok (.ishl, 1) := by decide +kernel
theorem dJ2_getChar_3b067_57 : decode cJ2_getChar_3b067 57 = .ok (.ior, 1) := by decide +kernel
theorem dJ2_getChar_3b067_58 : decode cJ2_getChar_3b067 58 = .ok (.i2c, 1) := by decide +kernel
theorem dJ2_getChar_3b067_59 : decode cJ2_getChar_3b067 59 = .ok (.ireturn, 1) := by decide +kernel
theorem dJ2_length_9d52b_0 : decode cJ2_length_9d52b 0 = .ok (.aload_n 0, 1) := by decide +kernel
theorem dJ2_length_9d52b_1 : decode cJ2_length_9d52b 1 = .ok (.arraylength, 1) := by decide +kernel
theorem dJ2_length_9d52b_2 : decode cJ2_length_9d52b 2 = .ok (.iconst 1, 1) := by decide +kernel
theorem dJ2_length_9d52b_3 : decode cJ2_length_9d52b 3 = .ok (.ishr, 1) := by decide +kernel
theorem dJ2_length_9d52b_4 : decode cJ2_length_9d52b 4 = .ok (.ireturn, 1) := by decide +kernel
theorem dJ2_indexOf_4cfef_0 : decode cJ2_indexOf_4cfef 0 = .ok (.iload_n 2, 1) := by decide +kernel
theorem dJ2_indexOf_4cfef_1 : decode cJ2_indexOf_4cfef 1 = .ok (.iconst 0, 1) := by decide +kernel
theorem dJ2_indexOf_4cfef_2 : decode cJ2_indexOf_4cfef 2 = .ok (.invokestatic 224, 3) := by decide +kernel
theorem dJ2_indexOf_4cfef_5 : decode cJ2_indexOf_4cfef 5 = .ok (.istore_n 2, 1) := by decide +kernel
theorem dJ2_indexOf_4cfef_6 : decode cJ2_indexOf_4cfef 6 = .ok (.iload_n 3, 1) := by decide +kernel
theorem dJ2_indexOf_4cfef_7 : decode cJ2_indexOf_4cfef 7 = .ok (.aload_n 0, 1) := by decide +kernel
theorem dJ2_indexOf_4cfef_8 : decode cJ2_indexOf_4cfef 8 = .ok (.arraylength, 1) := by decide +kernel
theorem dJ2_indexOf_4cfef_9 : decode cJ2_indexOf_4cfef 9 = .ok (.iconst 1, 1) := by decide +kernel
theorem dJ2_indexOf_4cfef_10 : decode cJ2_indexOf_4cfef 10 = .ok (.ishr, 1) := by decide +kernel
theorem dJ2_indexOf_4cfef_11 : decode cJ2_indexOf_4cfef 11 = .ok (.invokestatic 183, 3) := by decide +kernel
theorem dJ2_indexOf_4cfef_14 : decode cJ2_indexOf_4cfef 14 = .ok (.istore_n 3, 1) := by decide +kernel
theorem dJ2_indexOf_4cfef_15 : decode cJ2_indexOf_4cfef 15 = .ok (.iload_n 2, 1) := by decide +kernel
theorem dJ2_indexOf_4cfef_16 : decode cJ2_indexOf_4cfef 16 = .ok (.iload_n 3, 1) := by decide +kernel
theorem dJ2_indexOf_4cfef_17 : decode cJ2_indexOf_4cfef 17 = .ok (.if_icmp .lt 5, 3) := by decide +kernel
theorem dJ2_indexOf_4cfef_20 : decode cJ2_indexOf_4cfef 20 = .ok (.iconst (-1), 1) := by decide +kernel
theorem dJ2_indexOf_4cfef_21 : decode cJ2_indexOf_4cfef 21 = .ok (.ireturn, 1) := by decide +kernel
theorem dJ2_indexOf_4cfef_22 : decode cJ2_indexOf_4cfef 22 = .ok (.iload_n 1, 1) := by decide +kernel
theorem dJ2_indexOf_4cfef_23 : decode cJ2_indexOf_4cfef 23 = .ok (.ldc 227, 2) := by decide +kernel
theorem dJ2_indexOf_4cfef_25 : decode cJ2_indexOf_4cfef 25 = .ok (.if_icmp .ge 11, 3) := by decide +kernel
theorem dJ2_indexOf_4cfef_28 : decode cJ2_indexOf_4cfef 28 = .ok (.aload_n 0, 1) := by decide +kernel
theorem dJ2_indexOf_4cfef_29 : decode cJ2_indexOf_4cfef 29 = .ok (.iload_n 1, 1) := by decide +kernel
theorem dJ2_indexOf_4cfef_30 : decode cJ2_indexOf_4cfef 30 = .ok (.iload_n 2, 1) := by decide +kernel
theorem dJ2_indexOf_4cfef_31 : decode cJ2_indexOf_4cfef 31 = .ok (.iload_n 3, 1) := by decide +kernel
theorem dJ2_indexOf_4cfef_32 : decode cJ2_indexOf_4cfef 32 = .ok (.invokestatic 228, 3) := by decide +kernel
theorem dJ2_indexOf_4cfef_35 : decode cJ2_indexOf_4cfef 35 = .ok (.ireturn, 1) := by decide +kernel
theorem dJ2_indexOf_4cfef_36 : decode cJ2_indexOf_4cfef 36 = .ok (.aload_n 0, 1) := by decide +kernel
theorem dJ2_indexOf_4cfef_37 : decode cJ2_indexOf_4cfef 37 = .ok (.iload_n 1, 1) := by decide +kernel
theorem dJ2_indexOf_4cfef_38 : decode cJ2_indexOf_4cfef 38 = .ok (.iload_n 2, 1) := by decide +kernel
theorem dJ2_indexOf_4cfef_39 : decode cJ2_indexOf_4cfef 39 = .ok (.iload_n 3, 1) := by decide +kernel
theorem dJ2_indexOf_4cfef_40 : decode cJ2_indexOf_4cfef 40 = .ok (.invokestatic 232, 3) := by decide +kernel
theorem dJ2_indexOf_4cfef_43 : decode cJ2_indexOf_4cfef 43 = .ok (.ireturn, 1) := by decide +kernel
theorem dJ2_indexOfChar_4cfef_0 : decode cJ2_indexOfChar_4cfef 0 = .ok (.iload_n 2, 1) := by decide +kernel
theorem dJ2_indexOfChar_4cfef_1 : decode cJ2_indexOfChar_4cfef 1 = .ok (.iload_n 3, 1) := by decide +kernel
theorem dJ2_indexOfChar_4cfef_2 : decode cJ2_indexOfChar_4cfef 2 = .ok (.aload_n 0, 1) := by decide +kernel
theorem dJ2_indexOfChar_4cfef_3 : decode cJ2_indexOfChar_4cfef 3 = .ok (.invokestatic 96, 3) := by decide +kernel
theorem dJ2_indexOfChar_4cfef_6 : decode cJ2_indexOfChar_4cfef 6 = .ok (.aload_n 0, 1) := by decide +kernel
theorem dJ2_indexOfChar_4cfef_7 : decode cJ2_indexOfChar_4cfef 7 = .ok (.iload_n 1, 1) := by decide +kernel
theorem dJ2_indexOfChar_4cfef_8 : decode cJ2_indexOfChar_4cfef 8 = .ok (.iload_n 2, 1) := by decide +kernel
theorem dJ2_indexOfChar_4cfef_9 : decode cJ2_indexOfChar_4cfef 9 = .ok (.iload_n 3, 1) := by decide +kernel
theorem dJ2_indexOfChar_4cfef_10 : decode cJ2_indexOfChar_4cfef 10 = .ok (.invokestatic 244, 3) := by decide +kernel
theorem dJ2_indexOfChar_4cfef_13 : decode cJ2_indexOfChar_4cfef 13 = .ok (.ireturn, 1) := by decide +kernel
theorem dJ2_indexOfCharUnsafe_4cfef_0 : decode cJ2_indexOfCharUnsafe_4cfef 0 = .ok (.iload_n 2, 1) := by decide +kernel
theorem dJ2_indexOfCharUnsafe_4cfef_1 : decode cJ2_indexOfCharUnsafe_4cfef 1 = .ok (.istore 4, 2) := by decide +kernel
theorem dJ2_indexOfCharUnsafe_4cfef_3 : decode cJ2_indexOfCharUnsafe_4cfef 3 = .ok (.iload 4, 2) := by decide +kernel
theorem dJ2_indexOfCharUnsafe_4cfef_5 : decode cJ2_indexOfCharUnsafe_4cfef 5 = .ok (.iload_n 3, 1) := by decide +kernel
theorem dJ2_indexOfCharUnsafe_4cfef_6 : decode cJ2_indexOfCharUnsafe_4cfef 6 = .ok (.if_icmp .ge 22, 3) := by decide +kernel
theorem dJ2_indexOfCharUnsafe_4cfef_9 : decode cJ2_indexOfCharUnsafe_4cfef 9 = .ok (.aload_n 0, 1) := by decide +kernel
theorem dJ2_indexOfCharUnsafe_4cfef_10 : decode cJ2_indexOfCharUnsafe_4cfef 10 = .ok (.iload 4, 2) := by decide +kernel
theorem dJ2_indexOfCharUnsafe_4cfef_12 : decode cJ2_indexOfCharUnsafe_4cfef 12 = .ok (.invokestatic 71, 3) := by decide +kernel
theorem dJ2_indexOfCharUnsafe_4cfef_15 : decode cJ2_indexOfCharUnsafe_4cfef 15 = .ok (.iload_n 1, 1) := by decide +kernel
theorem dJ2_indexOfCharUnsafe_4cfef_16 : decode cJ2_indexOfCharUnsafe_4cfef 16 = .ok (.if_icmp .ne 6, 3) := by decide +kernel
theorem dJ2_indexOfCharUnsafe_4cfef_19 : decode cJ2_indexOfCharUnsafe_4cfef 19 = .ok (.iload 4, 2) := by decide +kernel
theorem dJ2_indexOfCharUnsafe_4cfef_21 : decode cJ2_indexOfCharUnsafe_4cfef 21 = .ok (.ireturn, 1) := by decide +kernel
theorem dJ2_indexOfCharUnsafe_4cfef_22 : decode cJ2_indexOfCharUnsafe_4cfef 22 = .ok (.iinc 4 1, 3) := by decide +kernel
theorem dJ2_indexOfCharUnsafe_4cfef_25 : decode cJ2_indexOfCharUnsafe_4cfef 25 = .ok (.goto (-22), 3) := by decide +kernel
theorem dJ2_indexOfCharUnsafe_4cfef_28 : decode cJ2_indexOfCharUnsafe_4cfef 28 = .ok (.iconst (-1), 1) := by decide +kernel
theorem dJ2_indexOfCharUnsafe_4cfef_29 : decode cJ2_indexOfCharUnsafe_4cfef 29 = .ok (.ireturn, 1) := by decide +kernel
theorem dJ2_indexOfSupplementary_4cfef_0 : decode cJ2_indexOfSupplementary_4cfef 0 = .ok (.iload_n 1, 1) := by decide +kernel
theorem dJ2_indexOfSupplementary_4cfef_1 : decode cJ2_indexOfSupplementary_4cfef 1 = .ok (.invokestatic 164, 3) := by decide +kernel
theorem dJ2_indexOfSupplementary_4cfef_4 : decode cJ2_indexOfSupplementary_4cfef 4 = .ok (.ifCond .eq 65, 3) := by decide +kernel
theorem dJ2_indexOfSupplementary_4cfef_7 : decode cJ2_indexOfSupplementary_4cfef 7 = .ok (.iload_n 1, 1) := by decide +kernel
theorem dJ2_indexOfSupplementary_4cfef_8 : decode cJ2_indexOfSupplementary_4cfef 8 = .ok (.invokestatic 157, 3) := by decide +kernel
theorem dJ2_indexOfSupplementary_4cfef_11 : decode cJ2_indexOfSupplementary_4cfef 11 = .ok (.istore 4, 2) := by decide +kernel
theorem dJ2_indexOfSupplementary_4cfef_13 : decode cJ2_indexOfSupplementary_4cfef 13 = .ok (.iload_n 1, 1) := by decide +kernel
theorem dJ2_indexOfSupplementary_4cfef_14 : decode cJ2_indexOfSupplementary_4cfef 14 = .ok (.invokestatic 161, 3) := by decide +kernel
theorem dJ2_indexOfSupplementary_4cfef_17 : decode cJ2_indexOfSupplementary_4cfef 17 = .ok (.istore 5, 2) := by decide +kernel
theorem dJ2_indexOfSupplementary_4cfef_19 : decode cJ2_indexOfSupplementary_4cfef 19 = .ok (.iload_n 2, 1) := by decide +kernel
theorem dJ2_indexOfSupplementary_4cfef_20 : decode cJ2_indexOfSupplementary_4cfef 20 = .ok (.iload_n 3, 1) := by decide +kernel
theorem dJ2_indexOfSupplementary_4cfef_21 : decode cJ2_indexOfSupplementary_4cfef 21 = .ok (.aload_n 0, 1) := by decide +kernel
theorem dJ2_indexOfSupplementary_4cfef_22 : decode cJ2_indexOfSupplementary_4cfef 22 = .ok (.invokestatic 96, 3) := by decide +kernel
theorem dJ2_indexOfSupplementary_4cfef_25 : decode cJ2_indexOfSupplementary_4cfef 25 = .ok (.iload_n 2, 1) := by decide +kernel
theorem dJ2_indexOfSupplementary_4cfef_26 : decode cJ2_indexOfSupplementary_4cfef 26 = .ok (.istore 6, 2) := by decide +kernel
theorem dJ2_indexOfSupplementary_4cfef_28 : decode cJ2_indexOfSupplementary_4cfef 28 = .ok (.iload 6, 2) := by decide +kernel
theorem dJ2_indexOfSupplementary_4cfef_30 : decode cJ2_indexOfSupplementary_4cfef 30 = .ok (.iload_n 3, 1) := by decide +kernel
theorem dJ2_indexOfSupplementary_4cfef_31 : decode cJ2_indexOfSupplementary_4cfef 31 = .ok (.iconst 1, 1) := by decide +kernel
theorem dJ2_indexOfSupplementary_4cfef_32 : decode cJ2_indexOfSupplementary_4cfef 32 = .ok (.isub, 1) := by decide +kernel
theorem dJ2_indexOfSupplementary_4cfef_33 : decode cJ2_indexOfSupplementary_4cfef 33 = .ok (.if_icmp .ge 36, 3) := by decide +kernel
theorem dJ2_indexOfSupplementary_4cfef_36 : decode cJ2_indexOfSupplementary_4cfef 36 = .ok (.aload_n 0, 1) := by decide +kernel
theorem dJ2_indexOfSupplementary_4cfef_37 : decode cJ2_indexOfSupplementary_4cfef 37 = .ok (.iload 6, 2) := by decide +kernel
theorem dJ2_indexOfSupplementary_4cfef_39 : decode cJ2_indexOfSupplementary_4cfef 39 = .ok (.invokestatic 71, 3) := by decide +kernel
theorem dJ2_indexOfSupplementary_4cfef_42 : decode cJ2_indexOfSupplementary_4cfef 42 = .ok (.iload 4, 2) := by decide +kernel
theorem dJ2_indexOfSupplementary_4cfef_44 : decode cJ2_indexOfSupplementary_4cfef 44 = .ok (.if_icmp .ne 19, 3) := by decide +kernel
theorem dJ2_indexOfSupplementary_4cfef_47 : decode cJ2_indexOfSupplementary_4cfef 47 = .ok (.aload_n 0, 1) := by decide +kernel
theorem dJ2_indexOfSupplementary_4cfef_48 : decode cJ2_indexOfSupplementary_4cfef 48 = .ok (.iload 6, 2) := by decide +kernel
theorem dJ2_indexOfSupplementary_4cfef_50 : decode cJ2_indexOfSupplementary_4cfef 50 = .ok (.iconst 1, 1) := by decide +kernel
theorem dJ2_indexOfSupplementary_4cfef_51 : decode cJ2_indexOfSupplementary_4cfef 51 = .ok (.iadd, 1) := by decide +kernel
theorem dJ2_indexOfSupplementary_4cfef_52 : decode cJ2_indexOfSupplementary_4cfef 52 = .ok (.invokestatic 71, 3) := by decide +kernel
theorem dJ2_indexOfSupplementary_4cfef_55 : decode cJ2_indexOfSupplementary_4cfef 55 = .ok (.iload 5, 2) := by decide +kernel
theorem dJ2_indexOfSupplementary_4cfef_57 : decode cJ2_indexOfSupplementary_4cfef 57 = .ok (.if_icmp .ne 6, 3) := by decide +kernel
theorem dJ2_indexOfSupplementary_4cfef_60 : decode cJ2_indexOfSupplementary_4cfef 60 = .ok (.iload 6, 2) := by decide +kernel
theorem dJ2_indexOfSupplementary_4cfef_62 : decode cJ2_indexOfSupplementary_4cfef 62 = .ok (.ireturn, 1) := by decide +kernel
theorem dJ2_indexOfSupplementary_4cfef_63 : decode cJ2_indexOfSupplementary_4cfef 63 = .ok (.iinc 6 1, 3) := by decide +kernel
theorem dJ2_indexOfSupplementary_4cfef_66 : decode cJ2_indexOfSupplementary_4cfef 66 = .ok (.goto (-38), 3) := by decide +kernel
theorem dJ2_indexOfSupplementary_4cfef_69 : decode cJ2_indexOfSupplementary_4cfef 69 = .ok (.iconst (-1), 1) := by decide +kernel
theorem dJ2_indexOfSupplementary_4cfef_70 : decode cJ2_indexOfSupplementary_4cfef 70 = .ok (.ireturn, 1) := by decide +kernel
theorem dJ2_checkBoundsBeginEnd_d044e_0 : decode cJ2_checkBoundsBeginEnd_d044e 0 = .ok (.iload_n 0, 1) := by decide +kernel
theorem dJ2_checkBoundsBeginEnd_d044e_1 : decode cJ2_checkBoundsBeginEnd_d044e 1 = .ok (.iload_n 1, 1) := by decide +kernel
theorem dJ2_checkBoundsBeginEnd_d044e_2 : decode cJ2_checkBoundsBeginEnd_d044e 2 = .ok (.aload_n 2, 1) := by decide +kernel
theorem dJ2_checkBoundsBeginEnd_d044e_3 : decode cJ2_checkBoundsBeginEnd_d044e 3 = .ok (.invokestatic 48, 3) := by decide +kernel
theorem dJ2_checkBoundsBeginEnd_d044e_6 : decode cJ2_checkBoundsBeginEnd_d044e 6 = .ok (.invokestatic 241, 3) := by decide +kernel
theorem dJ2_checkBoundsBeginEnd_d044e_9 : decode cJ2_checkBoundsBeginEnd_d044e 9 = .ok (.return_, 1) := by decide +kernel
theorem dJ7_fill_53178_0 : decode cJ7_fill_53178 0 = .ok (.iconst 0, 1) := by decide +kernel
theorem dJ7_fill_53178_1 : decode cJ7_fill_53178 1 = .ok (.istore_n 2, 1) := by decide +kernel
theorem dJ7_fill_53178_2 : decode cJ7_fill_53178 2 = .ok (.aload_n 0, 1) := by decide +kernel
theorem dJ7_fill_53178_3 : decode cJ7_fill_53178 3 = .ok (.arraylength, 1) := by decide +kernel
theorem dJ7_fill_53178_4 : decode cJ7_fill_53178 4 = .ok (.istore_n 3, 1) := by decide +kernel
theorem dJ7_fill_53178_5 : decode cJ7_fill_53178 5 = .ok (.iload_n 2, 1) := by decide +kernel
theorem dJ7_fill_53178_6 : decode cJ7_fill_53178 6 = .ok (.iload_n 3, 1) := by decide +kernel
theorem dJ7_fill_53178_7 : decode cJ7_fill_53178 7 = .ok (.if_icmp .ge 13, 3) := by decide +kernel
theorem dJ7_fill_53178_10 : decode cJ7_fill_53178 10 = .ok (.aload_n 0, 1) := by decide +kernel
theorem dJ7_fill_53178_11 : decode cJ7_fill_53178 11 = .ok (.iload_n 2, 1) := by decide +kernel
theorem dJ7_fill_53178_12 : decode cJ7_fill_53178 12 = .ok (.iload_n 1, 1) := by decide +kernel
theorem dJ7_fill_53178_13 : decode cJ7_fill_53178 13 = .ok (.iastore, 1) := by decide +kernel
theorem dJ7_fill_53178_14 : decode cJ7_fill_53178 14 = .ok (.iinc 2 1, 3) := by decide +kernel
theorem dJ7_fill_53178_17 : decode cJ7_fill_53178 17 = .ok (.goto (-12), 3) := by decide +kernel
theorem dJ7_fill_53178_20 : decode cJ7_fill_53178 20 = .ok (.return_, 1) := by decide +kernel
theorem dJ3_checkFromToIndex_8c36e_0 : decode cJ3_checkFromToIndex_8c36e 0 = .ok (.iload_n 0, 1) := by decide +kernel
theorem dJ3_checkFromToIndex_8c36e_1 : decode cJ3_checkFromToIndex_8c36e 1 = .ok (.ifCond .lt 13, 3) := by decide +kernel
theorem dJ3_checkFromToIndex_8c36e_4 : decode cJ3_checkFromToIndex_8c36e 4 = .ok (.iload_n 0, 1) := by decide +kernel
theorem dJ3_checkFromToIndex_8c36e_5 : decode cJ3_checkFromToIndex_8c36e 5 = .ok (.iload_n 1, 1) := by decide +kernel
theorem dJ3_checkFromToIndex_8c36e_6 : decode cJ3_checkFromToIndex_8c36e 6 = .ok (.if_icmp .gt 8, 3) := by decide +kernel
theorem dJ3_checkFromToIndex_8c36e_9 : decode cJ3_checkFromToIndex_8c36e 9 = .ok (.iload_n 1, 1) := by decide +kernel
theorem dJ3_checkFromToIndex_8c36e_10 : decode cJ3_checkFromToIndex_8c36e 10 = .ok (.iload_n 2, 1) := by decide +kernel
theorem dJ3_checkFromToIndex_8c36e_11 : decode cJ3_checkFromToIndex_8c36e 11 = .ok (.if_icmp .le 11, 3) := by decide +kernel
theorem dJ3_checkFromToIndex_8c36e_14 : decode cJ3_checkFromToIndex_8c36e 14 = .ok (.aload_n 3, 1) := by decide +kernel
theorem dJ3_checkFromToIndex_8c36e_15 : decode cJ3_checkFromToIndex_8c36e 15 = .ok (.iload_n 0, 1) := by decide +kernel
theorem dJ3_checkFromToIndex_8c36e_16 : decode cJ3_checkFromToIndex_8c36e 16 = .ok (.iload_n 1, 1) := by decide +kernel
theorem dJ3_checkFromToIndex_8c36e_17 : decode cJ3_checkFromToIndex_8c36e 17 = .ok (.iload_n 2, 1) := by decide +kernel
theorem dJ3_checkFromToIndex_8c36e_18 : decode cJ3_checkFromToIndex_8c36e 18 = .ok (.invokestatic 99, 3) := by decide +kernel
theorem dJ3_checkFromToIndex_8c36e_21 : decode cJ3_checkFromToIndex_8c36e 21 = .ok (.athrow, 1) := by decide +kernel
theorem dJ3_checkFromToIndex_8c36e_22 : decode cJ3_checkFromToIndex_8c36e 22 = .ok (.iload_n 0, 1) := by decide +kernel
theorem dJ3_checkFromToIndex_8c36e_23 : decode cJ3_checkFromToIndex_8c36e 23 = .ok (.ireturn, 1) := by decide +kernel
