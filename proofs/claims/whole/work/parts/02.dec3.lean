theorem dX7_sent_1 : decode cX7_sent 1 = .ok (.iload_n 1, 1) := by decide +kernel
theorem dX7_sent_2 : decode cX7_sent 2 = .ok (.invokevirtual 138, 3) := by decide +kernel
theorem dX7_sent_5 : decode cX7_sent 5 = .ok (.ifCond .eq 11, 3) := by decide +kernel
theorem dX7_sent_8 : decode cX7_sent 8 = .ok (.aload_n 0, 1) := by decide +kernel
theorem dX7_sent_9 : decode cX7_sent 9 = .ok (.iconst (-1), 1) := by decide +kernel
theorem dX7_sent_10 : decode cX7_sent 10 = .ok (.invokevirtual 64, 3) := by decide +kernel
theorem dX7_sent_13 : decode cX7_sent 13 = .ok (.goto 14, 3) := by decide +kernel
theorem dX7_sent_16 : decode cX7_sent 16 = .ok (.aload_n 0, 1) := by decide +kernel
theorem dX7_sent_17 : decode cX7_sent 17 = .ok (.bipush 30, 2) := by decide +kernel
theorem dX7_sent_19 : decode cX7_sent 19 = .ok (.iload_n 1, 1) := by decide +kernel
theorem dX7_sent_20 : decode cX7_sent 20 = .ok (.iadd, 1) := by decide +kernel
theorem dX7_sent_21 : decode cX7_sent 21 = .ok (.iload_n 2, 1) := by decide +kernel
theorem dX7_sent_22 : decode cX7_sent 22 = .ok (.bipush 59, 2) := by decide +kernel
theorem dX7_sent_24 : decode cX7_sent 24 = .ok (.invokevirtual 144, 3) := by decide +kernel
theorem dX7_sent_27 : decode cX7_sent 27 = .ok (.ireturn, 1) := by decide +kernel
theorem dX7_machine_0 : decode cX7_machine 0 = .ok (.iload_n 1, 1) := by decide +kernel
theorem dX7_machine_1 : decode cX7_machine 1 = .ok (.ifCond .lt 8, 3) := by decide +kernel
theorem dX7_machine_4 : decode cX7_machine 4 = .ok (.iload_n 1, 1) := by decide +kernel
theorem dX7_machine_5 : decode cX7_machine 5 = .ok (.iconst 5, 1) := by decide +kernel
theorem dX7_machine_6 : decode cX7_machine 6 = .ok (.if_icmp .le 10, 3) := by decide +kernel
theorem dX7_machine_9 : decode cX7_machine 9 = .ok (.aload_n 0, 1) := by decide +kernel
theorem dX7_machine_10 : decode cX7_machine 10 = .ok (.bipush (-2), 2) := by decide +kernel
theorem dX7_machine_12 : decode cX7_machine 12 = .ok (.invokevirtual 64, 3) := by decide +kernel
theorem dX7_machine_15 : decode cX7_machine 15 = .ok (.ireturn, 1) := by decide +kernel
theorem dX7_machine_16 : decode cX7_machine 16 = .ok (.bipush 10, 2) := by decide +kernel
theorem dX7_machine_18 : decode cX7_machine 18 = .ok (.aload_n 0, 1) := by decide +kernel
theorem dX7_machine_19 : decode cX7_machine 19 = .ok (.getfield 13, 3) := by decide +kernel
theorem dX7_machine_22 : decode cX7_machine 22 = .ok (.iconst 2, 1) := by decide +kernel
theorem dX7_machine_23 : decode cX7_machine 23 = .ok (.iaload, 1) := by decide +kernel
theorem dX7_machine_24 : decode cX7_machine 24 = .ok (.imul, 1) := by decide +kernel
theorem dX7_machine_25 : decode cX7_machine 25 = .ok (.aload_n 0, 1) := by decide +kernel
theorem dX7_machine_26 : decode cX7_machine 26 = .ok (.getfield 13, 3) := by decide +kernel
theorem dX7_machine_29 : decode cX7_machine 29 = .ok (.iconst 3, 1) := by decide +kernel
theorem dX7_machine_30 : decode cX7_machine 30 = .ok (.iaload, 1) := by decide +kernel
theorem dX7_machine_31 : decode cX7_machine 31 = .ok (.iadd, 1) := by decide +kernel
theorem dX7_machine_32 : decode cX7_machine 32 = .ok (.istore_n 3, 1) := by decide +kernel
theorem dX7_machine_33 : decode cX7_machine 33 = .ok (.aload_n 0, 1) := by decide +kernel
theorem dX7_machine_34 : decode cX7_machine 34 = .ok (.iconst 3, 1) := by decide +kernel
theorem dX7_machine_35 : decode cX7_machine 35 = .ok (.iload_n 2, 1) := by decide +kernel
theorem dX7_machine_36 : decode cX7_machine 36 = .ok (.bipush 9, 2) := by decide +kernel
theorem dX7_machine_38 : decode cX7_machine 38 = .ok (.invokevirtual 144, 3) := by decide +kernel
theorem dX7_machine_41 : decode cX7_machine 41 = .ok (.istore 4, 2) := by decide +kernel
theorem dX7_machine_43 : decode cX7_machine 43 = .ok (.iload 4, 2) := by decide +kernel
theorem dX7_machine_45 : decode cX7_machine 45 = .ok (.ifCond .ge 6, 3) := by decide +kernel
theorem dX7_machine_48 : decode cX7_machine 48 = .ok (.iload 4, 2) := by decide +kernel
theorem dX7_machine_50 : decode cX7_machine 50 = .ok (.ireturn, 1) := by decide +kernel
theorem dX7_machine_51 : decode cX7_machine 51 = .ok (.aload_n 0, 1) := by decide +kernel
theorem dX7_machine_52 : decode cX7_machine 52 = .ok (.getfield 13, 3) := by decide +kernel
theorem dX7_machine_55 : decode cX7_machine 55 = .ok (.iconst 2, 1) := by decide +kernel
theorem dX7_machine_56 : decode cX7_machine 56 = .ok (.iload_n 1, 1) := by decide +kernel
theorem dX7_machine_57 : decode cX7_machine 57 = .ok (.iastore, 1) := by decide +kernel
theorem dX7_machine_58 : decode cX7_machine 58 = .ok (.iload_n 3, 1) := by decide +kernel
theorem dX7_machine_59 : decode cX7_machine 59 = .ok (.ireturn, 1) := by decide +kernel
theorem dX7_comes_0 : decode cX7_comes 0 = .ok (.aload_n 0, 1) := by decide +kernel
theorem dX7_comes_1 : decode cX7_comes 1 = .ok (.iload_n 1, 1) := by decide +kernel
theorem dX7_comes_2 : decode cX7_comes 2 = .ok (.invokevirtual 141, 3) := by decide +kernel
theorem dX7_comes_5 : decode cX7_comes 5 = .ok (.ifCond .eq 11, 3) := by decide +kernel
theorem dX7_comes_8 : decode cX7_comes 8 = .ok (.aload_n 0, 1) := by decide +kernel
theorem dX7_comes_9 : decode cX7_comes 9 = .ok (.iconst (-1), 1) := by decide +kernel
theorem dX7_comes_10 : decode cX7_comes 10 = .ok (.invokevirtual 64, 3) := by decide +kernel
theorem dX7_comes_13 : decode cX7_comes 13 = .ok (.goto 14, 3) := by decide +kernel
theorem dX7_comes_16 : decode cX7_comes 16 = .ok (.aload_n 0, 1) := by decide +kernel
theorem dX7_comes_17 : decode cX7_comes 17 = .ok (.bipush 70, 2) := by decide +kernel
theorem dX7_comes_19 : decode cX7_comes 19 = .ok (.iload_n 1, 1) := by decide +kernel
theorem dX7_comes_20 : decode cX7_comes 20 = .ok (.iadd, 1) := by decide +kernel
theorem dX7_comes_21 : decode cX7_comes 21 = .ok (.iload_n 2, 1) := by decide +kernel
theorem dX7_comes_22 : decode cX7_comes 22 = .ok (.bipush 99, 2) := by decide +kernel
theorem dX7_comes_24 : decode cX7_comes 24 = .ok (.invokevirtual 144, 3) := by decide +kernel
theorem dX7_comes_27 : decode cX7_comes 27 = .ok (.ireturn, 1) := by decide +kernel
theorem dX7_out_0 : decode cX7_out 0 = .ok (.iload_n 1, 1) := by decide +kernel
theorem dX7_out_1 : decode cX7_out 1 = .ok (.ifCond .ge 10, 3) := by decide +kernel
theorem dX7_out_4 : decode cX7_out 4 = .ok (.aload_n 0, 1) := by decide +kernel
theorem dX7_out_5 : decode cX7_out 5 = .ok (.bipush (-4), 2) := by decide +kernel
theorem dX7_out_7 : decode cX7_out 7 = .ok (.invokevirtual 64, 3) := by decide +kernel
theorem dX7_out_10 : decode cX7_out 10 = .ok (.ireturn, 1) := by decide +kernel
theorem dX7_out_11 : decode cX7_out 11 = .ok (.iload_n 2, 1) := by decide +kernel
theorem dX7_out_12 : decode cX7_out 12 = .ok (.ifCond .lt 8, 3) := by decide +kernel
theorem dX7_out_15 : decode cX7_out 15 = .ok (.iload_n 2, 1) := by decide +kernel
theorem dX7_out_16 : decode cX7_out 16 = .ok (.iconst 1, 1) := by decide +kernel
theorem dX7_out_17 : decode cX7_out 17 = .ok (.if_icmp .le 10, 3) := by decide +kernel
theorem dX7_out_20 : decode cX7_out 20 = .ok (.aload_n 0, 1) := by decide +kernel
theorem dX7_out_21 : decode cX7_out 21 = .ok (.bipush (-2), 2) := by decide +kernel
theorem dX7_out_23 : decode cX7_out 23 = .ok (.invokevirtual 64, 3) := by decide +kernel
theorem dX7_out_26 : decode cX7_out 26 = .ok (.ireturn, 1) := by decide +kernel
theorem dX7_out_27 : decode cX7_out 27 = .ok (.aload_n 0, 1) := by decide +kernel
theorem dX7_out_28 : decode cX7_out 28 = .ok (.bipush 99, 2) := by decide +kernel
theorem dX7_out_30 : decode cX7_out 30 = .ok (.invokevirtual 147, 3) := by decide +kernel
theorem dX7_out_33 : decode cX7_out 33 = .ok (.iload_n 1, 1) := by decide +kernel
theorem dX7_out_34 : decode cX7_out 34 = .ok (.aload_n 0, 1) := by decide +kernel
theorem dX7_out_35 : decode cX7_out 35 = .ok (.getfield 113, 3) := by decide +kernel
theorem dX7_out_38 : decode cX7_out 38 = .ok (.if_icmp .lt 8, 3) := by decide +kernel
theorem dX7_out_41 : decode cX7_out 41 = .ok (.bipush (-9), 2) := by decide +kernel
theorem dX7_out_43 : decode cX7_out 43 = .ok (.goto 22, 3) := by decide +kernel
theorem dX7_out_46 : decode cX7_out 46 = .ok (.iload_n 2, 1) := by decide +kernel
theorem dX7_out_47 : decode cX7_out 47 = .ok (.ifCond .ne 12, 3) := by decide +kernel
theorem dX7_out_50 : decode cX7_out 50 = .ok (.aload_n 0, 1) := by decide +kernel
theorem dX7_out_51 : decode cX7_out 51 = .ok (.getfield 38, 3) := by decide +kernel
theorem dX7_out_54 : decode cX7_out 54 = .ok (.iload_n 1, 1) := by decide +kernel
theorem dX7_out_55 : decode cX7_out 55 = .ok (.iaload, 1) := by decide +kernel
theorem dX7_out_56 : decode cX7_out 56 = .ok (.goto 9, 3) := by decide +kernel
theorem dX7_out_59 : decode cX7_out 59 = .ok (.aload_n 0, 1) := by decide +kernel
theorem dX7_out_60 : decode cX7_out 60 = .ok (.getfield 41, 3) := by decide +kernel
theorem dX7_out_63 : decode cX7_out 63 = .ok (.iload_n 1, 1) := by decide +kernel
theorem dX7_out_64 : decode cX7_out 64 = .ok (.iaload, 1) := by decide +kernel
theorem dX7_out_65 : decode cX7_out 65 = .ok (.ireturn, 1) := by decide +kernel
theorem dX7_outMany_0 : decode cX7_outMany 0 = .ok (.aload_n 0, 1) := by decide +kernel
theorem dX7_outMany_1 : decode cX7_outMany 1 = .ok (.bipush 99, 2) := by decide +kernel
theorem dX7_outMany_3 : decode cX7_outMany 3 = .ok (.invokevirtual 147, 3) := by decide +kernel
theorem dX7_outMany_6 : decode cX7_outMany 6 = .ok (.aload_n 0, 1) := by decide +kernel
theorem dX7_outMany_7 : decode cX7_outMany 7 = .ok (.getfield 113, 3) := by decide +kernel
theorem dX7_outMany_10 : decode cX7_outMany 10 = .ok (.ireturn, 1) := by decide +kernel
theorem dX7_lies_0 : decode cX7_lies 0 = .ok (.iload_n 1, 1) := by decide +kernel
theorem dX7_lies_1 : decode cX7_lies 1 = .ok (.ifCond .lt 8, 3) := by decide +kernel
theorem dX7_lies_4 : decode cX7_lies 4 = .ok (.iload_n 2, 1) := by decide +kernel
theorem dX7_lies_5 : decode cX7_lies 5 = .ok (.iconst (-1), 1) := by decide +kernel
theorem dX7_lies_6 : decode cX7_lies 6 = .ok (.if_icmp .ge 10, 3) := by decide +kernel
theorem dX7_lies_9 : decode cX7_lies 9 = .ok (.aload_n 0, 1) := by decide +kernel
theorem dX7_lies_10 : decode cX7_lies 10 = .ok (.bipush (-4), 2) := by decide +kernel
theorem dX7_lies_12 : decode cX7_lies 12 = .ok (.invokevirtual 64, 3) := by decide +kernel
theorem dX7_lies_15 : decode cX7_lies 15 = .ok (.ireturn, 1) := by decide +kernel
theorem dX7_lies_16 : decode cX7_lies 16 = .ok (.iload_n 1, 1) := by decide +kernel
theorem dX7_lies_17 : decode cX7_lies 17 = .ok (.bipush 99, 2) := by decide +kernel
theorem dX7_lies_19 : decode cX7_lies 19 = .ok (.if_icmp .le 10, 3) := by decide +kernel
theorem dX7_lies_22 : decode cX7_lies 22 = .ok (.aload_n 0, 1) := by decide +kernel
theorem dX7_lies_23 : decode cX7_lies 23 = .ok (.bipush (-6), 2) := by decide +kernel
theorem dX7_lies_25 : decode cX7_lies 25 = .ok (.invokevirtual 64, 3) := by decide +kernel
theorem dX7_lies_28 : decode cX7_lies 28 = .ok (.ireturn, 1) := by decide +kernel
theorem dX7_lies_29 : decode cX7_lies 29 = .ok (.aload_n 0, 1) := by decide +kernel
theorem dX7_lies_30 : decode cX7_lies 30 = .ok (.iload_n 1, 1) := by decide +kernel
theorem dX7_lies_31 : decode cX7_lies 31 = .ok (.invokevirtual 147, 3) := by decide +kernel
theorem dX7_lies_34 : decode cX7_lies 34 = .ok (.iload_n 2, 1) := by decide +kernel
theorem dX7_lies_35 : decode cX7_lies 35 = .ok (.ifCond .ge 10, 3) := by decide +kernel
theorem dX7_lies_38 : decode cX7_lies 38 = .ok (.aload_n 0, 1) := by decide +kernel
theorem dX7_lies_39 : decode cX7_lies 39 = .ok (.getfield 116, 3) := by decide +kernel
theorem dX7_lies_42 : decode cX7_lies 42 = .ok (.goto 29, 3) := by decide +kernel
theorem dX7_lies_45 : decode cX7_lies 45 = .ok (.iload_n 2, 1) := by decide +kernel
theorem dX7_lies_46 : decode cX7_lies 46 = .ok (.aload_n 0, 1) := by decide +kernel
theorem dX7_lies_47 : decode cX7_lies 47 = .ok (.getfield 116, 3) := by decide +kernel
theorem dX7_lies_50 : decode cX7_lies 50 = .ok (.if_icmp .lt 8, 3) := by decide +kernel
theorem dX7_lies_53 : decode cX7_lies 53 = .ok (.bipush (-9), 2) := by decide +kernel
theorem dX7_lies_55 : decode cX7_lies 55 = .ok (.goto 16, 3) := by decide +kernel
theorem dX7_lies_58 : decode cX7_lies 58 = .ok (.aload_n 0, 1) := by decide +kernel
theorem dX7_lies_59 : decode cX7_lies 59 = .ok (.getfield 44, 3) := by decide +kernel
theorem dX7_lies_62 : decode cX7_lies 62 = .ok (.aload_n 0, 1) := by decide +kernel
theorem dX7_lies_63 : decode cX7_lies 63 = .ok (.getfield 116, 3) := by decide +kernel
theorem dX7_lies_66 : decode cX7_lies 66 = .ok (.iconst 1, 1) := by decide +kernel
theorem dX7_lies_67 : decode cX7_lies 67 = .ok (.isub, 1) := by decide +kernel
theorem dX7_lies_68 : decode cX7_lies 68 = .ok (.iload_n 2, 1) := by decide +kernel
theorem dX7_lies_69 : decode cX7_lies 69 = .ok (.isub, 1) := by decide +kernel
theorem dX7_lies_70 : decode cX7_lies 70 = .ok (.iaload, 1) := by decide +kernel
theorem dX7_lies_71 : decode cX7_lies 71 = .ok (.ireturn, 1) := by decide +kernel
theorem dX7_has_0 : decode cX7_has 0 = .ok (.iconst 0, 1) := by decide +kernel
theorem dX7_has_1 : decode cX7_has 1 = .ok (.istore_n 3, 1) := by decide +kernel
theorem dX7_has_2 : decode cX7_has 2 = .ok (.iconst 0, 1) := by decide +kernel
theorem dX7_has_3 : decode cX7_has 3 = .ok (.istore 4, 2) := by decide +kernel
theorem dX7_has_5 : decode cX7_has 5 = .ok (.iload 4, 2) := by decide +kernel
theorem dX7_has_7 : decode cX7_has 7 = .ok (.bipush 10, 2) := by decide +kernel
theorem dX7_has_9 : decode cX7_has 9 = .ok (.aload_n 0, 1) := by decide +kernel
theorem dX7_has_10 : decode cX7_has 10 = .ok (.getfield 13, 3) := by decide +kernel
theorem dX7_has_13 : decode cX7_has 13 = .ok (.iconst 0, 1) := by decide +kernel
theorem dX7_has_14 : decode cX7_has 14 = .ok (.iaload, 1) := by decide +kernel
theorem dX7_has_15 : decode cX7_has 15 = .ok (.imul, 1) := by decide +kernel
theorem dX7_has_16 : decode cX7_has 16 = .ok (.if_icmp .ge 54, 3) := by decide +kernel
theorem dX7_has_19 : decode cX7_has 19 = .ok (.iload_n 3, 1) := by decide +kernel
theorem dX7_has_20 : decode cX7_has 20 = .ok (.aload_n 0, 1) := by decide +kernel
theorem dX7_has_21 : decode cX7_has 21 = .ok (.getfield 47, 3) := by decide +kernel
theorem dX7_has_24 : decode cX7_has 24 = .ok (.iload 4, 2) := by decide +kernel
theorem dX7_has_26 : decode cX7_has 26 = .ok (.iaload, 1) := by decide +kernel
theorem dX7_has_27 : decode cX7_has 27 = .ok (.iload_n 1, 1) := by decide +kernel
theorem dX7_has_28 : decode cX7_has 28 = .ok (.if_icmp .ne 33, 3) := by decide +kernel
theorem dX7_has_31 : decode cX7_has 31 = .ok (.aload_n 0, 1) := by decide +kernel
theorem dX7_has_32 : decode cX7_has 32 = .ok (.getfield 13, 3) := by decide +kernel
theorem dX7_has_35 : decode cX7_has 35 = .ok (.bipush 10, 2) := by decide +kernel
theorem dX7_has_37 : decode cX7_has 37 = .ok (.iload 4, 2) := by decide +kernel
theorem dX7_has_39 : decode cX7_has 39 = .ok (.bipush 10, 2) := by decide +kernel
theorem dX7_has_41 : decode cX7_has 41 = .ok (.idiv, 1) := by decide +kernel
theorem dX7_has_42 : decode cX7_has 42 = .ok (.iadd, 1) := by decide +kernel
theorem dX7_has_43 : decode cX7_has 43 = .ok (.iaload, 1) := by decide +kernel
theorem dX7_has_44 : decode cX7_has 44 = .ok (.iload_n 1, 1) := by decide +kernel
theorem dX7_has_45 : decode cX7_has 45 = .ok (.if_icmp .ne 7, 3) := by decide +kernel
theorem dX7_has_48 : decode cX7_has 48 = .ok (.iconst 1, 1) := by decide +kernel
theorem dX7_has_49 : decode cX7_has 49 = .ok (.goto 4, 3) := by decide +kernel
theorem dX7_has_52 : decode cX7_has 52 = .ok (.iconst 0, 1) := by decide +kernel
theorem dX7_has_53 : decode cX7_has 53 = .ok (.iload_n 2, 1) := by decide +kernel
theorem dX7_has_54 : decode cX7_has 54 = .ok (.if_icmp .ne 7, 3) := by decide +kernel
theorem dX7_has_57 : decode cX7_has 57 = .ok (.iconst 1, 1) := by decide +kernel
theorem dX7_has_58 : decode cX7_has 58 = .ok (.goto 4, 3) := by decide +kernel
theorem dX7_has_61 : decode cX7_has 61 = .ok (.iconst 0, 1) := by decide +kernel
theorem dX7_has_62 : decode cX7_has 62 = .ok (.iadd, 1) := by decide +kernel
theorem dX7_has_63 : decode cX7_has 63 = .ok (.istore_n 3, 1) := by decide +kernel
theorem dX7_has_64 : decode cX7_has 64 = .ok (.iinc 4 1, 3) := by decide +kernel
theorem dX7_has_67 : decode cX7_has 67 = .ok (.goto (-62), 3) := by decide +kernel
theorem dX7_has_70 : decode cX7_has 70 = .ok (.iload_n 3, 1) := by decide +kernel
theorem dX7_has_71 : decode cX7_has 71 = .ok (.ireturn, 1) := by decide +kernel
theorem dX7_held_0 : decode cX7_held 0 = .ok (.aload_n 0, 1) := by decide +kernel
theorem dX7_held_1 : decode cX7_held 1 = .ok (.iload_n 1, 1) := by decide +kernel
theorem dX7_held_2 : decode cX7_held 2 = .ok (.invokevirtual 150, 3) := by decide +kernel
theorem dX7_held_5 : decode cX7_held 5 = .ok (.ifCond .eq 9, 3) := by decide +kernel
theorem dX7_held_8 : decode cX7_held 8 = .ok (.aload_n 0, 1) := by decide +kernel
theorem dX7_held_9 : decode cX7_held 9 = .ok (.iconst (-1), 1) := by decide +kernel
theorem dX7_held_10 : decode cX7_held 10 = .ok (.invokevirtual 64, 3) := by decide +kernel
theorem dX7_held_13 : decode cX7_held 13 = .ok (.ireturn, 1) := by decide +kernel
theorem dX7_held_14 : decode cX7_held 14 = .ok (.iload_n 2, 1) := by decide +kernel
theorem dX7_held_15 : decode cX7_held 15 = .ok (.ifCond .lt 8, 3) := by decide +kernel
theorem dX7_held_18 : decode cX7_held 18 = .ok (.iload_n 2, 1) := by decide +kernel
theorem dX7_held_19 : decode cX7_held 19 = .ok (.iconst 1, 1) := by decide +kernel
theorem dX7_held_20 : decode cX7_held 20 = .ok (.if_icmp .le 10, 3) := by decide +kernel
theorem dX7_held_23 : decode cX7_held 23 = .ok (.aload_n 0, 1) := by decide +kernel
theorem dX7_held_24 : decode cX7_held 24 = .ok (.bipush (-2), 2) := by decide +kernel
theorem dX7_held_26 : decode cX7_held 26 = .ok (.invokevirtual 64, 3) := by decide +kernel
theorem dX7_held_29 : decode cX7_held 29 = .ok (.ireturn, 1) := by decide +kernel
theorem dX7_held_30 : decode cX7_held 30 = .ok (.aload_n 0, 1) := by decide +kernel
theorem dX7_held_31 : decode cX7_held 31 = .ok (.bipush 99, 2) := by decide +kernel
theorem dX7_held_33 : decode cX7_held 33 = .ok (.invokevirtual 147, 3) := by decide +kernel
theorem dX7_held_36 : decode cX7_held 36 = .ok (.aload_n 0, 1) := by decide +kernel
theorem dX7_held_37 : decode cX7_held 37 = .ok (.iload_n 1, 1) := by decide +kernel
theorem dX7_held_38 : decode cX7_held 38 = .ok (.iload_n 2, 1) := by decide +kernel
theorem dX7_held_39 : decode cX7_held 39 = .ok (.ifCond .ne 7, 3) := by decide +kernel
theorem dX7_held_42 : decode cX7_held 42 = .ok (.iconst 1, 1) := by decide +kernel
theorem dX7_held_43 : decode cX7_held 43 = .ok (.goto 4, 3) := by decide +kernel
theorem dX7_held_46 : decode cX7_held 46 = .ok (.iconst 0, 1) := by decide +kernel
theorem dX7_held_47 : decode cX7_held 47 = .ok (.invokevirtual 153, 3) := by decide +kernel
theorem dX7_held_50 : decode cX7_held 50 = .ok (.ireturn, 1) := by decide +kernel
theorem dX7_who_0 : decode cX7_who 0 = .ok (.iload_n 1, 1) := by decide +kernel
theorem dX7_who_1 : decode cX7_who 1 = .ok (.ifCond .lt 40, 3) := by decide +kernel
theorem dX7_who_4 : decode cX7_who 4 = .ok (.aload_n 0, 1) := by decide +kernel
theorem dX7_who_5 : decode cX7_who 5 = .ok (.iload_n 1, 1) := by decide +kernel
theorem dX7_who_6 : decode cX7_who 6 = .ok (.bipush 10, 2) := by decide +kernel
theorem dX7_who_8 : decode cX7_who 8 = .ok (.idiv, 1) := by decide +kernel
theorem dX7_who_9 : decode cX7_who 9 = .ok (.invokevirtual 138, 3) := by decide +kernel
theorem dX7_who_12 : decode cX7_who 12 = .ok (.ifCond .ne 29, 3) := by decide +kernel
theorem dX7_who_15 : decode cX7_who 15 = .ok (.iload_n 1, 1) := by decide +kernel
theorem dX7_who_16 : decode cX7_who 16 = .ok (.bipush 10, 2) := by decide +kernel
theorem dX7_who_18 : decode cX7_who 18 = .ok (.irem, 1) := by decide +kernel
theorem dX7_who_19 : decode cX7_who 19 = .ok (.ifCond .eq 22, 3) := by decide +kernel
theorem dX7_who_22 : decode cX7_who 22 = .ok (.iload_n 1, 1) := by decide +kernel
theorem dX7_who_23 : decode cX7_who 23 = .ok (.bipush 10, 2) := by decide +kernel
theorem dX7_who_25 : decode cX7_who 25 = .ok (.irem, 1) := by decide +kernel
theorem dX7_who_26 : decode cX7_who 26 = .ok (.aload_n 0, 1) := by decide +kernel
theorem dX7_who_27 : decode cX7_who 27 = .ok (.getfield 13, 3) := by decide +kernel
theorem dX7_who_30 : decode cX7_who 30 = .ok (.bipush 20, 2) := by decide +kernel
theorem dX7_who_32 : decode cX7_who 32 = .ok (.iload_n 1, 1) := by decide +kernel
theorem dX7_who_33 : decode cX7_who 33 = .ok (.bipush 10, 2) := by decide +kernel
theorem dX7_who_35 : decode cX7_who 35 = .ok (.idiv, 1) := by decide +kernel
theorem dX7_who_36 : decode cX7_who 36 = .ok (.iadd, 1) := by decide +kernel
theorem dX7_who_37 : decode cX7_who 37 = .ok (.iaload, 1) := by decide +kernel
theorem dX7_who_38 : decode cX7_who 38 = .ok (.if_icmp .le 9, 3) := by decide +kernel
theorem dX7_who_41 : decode cX7_who 41 = .ok (.aload_n 0, 1) := by decide +kernel
theorem dX7_who_42 : decode cX7_who 42 = .ok (.iconst (-1), 1) := by decide +kernel
theorem dX7_who_43 : decode cX7_who 43 = .ok (.invokevirtual 64, 3) := by decide +kernel
theorem dX7_who_46 : decode cX7_who 46 = .ok (.ireturn, 1) := by decide +kernel
theorem dX7_who_47 : decode cX7_who 47 = .ok (.aload_n 0, 1) := by decide +kernel
theorem dX7_who_48 : decode cX7_who 48 = .ok (.bipush 99, 2) := by decide +kernel
theorem dX7_who_50 : decode cX7_who 50 = .ok (.invokevirtual 147, 3) := by decide +kernel
theorem dX7_who_53 : decode cX7_who 53 = .ok (.aload_n 0, 1) := by decide +kernel
theorem dX7_who_54 : decode cX7_who 54 = .ok (.getfield 47, 3) := by decide +kernel
theorem dX7_who_57 : decode cX7_who 57 = .ok (.iload_n 1, 1) := by decide +kernel
theorem dX7_who_58 : decode cX7_who 58 = .ok (.iaload, 1) := by decide +kernel
theorem dX7_who_59 : decode cX7_who 59 = .ok (.ireturn, 1) := by decide +kernel
theorem dX7_missing_0 : decode cX7_missing 0 = .ok (.aload_n 0, 1) := by decide +kernel
theorem dX7_missing_1 : decode cX7_missing 1 = .ok (.iload_n 1, 1) := by decide +kernel
theorem dX7_missing_2 : decode cX7_missing 2 = .ok (.invokevirtual 150, 3) := by decide +kernel
theorem dX7_missing_5 : decode cX7_missing 5 = .ok (.ifCond .eq 9, 3) := by decide +kernel
theorem dX7_missing_8 : decode cX7_missing 8 = .ok (.aload_n 0, 1) := by decide +kernel
theorem dX7_missing_9 : decode cX7_missing 9 = .ok (.iconst (-1), 1) := by decide +kernel
theorem dX7_missing_10 : decode cX7_missing 10 = .ok (.invokevirtual 64, 3) := by decide +kernel
theorem dX7_missing_13 : decode cX7_missing 13 = .ok (.ireturn, 1) := by decide +kernel
theorem dX7_missing_14 : decode cX7_missing 14 = .ok (.aload_n 0, 1) := by decide +kernel
theorem dX7_missing_15 : decode cX7_missing 15 = .ok (.bipush 99, 2) := by decide +kernel
theorem dX7_missing_17 : decode cX7_missing 17 = .ok (.invokevirtual 147, 3) := by decide +kernel
theorem dX7_missing_20 : decode cX7_missing 20 = .ok (.aload_n 0, 1) := by decide +kernel
theorem dX7_missing_21 : decode cX7_missing 21 = .ok (.iload_n 1, 1) := by decide +kernel
theorem dX7_missing_22 : decode cX7_missing 22 = .ok (.iconst 1, 1) := by decide +kernel
theorem dX7_missing_23 : decode cX7_missing 23 = .ok (.invokevirtual 153, 3) := by decide +kernel
theorem dX7_missing_26 : decode cX7_missing 26 = .ok (.ineg, 1) := by decide +kernel
theorem dX7_missing_27 : decode cX7_missing 27 = .ok (.istore_n 2, 1) := by decide +kernel
theorem dX7_missing_28 : decode cX7_missing 28 = .ok (.iconst 0, 1) := by decide +kernel
theorem dX7_missing_29 : decode cX7_missing 29 = .ok (.istore_n 3, 1) := by decide +kernel
theorem dX7_missing_30 : decode cX7_missing 30 = .ok (.iload_n 3, 1) := by decide +kernel
theorem dX7_missing_31 : decode cX7_missing 31 = .ok (.aload_n 0, 1) := by decide +kernel
theorem dX7_missing_32 : decode cX7_missing 32 = .ok (.getfield 13, 3) := by decide +kernel
theorem dX7_missing_35 : decode cX7_missing 35 = .ok (.iconst 0, 1) := by decide +kernel
theorem dX7_missing_36 : decode cX7_missing 36 = .ok (.iaload, 1) := by decide +kernel
theorem dX7_missing_37 : decode cX7_missing 37 = .ok (.if_icmp .ge 38, 3) := by decide +kernel
theorem dX7_missing_40 : decode cX7_missing 40 = .ok (.iload_n 2, 1) := by decide +kernel
theorem dX7_missing_41 : decode cX7_missing 41 = .ok (.aload_n 0, 1) := by decide +kernel
theorem dX7_missing_42 : decode cX7_missing 42 = .ok (.getfield 13, 3) := by decide +kernel
theorem dX7_missing_45 : decode cX7_missing 45 = .ok (.bipush 10, 2) := by decide +kernel
theorem dX7_missing_47 : decode cX7_missing 47 = .ok (.iload_n 3, 1) := by decide +kernel
theorem dX7_missing_48 : decode cX7_missing 48 = .ok (.iadd, 1) := by decide +kernel
theorem dX7_missing_49 : decode cX7_missing 49 = .ok (.iaload, 1) := by decide +kernel
theorem dX7_missing_50 : decode cX7_missing 50 = .ok (.iload_n 1, 1) := by decide +kernel
theorem dX7_missing_51 : decode cX7_missing 51 = .ok (.if_icmp .ne 15, 3) := by decide +kernel
theorem dX7_missing_54 : decode cX7_missing 54 = .ok (.aload_n 0, 1) := by decide +kernel
theorem dX7_missing_55 : decode cX7_missing 55 = .ok (.getfield 13, 3) := by decide +kernel
theorem dX7_missing_58 : decode cX7_missing 58 = .ok (.bipush 20, 2) := by decide +kernel
theorem dX7_missing_60 : decode cX7_missing 60 = .ok (.iload_n 3, 1) := by decide +kernel
theorem dX7_missing_61 : decode cX7_missing 61 = .ok (.iadd, 1) := by decide +kernel
theorem dX7_missing_62 : decode cX7_missing 62 = .ok (.iaload, 1) := by decide +kernel
theorem dX7_missing_63 : decode cX7_missing 63 = .ok (.goto 4, 3) := by decide +kernel
theorem dX7_missing_66 : decode cX7_missing 66 = .ok (.iconst 0, 1) := by decide +kernel
theorem dX7_missing_67 : decode cX7_missing 67 = .ok (.iadd, 1) := by decide +kernel
theorem dX7_missing_68 : decode cX7_missing 68 = .ok (.istore_n 2, 1) := by decide +kernel
theorem dX7_missing_69 : decode cX7_missing 69 = .ok (.iinc 3 1, 3) := by decide +kernel
theorem dX7_missing_72 : decode cX7_missing 72 = .ok (.goto (-42), 3) := by decide +kernel
theorem dX7_missing_75 : decode cX7_missing 75 = .ok (.iload_n 2, 1) := by decide +kernel
theorem dX7_missing_76 : decode cX7_missing 76 = .ok (.ireturn, 1) := by decide +kernel
theorem dX7_ask_0 : decode cX7_ask 0 = .ok (.aload_n 0, 1) := by decide +kernel
theorem dX7_ask_1 : decode cX7_ask 1 = .ok (.iload_n 1, 1) := by decide +kernel
theorem dX7_ask_2 : decode cX7_ask 2 = .ok (.invokevirtual 150, 3) := by decide +kernel
theorem dX7_ask_5 : decode cX7_ask 5 = .ok (.ifCond .eq 9, 3) := by decide +kernel
theorem dX7_ask_8 : decode cX7_ask 8 = .ok (.aload_n 0, 1) := by decide +kernel
theorem dX7_ask_9 : decode cX7_ask 9 = .ok (.iconst (-1), 1) := by decide +kernel
theorem dX7_ask_10 : decode cX7_ask 10 = .ok (.invokevirtual 64, 3) := by decide +kernel
theorem dX7_ask_13 : decode cX7_ask 13 = .ok (.ireturn, 1) := by decide +kernel
theorem dX7_ask_14 : decode cX7_ask 14 = .ok (.aload_n 0, 1) := by decide +kernel
theorem dX7_ask_15 : decode cX7_ask 15 = .ok (.bipush 99, 2) := by decide +kernel
theorem dX7_ask_17 : decode cX7_ask 17 = .ok (.invokevirtual 147, 3) := by decide +kernel
theorem dX7_ask_20 : decode cX7_ask 20 = .ok (.iconst 0, 1) := by decide +kernel
theorem dX7_ask_21 : decode cX7_ask 21 = .ok (.istore_n 2, 1) := by decide +kernel
theorem dX7_ask_22 : decode cX7_ask 22 = .ok (.iconst 0, 1) := by decide +kernel
theorem dX7_ask_23 : decode cX7_ask 23 = .ok (.istore_n 3, 1) := by decide +kernel
theorem dX7_ask_24 : decode cX7_ask 24 = .ok (.iload_n 3, 1) := by decide +kernel
theorem dX7_ask_25 : decode cX7_ask 25 = .ok (.bipush 10, 2) := by decide +kernel
theorem dX7_ask_27 : decode cX7_ask 27 = .ok (.aload_n 0, 1) := by decide +kernel
theorem dX7_ask_28 : decode cX7_ask 28 = .ok (.getfield 13, 3) := by decide +kernel
theorem dX7_ask_31 : decode cX7_ask 31 = .ok (.iconst 0, 1) := by decide +kernel
theorem dX7_ask_32 : decode cX7_ask 32 = .ok (.iaload, 1) := by decide +kernel
theorem dX7_ask_33 : decode cX7_ask 33 = .ok (.imul, 1) := by decide +kernel
theorem dX7_ask_34 : decode cX7_ask 34 = .ok (.if_icmp .ge 55, 3) := by decide +kernel
theorem dX7_ask_37 : decode cX7_ask 37 = .ok (.aload_n 0, 1) := by decide +kernel
theorem dX7_ask_38 : decode cX7_ask 38 = .ok (.getfield 13, 3) := by decide +kernel
theorem dX7_ask_41 : decode cX7_ask 41 = .ok (.bipush 10, 2) := by decide +kernel
theorem dX7_ask_43 : decode cX7_ask 43 = .ok (.iload_n 3, 1) := by decide +kernel
theorem dX7_ask_44 : decode cX7_ask 44 = .ok (.bipush 10, 2) := by decide +kernel
theorem dX7_ask_46 : decode cX7_ask 46 = .ok (.idiv, 1) := by decide +kernel
theorem dX7_ask_47 : decode cX7_ask 47 = .ok (.iadd, 1) := by decide +kernel
theorem dX7_ask_48 : decode cX7_ask 48 = .ok (.iaload, 1) := by decide +kernel
theorem dX7_ask_49 : decode cX7_ask 49 = .ok (.iload_n 1, 1) := by decide +kernel
theorem dX7_ask_50 : decode cX7_ask 50 = .ok (.if_icmp .ne 33, 3) := by decide +kernel
theorem dX7_ask_53 : decode cX7_ask 53 = .ok (.aload_n 0, 1) := by decide +kernel
theorem dX7_ask_54 : decode cX7_ask 54 = .ok (.getfield 47, 3) := by decide +kernel
theorem dX7_ask_57 : decode cX7_ask 57 = .ok (.iload_n 3, 1) := by decide +kernel
theorem dX7_ask_58 : decode cX7_ask 58 = .ok (.iaload, 1) := by decide +kernel
theorem dX7_ask_59 : decode cX7_ask 59 = .ok (.ifCond .lt 24, 3) := by decide +kernel
theorem dX7_ask_62 : decode cX7_ask 62 = .ok (.aload_n 0, 1) := by decide +kernel
theorem dX7_ask_63 : decode cX7_ask 63 = .ok (.getfield 47, 3) := by decide +kernel
theorem dX7_ask_66 : decode cX7_ask 66 = .ok (.iload_n 3, 1) := by decide +kernel
theorem dX7_ask_67 : decode cX7_ask 67 = .ok (.iaload, 1) := by decide +kernel
theorem dX7_ask_68 : decode cX7_ask 68 = .ok (.iload_n 1, 1) := by decide +kernel
theorem dX7_ask_69 : decode cX7_ask 69 = .ok (.if_icmp .eq 14, 3) := by decide +kernel
theorem dX7_ask_72 : decode cX7_ask 72 = .ok (.iload_n 2, 1) := by decide +kernel
theorem dX7_ask_73 : decode cX7_ask 73 = .ok (.iconst 1, 1) := by decide +kernel
theorem dX7_ask_74 : decode cX7_ask 74 = .ok (.aload_n 0, 1) := by decide +kernel
theorem dX7_ask_75 : decode cX7_ask 75 = .ok (.getfield 47, 3) := by decide +kernel
theorem dX7_ask_78 : decode cX7_ask 78 = .ok (.iload_n 3, 1) := by decide +kernel
theorem dX7_ask_79 : decode cX7_ask 79 = .ok (.iaload, 1) := by decide +kernel
theorem dX7_ask_80 : decode cX7_ask 80 = .ok (.ishl, 1) := by decide +kernel
theorem dX7_ask_81 : decode cX7_ask 81 = .ok (.ior, 1) := by decide +kernel
theorem dX7_ask_82 : decode cX7_ask 82 = .ok (.istore_n 2, 1) := by decide +kernel
theorem dX7_ask_83 : decode cX7_ask 83 = .ok (.iinc 3 1, 3) := by decide +kernel
theorem dX7_ask_86 : decode cX7_ask 86 = .ok (.goto (-62), 3) := by decide +kernel
theorem dX7_ask_89 : decode cX7_ask 89 = .ok (.iload_n 2, 1) := by decide +kernel
theorem dX7_ask_90 : decode cX7_ask 90 = .ok (.ireturn, 1) := by decide +kernel
theorem dX7_when_0 : decode cX7_when 0 = .ok (.aload_n 0, 1) := by decide +kernel
theorem dX7_when_1 : decode cX7_when 1 = .ok (.bipush 99, 2) := by decide +kernel
theorem dX7_when_3 : decode cX7_when 3 = .ok (.invokevirtual 147, 3) := by decide +kernel
theorem dX7_when_6 : decode cX7_when 6 = .ok (.iconst 0, 1) := by decide +kernel
theorem dX7_when_7 : decode cX7_when 7 = .ok (.istore_n 2, 1) := by decide +kernel
theorem dX7_when_8 : decode cX7_when 8 = .ok (.iconst 0, 1) := by decide +kernel
theorem dX7_when_9 : decode cX7_when 9 = .ok (.istore_n 3, 1) := by decide +kernel
theorem dX7_when_10 : decode cX7_when 10 = .ok (.iload_n 3, 1) := by decide +kernel
theorem dX7_when_11 : decode cX7_when 11 = .ok (.aload_n 0, 1) := by decide +kernel
theorem dX7_when_12 : decode cX7_when 12 = .ok (.getfield 13, 3) := by decide +kernel
theorem dX7_when_15 : decode cX7_when 15 = .ok (.iconst 0, 1) := by decide +kernel
theorem dX7_when_16 : decode cX7_when 16 = .ok (.iaload, 1) := by decide +kernel
theorem dX7_when_17 : decode cX7_when 17 = .ok (.if_icmp .ge 38, 3) := by decide +kernel
theorem dX7_when_20 : decode cX7_when 20 = .ok (.iload_n 2, 1) := by decide +kernel
theorem dX7_when_21 : decode cX7_when 21 = .ok (.aload_n 0, 1) := by decide +kernel
theorem dX7_when_22 : decode cX7_when 22 = .ok (.getfield 13, 3) := by decide +kernel
theorem dX7_when_25 : decode cX7_when 25 = .ok (.bipush 10, 2) := by decide +kernel
theorem dX7_when_27 : decode cX7_when 27 = .ok (.iload_n 3, 1) := by decide +kernel
theorem dX7_when_28 : decode cX7_when 28 = .ok (.iadd, 1) := by decide +kernel
theorem dX7_when_29 : decode cX7_when 29 = .ok (.iaload, 1) := by decide +kernel
theorem dX7_when_30 : decode cX7_when 30 = .ok (.iload_n 1, 1) := by decide +kernel
theorem dX7_when_31 : decode cX7_when 31 = .ok (.if_icmp .ne 15, 3) := by decide +kernel
theorem dX7_when_34 : decode cX7_when 34 = .ok (.aload_n 0, 1) := by decide +kernel
theorem dX7_when_35 : decode cX7_when 35 = .ok (.getfield 13, 3) := by decide +kernel
theorem dX7_when_38 : decode cX7_when 38 = .ok (.bipush 20, 2) := by decide +kernel
theorem dX7_when_40 : decode cX7_when 40 = .ok (.iload_n 3, 1) := by decide +kernel
theorem dX7_when_41 : decode cX7_when 41 = .ok (.iadd, 1) := by decide +kernel
theorem dX7_when_42 : decode cX7_when 42 = .ok (.iaload, 1) := by decide +kernel
theorem dX7_when_43 : decode cX7_when 43 = .ok (.goto 4, 3) := by decide +kernel
theorem dX7_when_46 : decode cX7_when 46 = .ok (.iconst 0, 1) := by decide +kernel
theorem dX7_when_47 : decode cX7_when 47 = .ok (.iadd, 1) := by decide +kernel
theorem dX7_when_48 : decode cX7_when 48 = .ok (.istore_n 2, 1) := by decide +kernel
theorem dX7_when_49 : decode cX7_when 49 = .ok (.iinc 3 1, 3) := by decide +kernel
theorem dX7_when_52 : decode cX7_when 52 = .ok (.goto (-42), 3) := by decide +kernel
theorem dX7_when_55 : decode cX7_when 55 = .ok (.iconst 0, 1) := by decide +kernel
theorem dX7_when_56 : decode cX7_when 56 = .ok (.istore_n 3, 1) := by decide +kernel
theorem dX7_when_57 : decode cX7_when 57 = .ok (.iconst 0, 1) := by decide +kernel
theorem dX7_when_58 : decode cX7_when 58 = .ok (.istore 4, 2) := by decide +kernel
theorem dX7_when_60 : decode cX7_when 60 = .ok (.iload 4, 2) := by decide +kernel
theorem dX7_when_62 : decode cX7_when 62 = .ok (.aload_n 0, 1) := by decide +kernel
theorem dX7_when_63 : decode cX7_when 63 = .ok (.getfield 113, 3) := by decide +kernel
theorem dX7_when_66 : decode cX7_when 66 = .ok (.if_icmp .ge 110, 3) := by decide +kernel
theorem dX7_when_69 : decode cX7_when 69 = .ok (.iload_n 2, 1) := by decide +kernel
theorem dX7_when_70 : decode cX7_when 70 = .ok (.ifCond .le 106, 3) := by decide +kernel
theorem dX7_when_73 : decode cX7_when 73 = .ok (.iconst 0, 1) := by decide +kernel
theorem dX7_when_74 : decode cX7_when 74 = .ok (.istore 5, 2) := by decide +kernel
theorem dX7_when_76 : decode cX7_when 76 = .ok (.iconst 0, 1) := by decide +kernel
theorem dX7_when_77 : decode cX7_when 77 = .ok (.istore 6, 2) := by decide +kernel
theorem dX7_when_79 : decode cX7_when 79 = .ok (.iload 6, 2) := by decide +kernel
theorem dX7_when_81 : decode cX7_when 81 = .ok (.iload 4, 2) := by decide +kernel
theorem dX7_when_83 : decode cX7_when 83 = .ok (.if_icmp .ge 38, 3) := by decide +kernel
theorem dX7_when_86 : decode cX7_when 86 = .ok (.iload 5, 2) := by decide +kernel
theorem dX7_when_88 : decode cX7_when 88 = .ok (.ifCond .ne 20, 3) := by decide +kernel
theorem dX7_when_91 : decode cX7_when 91 = .ok (.aload_n 0, 1) := by decide +kernel
theorem dX7_when_92 : decode cX7_when 92 = .ok (.getfield 38, 3) := by decide +kernel
theorem dX7_when_95 : decode cX7_when 95 = .ok (.iload 6, 2) := by decide +kernel
theorem dX7_when_97 : decode cX7_when 97 = .ok (.iaload, 1) := by decide +kernel
theorem dX7_when_98 : decode cX7_when 98 = .ok (.aload_n 0, 1) := by decide +kernel
theorem dX7_when_99 : decode cX7_when 99 = .ok (.getfield 38, 3) := by decide +kernel
theorem dX7_when_102 : decode cX7_when 102 = .ok (.iload 4, 2) := by decide +kernel
theorem dX7_when_104 : decode cX7_when 104 = .ok (.iaload, 1) := by decide +kernel
theorem dX7_when_105 : decode cX7_when 105 = .ok (.if_icmp .ne 7, 3) := by decide +kernel
theorem dX7_when_108 : decode cX7_when 108 = .ok (.iconst 1, 1) := by decide +kernel
theorem dX7_when_109 : decode cX7_when 109 = .ok (.goto 4, 3) := by decide +kernel
theorem dX7_when_112 : decode cX7_when 112 = .ok (.iconst 0, 1) := by decide +kernel
theorem dX7_when_113 : decode cX7_when 113 = .ok (.istore 5, 2) := by decide +kernel
theorem dX7_when_115 : decode cX7_when 115 = .ok (.iinc 6 1, 3) := by decide +kernel
theorem dX7_when_118 : decode cX7_when 118 = .ok (.goto (-39), 3) := by decide +kernel
theorem dX7_when_121 : decode cX7_when 121 = .ok (.iload_n 2, 1) := by decide +kernel
theorem dX7_when_122 : decode cX7_when 122 = .ok (.aload_n 0, 1) := by decide +kernel
theorem dX7_when_123 : decode cX7_when 123 = .ok (.getfield 13, 3) := by decide +kernel
theorem dX7_when_126 : decode cX7_when 126 = .ok (.bipush 10, 2) := by decide +kernel
theorem dX7_when_128 : decode cX7_when 128 = .ok (.aload_n 0, 1) := by decide +kernel
theorem dX7_when_129 : decode cX7_when 129 = .ok (.getfield 38, 3) := by decide +kernel
theorem dX7_when_132 : decode cX7_when 132 = .ok (.iload 4, 2) := by decide +kernel
theorem dX7_when_134 : decode cX7_when 134 = .ok (.iaload, 1) := by decide +kernel
theorem dX7_when_135 : decode cX7_when 135 = .ok (.bipush 10, 2) := by decide +kernel
theorem dX7_when_137 : decode cX7_when 137 = .ok (.idiv, 1) := by decide +kernel
theorem dX7_when_138 : decode cX7_when 138 = .ok (.iadd, 1) := by decide +kernel
theorem dX7_when_139 : decode cX7_when 139 = .ok (.iaload, 1) := by decide +kernel
theorem dX7_when_140 : decode cX7_when 140 = .ok (.iload_n 1, 1) := by decide +kernel
theorem dX7_when_141 : decode cX7_when 141 = .ok (.if_icmp .ne 12, 3) := by decide +kernel
theorem dX7_when_144 : decode cX7_when 144 = .ok (.iload 5, 2) := by decide +kernel
theorem dX7_when_146 : decode cX7_when 146 = .ok (.ifCond .ne 7, 3) := by decide +kernel
theorem dX7_when_149 : decode cX7_when 149 = .ok (.iconst 1, 1) := by decide +kernel
theorem dX7_when_150 : decode cX7_when 150 = .ok (.goto 4, 3) := by decide +kernel
theorem dX7_when_153 : decode cX7_when 153 = .ok (.iconst 0, 1) := by decide +kernel
theorem dX7_when_154 : decode cX7_when 154 = .ok (.isub, 1) := by decide +kernel
theorem dX7_when_155 : decode cX7_when 155 = .ok (.istore_n 2, 1) := by decide +kernel
theorem dX7_when_156 : decode cX7_when 156 = .ok (.aload_n 0, 1) := by decide +kernel
theorem dX7_when_157 : decode cX7_when 157 = .ok (.getfield 41, 3) := by decide +kernel
theorem dX7_when_160 : decode cX7_when 160 = .ok (.iload 4, 2) := by decide +kernel
theorem dX7_when_162 : decode cX7_when 162 = .ok (.iaload, 1) := by decide +kernel
theorem dX7_when_163 : decode cX7_when 163 = .ok (.istore_n 3, 1) := by decide +kernel
theorem dX7_when_164 : decode cX7_when 164 = .ok (.iload_n 2, 1) := by decide +kernel
theorem dX7_when_165 : decode cX7_when 165 = .ok (.ifCond .ne 5, 3) := by decide +kernel
theorem dX7_when_168 : decode cX7_when 168 = .ok (.iload_n 3, 1) := by decide +kernel
theorem dX7_when_169 : decode cX7_when 169 = .ok (.ireturn, 1) := by decide +kernel
theorem dX7_when_170 : decode cX7_when 170 = .ok (.iinc 4 1, 3) := by decide +kernel
theorem dX7_when_173 : decode cX7_when 173 = .ok (.goto (-113), 3) := by decide +kernel
theorem dX7_when_176 : decode cX7_when 176 = .ok (.bipush (-9), 2) := by decide +kernel
theorem dX7_when_178 : decode cX7_when 178 = .ok (.ireturn, 1) := by decide +kernel
theorem dX7_ready_0 : decode cX7_ready 0 = .ok (.aload_n 0, 1) := by decide +kernel
theorem dX7_ready_1 : decode cX7_ready 1 = .ok (.iload_n 1, 1) := by decide +kernel
theorem dX7_ready_2 : decode cX7_ready 2 = .ok (.invokevirtual 150, 3) := by decide +kernel
theorem dX7_ready_5 : decode cX7_ready 5 = .ok (.ifCond .eq 11, 3) := by decide +kernel
theorem dX7_ready_8 : decode cX7_ready 8 = .ok (.aload_n 0, 1) := by decide +kernel
theorem dX7_ready_9 : decode cX7_ready 9 = .ok (.iconst (-1), 1) := by decide +kernel
theorem dX7_ready_10 : decode cX7_ready 10 = .ok (.invokevirtual 64, 3) := by decide +kernel
theorem dX7_ready_13 : decode cX7_ready 13 = .ok (.goto 8, 3) := by decide +kernel
theorem dX7_ready_16 : decode cX7_ready 16 = .ok (.aload_n 0, 1) := by decide +kernel
theorem dX7_ready_17 : decode cX7_ready 17 = .ok (.iload_n 1, 1) := by decide +kernel
theorem dX7_ready_18 : decode cX7_ready 18 = .ok (.invokevirtual 157, 3) := by decide +kernel
theorem dX7_ready_21 : decode cX7_ready 21 = .ok (.ireturn, 1) := by decide +kernel
theorem dX7_mixed_0 : decode cX7_mixed 0 = .ok (.aload_n 0, 1) := by decide +kernel
theorem dX7_mixed_1 : decode cX7_mixed 1 = .ok (.bipush 99, 2) := by decide +kernel
theorem dX7_mixed_3 : decode cX7_mixed 3 = .ok (.invokevirtual 147, 3) := by decide +kernel
theorem dX7_mixed_6 : decode cX7_mixed 6 = .ok (.aload_n 0, 1) := by decide +kernel
theorem dX7_mixed_7 : decode cX7_mixed 7 = .ok (.invokevirtual 160, 3) := by decide +kernel
theorem dX7_mixed_10 : decode cX7_mixed 10 = .ok (.ireturn, 1) := by decide +kernel
theorem dX7_byKind_0 : decode cX7_byKind 0 = .ok (.aload_n 0, 1) := by decide +kernel
theorem dX7_byKind_1 : decode cX7_byKind 1 = .ok (.getfield 13, 3) := by decide +kernel
theorem dX7_byKind_4 : decode cX7_byKind 4 = .ok (.iconst 2, 1) := by decide +kernel
theorem dX7_byKind_5 : decode cX7_byKind 5 = .ok (.iaload, 1) := by decide +kernel
theorem dX7_byKind_6 : decode cX7_byKind 6 = .ok (.istore_n 1, 1) := by decide +kernel
theorem dX7_byKind_7 : decode cX7_byKind 7 = .ok (.iconst 0, 1) := by decide +kernel
theorem dX7_byKind_8 : decode cX7_byKind 8 = .ok (.istore_n 2, 1) := by decide +kernel
theorem dX7_byKind_9 : decode cX7_byKind 9 = .ok (.sipush 1000, 3) := by decide +kernel
theorem dX7_byKind_12 : decode cX7_byKind 12 = .ok (.istore_n 3, 1) := by decide +kernel
theorem dX7_byKind_13 : decode cX7_byKind 13 = .ok (.iconst 0, 1) := by decide +kernel
theorem dX7_byKind_14 : decode cX7_byKind 14 = .ok (.istore 4, 2) := by decide +kernel
theorem dX7_byKind_16 : decode cX7_byKind 16 = .ok (.iload 4, 2) := by decide +kernel
theorem dX7_byKind_18 : decode cX7_byKind 18 = .ok (.bipush 6, 2) := by decide +kernel
theorem dX7_byKind_20 : decode cX7_byKind 20 = .ok (.if_icmp .ge 35, 3) := by decide +kernel
theorem dX7_byKind_23 : decode cX7_byKind 23 = .ok (.aload_n 0, 1) := by decide +kernel
theorem dX7_byKind_24 : decode cX7_byKind 24 = .ok (.getfield 13, 3) := by decide +kernel
theorem dX7_byKind_27 : decode cX7_byKind 27 = .ok (.iconst 2, 1) := by decide +kernel
theorem dX7_byKind_28 : decode cX7_byKind 28 = .ok (.iload 4, 2) := by decide +kernel
theorem dX7_byKind_30 : decode cX7_byKind 30 = .ok (.iastore, 1) := by decide +kernel
theorem dX7_byKind_31 : decode cX7_byKind 31 = .ok (.aload_n 0, 1) := by decide +kernel
theorem dX7_byKind_32 : decode cX7_byKind 32 = .ok (.invokevirtual 163, 3) := by decide +kernel
theorem dX7_byKind_35 : decode cX7_byKind 35 = .ok (.istore 5, 2) := by decide +kernel
theorem dX7_byKind_37 : decode cX7_byKind 37 = .ok (.iload 5, 2) := by decide +kernel
theorem dX7_byKind_39 : decode cX7_byKind 39 = .ok (.iload_n 3, 1) := by decide +kernel
theorem dX7_byKind_40 : decode cX7_byKind 40 = .ok (.if_icmp .ge 9, 3) := by decide +kernel
theorem dX7_byKind_43 : decode cX7_byKind 43 = .ok (.iload 5, 2) := by decide +kernel
theorem dX7_byKind_45 : decode cX7_byKind 45 = .ok (.istore_n 3, 1) := by decide +kernel
theorem dX7_byKind_46 : decode cX7_byKind 46 = .ok (.iload 4, 2) := by decide +kernel
theorem dX7_byKind_48 : decode cX7_byKind 48 = .ok (.istore_n 2, 1) := by decide +kernel
theorem dX7_byKind_49 : decode cX7_byKind 49 = .ok (.iinc 4 1, 3) := by decide +kernel
theorem dX7_byKind_52 : decode cX7_byKind 52 = .ok (.goto (-36), 3) := by decide +kernel
theorem dX7_byKind_55 : decode cX7_byKind 55 = .ok (.aload_n 0, 1) := by decide +kernel
theorem dX7_byKind_56 : decode cX7_byKind 56 = .ok (.getfield 13, 3) := by decide +kernel
theorem dX7_byKind_59 : decode cX7_byKind 59 = .ok (.iconst 2, 1) := by decide +kernel
theorem dX7_byKind_60 : decode cX7_byKind 60 = .ok (.iload_n 1, 1) := by decide +kernel
theorem dX7_byKind_61 : decode cX7_byKind 61 = .ok (.iastore, 1) := by decide +kernel
theorem dX7_byKind_62 : decode cX7_byKind 62 = .ok (.iload_n 2, 1) := by decide +kernel
theorem dX7_byKind_63 : decode cX7_byKind 63 = .ok (.ireturn, 1) := by decide +kernel
theorem dX7_send_0 : decode cX7_send 0 = .ok (.aload_n 0, 1) := by decide +kernel
theorem dX7_send_1 : decode cX7_send 1 = .ok (.iload_n 1, 1) := by decide +kernel
theorem dX7_send_2 : decode cX7_send 2 = .ok (.invokevirtual 138, 3) := by decide +kernel
theorem dX7_send_5 : decode cX7_send 5 = .ok (.ifCond .eq 9, 3) := by decide +kernel
theorem dX7_send_8 : decode cX7_send 8 = .ok (.aload_n 0, 1) := by decide +kernel
theorem dX7_send_9 : decode cX7_send 9 = .ok (.iconst (-1), 1) := by decide +kernel
theorem dX7_send_10 : decode cX7_send 10 = .ok (.invokevirtual 64, 3) := by decide +kernel
theorem dX7_send_13 : decode cX7_send 13 = .ok (.ireturn, 1) := by decide +kernel
theorem dX7_send_14 : decode cX7_send 14 = .ok (.iload_n 2, 1) := by decide +kernel
theorem dX7_send_15 : decode cX7_send 15 = .ok (.ifCond .lt 8, 3) := by decide +kernel
theorem dX7_send_18 : decode cX7_send 18 = .ok (.iload_n 2, 1) := by decide +kernel
theorem dX7_send_19 : decode cX7_send 19 = .ok (.iconst 1, 1) := by decide +kernel
theorem dX7_send_20 : decode cX7_send 20 = .ok (.if_icmp .le 10, 3) := by decide +kernel
theorem dX7_send_23 : decode cX7_send 23 = .ok (.aload_n 0, 1) := by decide +kernel
theorem dX7_send_24 : decode cX7_send 24 = .ok (.bipush (-2), 2) := by decide +kernel
theorem dX7_send_26 : decode cX7_send 26 = .ok (.invokevirtual 64, 3) := by decide +kernel
theorem dX7_send_29 : decode cX7_send 29 = .ok (.ireturn, 1) := by decide +kernel
theorem dX7_send_30 : decode cX7_send 30 = .ok (.aload_n 0, 1) := by decide +kernel
theorem dX7_send_31 : decode cX7_send 31 = .ok (.getfield 13, 3) := by decide +kernel
theorem dX7_send_34 : decode cX7_send 34 = .ok (.bipush 30, 2) := by decide +kernel
theorem dX7_send_36 : decode cX7_send 36 = .ok (.iload_n 1, 1) := by decide +kernel
theorem dX7_send_37 : decode cX7_send 37 = .ok (.iadd, 1) := by decide +kernel
theorem dX7_send_38 : decode cX7_send 38 = .ok (.iaload, 1) := by decide +kernel
theorem dX7_send_39 : decode cX7_send 39 = .ok (.istore_n 3, 1) := by decide +kernel
theorem dX7_send_40 : decode cX7_send 40 = .ok (.iconst 0, 1) := by decide +kernel
theorem dX7_send_41 : decode cX7_send 41 = .ok (.istore 4, 2) := by decide +kernel
theorem dX7_send_43 : decode cX7_send 43 = .ok (.sipush 1000, 3) := by decide +kernel
theorem dX7_send_46 : decode cX7_send 46 = .ok (.istore 5, 2) := by decide +kernel
theorem dX7_send_48 : decode cX7_send 48 = .ok (.iconst 0, 1) := by decide +kernel
theorem dX7_send_49 : decode cX7_send 49 = .ok (.istore 6, 2) := by decide +kernel
theorem dX7_send_51 : decode cX7_send 51 = .ok (.iload 6, 2) := by decide +kernel
theorem dX7_send_53 : decode cX7_send 53 = .ok (.bipush 60, 2) := by decide +kernel
theorem dX7_send_55 : decode cX7_send 55 = .ok (.if_icmp .ge 41, 3) := by decide +kernel
theorem dX7_send_58 : decode cX7_send 58 = .ok (.aload_n 0, 1) := by decide +kernel
theorem dX7_send_59 : decode cX7_send 59 = .ok (.getfield 13, 3) := by decide +kernel
theorem dX7_send_62 : decode cX7_send 62 = .ok (.bipush 30, 2) := by decide +kernel
theorem dX7_send_64 : decode cX7_send 64 = .ok (.iload_n 1, 1) := by decide +kernel
theorem dX7_send_65 : decode cX7_send 65 = .ok (.iadd, 1) := by decide +kernel
theorem dX7_send_66 : decode cX7_send 66 = .ok (.iload 6, 2) := by decide +kernel
theorem dX7_send_68 : decode cX7_send 68 = .ok (.iastore, 1) := by decide +kernel
theorem dX7_send_69 : decode cX7_send 69 = .ok (.aload_n 0, 1) := by decide +kernel
theorem dX7_send_70 : decode cX7_send 70 = .ok (.invokevirtual 163, 3) := by decide +kernel
theorem dX7_send_73 : decode cX7_send 73 = .ok (.istore 7, 2) := by decide +kernel
theorem dX7_send_75 : decode cX7_send 75 = .ok (.iload 7, 2) := by decide +kernel
theorem dX7_send_77 : decode cX7_send 77 = .ok (.iload 5, 2) := by decide +kernel
theorem dX7_send_79 : decode cX7_send 79 = .ok (.if_icmp .ge 11, 3) := by decide +kernel
theorem dX7_send_82 : decode cX7_send 82 = .ok (.iload 7, 2) := by decide +kernel
theorem dX7_send_84 : decode cX7_send 84 = .ok (.istore 5, 2) := by decide +kernel
theorem dX7_send_86 : decode cX7_send 86 = .ok (.iload 6, 2) := by decide +kernel
theorem dX7_send_88 : decode cX7_send 88 = .ok (.istore 4, 2) := by decide +kernel
theorem dX7_send_90 : decode cX7_send 90 = .ok (.iinc 6 1, 3) := by decide +kernel
theorem dX7_send_93 : decode cX7_send 93 = .ok (.goto (-42), 3) := by decide +kernel
theorem dX7_send_96 : decode cX7_send 96 = .ok (.aload_n 0, 1) := by decide +kernel
theorem dX7_send_97 : decode cX7_send 97 = .ok (.getfield 13, 3) := by decide +kernel
theorem dX7_send_100 : decode cX7_send 100 = .ok (.bipush 30, 2) := by decide +kernel
theorem dX7_send_102 : decode cX7_send 102 = .ok (.iload_n 1, 1) := by decide +kernel
theorem dX7_send_103 : decode cX7_send 103 = .ok (.iadd, 1) := by decide +kernel
theorem dX7_send_104 : decode cX7_send 104 = .ok (.iload_n 3, 1) := by decide +kernel
theorem dX7_send_105 : decode cX7_send 105 = .ok (.iastore, 1) := by decide +kernel
theorem dX7_send_106 : decode cX7_send 106 = .ok (.iload_n 2, 1) := by decide +kernel
theorem dX7_send_107 : decode cX7_send 107 = .ok (.ifCond .ne 8, 3) := by decide +kernel
theorem dX7_send_110 : decode cX7_send 110 = .ok (.iload 4, 2) := by decide +kernel
theorem dX7_send_112 : decode cX7_send 112 = .ok (.goto 5, 3) := by decide +kernel
theorem dX7_send_115 : decode cX7_send 115 = .ok (.iload 5, 2) := by decide +kernel
theorem dX7_send_117 : decode cX7_send 117 = .ok (.ireturn, 1) := by decide +kernel
theorem dX7_together_0 : decode cX7_together 0 = .ok (.iload_n 1, 1) := by decide +kernel
theorem dX7_together_1 : decode cX7_together 1 = .ok (.iload_n 2, 1) := by decide +kernel
theorem dX7_together_2 : decode cX7_together 2 = .ok (.iadd, 1) := by decide +kernel
theorem dX7_together_3 : decode cX7_together 3 = .ok (.iload_n 3, 1) := by decide +kernel
theorem dX7_together_4 : decode cX7_together 4 = .ok (.iadd, 1) := by decide +kernel
theorem dX7_together_5 : decode cX7_together 5 = .ok (.aload_n 0, 1) := by decide +kernel
theorem dX7_together_6 : decode cX7_together 6 = .ok (.getfield 166, 3) := by decide +kernel
theorem dX7_together_9 : decode cX7_together 9 = .ok (.if_icmp .eq 5, 3) := by decide +kernel
theorem dX7_together_12 : decode cX7_together 12 = .ok (.iconst 0, 1) := by decide +kernel
theorem dX7_together_13 : decode cX7_together 13 = .ok (.ireturn, 1) := by decide +kernel
theorem dX7_together_14 : decode cX7_together 14 = .ok (.iconst 0, 1) := by decide +kernel
theorem dX7_together_15 : decode cX7_together 15 = .ok (.istore 4, 2) := by decide +kernel
theorem dX7_together_17 : decode cX7_together 17 = .ok (.iload 4, 2) := by decide +kernel
theorem dX7_together_19 : decode cX7_together 19 = .ok (.iload_n 1, 1) := by decide +kernel
theorem dX7_together_20 : decode cX7_together 20 = .ok (.if_icmp .gt 241, 3) := by decide +kernel
theorem dX7_together_23 : decode cX7_together 23 = .ok (.iconst 0, 1) := by decide +kernel
theorem dX7_together_24 : decode cX7_together 24 = .ok (.istore 5, 2) := by decide +kernel
theorem dX7_together_26 : decode cX7_together 26 = .ok (.iload 5, 2) := by decide +kernel
theorem dX7_together_28 : decode cX7_together 28 = .ok (.iload_n 2, 1) := by decide +kernel
theorem dX7_together_29 : decode cX7_together 29 = .ok (.if_icmp .gt 226, 3) := by decide +kernel
theorem dX7_together_32 : decode cX7_together 32 = .ok (.iconst 0, 1) := by decide +kernel
theorem dX7_together_33 : decode cX7_together 33 = .ok (.istore 6, 2) := by decide +kernel
theorem dX7_together_35 : decode cX7_together 35 = .ok (.iload 6, 2) := by decide +kernel
theorem dX7_together_37 : decode cX7_together 37 = .ok (.iload_n 3, 1) := by decide +kernel
theorem dX7_together_38 : decode cX7_together 38 = .ok (.if_icmp .gt 211, 3) := by decide +kernel
theorem dX7_together_41 : decode cX7_together 41 = .ok (.iload 4, 2) := by decide +kernel
theorem dX7_together_43 : decode cX7_together 43 = .ok (.iload 5, 2) := by decide +kernel
theorem dX7_together_45 : decode cX7_together 45 = .ok (.iadd, 1) := by decide +kernel
theorem dX7_together_46 : decode cX7_together 46 = .ok (.iload 6, 2) := by decide +kernel
theorem dX7_together_48 : decode cX7_together 48 = .ok (.iadd, 1) := by decide +kernel
theorem dX7_together_49 : decode cX7_together 49 = .ok (.ifCond .ne 7, 3) := by decide +kernel
theorem dX7_together_52 : decode cX7_together 52 = .ok (.iconst 1, 1) := by decide +kernel
theorem dX7_together_53 : decode cX7_together 53 = .ok (.goto 4, 3) := by decide +kernel
theorem dX7_together_56 : decode cX7_together 56 = .ok (.iconst 0, 1) := by decide +kernel
theorem dX7_together_57 : decode cX7_together 57 = .ok (.istore 7, 2) := by decide +kernel
theorem dX7_together_59 : decode cX7_together 59 = .ok (.iload 4, 2) := by decide +kernel
theorem dX7_together_61 : decode cX7_together 61 = .ok (.iload 5, 2) := by decide +kernel
theorem dX7_together_63 : decode cX7_together 63 = .ok (.iadd, 1) := by decide +kernel
theorem dX7_together_64 : decode cX7_together 64 = .ok (.iload 6, 2) := by decide +kernel
theorem dX7_together_66 : decode cX7_together 66 = .ok (.iadd, 1) := by decide +kernel
theorem dX7_together_67 : decode cX7_together 67 = .ok (.ifCond .ne 7, 3) := by decide +kernel
theorem dX7_together_70 : decode cX7_together 70 = .ok (.iconst 0, 1) := by decide +kernel
theorem dX7_together_71 : decode cX7_together 71 = .ok (.goto 21, 3) := by decide +kernel
theorem dX7_together_74 : decode cX7_together 74 = .ok (.aload_n 0, 1) := by decide +kernel
theorem dX7_together_75 : decode cX7_together 75 = .ok (.getfield 54, 3) := by decide +kernel
theorem dX7_together_78 : decode cX7_together 78 = .ok (.iload 4, 2) := by decide +kernel
theorem dX7_together_80 : decode cX7_together 80 = .ok (.iload 5, 2) := by decide +kernel
theorem dX7_together_82 : decode cX7_together 82 = .ok (.iadd, 1) := by decide +kernel
theorem dX7_together_83 : decode cX7_together 83 = .ok (.iload 6, 2) := by decide +kernel
theorem dX7_together_85 : decode cX7_together 85 = .ok (.iadd, 1) := by decide +kernel
theorem dX7_together_86 : decode cX7_together 86 = .ok (.iconst 1, 1) := by decide +kernel
theorem dX7_together_87 : decode cX7_together 87 = .ok (.isub, 1) := by decide +kernel
theorem dX7_together_88 : decode cX7_together 88 = .ok (.iaload, 1) := by decide +kernel
theorem dX7_together_89 : decode cX7_together 89 = .ok (.bipush 10, 2) := by decide +kernel
theorem dX7_together_91 : decode cX7_together 91 = .ok (.irem, 1) := by decide +kernel
theorem dX7_together_92 : decode cX7_together 92 = .ok (.istore 8, 2) := by decide +kernel
theorem dX7_together_94 : decode cX7_together 94 = .ok (.iload 7, 2) := by decide +kernel
theorem dX7_together_96 : decode cX7_together 96 = .ok (.iload 4, 2) := by decide +kernel
theorem dX7_together_98 : decode cX7_together 98 = .ok (.ifCond .le 35, 3) := by decide +kernel
theorem dX7_together_101 : decode cX7_together 101 = .ok (.iload 8, 2) := by decide +kernel
theorem dX7_together_103 : decode cX7_together 103 = .ok (.iload 4, 2) := by decide +kernel
theorem dX7_together_105 : decode cX7_together 105 = .ok (.if_icmp .ne 28, 3) := by decide +kernel
theorem dX7_together_108 : decode cX7_together 108 = .ok (.aload_n 0, 1) := by decide +kernel
theorem dX7_together_109 : decode cX7_together 109 = .ok (.getfield 57, 3) := by decide +kernel
theorem dX7_together_112 : decode cX7_together 112 = .ok (.bipush 100, 2) := by decide +kernel
theorem dX7_together_114 : decode cX7_together 114 = .ok (.iload 4, 2) := by decide +kernel
theorem dX7_together_116 : decode cX7_together 116 = .ok (.imul, 1) := by decide +kernel
theorem dX7_together_117 : decode cX7_together 117 = .ok (.bipush 100, 2) := by decide +kernel
theorem dX7_together_119 : decode cX7_together 119 = .ok (.isub, 1) := by decide +kernel
theorem dX7_together_120 : decode cX7_together 120 = .ok (.bipush 10, 2) := by decide +kernel
theorem dX7_together_122 : decode cX7_together 122 = .ok (.iload 5, 2) := by decide +kernel
theorem dX7_together_124 : decode cX7_together 124 = .ok (.imul, 1) := by decide +kernel
theorem dX7_together_125 : decode cX7_together 125 = .ok (.iadd, 1) := by decide +kernel
theorem dX7_together_126 : decode cX7_together 126 = .ok (.iload 6, 2) := by decide +kernel
theorem dX7_together_128 : decode cX7_together 128 = .ok (.iadd, 1) := by decide +kernel
theorem dX7_together_129 : decode cX7_together 129 = .ok (.iaload, 1) := by decide +kernel
theorem dX7_together_130 : decode cX7_together 130 = .ok (.goto 4, 3) := by decide +kernel
theorem dX7_together_133 : decode cX7_together 133 = .ok (.iconst 0, 1) := by decide +kernel
theorem dX7_together_134 : decode cX7_together 134 = .ok (.iadd, 1) := by decide +kernel
theorem dX7_together_135 : decode cX7_together 135 = .ok (.istore 7, 2) := by decide +kernel
theorem dX7_together_137 : decode cX7_together 137 = .ok (.iload 7, 2) := by decide +kernel
theorem dX7_together_139 : decode cX7_together 139 = .ok (.iload 5, 2) := by decide +kernel
theorem dX7_together_141 : decode cX7_together 141 = .ok (.ifCond .le 35, 3) := by decide +kernel
theorem dX7_together_144 : decode cX7_together 144 = .ok (.iload 8, 2) := by decide +kernel
theorem dX7_together_146 : decode cX7_together 146 = .ok (.iload 5, 2) := by decide +kernel
theorem dX7_together_148 : decode cX7_together 148 = .ok (.if_icmp .ne 28, 3) := by decide +kernel
theorem dX7_together_151 : decode cX7_together 151 = .ok (.aload_n 0, 1) := by decide +kernel
theorem dX7_together_152 : decode cX7_together 152 = .ok (.getfield 57, 3) := by decide +kernel
theorem dX7_together_155 : decode cX7_together 155 = .ok (.bipush 100, 2) := by decide +kernel
theorem dX7_together_157 : decode cX7_together 157 = .ok (.iload 4, 2) := by decide +kernel
theorem dX7_together_159 : decode cX7_together 159 = .ok (.imul, 1) := by decide +kernel
theorem dX7_together_160 : decode cX7_together 160 = .ok (.bipush 10, 2) := by decide +kernel
theorem dX7_together_162 : decode cX7_together 162 = .ok (.iload 5, 2) := by decide +kernel
theorem dX7_together_164 : decode cX7_together 164 = .ok (.imul, 1) := by decide +kernel
theorem dX7_together_165 : decode cX7_together 165 = .ok (.iadd, 1) := by decide +kernel
theorem dX7_together_166 : decode cX7_together 166 = .ok (.bipush 10, 2) := by decide +kernel
theorem dX7_together_168 : decode cX7_together 168 = .ok (.isub, 1) := by decide +kernel
theorem dX7_together_169 : decode cX7_together 169 = .ok (.iload 6, 2) := by decide +kernel
theorem dX7_together_171 : decode cX7_together 171 = .ok (.iadd, 1) := by decide +kernel
theorem dX7_together_172 : decode cX7_together 172 = .ok (.iaload, 1) := by decide +kernel
theorem dX7_together_173 : decode cX7_together 173 = .ok (.goto 4, 3) := by decide +kernel
theorem dX7_together_176 : decode cX7_together 176 = .ok (.iconst 0, 1) := by decide +kernel
theorem dX7_together_177 : decode cX7_together 177 = .ok (.iadd, 1) := by decide +kernel
theorem dX7_together_178 : decode cX7_together 178 = .ok (.istore 7, 2) := by decide +kernel
theorem dX7_together_180 : decode cX7_together 180 = .ok (.iload 7, 2) := by decide +kernel
theorem dX7_together_182 : decode cX7_together 182 = .ok (.iload 6, 2) := by decide +kernel
theorem dX7_together_184 : decode cX7_together 184 = .ok (.ifCond .le 34, 3) := by decide +kernel
theorem dX7_together_187 : decode cX7_together 187 = .ok (.iload 8, 2) := by decide +kernel
theorem dX7_together_189 : decode cX7_together 189 = .ok (.iload 6, 2) := by decide +kernel
theorem dX7_together_191 : decode cX7_together 191 = .ok (.if_icmp .ne 27, 3) := by decide +kernel
theorem dX7_together_194 : decode cX7_together 194 = .ok (.aload_n 0, 1) := by decide +kernel
theorem dX7_together_195 : decode cX7_together 195 = .ok (.getfield 57, 3) := by decide +kernel
theorem dX7_together_198 : decode cX7_together 198 = .ok (.bipush 100, 2) := by decide +kernel
theorem dX7_together_200 : decode cX7_together 200 = .ok (.iload 4, 2) := by decide +kernel
theorem dX7_together_202 : decode cX7_together 202 = .ok (.imul, 1) := by decide +kernel
theorem dX7_together_203 : decode cX7_together 203 = .ok (.bipush 10, 2) := by decide +kernel
theorem dX7_together_205 : decode cX7_together 205 = .ok (.iload 5, 2) := by decide +kernel
theorem dX7_together_207 : decode cX7_together 207 = .ok (.imul, 1) := by decide +kernel
theorem dX7_together_208 : decode cX7_together 208 = .ok (.iadd, 1) := by decide +kernel
theorem dX7_together_209 : decode cX7_together 209 = .ok (.iload 6, 2) := by decide +kernel
theorem dX7_together_211 : decode cX7_together 211 = .ok (.iadd, 1) := by decide +kernel
theorem dX7_together_212 : decode cX7_together 212 = .ok (.iconst 1, 1) := by decide +kernel
theorem dX7_together_213 : decode cX7_together 213 = .ok (.isub, 1) := by decide +kernel
theorem dX7_together_214 : decode cX7_together 214 = .ok (.iaload, 1) := by decide +kernel
theorem dX7_together_215 : decode cX7_together 215 = .ok (.goto 4, 3) := by decide +kernel
theorem dX7_together_218 : decode cX7_together 218 = .ok (.iconst 0, 1) := by decide +kernel
theorem dX7_together_219 : decode cX7_together 219 = .ok (.iadd, 1) := by decide +kernel
theorem dX7_together_220 : decode cX7_together 220 = .ok (.istore 7, 2) := by decide +kernel
theorem dX7_together_222 : decode cX7_together 222 = .ok (.aload_n 0, 1) := by decide +kernel
theorem dX7_together_223 : decode cX7_together 223 = .ok (.getfield 57, 3) := by decide +kernel
theorem dX7_together_226 : decode cX7_together 226 = .ok (.bipush 100, 2) := by decide +kernel
theorem dX7_together_228 : decode cX7_together 228 = .ok (.iload 4, 2) := by decide +kernel
theorem dX7_together_230 : decode cX7_together 230 = .ok (.imul, 1) := by decide +kernel
theorem dX7_together_231 : decode cX7_together 231 = .ok (.bipush 10, 2) := by decide +kernel
theorem dX7_together_233 : decode cX7_together 233 = .ok (.iload 5, 2) := by decide +kernel
theorem dX7_together_235 : decode cX7_together 235 = .ok (.imul, 1) := by decide +kernel
theorem dX7_together_236 : decode cX7_together 236 = .ok (.iadd, 1) := by decide +kernel
theorem dX7_together_237 : decode cX7_together 237 = .ok (.iload 6, 2) := by decide +kernel
theorem dX7_together_239 : decode cX7_together 239 = .ok (.iadd, 1) := by decide +kernel
theorem dX7_together_240 : decode cX7_together 240 = .ok (.iload 7, 2) := by decide +kernel
theorem dX7_together_242 : decode cX7_together 242 = .ok (.iastore, 1) := by decide +kernel
theorem dX7_together_243 : decode cX7_together 243 = .ok (.iinc 6 1, 3) := by decide +kernel
theorem dX7_together_246 : decode cX7_together 246 = .ok (.goto (-211), 3) := by decide +kernel
theorem dX7_together_249 : decode cX7_together 249 = .ok (.iinc 5 1, 3) := by decide +kernel
theorem dX7_together_252 : decode cX7_together 252 = .ok (.goto (-226), 3) := by decide +kernel
theorem dX7_together_255 : decode cX7_together 255 = .ok (.iinc 4 1, 3) := by decide +kernel
theorem dX7_together_258 : decode cX7_together 258 = .ok (.goto (-241), 3) := by decide +kernel
theorem dX7_together_261 : decode cX7_together 261 = .ok (.aload_n 0, 1) := by decide +kernel
theorem dX7_together_262 : decode cX7_together 262 = .ok (.getfield 57, 3) := by decide +kernel
theorem dX7_together_265 : decode cX7_together 265 = .ok (.bipush 100, 2) := by decide +kernel
theorem dX7_together_267 : decode cX7_together 267 = .ok (.iload_n 1, 1) := by decide +kernel
theorem dX7_together_268 : decode cX7_together 268 = .ok (.imul, 1) := by decide +kernel
theorem dX7_together_269 : decode cX7_together 269 = .ok (.bipush 10, 2) := by decide +kernel
theorem dX7_together_271 : decode cX7_together 271 = .ok (.iload_n 2, 1) := by decide +kernel
theorem dX7_together_272 : decode cX7_together 272 = .ok (.imul, 1) := by decide +kernel
theorem dX7_together_273 : decode cX7_together 273 = .ok (.iadd, 1) := by decide +kernel
theorem dX7_together_274 : decode cX7_together 274 = .ok (.iload_n 3, 1) := by decide +kernel
theorem dX7_together_275 : decode cX7_together 275 = .ok (.iadd, 1) := by decide +kernel
theorem dX7_together_276 : decode cX7_together 276 = .ok (.iaload, 1) := by decide +kernel
theorem dX7_together_277 : decode cX7_together 277 = .ok (.ireturn, 1) := by decide +kernel
theorem dX7_two_0 : decode cX7_two 0 = .ok (.aload_n 0, 1) := by decide +kernel
theorem dX7_two_1 : decode cX7_two 1 = .ok (.iload_n 1, 1) := by decide +kernel
theorem dX7_two_2 : decode cX7_two 2 = .ok (.invokevirtual 138, 3) := by decide +kernel
theorem dX7_two_5 : decode cX7_two 5 = .ok (.ifCond .ne 16, 3) := by decide +kernel
theorem dX7_two_8 : decode cX7_two 8 = .ok (.aload_n 0, 1) := by decide +kernel
theorem dX7_two_9 : decode cX7_two 9 = .ok (.iload_n 2, 1) := by decide +kernel
theorem dX7_two_10 : decode cX7_two 10 = .ok (.invokevirtual 138, 3) := by decide +kernel
theorem dX7_two_13 : decode cX7_two 13 = .ok (.ifCond .ne 8, 3) := by decide +kernel
theorem dX7_two_16 : decode cX7_two 16 = .ok (.iload_n 1, 1) := by decide +kernel
theorem dX7_two_17 : decode cX7_two 17 = .ok (.iload_n 2, 1) := by decide +kernel
theorem dX7_two_18 : decode cX7_two 18 = .ok (.if_icmp .ne 9, 3) := by decide +kernel
theorem dX7_two_21 : decode cX7_two 21 = .ok (.aload_n 0, 1) := by decide +kernel
theorem dX7_two_22 : decode cX7_two 22 = .ok (.iconst (-1), 1) := by decide +kernel
theorem dX7_two_23 : decode cX7_two 23 = .ok (.invokevirtual 64, 3) := by decide +kernel
theorem dX7_two_26 : decode cX7_two 26 = .ok (.ireturn, 1) := by decide +kernel
theorem dX7_two_27 : decode cX7_two 27 = .ok (.aload_n 0, 1) := by decide +kernel
theorem dX7_two_28 : decode cX7_two 28 = .ok (.aload_n 0, 1) := by decide +kernel
theorem dX7_two_29 : decode cX7_two 29 = .ok (.getfield 13, 3) := by decide +kernel
theorem dX7_two_32 : decode cX7_two 32 = .ok (.bipush 20, 2) := by decide +kernel
theorem dX7_two_34 : decode cX7_two 34 = .ok (.iload_n 1, 1) := by decide +kernel
theorem dX7_two_35 : decode cX7_two 35 = .ok (.iadd, 1) := by decide +kernel
theorem dX7_two_36 : decode cX7_two 36 = .ok (.iaload, 1) := by decide +kernel
theorem dX7_two_37 : decode cX7_two 37 = .ok (.aload_n 0, 1) := by decide +kernel
theorem dX7_two_38 : decode cX7_two 38 = .ok (.getfield 13, 3) := by decide +kernel
theorem dX7_two_41 : decode cX7_two 41 = .ok (.bipush 20, 2) := by decide +kernel
theorem dX7_two_43 : decode cX7_two 43 = .ok (.iload_n 2, 1) := by decide +kernel
theorem dX7_two_44 : decode cX7_two 44 = .ok (.iadd, 1) := by decide +kernel
theorem dX7_two_45 : decode cX7_two 45 = .ok (.iaload, 1) := by decide +kernel
theorem dX7_two_46 : decode cX7_two 46 = .ok (.iconst 0, 1) := by decide +kernel
theorem dX7_two_47 : decode cX7_two 47 = .ok (.invokevirtual 169, 3) := by decide +kernel
theorem dX7_two_50 : decode cX7_two 50 = .ok (.ireturn, 1) := by decide +kernel
theorem dX7_three_0 : decode cX7_three 0 = .ok (.aload_n 0, 1) := by decide +kernel
theorem dX7_three_1 : decode cX7_three 1 = .ok (.iload_n 1, 1) := by decide +kernel
theorem dX7_three_2 : decode cX7_three 2 = .ok (.invokevirtual 138, 3) := by decide +kernel
theorem dX7_three_5 : decode cX7_three 5 = .ok (.ifCond .ne 34, 3) := by decide +kernel
theorem dX7_three_8 : decode cX7_three 8 = .ok (.aload_n 0, 1) := by decide +kernel
theorem dX7_three_9 : decode cX7_three 9 = .ok (.iload_n 2, 1) := by decide +kernel
theorem dX7_three_10 : decode cX7_three 10 = .ok (.invokevirtual 138, 3) := by decide +kernel
theorem dX7_three_13 : decode cX7_three 13 = .ok (.ifCond .ne 26, 3) := by decide +kernel
theorem dX7_three_16 : decode cX7_three 16 = .ok (.aload_n 0, 1) := by decide +kernel
theorem dX7_three_17 : decode cX7_three 17 = .ok (.iload_n 3, 1) := by decide +kernel
theorem dX7_three_18 : decode cX7_three 18 = .ok (.invokevirtual 138, 3) := by decide +kernel
theorem dX7_three_21 : decode cX7_three 21 = .ok (.ifCond .ne 18, 3) := by decide +kernel
theorem dX7_three_24 : decode cX7_three 24 = .ok (.iload_n 1, 1) := by decide +kernel
theorem dX7_three_25 : decode cX7_three 25 = .ok (.iload_n 2, 1) := by decide +kernel
theorem dX7_three_26 : decode cX7_three 26 = .ok (.if_icmp .eq 13, 3) := by decide +kernel
theorem dX7_three_29 : decode cX7_three 29 = .ok (.iload_n 1, 1) := by decide +kernel
theorem dX7_three_30 : decode cX7_three 30 = .ok (.iload_n 3, 1) := by decide +kernel
theorem dX7_three_31 : decode cX7_three 31 = .ok (.if_icmp .eq 8, 3) := by decide +kernel
theorem dX7_three_34 : decode cX7_three 34 = .ok (.iload_n 2, 1) := by decide +kernel
theorem dX7_three_35 : decode cX7_three 35 = .ok (.iload_n 3, 1) := by decide +kernel
theorem dX7_three_36 : decode cX7_three 36 = .ok (.if_icmp .ne 9, 3) := by decide +kernel
theorem dX7_three_39 : decode cX7_three 39 = .ok (.aload_n 0, 1) := by decide +kernel
theorem dX7_three_40 : decode cX7_three 40 = .ok (.iconst (-1), 1) := by decide +kernel
theorem dX7_three_41 : decode cX7_three 41 = .ok (.invokevirtual 64, 3) := by decide +kernel
theorem dX7_three_44 : decode cX7_three 44 = .ok (.ireturn, 1) := by decide +kernel
theorem dX7_three_45 : decode cX7_three 45 = .ok (.aload_n 0, 1) := by decide +kernel
theorem dX7_three_46 : decode cX7_three 46 = .ok (.aload_n 0, 1) := by decide +kernel
theorem dX7_three_47 : decode cX7_three 47 = .ok (.getfield 13, 3) := by decide +kernel
theorem dX7_three_50 : decode cX7_three 50 = .ok (.bipush 20, 2) := by decide +kernel
theorem dX7_three_52 : decode cX7_three 52 = .ok (.iload_n 1, 1) := by decide +kernel
theorem dX7_three_53 : decode cX7_three 53 = .ok (.iadd, 1) := by decide +kernel
theorem dX7_three_54 : decode cX7_three 54 = .ok (.iaload, 1) := by decide +kernel
theorem dX7_three_55 : decode cX7_three 55 = .ok (.aload_n 0, 1) := by decide +kernel
theorem dX7_three_56 : decode cX7_three 56 = .ok (.getfield 13, 3) := by decide +kernel
theorem dX7_three_59 : decode cX7_three 59 = .ok (.bipush 20, 2) := by decide +kernel
theorem dX7_three_61 : decode cX7_three 61 = .ok (.iload_n 2, 1) := by decide +kernel
theorem dX7_three_62 : decode cX7_three 62 = .ok (.iadd, 1) := by decide +kernel
theorem dX7_three_63 : decode cX7_three 63 = .ok (.iaload, 1) := by decide +kernel
theorem dX7_three_64 : decode cX7_three 64 = .ok (.aload_n 0, 1) := by decide +kernel
theorem dX7_three_65 : decode cX7_three 65 = .ok (.getfield 13, 3) := by decide +kernel
theorem dX7_three_68 : decode cX7_three 68 = .ok (.bipush 20, 2) := by decide +kernel
theorem dX7_three_70 : decode cX7_three 70 = .ok (.iload_n 3, 1) := by decide +kernel
theorem dX7_three_71 : decode cX7_three 71 = .ok (.iadd, 1) := by decide +kernel
theorem dX7_three_72 : decode cX7_three 72 = .ok (.iaload, 1) := by decide +kernel
theorem dX7_three_73 : decode cX7_three 73 = .ok (.invokevirtual 169, 3) := by decide +kernel
theorem dX7_three_76 : decode cX7_three 76 = .ok (.ireturn, 1) := by decide +kernel
theorem dX7_parts_0 : decode cX7_parts 0 = .ok (.iconst 0, 1) := by decide +kernel
theorem dX7_parts_1 : decode cX7_parts 1 = .ok (.istore_n 1, 1) := by decide +kernel
theorem dX7_parts_2 : decode cX7_parts 2 = .ok (.bipush 20, 2) := by decide +kernel
theorem dX7_parts_4 : decode cX7_parts 4 = .ok (.newarray .int, 2) := by decide +kernel
theorem dX7_parts_6 : decode cX7_parts 6 = .ok (.astore_n 2, 1) := by decide +kernel
theorem dX7_parts_7 : decode cX7_parts 7 = .ok (.iconst 0, 1) := by decide +kernel
theorem dX7_parts_8 : decode cX7_parts 8 = .ok (.istore_n 3, 1) := by decide +kernel
theorem dX7_parts_9 : decode cX7_parts 9 = .ok (.iload_n 3, 1) := by decide +kernel
theorem dX7_parts_10 : decode cX7_parts 10 = .ok (.aload_n 0, 1) := by decide +kernel
theorem dX7_parts_11 : decode cX7_parts 11 = .ok (.getfield 166, 3) := by decide +kernel
theorem dX7_parts_14 : decode cX7_parts 14 = .ok (.if_icmp .ge 73, 3) := by decide +kernel
theorem dX7_parts_17 : decode cX7_parts 17 = .ok (.aload_n 2, 1) := by decide +kernel
theorem dX7_parts_18 : decode cX7_parts 18 = .ok (.iload_n 3, 1) := by decide +kernel
theorem dX7_parts_19 : decode cX7_parts 19 = .ok (.iconst 1, 1) := by decide +kernel
theorem dX7_parts_20 : decode cX7_parts 20 = .ok (.iastore, 1) := by decide +kernel
theorem dX7_parts_21 : decode cX7_parts 21 = .ok (.iconst 0, 1) := by decide +kernel
theorem dX7_parts_22 : decode cX7_parts 22 = .ok (.istore 4, 2) := by decide +kernel
theorem dX7_parts_24 : decode cX7_parts 24 = .ok (.iload 4, 2) := by decide +kernel
theorem dX7_parts_26 : decode cX7_parts 26 = .ok (.iload_n 3, 1) := by decide +kernel
theorem dX7_parts_27 : decode cX7_parts 27 = .ok (.if_icmp .ge 46, 3) := by decide +kernel
theorem dX7_parts_30 : decode cX7_parts 30 = .ok (.aload_n 0, 1) := by decide +kernel
theorem dX7_parts_31 : decode cX7_parts 31 = .ok (.getfield 54, 3) := by decide +kernel
theorem dX7_parts_34 : decode cX7_parts 34 = .ok (.iload 4, 2) := by decide +kernel
theorem dX7_parts_36 : decode cX7_parts 36 = .ok (.iaload, 1) := by decide +kernel
theorem dX7_parts_37 : decode cX7_parts 37 = .ok (.bipush 10, 2) := by decide +kernel
theorem dX7_parts_39 : decode cX7_parts 39 = .ok (.irem, 1) := by decide +kernel
theorem dX7_parts_40 : decode cX7_parts 40 = .ok (.aload_n 0, 1) := by decide +kernel
theorem dX7_parts_41 : decode cX7_parts 41 = .ok (.getfield 54, 3) := by decide +kernel
theorem dX7_parts_44 : decode cX7_parts 44 = .ok (.iload_n 3, 1) := by decide +kernel
theorem dX7_parts_45 : decode cX7_parts 45 = .ok (.iaload, 1) := by decide +kernel
theorem dX7_parts_46 : decode cX7_parts 46 = .ok (.bipush 10, 2) := by decide +kernel
theorem dX7_parts_48 : decode cX7_parts 48 = .ok (.irem, 1) := by decide +kernel
theorem dX7_parts_49 : decode cX7_parts 49 = .ok (.if_icmp .lt 18, 3) := by decide +kernel
theorem dX7_parts_52 : decode cX7_parts 52 = .ok (.aload_n 2, 1) := by decide +kernel
theorem dX7_parts_53 : decode cX7_parts 53 = .ok (.iload_n 3, 1) := by decide +kernel
theorem dX7_parts_54 : decode cX7_parts 54 = .ok (.aload_n 2, 1) := by decide +kernel
theorem dX7_parts_55 : decode cX7_parts 55 = .ok (.iload_n 3, 1) := by decide +kernel
theorem dX7_parts_56 : decode cX7_parts 56 = .ok (.iaload, 1) := by decide +kernel
theorem dX7_parts_57 : decode cX7_parts 57 = .ok (.aload_n 2, 1) := by decide +kernel
theorem dX7_parts_58 : decode cX7_parts 58 = .ok (.iload 4, 2) := by decide +kernel
theorem dX7_parts_60 : decode cX7_parts 60 = .ok (.iaload, 1) := by decide +kernel
theorem dX7_parts_61 : decode cX7_parts 61 = .ok (.iconst 1, 1) := by decide +kernel
theorem dX7_parts_62 : decode cX7_parts 62 = .ok (.iadd, 1) := by decide +kernel
theorem dX7_parts_63 : decode cX7_parts 63 = .ok (.invokestatic 172, 3) := by decide +kernel
theorem dX7_parts_66 : decode cX7_parts 66 = .ok (.iastore, 1) := by decide +kernel
theorem dX7_parts_67 : decode cX7_parts 67 = .ok (.iinc 4 1, 3) := by decide +kernel
theorem dX7_parts_70 : decode cX7_parts 70 = .ok (.goto (-46), 3) := by decide +kernel
theorem dX7_parts_73 : decode cX7_parts 73 = .ok (.iload_n 1, 1) := by decide +kernel
theorem dX7_parts_74 : decode cX7_parts 74 = .ok (.aload_n 2, 1) := by decide +kernel
theorem dX7_parts_75 : decode cX7_parts 75 = .ok (.iload_n 3, 1) := by decide +kernel
theorem dX7_parts_76 : decode cX7_parts 76 = .ok (.iaload, 1) := by decide +kernel
theorem dX7_parts_77 : decode cX7_parts 77 = .ok (.invokestatic 172, 3) := by decide +kernel
theorem dX7_parts_80 : decode cX7_parts 80 = .ok (.istore_n 1, 1) := by decide +kernel
theorem dX7_parts_81 : decode cX7_parts 81 = .ok (.iinc 3 1, 3) := by decide +kernel
theorem dX7_parts_84 : decode cX7_parts 84 = .ok (.goto (-75), 3) := by decide +kernel
theorem dX7_parts_87 : decode cX7_parts 87 = .ok (.iload_n 1, 1) := by decide +kernel
theorem dX7_parts_88 : decode cX7_parts 88 = .ok (.ireturn, 1) := by decide +kernel
theorem dX7_lacks_0 : decode cX7_lacks 0 = .ok (.aload_n 0, 1) := by decide +kernel
theorem dX7_lacks_1 : decode cX7_lacks 1 = .ok (.iload_n 1, 1) := by decide +kernel
theorem dX7_lacks_2 : decode cX7_lacks 2 = .ok (.invokevirtual 138, 3) := by decide +kernel
theorem dX7_lacks_5 : decode cX7_lacks 5 = .ok (.ifCond .eq 9, 3) := by decide +kernel
theorem dX7_lacks_8 : decode cX7_lacks 8 = .ok (.aload_n 0, 1) := by decide +kernel
theorem dX7_lacks_9 : decode cX7_lacks 9 = .ok (.iconst (-1), 1) := by decide +kernel
theorem dX7_lacks_10 : decode cX7_lacks 10 = .ok (.invokevirtual 64, 3) := by decide +kernel
theorem dX7_lacks_13 : decode cX7_lacks 13 = .ok (.ireturn, 1) := by decide +kernel
theorem dX7_lacks_14 : decode cX7_lacks 14 = .ok (.iconst 2, 1) := by decide +kernel
theorem dX7_lacks_15 : decode cX7_lacks 15 = .ok (.aload_n 0, 1) := by decide +kernel
theorem dX7_lacks_16 : decode cX7_lacks 16 = .ok (.getfield 13, 3) := by decide +kernel
theorem dX7_lacks_19 : decode cX7_lacks 19 = .ok (.bipush 20, 2) := by decide +kernel
theorem dX7_lacks_21 : decode cX7_lacks 21 = .ok (.iload_n 1, 1) := by decide +kernel
theorem dX7_lacks_22 : decode cX7_lacks 22 = .ok (.iadd, 1) := by decide +kernel
theorem dX7_lacks_23 : decode cX7_lacks 23 = .ok (.iaload, 1) := by decide +kernel
theorem dX7_lacks_24 : decode cX7_lacks 24 = .ok (.ishl, 1) := by decide +kernel
theorem dX7_lacks_25 : decode cX7_lacks 25 = .ok (.iconst 2, 1) := by decide +kernel
theorem dX7_lacks_26 : decode cX7_lacks 26 = .ok (.isub, 1) := by decide +kernel
theorem dX7_lacks_27 : decode cX7_lacks 27 = .ok (.istore_n 2, 1) := by decide +kernel
theorem dX7_lacks_28 : decode cX7_lacks 28 = .ok (.iconst 0, 1) := by decide +kernel
theorem dX7_lacks_29 : decode cX7_lacks 29 = .ok (.istore_n 3, 1) := by decide +kernel
theorem dX7_lacks_30 : decode cX7_lacks 30 = .ok (.iload_n 3, 1) := by decide +kernel
theorem dX7_lacks_31 : decode cX7_lacks 31 = .ok (.aload_n 0, 1) := by decide +kernel
theorem dX7_lacks_32 : decode cX7_lacks 32 = .ok (.getfield 166, 3) := by decide +kernel
theorem dX7_lacks_35 : decode cX7_lacks 35 = .ok (.if_icmp .ge 38, 3) := by decide +kernel
theorem dX7_lacks_38 : decode cX7_lacks 38 = .ok (.aload_n 0, 1) := by decide +kernel
theorem dX7_lacks_39 : decode cX7_lacks 39 = .ok (.getfield 54, 3) := by decide +kernel
theorem dX7_lacks_42 : decode cX7_lacks 42 = .ok (.iload_n 3, 1) := by decide +kernel
theorem dX7_lacks_43 : decode cX7_lacks 43 = .ok (.iaload, 1) := by decide +kernel
theorem dX7_lacks_44 : decode cX7_lacks 44 = .ok (.bipush 10, 2) := by decide +kernel
theorem dX7_lacks_46 : decode cX7_lacks 46 = .ok (.idiv, 1) := by decide +kernel
theorem dX7_lacks_47 : decode cX7_lacks 47 = .ok (.iload_n 1, 1) := by decide +kernel
theorem dX7_lacks_48 : decode cX7_lacks 48 = .ok (.if_icmp .ne 19, 3) := by decide +kernel
theorem dX7_lacks_51 : decode cX7_lacks 51 = .ok (.iload_n 2, 1) := by decide +kernel
theorem dX7_lacks_52 : decode cX7_lacks 52 = .ok (.iconst 1, 1) := by decide +kernel
theorem dX7_lacks_53 : decode cX7_lacks 53 = .ok (.aload_n 0, 1) := by decide +kernel
theorem dX7_lacks_54 : decode cX7_lacks 54 = .ok (.getfield 54, 3) := by decide +kernel
theorem dX7_lacks_57 : decode cX7_lacks 57 = .ok (.iload_n 3, 1) := by decide +kernel
theorem dX7_lacks_58 : decode cX7_lacks 58 = .ok (.iaload, 1) := by decide +kernel
theorem dX7_lacks_59 : decode cX7_lacks 59 = .ok (.bipush 10, 2) := by decide +kernel
theorem dX7_lacks_61 : decode cX7_lacks 61 = .ok (.irem, 1) := by decide +kernel
theorem dX7_lacks_62 : decode cX7_lacks 62 = .ok (.ishl, 1) := by decide +kernel
theorem dX7_lacks_63 : decode cX7_lacks 63 = .ok (.iconst (-1), 1) := by decide +kernel
theorem dX7_lacks_64 : decode cX7_lacks 64 = .ok (.ixor, 1) := by decide +kernel
theorem dX7_lacks_65 : decode cX7_lacks 65 = .ok (.iand, 1) := by decide +kernel
theorem dX7_lacks_66 : decode cX7_lacks 66 = .ok (.istore_n 2, 1) := by decide +kernel
theorem dX7_lacks_67 : decode cX7_lacks 67 = .ok (.iinc 3 1, 3) := by decide +kernel
theorem dX7_lacks_70 : decode cX7_lacks 70 = .ok (.goto (-40), 3) := by decide +kernel
theorem dX7_lacks_73 : decode cX7_lacks 73 = .ok (.iload_n 2, 1) := by decide +kernel
theorem dX7_lacks_74 : decode cX7_lacks 74 = .ok (.ireturn, 1) := by decide +kernel
theorem dX7_firstPlace_0 : decode cX7_firstPlace 0 = .ok (.iconst 0, 1) := by decide +kernel
theorem dX7_firstPlace_1 : decode cX7_firstPlace 1 = .ok (.istore_n 2, 1) := by decide +kernel
theorem dX7_firstPlace_2 : decode cX7_firstPlace 2 = .ok (.iload_n 2, 1) := by decide +kernel
theorem dX7_firstPlace_3 : decode cX7_firstPlace 3 = .ok (.aload_n 0, 1) := by decide +kernel
theorem dX7_firstPlace_4 : decode cX7_firstPlace 4 = .ok (.getfield 166, 3) := by decide +kernel
theorem dX7_firstPlace_7 : decode cX7_firstPlace 7 = .ok (.if_icmp .ge 21, 3) := by decide +kernel
theorem dX7_firstPlace_10 : decode cX7_firstPlace 10 = .ok (.aload_n 0, 1) := by decide +kernel
theorem dX7_firstPlace_11 : decode cX7_firstPlace 11 = .ok (.getfield 54, 3) := by decide +kernel
theorem dX7_firstPlace_14 : decode cX7_firstPlace 14 = .ok (.iload_n 2, 1) := by decide +kernel
theorem dX7_firstPlace_15 : decode cX7_firstPlace 15 = .ok (.iaload, 1) := by decide +kernel
theorem dX7_firstPlace_16 : decode cX7_firstPlace 16 = .ok (.iload_n 1, 1) := by decide +kernel
theorem dX7_firstPlace_17 : decode cX7_firstPlace 17 = .ok (.if_icmp .ne 5, 3) := by decide +kernel
theorem dX7_firstPlace_20 : decode cX7_firstPlace 20 = .ok (.iload_n 2, 1) := by decide +kernel
theorem dX7_firstPlace_21 : decode cX7_firstPlace 21 = .ok (.ireturn, 1) := by decide +kernel
theorem dX7_firstPlace_22 : decode cX7_firstPlace 22 = .ok (.iinc 2 1, 3) := by decide +kernel
theorem dX7_firstPlace_25 : decode cX7_firstPlace 25 = .ok (.goto (-23), 3) := by decide +kernel
theorem dX7_firstPlace_28 : decode cX7_firstPlace 28 = .ok (.bipush (-9), 2) := by decide +kernel
theorem dX7_firstPlace_30 : decode cX7_firstPlace 30 = .ok (.ireturn, 1) := by decide +kernel
theorem dX7_laps_0 : decode cX7_laps 0 = .ok (.iload_n 1, 1) := by decide +kernel
theorem dX7_laps_1 : decode cX7_laps 1 = .ok (.iconst 2, 1) := by decide +kernel
theorem dX7_laps_2 : decode cX7_laps 2 = .ok (.if_icmp .ge 10, 3) := by decide +kernel
theorem dX7_laps_5 : decode cX7_laps 5 = .ok (.aload_n 0, 1) := by decide +kernel
theorem dX7_laps_6 : decode cX7_laps 6 = .ok (.bipush (-4), 2) := by decide +kernel
theorem dX7_laps_8 : decode cX7_laps 8 = .ok (.invokevirtual 64, 3) := by decide +kernel
theorem dX7_laps_11 : decode cX7_laps 11 = .ok (.ireturn, 1) := by decide +kernel
theorem dX7_laps_12 : decode cX7_laps 12 = .ok (.iload_n 1, 1) := by decide +kernel
theorem dX7_laps_13 : decode cX7_laps 13 = .ok (.bipush 9, 2) := by decide +kernel
theorem dX7_laps_15 : decode cX7_laps 15 = .ok (.if_icmp .le 10, 3) := by decide +kernel
theorem dX7_laps_18 : decode cX7_laps 18 = .ok (.aload_n 0, 1) := by decide +kernel
theorem dX7_laps_19 : decode cX7_laps 19 = .ok (.bipush (-6), 2) := by decide +kernel
theorem dX7_laps_21 : decode cX7_laps 21 = .ok (.invokevirtual 64, 3) := by decide +kernel
theorem dX7_laps_24 : decode cX7_laps 24 = .ok (.ireturn, 1) := by decide +kernel
theorem dX7_laps_25 : decode cX7_laps 25 = .ok (.iconst 0, 1) := by decide +kernel
theorem dX7_laps_26 : decode cX7_laps 26 = .ok (.istore_n 2, 1) := by decide +kernel
theorem dX7_laps_27 : decode cX7_laps 27 = .ok (.bipush 100, 2) := by decide +kernel
theorem dX7_laps_29 : decode cX7_laps 29 = .ok (.istore_n 3, 1) := by decide +kernel
theorem dX7_laps_30 : decode cX7_laps 30 = .ok (.iconst 0, 1) := by decide +kernel
theorem dX7_laps_31 : decode cX7_laps 31 = .ok (.istore 4, 2) := by decide +kernel
theorem dX7_laps_33 : decode cX7_laps 33 = .ok (.iload 4, 2) := by decide +kernel
theorem dX7_laps_35 : decode cX7_laps 35 = .ok (.bipush 100, 2) := by decide +kernel
theorem dX7_laps_37 : decode cX7_laps 37 = .ok (.if_icmp .ge 41, 3) := by decide +kernel
theorem dX7_laps_40 : decode cX7_laps 40 = .ok (.aload_n 0, 1) := by decide +kernel
theorem dX7_laps_41 : decode cX7_laps 41 = .ok (.iload 4, 2) := by decide +kernel
theorem dX7_laps_43 : decode cX7_laps 43 = .ok (.invokevirtual 178, 3) := by decide +kernel
theorem dX7_laps_46 : decode cX7_laps 46 = .ok (.istore 5, 2) := by decide +kernel
theorem dX7_laps_48 : decode cX7_laps 48 = .ok (.iload 5, 2) := by decide +kernel
theorem dX7_laps_50 : decode cX7_laps 50 = .ok (.bipush (-9), 2) := by decide +kernel
theorem dX7_laps_52 : decode cX7_laps 52 = .ok (.if_icmp .eq 20, 3) := by decide +kernel
theorem dX7_laps_55 : decode cX7_laps 55 = .ok (.iload_n 2, 1) := by decide +kernel
theorem dX7_laps_56 : decode cX7_laps 56 = .ok (.iload 5, 2) := by decide +kernel
theorem dX7_laps_58 : decode cX7_laps 58 = .ok (.iload_n 3, 1) := by decide +kernel
theorem dX7_laps_59 : decode cX7_laps 59 = .ok (.if_icmp .ge 7, 3) := by decide +kernel
theorem dX7_laps_62 : decode cX7_laps 62 = .ok (.iconst 1, 1) := by decide +kernel
theorem dX7_laps_63 : decode cX7_laps 63 = .ok (.goto 4, 3) := by decide +kernel
theorem dX7_laps_66 : decode cX7_laps 66 = .ok (.iconst 0, 1) := by decide +kernel
theorem dX7_laps_67 : decode cX7_laps 67 = .ok (.iadd, 1) := by decide +kernel
theorem dX7_laps_68 : decode cX7_laps 68 = .ok (.istore_n 2, 1) := by decide +kernel
theorem dX7_laps_69 : decode cX7_laps 69 = .ok (.iload 5, 2) := by decide +kernel
theorem dX7_laps_71 : decode cX7_laps 71 = .ok (.istore_n 3, 1) := by decide +kernel
theorem dX7_laps_72 : decode cX7_laps 72 = .ok (.iinc 4 1, 3) := by decide +kernel
theorem dX7_laps_75 : decode cX7_laps 75 = .ok (.goto (-42), 3) := by decide +kernel
theorem dX7_laps_78 : decode cX7_laps 78 = .ok (.iconst 0, 1) := by decide +kernel
theorem dX7_laps_79 : decode cX7_laps 79 = .ok (.istore 4, 2) := by decide +kernel
theorem dX7_laps_81 : decode cX7_laps 81 = .ok (.iconst 1, 1) := by decide +kernel
theorem dX7_laps_82 : decode cX7_laps 82 = .ok (.istore 5, 2) := by decide +kernel
theorem dX7_laps_84 : decode cX7_laps 84 = .ok (.iload 5, 2) := by decide +kernel
theorem dX7_laps_86 : decode cX7_laps 86 = .ok (.iload_n 2, 1) := by decide +kernel
theorem dX7_laps_87 : decode cX7_laps 87 = .ok (.if_icmp .ge 15, 3) := by decide +kernel
theorem dX7_laps_90 : decode cX7_laps 90 = .ok (.iload 5, 2) := by decide +kernel
theorem dX7_laps_92 : decode cX7_laps 92 = .ok (.iload_n 1, 1) := by decide +kernel
theorem dX7_laps_93 : decode cX7_laps 93 = .ok (.imul, 1) := by decide +kernel
theorem dX7_laps_94 : decode cX7_laps 94 = .ok (.istore 5, 2) := by decide +kernel
theorem dX7_laps_96 : decode cX7_laps 96 = .ok (.iinc 4 1, 3) := by decide +kernel
theorem dX7_laps_99 : decode cX7_laps 99 = .ok (.goto (-15), 3) := by decide +kernel
theorem dX7_laps_102 : decode cX7_laps 102 = .ok (.iload 4, 2) := by decide +kernel
theorem dX7_laps_104 : decode cX7_laps 104 = .ok (.ireturn, 1) := by decide +kernel
theorem dX7_waits__0 : decode cX7_waits_ 0 = .ok (.aload_n 0, 1) := by decide +kernel
theorem dX7_waits__1 : decode cX7_waits_ 1 = .ok (.iload_n 1, 1) := by decide +kernel
theorem dX7_waits__2 : decode cX7_waits_ 2 = .ok (.invokevirtual 150, 3) := by decide +kernel
theorem dX7_waits__5 : decode cX7_waits_ 5 = .ok (.ifCond .eq 9, 3) := by decide +kernel
theorem dX7_waits__8 : decode cX7_waits_ 8 = .ok (.aload_n 0, 1) := by decide +kernel
theorem dX7_waits__9 : decode cX7_waits_ 9 = .ok (.iconst (-1), 1) := by decide +kernel
theorem dX7_waits__10 : decode cX7_waits_ 10 = .ok (.invokevirtual 64, 3) := by decide +kernel
theorem dX7_waits__13 : decode cX7_waits_ 13 = .ok (.ireturn, 1) := by decide +kernel
theorem dX7_waits__14 : decode cX7_waits_ 14 = .ok (.iload_n 2, 1) := by decide +kernel
theorem dX7_waits__15 : decode cX7_waits_ 15 = .ok (.ifCond .lt 7, 3) := by decide +kernel
theorem dX7_waits__18 : decode cX7_waits_ 18 = .ok (.iload_n 3, 1) := by decide +kernel
theorem dX7_waits__19 : decode cX7_waits_ 19 = .ok (.ifCond .ge 10, 3) := by decide +kernel
theorem dX7_waits__22 : decode cX7_waits_ 22 = .ok (.aload_n 0, 1) := by decide +kernel
theorem dX7_waits__23 : decode cX7_waits_ 23 = .ok (.bipush (-4), 2) := by decide +kernel
theorem dX7_waits__25 : decode cX7_waits_ 25 = .ok (.invokevirtual 64, 3) := by decide +kernel
theorem dX7_waits__28 : decode cX7_waits_ 28 = .ok (.ireturn, 1) := by decide +kernel
theorem dX7_waits__29 : decode cX7_waits_ 29 = .ok (.iload_n 2, 1) := by decide +kernel
theorem dX7_waits__30 : decode cX7_waits_ 30 = .ok (.bipush 99, 2) := by decide +kernel
theorem dX7_waits__32 : decode cX7_waits_ 32 = .ok (.if_icmp .gt 9, 3) := by decide +kernel
theorem dX7_waits__35 : decode cX7_waits_ 35 = .ok (.iload_n 3, 1) := by decide +kernel
theorem dX7_waits__36 : decode cX7_waits_ 36 = .ok (.bipush 30, 2) := by decide +kernel
theorem dX7_waits__38 : decode cX7_waits_ 38 = .ok (.if_icmp .le 10, 3) := by decide +kernel
theorem dX7_waits__41 : decode cX7_waits_ 41 = .ok (.aload_n 0, 1) := by decide +kernel
theorem dX7_waits__42 : decode cX7_waits_ 42 = .ok (.bipush (-6), 2) := by decide +kernel
theorem dX7_waits__44 : decode cX7_waits_ 44 = .ok (.invokevirtual 64, 3) := by decide +kernel
theorem dX7_waits__47 : decode cX7_waits_ 47 = .ok (.ireturn, 1) := by decide +kernel
theorem dX7_waits__48 : decode cX7_waits_ 48 = .ok (.aload_n 0, 1) := by decide +kernel
theorem dX7_waits__49 : decode cX7_waits_ 49 = .ok (.iload_n 1, 1) := by decide +kernel
theorem dX7_waits__50 : decode cX7_waits_ 50 = .ok (.invokevirtual 157, 3) := by decide +kernel
theorem dX7_waits__53 : decode cX7_waits_ 53 = .ok (.istore 4, 2) := by decide +kernel
theorem dX7_waits__55 : decode cX7_waits_ 55 = .ok (.iload 4, 2) := by decide +kernel
theorem dX7_waits__57 : decode cX7_waits_ 57 = .ok (.bipush (-9), 2) := by decide +kernel
theorem dX7_waits__59 : decode cX7_waits_ 59 = .ok (.if_icmp .ne 8, 3) := by decide +kernel
theorem dX7_waits__62 : decode cX7_waits_ 62 = .ok (.bipush (-9), 2) := by decide +kernel
theorem dX7_waits__64 : decode cX7_waits_ 64 = .ok (.goto 13, 3) := by decide +kernel
theorem dX7_waits__67 : decode cX7_waits_ 67 = .ok (.iconst 0, 1) := by decide +kernel
theorem dX7_waits__68 : decode cX7_waits_ 68 = .ok (.iload 4, 2) := by decide +kernel
theorem dX7_waits__70 : decode cX7_waits_ 70 = .ok (.iload_n 2, 1) := by decide +kernel
theorem dX7_waits__71 : decode cX7_waits_ 71 = .ok (.isub, 1) := by decide +kernel
theorem dX7_waits__72 : decode cX7_waits_ 72 = .ok (.iload_n 3, 1) := by decide +kernel
theorem dX7_waits__73 : decode cX7_waits_ 73 = .ok (.isub, 1) := by decide +kernel
theorem dX7_waits__74 : decode cX7_waits_ 74 = .ok (.invokestatic 172, 3) := by decide +kernel
theorem dX7_waits__77 : decode cX7_waits_ 77 = .ok (.ireturn, 1) := by decide +kernel
theorem dX7_vain_0 : decode cX7_vain 0 = .ok (.aload_n 0, 1) := by decide +kernel
theorem dX7_vain_1 : decode cX7_vain 1 = .ok (.iload_n 1, 1) := by decide +kernel
theorem dX7_vain_2 : decode cX7_vain 2 = .ok (.invokevirtual 150, 3) := by decide +kernel
theorem dX7_vain_5 : decode cX7_vain 5 = .ok (.ifCond .eq 9, 3) := by decide +kernel
theorem dX7_vain_8 : decode cX7_vain 8 = .ok (.aload_n 0, 1) := by decide +kernel
theorem dX7_vain_9 : decode cX7_vain 9 = .ok (.iconst (-1), 1) := by decide +kernel
theorem dX7_vain_10 : decode cX7_vain 10 = .ok (.invokevirtual 64, 3) := by decide +kernel
theorem dX7_vain_13 : decode cX7_vain 13 = .ok (.ireturn, 1) := by decide +kernel
theorem dX7_vain_14 : decode cX7_vain 14 = .ok (.iload_n 2, 1) := by decide +kernel
theorem dX7_vain_15 : decode cX7_vain 15 = .ok (.ifCond .lt 8, 3) := by decide +kernel
theorem dX7_vain_18 : decode cX7_vain 18 = .ok (.iload_n 3, 1) := by decide +kernel
theorem dX7_vain_19 : decode cX7_vain 19 = .ok (.iconst 1, 1) := by decide +kernel
theorem dX7_vain_20 : decode cX7_vain 20 = .ok (.if_icmp .ge 10, 3) := by decide +kernel
theorem dX7_vain_23 : decode cX7_vain 23 = .ok (.aload_n 0, 1) := by decide +kernel
theorem dX7_vain_24 : decode cX7_vain 24 = .ok (.bipush (-4), 2) := by decide +kernel
theorem dX7_vain_26 : decode cX7_vain 26 = .ok (.invokevirtual 64, 3) := by decide +kernel
theorem dX7_vain_29 : decode cX7_vain 29 = .ok (.ireturn, 1) := by decide +kernel
theorem dX7_vain_30 : decode cX7_vain 30 = .ok (.iload_n 2, 1) := by decide +kernel
theorem dX7_vain_31 : decode cX7_vain 31 = .ok (.bipush 99, 2) := by decide +kernel
theorem dX7_vain_33 : decode cX7_vain 33 = .ok (.if_icmp .gt 9, 3) := by decide +kernel
theorem dX7_vain_36 : decode cX7_vain 36 = .ok (.iload_n 3, 1) := by decide +kernel
theorem dX7_vain_37 : decode cX7_vain 37 = .ok (.bipush 30, 2) := by decide +kernel
theorem dX7_vain_39 : decode cX7_vain 39 = .ok (.if_icmp .le 10, 3) := by decide +kernel
theorem dX7_vain_42 : decode cX7_vain 42 = .ok (.aload_n 0, 1) := by decide +kernel
theorem dX7_vain_43 : decode cX7_vain 43 = .ok (.bipush (-6), 2) := by decide +kernel
theorem dX7_vain_45 : decode cX7_vain 45 = .ok (.invokevirtual 64, 3) := by decide +kernel
theorem dX7_vain_48 : decode cX7_vain 48 = .ok (.ireturn, 1) := by decide +kernel
theorem dX7_vain_49 : decode cX7_vain 49 = .ok (.aload_n 0, 1) := by decide +kernel
theorem dX7_vain_50 : decode cX7_vain 50 = .ok (.iload_n 1, 1) := by decide +kernel
theorem dX7_vain_51 : decode cX7_vain 51 = .ok (.invokevirtual 157, 3) := by decide +kernel
theorem dX7_vain_54 : decode cX7_vain 54 = .ok (.istore 4, 2) := by decide +kernel
theorem dX7_vain_56 : decode cX7_vain 56 = .ok (.iload 4, 2) := by decide +kernel
theorem dX7_vain_58 : decode cX7_vain 58 = .ok (.bipush (-9), 2) := by decide +kernel
theorem dX7_vain_60 : decode cX7_vain 60 = .ok (.if_icmp .ne 6, 3) := by decide +kernel
theorem dX7_vain_63 : decode cX7_vain 63 = .ok (.bipush (-9), 2) := by decide +kernel
theorem dX7_vain_65 : decode cX7_vain 65 = .ok (.ireturn, 1) := by decide +kernel
theorem dX7_vain_66 : decode cX7_vain 66 = .ok (.iconst 0, 1) := by decide +kernel
theorem dX7_vain_67 : decode cX7_vain 67 = .ok (.istore 5, 2) := by decide +kernel
theorem dX7_vain_69 : decode cX7_vain 69 = .ok (.iload_n 2, 1) := by decide +kernel
theorem dX7_vain_70 : decode cX7_vain 70 = .ok (.istore 6, 2) := by decide +kernel
theorem dX7_vain_72 : decode cX7_vain 72 = .ok (.iload 6, 2) := by decide +kernel
theorem dX7_vain_74 : decode cX7_vain 74 = .ok (.iload 4, 2) := by decide +kernel
theorem dX7_vain_76 : decode cX7_vain 76 = .ok (.if_icmp .ge 15, 3) := by decide +kernel
theorem dX7_vain_79 : decode cX7_vain 79 = .ok (.iinc 5 1, 3) := by decide +kernel
theorem dX7_vain_82 : decode cX7_vain 82 = .ok (.iload 6, 2) := by decide +kernel
theorem dX7_vain_84 : decode cX7_vain 84 = .ok (.iload_n 3, 1) := by decide +kernel
theorem dX7_vain_85 : decode cX7_vain 85 = .ok (.iadd, 1) := by decide +kernel
theorem dX7_vain_86 : decode cX7_vain 86 = .ok (.istore 6, 2) := by decide +kernel
theorem dX7_vain_88 : decode cX7_vain 88 = .ok (.goto (-16), 3) := by decide +kernel
theorem dX7_vain_91 : decode cX7_vain 91 = .ok (.iload 5, 2) := by decide +kernel
theorem dX7_vain_93 : decode cX7_vain 93 = .ok (.ireturn, 1) := by decide +kernel
theorem dX7_seen_0 : decode cX7_seen 0 = .ok (.iload_n 1, 1) := by decide +kernel
theorem dX7_seen_1 : decode cX7_seen 1 = .ok (.ifCond .lt 8, 3) := by decide +kernel
theorem dX7_seen_4 : decode cX7_seen 4 = .ok (.iload_n 1, 1) := by decide +kernel
theorem dX7_seen_5 : decode cX7_seen 5 = .ok (.iconst 1, 1) := by decide +kernel
theorem dX7_seen_6 : decode cX7_seen 6 = .ok (.if_icmp .le 10, 3) := by decide +kernel
theorem dX7_seen_9 : decode cX7_seen 9 = .ok (.aload_n 0, 1) := by decide +kernel
theorem dX7_seen_10 : decode cX7_seen 10 = .ok (.bipush (-2), 2) := by decide +kernel
theorem dX7_seen_12 : decode cX7_seen 12 = .ok (.invokevirtual 64, 3) := by decide +kernel
theorem dX7_seen_15 : decode cX7_seen 15 = .ok (.ireturn, 1) := by decide +kernel
theorem dX7_seen_16 : decode cX7_seen 16 = .ok (.iconst 0, 1) := by decide +kernel
theorem dX7_seen_17 : decode cX7_seen 17 = .ok (.istore_n 2, 1) := by decide +kernel
theorem dX7_seen_18 : decode cX7_seen 18 = .ok (.bipush (-9), 2) := by decide +kernel
theorem dX7_seen_20 : decode cX7_seen 20 = .ok (.istore_n 3, 1) := by decide +kernel
theorem dX7_seen_21 : decode cX7_seen 21 = .ok (.bipush 99, 2) := by decide +kernel
theorem dX7_seen_23 : decode cX7_seen 23 = .ok (.istore 4, 2) := by decide +kernel
theorem dX7_seen_25 : decode cX7_seen 25 = .ok (.iload 4, 2) := by decide +kernel
theorem dX7_seen_27 : decode cX7_seen 27 = .ok (.ifCond .lt 112, 3) := by decide +kernel
theorem dX7_seen_30 : decode cX7_seen 30 = .ok (.aload_n 0, 1) := by decide +kernel
theorem dX7_seen_31 : decode cX7_seen 31 = .ok (.iload 4, 2) := by decide +kernel
theorem dX7_seen_33 : decode cX7_seen 33 = .ok (.invokevirtual 147, 3) := by decide +kernel
theorem dX7_seen_36 : decode cX7_seen 36 = .ok (.aload_n 0, 1) := by decide +kernel
theorem dX7_seen_37 : decode cX7_seen 37 = .ok (.getfield 116, 3) := by decide +kernel
theorem dX7_seen_40 : decode cX7_seen 40 = .ok (.aload_n 0, 1) := by decide +kernel
theorem dX7_seen_41 : decode cX7_seen 41 = .ok (.getfield 166, 3) := by decide +kernel
theorem dX7_seen_44 : decode cX7_seen 44 = .ok (.if_icmp .ne 7, 3) := by decide +kernel
theorem dX7_seen_47 : decode cX7_seen 47 = .ok (.iconst 1, 1) := by decide +kernel
theorem dX7_seen_48 : decode cX7_seen 48 = .ok (.goto 4, 3) := by decide +kernel
theorem dX7_seen_51 : decode cX7_seen 51 = .ok (.iconst 0, 1) := by decide +kernel
theorem dX7_seen_52 : decode cX7_seen 52 = .ok (.istore 5, 2) := by decide +kernel
theorem dX7_seen_54 : decode cX7_seen 54 = .ok (.iconst 0, 1) := by decide +kernel
theorem dX7_seen_55 : decode cX7_seen 55 = .ok (.istore 6, 2) := by decide +kernel
theorem dX7_seen_57 : decode cX7_seen 57 = .ok (.iload 6, 2) := by decide +kernel
theorem dX7_seen_59 : decode cX7_seen 59 = .ok (.aload_n 0, 1) := by decide +kernel
theorem dX7_seen_60 : decode cX7_seen 60 = .ok (.getfield 166, 3) := by decide +kernel
theorem dX7_seen_63 : decode cX7_seen 63 = .ok (.if_icmp .ge 45, 3) := by decide +kernel
theorem dX7_seen_66 : decode cX7_seen 66 = .ok (.iload 5, 2) := by decide +kernel
theorem dX7_seen_68 : decode cX7_seen 68 = .ok (.ifCond .eq 40, 3) := by decide +kernel
theorem dX7_seen_71 : decode cX7_seen 71 = .ok (.aload_n 0, 1) := by decide +kernel
theorem dX7_seen_72 : decode cX7_seen 72 = .ok (.getfield 44, 3) := by decide +kernel
theorem dX7_seen_75 : decode cX7_seen 75 = .ok (.aload_n 0, 1) := by decide +kernel
theorem dX7_seen_76 : decode cX7_seen 76 = .ok (.getfield 116, 3) := by decide +kernel
theorem dX7_seen_79 : decode cX7_seen 79 = .ok (.iconst 1, 1) := by decide +kernel
theorem dX7_seen_80 : decode cX7_seen 80 = .ok (.isub, 1) := by decide +kernel
theorem dX7_seen_81 : decode cX7_seen 81 = .ok (.iload 6, 2) := by decide +kernel
theorem dX7_seen_83 : decode cX7_seen 83 = .ok (.isub, 1) := by decide +kernel
theorem dX7_seen_84 : decode cX7_seen 84 = .ok (.iaload, 1) := by decide +kernel
theorem dX7_seen_85 : decode cX7_seen 85 = .ok (.aload_n 0, 1) := by decide +kernel
theorem dX7_seen_86 : decode cX7_seen 86 = .ok (.getfield 54, 3) := by decide +kernel
theorem dX7_seen_89 : decode cX7_seen 89 = .ok (.iload 6, 2) := by decide +kernel
theorem dX7_seen_91 : decode cX7_seen 91 = .ok (.iaload, 1) := by decide +kernel
theorem dX7_seen_92 : decode cX7_seen 92 = .ok (.if_icmp .ne 7, 3) := by decide +kernel
theorem dX7_seen_95 : decode cX7_seen 95 = .ok (.iconst 1, 1) := by decide +kernel
theorem dX7_seen_96 : decode cX7_seen 96 = .ok (.goto 4, 3) := by decide +kernel
theorem dX7_seen_99 : decode cX7_seen 99 = .ok (.iconst 0, 1) := by decide +kernel
theorem dX7_seen_100 : decode cX7_seen 100 = .ok (.istore 5, 2) := by decide +kernel
theorem dX7_seen_102 : decode cX7_seen 102 = .ok (.iinc 6 1, 3) := by decide +kernel
theorem dX7_seen_105 : decode cX7_seen 105 = .ok (.goto (-48), 3) := by decide +kernel
theorem dX7_seen_108 : decode cX7_seen 108 = .ok (.iload_n 2, 1) := by decide +kernel
theorem dX7_seen_109 : decode cX7_seen 109 = .ok (.iload 5, 2) := by decide +kernel
theorem dX7_seen_111 : decode cX7_seen 111 = .ok (.ifCond .eq 7, 3) := by decide +kernel
theorem dX7_seen_114 : decode cX7_seen 114 = .ok (.iconst 1, 1) := by decide +kernel
theorem dX7_seen_115 : decode cX7_seen 115 = .ok (.goto 4, 3) := by decide +kernel
theorem dX7_seen_118 : decode cX7_seen 118 = .ok (.iconst 0, 1) := by decide +kernel
theorem dX7_seen_119 : decode cX7_seen 119 = .ok (.iadd, 1) := by decide +kernel
theorem dX7_seen_120 : decode cX7_seen 120 = .ok (.istore_n 2, 1) := by decide +kernel
theorem dX7_seen_121 : decode cX7_seen 121 = .ok (.iload 5, 2) := by decide +kernel
theorem dX7_seen_123 : decode cX7_seen 123 = .ok (.ifCond .eq 8, 3) := by decide +kernel
theorem dX7_seen_126 : decode cX7_seen 126 = .ok (.iload 4, 2) := by decide +kernel
theorem dX7_seen_128 : decode cX7_seen 128 = .ok (.goto 4, 3) := by decide +kernel
theorem dX7_seen_131 : decode cX7_seen 131 = .ok (.iload_n 3, 1) := by decide +kernel
theorem dX7_seen_132 : decode cX7_seen 132 = .ok (.istore_n 3, 1) := by decide +kernel
theorem dX7_seen_133 : decode cX7_seen 133 = .ok (.iinc 4 (-1), 3) := by decide +kernel
theorem dX7_seen_136 : decode cX7_seen 136 = .ok (.goto (-111), 3) := by decide +kernel
theorem dX7_seen_139 : decode cX7_seen 139 = .ok (.iload_n 1, 1) := by decide +kernel
theorem dX7_seen_140 : decode cX7_seen 140 = .ok (.ifCond .ne 7, 3) := by decide +kernel
theorem dX7_seen_143 : decode cX7_seen 143 = .ok (.iload_n 2, 1) := by decide +kernel
theorem dX7_seen_144 : decode cX7_seen 144 = .ok (.goto 4, 3) := by decide +kernel
theorem dX7_seen_147 : decode cX7_seen 147 = .ok (.iload_n 3, 1) := by decide +kernel
theorem dX7_seen_148 : decode cX7_seen 148 = .ok (.ireturn, 1) := by decide +kernel
theorem dX7_row_0 : decode cX7_row 0 = .ok (.iload_n 1, 1) := by decide +kernel
theorem dX7_row_1 : decode cX7_row 1 = .ok (.ifCond .ge 10, 3) := by decide +kernel
theorem dX7_row_4 : decode cX7_row 4 = .ok (.aload_n 0, 1) := by decide +kernel
theorem dX7_row_5 : decode cX7_row 5 = .ok (.bipush (-4), 2) := by decide +kernel
theorem dX7_row_7 : decode cX7_row 7 = .ok (.invokevirtual 64, 3) := by decide +kernel
theorem dX7_row_10 : decode cX7_row 10 = .ok (.ireturn, 1) := by decide +kernel
theorem dX7_row_11 : decode cX7_row 11 = .ok (.iload_n 1, 1) := by decide +kernel
theorem dX7_row_12 : decode cX7_row 12 = .ok (.bipush 99, 2) := by decide +kernel
theorem dX7_row_14 : decode cX7_row 14 = .ok (.if_icmp .gt 12, 3) := by decide +kernel
theorem dX7_row_17 : decode cX7_row 17 = .ok (.aload_n 0, 1) := by decide +kernel
theorem dX7_row_18 : decode cX7_row 18 = .ok (.getfield 166, 3) := by decide +kernel
theorem dX7_row_21 : decode cX7_row 21 = .ok (.bipush 20, 2) := by decide +kernel
theorem dX7_row_23 : decode cX7_row 23 = .ok (.if_icmp .ne 10, 3) := by decide +kernel
theorem dX7_row_26 : decode cX7_row 26 = .ok (.aload_n 0, 1) := by decide +kernel
theorem dX7_row_27 : decode cX7_row 27 = .ok (.bipush (-6), 2) := by decide +kernel
theorem dX7_row_29 : decode cX7_row 29 = .ok (.invokevirtual 64, 3) := by decide +kernel
theorem dX7_row_32 : decode cX7_row 32 = .ok (.ireturn, 1) := by decide +kernel
theorem dX7_row_33 : decode cX7_row 33 = .ok (.aload_n 0, 1) := by decide +kernel
theorem dX7_row_34 : decode cX7_row 34 = .ok (.getfield 54, 3) := by decide +kernel
theorem dX7_row_37 : decode cX7_row 37 = .ok (.aload_n 0, 1) := by decide +kernel
theorem dX7_row_38 : decode cX7_row 38 = .ok (.getfield 166, 3) := by decide +kernel
theorem dX7_row_41 : decode cX7_row 41 = .ok (.iload_n 1, 1) := by decide +kernel
theorem dX7_row_42 : decode cX7_row 42 = .ok (.iastore, 1) := by decide +kernel
theorem dX7_row_43 : decode cX7_row 43 = .ok (.aload_n 0, 1) := by decide +kernel
theorem dX7_row_44 : decode cX7_row 44 = .ok (.dup, 1) := by decide +kernel
theorem dX7_row_45 : decode cX7_row 45 = .ok (.getfield 166, 3) := by decide +kernel
theorem dX7_row_48 : decode cX7_row 48 = .ok (.iconst 1, 1) := by decide +kernel
theorem dX7_row_49 : decode cX7_row 49 = .ok (.iadd, 1) := by decide +kernel
theorem dX7_row_50 : decode cX7_row 50 = .ok (.putfield 166, 3) := by decide +kernel
theorem dX7_row_53 : decode cX7_row 53 = .ok (.aload_n 0, 1) := by decide +kernel
theorem dX7_row_54 : decode cX7_row 54 = .ok (.getfield 166, 3) := by decide +kernel
theorem dX7_row_57 : decode cX7_row 57 = .ok (.ireturn, 1) := by decide +kernel
theorem dX7_judge_0 : decode cX7_judge 0 = .ok (.aload_n 0, 1) := by decide +kernel
theorem dX7_judge_1 : decode cX7_judge 1 = .ok (.bipush 99, 2) := by decide +kernel
theorem dX7_judge_3 : decode cX7_judge 3 = .ok (.invokevirtual 147, 3) := by decide +kernel
theorem dX7_judge_6 : decode cX7_judge 6 = .ok (.bipush (-9), 2) := by decide +kernel
theorem dX7_judge_8 : decode cX7_judge 8 = .ok (.istore_n 1, 1) := by decide +kernel
theorem dX7_judge_9 : decode cX7_judge 9 = .ok (.aload_n 0, 1) := by decide +kernel
theorem dX7_judge_10 : decode cX7_judge 10 = .ok (.getfield 166, 3) := by decide +kernel
theorem dX7_judge_13 : decode cX7_judge 13 = .ok (.iconst 1, 1) := by decide +kernel
theorem dX7_judge_14 : decode cX7_judge 14 = .ok (.isub, 1) := by decide +kernel
theorem dX7_judge_15 : decode cX7_judge 15 = .ok (.istore_n 2, 1) := by decide +kernel
theorem dX7_judge_16 : decode cX7_judge 16 = .ok (.iload_n 2, 1) := by decide +kernel
theorem dX7_judge_17 : decode cX7_judge 17 = .ok (.ifCond .lt 38, 3) := by decide +kernel
theorem dX7_judge_20 : decode cX7_judge 20 = .ok (.iload_n 2, 1) := by decide +kernel
theorem dX7_judge_21 : decode cX7_judge 21 = .ok (.aload_n 0, 1) := by decide +kernel
theorem dX7_judge_22 : decode cX7_judge 22 = .ok (.getfield 113, 3) := by decide +kernel
theorem dX7_judge_25 : decode cX7_judge 25 = .ok (.if_icmp .ge 18, 3) := by decide +kernel
theorem dX7_judge_28 : decode cX7_judge 28 = .ok (.aload_n 0, 1) := by decide +kernel
theorem dX7_judge_29 : decode cX7_judge 29 = .ok (.getfield 38, 3) := by decide +kernel
theorem dX7_judge_32 : decode cX7_judge 32 = .ok (.iload_n 2, 1) := by decide +kernel
theorem dX7_judge_33 : decode cX7_judge 33 = .ok (.iaload, 1) := by decide +kernel
theorem dX7_judge_34 : decode cX7_judge 34 = .ok (.aload_n 0, 1) := by decide +kernel
theorem dX7_judge_35 : decode cX7_judge 35 = .ok (.getfield 54, 3) := by decide +kernel
theorem dX7_judge_38 : decode cX7_judge 38 = .ok (.iload_n 2, 1) := by decide +kernel
theorem dX7_judge_39 : decode cX7_judge 39 = .ok (.iaload, 1) := by decide +kernel
theorem dX7_judge_40 : decode cX7_judge 40 = .ok (.if_icmp .eq 7, 3) := by decide +kernel
theorem dX7_judge_43 : decode cX7_judge 43 = .ok (.iload_n 2, 1) := by decide +kernel
theorem dX7_judge_44 : decode cX7_judge 44 = .ok (.goto 4, 3) := by decide +kernel
theorem dX7_judge_47 : decode cX7_judge 47 = .ok (.iload_n 1, 1) := by decide +kernel
theorem dX7_judge_48 : decode cX7_judge 48 = .ok (.istore_n 1, 1) := by decide +kernel
theorem dX7_judge_49 : decode cX7_judge 49 = .ok (.iinc 2 (-1), 3) := by decide +kernel
theorem dX7_judge_52 : decode cX7_judge 52 = .ok (.goto (-36), 3) := by decide +kernel
theorem dX7_judge_55 : decode cX7_judge 55 = .ok (.aload_n 0, 1) := by decide +kernel
theorem dX7_judge_56 : decode cX7_judge 56 = .ok (.iconst 0, 1) := by decide +kernel
theorem dX7_judge_57 : decode cX7_judge 57 = .ok (.putfield 166, 3) := by decide +kernel
theorem dX7_judge_60 : decode cX7_judge 60 = .ok (.iload_n 1, 1) := by decide +kernel
theorem dX7_judge_61 : decode cX7_judge 61 = .ok (.ireturn, 1) := by decide +kernel
theorem dX7_lots_0 : decode cX7_lots 0 = .ok (.iload_n 1, 1) := by decide +kernel
theorem dX7_lots_1 : decode cX7_lots 1 = .ok (.iconst 1, 1) := by decide +kernel
theorem dX7_lots_2 : decode cX7_lots 2 = .ok (.if_icmp .ge 10, 3) := by decide +kernel
theorem dX7_lots_5 : decode cX7_lots 5 = .ok (.aload_n 0, 1) := by decide +kernel
theorem dX7_lots_6 : decode cX7_lots 6 = .ok (.bipush (-4), 2) := by decide +kernel
theorem dX7_lots_8 : decode cX7_lots 8 = .ok (.invokevirtual 64, 3) := by decide +kernel
theorem dX7_lots_11 : decode cX7_lots 11 = .ok (.ireturn, 1) := by decide +kernel
theorem dX7_lots_12 : decode cX7_lots 12 = .ok (.iload_n 1, 1) := by decide +kernel
theorem dX7_lots_13 : decode cX7_lots 13 = .ok (.bipush 20, 2) := by decide +kernel
theorem dX7_lots_15 : decode cX7_lots 15 = .ok (.if_icmp .le 10, 3) := by decide +kernel
theorem dX7_lots_18 : decode cX7_lots 18 = .ok (.aload_n 0, 1) := by decide +kernel
theorem dX7_lots_19 : decode cX7_lots 19 = .ok (.bipush (-6), 2) := by decide +kernel
theorem dX7_lots_21 : decode cX7_lots 21 = .ok (.invokevirtual 64, 3) := by decide +kernel
theorem dX7_lots_24 : decode cX7_lots 24 = .ok (.ireturn, 1) := by decide +kernel
theorem dX7_lots_25 : decode cX7_lots 25 = .ok (.bipush 6, 2) := by decide +kernel
theorem dX7_lots_27 : decode cX7_lots 27 = .ok (.newarray .int, 2) := by decide +kernel
theorem dX7_lots_29 : decode cX7_lots 29 = .ok (.astore_n 3, 1) := by decide +kernel
theorem dX7_lots_30 : decode cX7_lots 30 = .ok (.iconst 0, 1) := by decide +kernel
theorem dX7_lots_31 : decode cX7_lots 31 = .ok (.istore 4, 2) := by decide +kernel
theorem dX7_lots_33 : decode cX7_lots 33 = .ok (.iload 4, 2) := by decide +kernel
theorem dX7_lots_35 : decode cX7_lots 35 = .ok (.aload_n 0, 1) := by decide +kernel
theorem dX7_lots_36 : decode cX7_lots 36 = .ok (.getfield 13, 3) := by decide +kernel
theorem dX7_lots_39 : decode cX7_lots 39 = .ok (.iconst 0, 1) := by decide +kernel
theorem dX7_lots_40 : decode cX7_lots 40 = .ok (.iaload, 1) := by decide +kernel
theorem dX7_lots_41 : decode cX7_lots 41 = .ok (.if_icmp .ge 23, 3) := by decide +kernel
theorem dX7_lots_44 : decode cX7_lots 44 = .ok (.aload_n 3, 1) := by decide +kernel
theorem dX7_lots_45 : decode cX7_lots 45 = .ok (.iload 4, 2) := by decide +kernel
theorem dX7_lots_47 : decode cX7_lots 47 = .ok (.aload_n 0, 1) := by decide +kernel
theorem dX7_lots_48 : decode cX7_lots 48 = .ok (.getfield 13, 3) := by decide +kernel
theorem dX7_lots_51 : decode cX7_lots 51 = .ok (.bipush 30, 2) := by decide +kernel
theorem dX7_lots_53 : decode cX7_lots 53 = .ok (.iload 4, 2) := by decide +kernel
theorem dX7_lots_55 : decode cX7_lots 55 = .ok (.iadd, 1) := by decide +kernel
theorem dX7_lots_56 : decode cX7_lots 56 = .ok (.iaload, 1) := by decide +kernel
theorem dX7_lots_57 : decode cX7_lots 57 = .ok (.iastore, 1) := by decide +kernel
theorem dX7_lots_58 : decode cX7_lots 58 = .ok (.iinc 4 1, 3) := by decide +kernel
theorem dX7_lots_61 : decode cX7_lots 61 = .ok (.goto (-28), 3) := by decide +kernel
theorem dX7_lots_64 : decode cX7_lots 64 = .ok (.iload_n 2, 1) := by decide +kernel
theorem dX7_lots_65 : decode cX7_lots 65 = .ok (.istore 4, 2) := by decide +kernel
theorem dX7_lots_67 : decode cX7_lots 67 = .ok (.iconst 0, 1) := by decide +kernel
theorem dX7_lots_68 : decode cX7_lots 68 = .ok (.istore 5, 2) := by decide +kernel
theorem dX7_lots_70 : decode cX7_lots 70 = .ok (.iconst 0, 1) := by decide +kernel
theorem dX7_lots_71 : decode cX7_lots 71 = .ok (.istore 6, 2) := by decide +kernel
theorem dX7_lots_73 : decode cX7_lots 73 = .ok (.iload 6, 2) := by decide +kernel
theorem dX7_lots_75 : decode cX7_lots 75 = .ok (.iload_n 1, 1) := by decide +kernel
theorem dX7_lots_76 : decode cX7_lots 76 = .ok (.if_icmp .ge 70, 3) := by decide +kernel
theorem dX7_lots_79 : decode cX7_lots 79 = .ok (.iconst 0, 1) := by decide +kernel
theorem dX7_lots_80 : decode cX7_lots 80 = .ok (.istore 7, 2) := by decide +kernel
theorem dX7_lots_82 : decode cX7_lots 82 = .ok (.iload 7, 2) := by decide +kernel
theorem dX7_lots_84 : decode cX7_lots 84 = .ok (.aload_n 0, 1) := by decide +kernel
theorem dX7_lots_85 : decode cX7_lots 85 = .ok (.getfield 13, 3) := by decide +kernel
theorem dX7_lots_88 : decode cX7_lots 88 = .ok (.iconst 0, 1) := by decide +kernel
theorem dX7_lots_89 : decode cX7_lots 89 = .ok (.iaload, 1) := by decide +kernel
theorem dX7_lots_90 : decode cX7_lots 90 = .ok (.if_icmp .ge 41, 3) := by decide +kernel
theorem dX7_lots_93 : decode cX7_lots 93 = .ok (.iload 4, 2) := by decide +kernel
theorem dX7_lots_95 : decode cX7_lots 95 = .ok (.ldc 181, 2) := by decide +kernel
theorem dX7_lots_97 : decode cX7_lots 97 = .ok (.imul, 1) := by decide +kernel
theorem dX7_lots_98 : decode cX7_lots 98 = .ok (.ldc 182, 2) := by decide +kernel
theorem dX7_lots_100 : decode cX7_lots 100 = .ok (.iadd, 1) := by decide +kernel
theorem dX7_lots_101 : decode cX7_lots 101 = .ok (.istore 4, 2) := by decide +kernel
theorem dX7_lots_103 : decode cX7_lots 103 = .ok (.aload_n 0, 1) := by decide +kernel
theorem dX7_lots_104 : decode cX7_lots 104 = .ok (.getfield 13, 3) := by decide +kernel
theorem dX7_lots_107 : decode cX7_lots 107 = .ok (.bipush 30, 2) := by decide +kernel
theorem dX7_lots_109 : decode cX7_lots 109 = .ok (.iload 7, 2) := by decide +kernel
theorem dX7_lots_111 : decode cX7_lots 111 = .ok (.iadd, 1) := by decide +kernel
theorem dX7_lots_112 : decode cX7_lots 112 = .ok (.iload 4, 2) := by decide +kernel
theorem dX7_lots_114 : decode cX7_lots 114 = .ok (.ldc 183, 2) := by decide +kernel
theorem dX7_lots_116 : decode cX7_lots 116 = .ok (.iand, 1) := by decide +kernel
theorem dX7_lots_117 : decode cX7_lots 117 = .ok (.sipush 256, 3) := by decide +kernel
theorem dX7_lots_120 : decode cX7_lots 120 = .ok (.idiv, 1) := by decide +kernel
theorem dX7_lots_121 : decode cX7_lots 121 = .ok (.bipush 60, 2) := by decide +kernel
theorem dX7_lots_123 : decode cX7_lots 123 = .ok (.irem, 1) := by decide +kernel
theorem dX7_lots_124 : decode cX7_lots 124 = .ok (.iastore, 1) := by decide +kernel
theorem dX7_lots_125 : decode cX7_lots 125 = .ok (.iinc 7 1, 3) := by decide +kernel
theorem dX7_lots_128 : decode cX7_lots 128 = .ok (.goto (-46), 3) := by decide +kernel
theorem dX7_lots_131 : decode cX7_lots 131 = .ok (.iload 5, 2) := by decide +kernel
theorem dX7_lots_133 : decode cX7_lots 133 = .ok (.aload_n 0, 1) := by decide +kernel
theorem dX7_lots_134 : decode cX7_lots 134 = .ok (.invokevirtual 163, 3) := by decide +kernel
theorem dX7_lots_137 : decode cX7_lots 137 = .ok (.iadd, 1) := by decide +kernel
theorem dX7_lots_138 : decode cX7_lots 138 = .ok (.istore 5, 2) := by decide +kernel
theorem dX7_lots_140 : decode cX7_lots 140 = .ok (.iinc 6 1, 3) := by decide +kernel
theorem dX7_lots_143 : decode cX7_lots 143 = .ok (.goto (-70), 3) := by decide +kernel
theorem dX7_lots_146 : decode cX7_lots 146 = .ok (.iconst 0, 1) := by decide +kernel
theorem dX7_lots_147 : decode cX7_lots 147 = .ok (.istore 6, 2) := by decide +kernel
theorem dX7_lots_149 : decode cX7_lots 149 = .ok (.iload 6, 2) := by decide +kernel
theorem dX7_lots_151 : decode cX7_lots 151 = .ok (.aload_n 0, 1) := by decide +kernel
theorem dX7_lots_152 : decode cX7_lots 152 = .ok (.getfield 13, 3) := by decide +kernel
theorem dX7_lots_155 : decode cX7_lots 155 = .ok (.iconst 0, 1) := by decide +kernel
theorem dX7_lots_156 : decode cX7_lots 156 = .ok (.iaload, 1) := by decide +kernel
theorem dX7_lots_157 : decode cX7_lots 157 = .ok (.if_icmp .ge 23, 3) := by decide +kernel
theorem dX7_lots_160 : decode cX7_lots 160 = .ok (.aload_n 0, 1) := by decide +kernel
theorem dX7_lots_161 : decode cX7_lots 161 = .ok (.getfield 13, 3) := by decide +kernel
theorem dX7_lots_164 : decode cX7_lots 164 = .ok (.bipush 30, 2) := by decide +kernel
theorem dX7_lots_166 : decode cX7_lots 166 = .ok (.iload 6, 2) := by decide +kernel
theorem dX7_lots_168 : decode cX7_lots 168 = .ok (.iadd, 1) := by decide +kernel
theorem dX7_lots_169 : decode cX7_lots 169 = .ok (.aload_n 3, 1) := by decide +kernel
theorem dX7_lots_170 : decode cX7_lots 170 = .ok (.iload 6, 2) := by decide +kernel
theorem dX7_lots_172 : decode cX7_lots 172 = .ok (.iaload, 1) := by decide +kernel
theorem dX7_lots_173 : decode cX7_lots 173 = .ok (.iastore, 1) := by decide +kernel
theorem dX7_lots_174 : decode cX7_lots 174 = .ok (.iinc 6 1, 3) := by decide +kernel
theorem dX7_lots_177 : decode cX7_lots 177 = .ok (.goto (-28), 3) := by decide +kernel
theorem dX7_lots_180 : decode cX7_lots 180 = .ok (.iload 5, 2) := by decide +kernel
theorem dX7_lots_182 : decode cX7_lots 182 = .ok (.ireturn, 1) := by decide +kernel
theorem dX7_count_0 : decode cX7_count 0 = .ok (.iload_n 1, 1) := by decide +kernel
theorem dX7_count_1 : decode cX7_count 1 = .ok (.tableswitch 115 0 6 #[43, 50, 84, 91, 98, 105, 110], 43) := by decide +kernel
theorem dX7_count_44 : decode cX7_count 44 = .ok (.aload_n 0, 1) := by decide +kernel
theorem dX7_count_45 : decode cX7_count 45 = .ok (.getfield 13, 3) := by decide +kernel
theorem dX7_count_48 : decode cX7_count 48 = .ok (.iconst 0, 1) := by decide +kernel
theorem dX7_count_49 : decode cX7_count 49 = .ok (.iaload, 1) := by decide +kernel
theorem dX7_count_50 : decode cX7_count 50 = .ok (.ireturn, 1) := by decide +kernel
theorem dX7_count_51 : decode cX7_count 51 = .ok (.iconst 0, 1) := by decide +kernel
theorem dX7_count_52 : decode cX7_count 52 = .ok (.istore_n 2, 1) := by decide +kernel
theorem dX7_count_53 : decode cX7_count 53 = .ok (.iconst 0, 1) := by decide +kernel
theorem dX7_count_54 : decode cX7_count 54 = .ok (.istore_n 3, 1) := by decide +kernel
theorem dX7_count_55 : decode cX7_count 55 = .ok (.iload_n 3, 1) := by decide +kernel
theorem dX7_count_56 : decode cX7_count 56 = .ok (.aload_n 0, 1) := by decide +kernel
theorem dX7_count_57 : decode cX7_count 57 = .ok (.getfield 13, 3) := by decide +kernel
theorem dX7_count_60 : decode cX7_count 60 = .ok (.iconst 0, 1) := by decide +kernel
theorem dX7_count_61 : decode cX7_count 61 = .ok (.iaload, 1) := by decide +kernel
theorem dX7_count_62 : decode cX7_count 62 = .ok (.if_icmp .ge 21, 3) := by decide +kernel
theorem dX7_count_65 : decode cX7_count 65 = .ok (.iload_n 2, 1) := by decide +kernel
theorem dX7_count_66 : decode cX7_count 66 = .ok (.aload_n 0, 1) := by decide +kernel
theorem dX7_count_67 : decode cX7_count 67 = .ok (.getfield 13, 3) := by decide +kernel
theorem dX7_count_70 : decode cX7_count 70 = .ok (.bipush 20, 2) := by decide +kernel
theorem dX7_count_72 : decode cX7_count 72 = .ok (.iload_n 3, 1) := by decide +kernel
theorem dX7_count_73 : decode cX7_count 73 = .ok (.iadd, 1) := by decide +kernel
theorem dX7_count_74 : decode cX7_count 74 = .ok (.iaload, 1) := by decide +kernel
theorem dX7_count_75 : decode cX7_count 75 = .ok (.iadd, 1) := by decide +kernel
theorem dX7_count_76 : decode cX7_count 76 = .ok (.istore_n 2, 1) := by decide +kernel
theorem dX7_count_77 : decode cX7_count 77 = .ok (.iinc 3 1, 3) := by decide +kernel
theorem dX7_count_80 : decode cX7_count 80 = .ok (.goto (-25), 3) := by decide +kernel
theorem dX7_count_83 : decode cX7_count 83 = .ok (.iload_n 2, 1) := by decide +kernel
theorem dX7_count_84 : decode cX7_count 84 = .ok (.ireturn, 1) := by decide +kernel
theorem dX7_count_85 : decode cX7_count 85 = .ok (.aload_n 0, 1) := by decide +kernel
theorem dX7_count_86 : decode cX7_count 86 = .ok (.getfield 13, 3) := by decide +kernel
theorem dX7_count_89 : decode cX7_count 89 = .ok (.iconst 1, 1) := by decide +kernel
theorem dX7_count_90 : decode cX7_count 90 = .ok (.iaload, 1) := by decide +kernel
theorem dX7_count_91 : decode cX7_count 91 = .ok (.ireturn, 1) := by decide +kernel
theorem dX7_count_92 : decode cX7_count 92 = .ok (.aload_n 0, 1) := by decide +kernel
theorem dX7_count_93 : decode cX7_count 93 = .ok (.getfield 13, 3) := by decide +kernel
theorem dX7_count_96 : decode cX7_count 96 = .ok (.iconst 2, 1) := by decide +kernel
theorem dX7_count_97 : decode cX7_count 97 = .ok (.iaload, 1) := by decide +kernel
theorem dX7_count_98 : decode cX7_count 98 = .ok (.ireturn, 1) := by decide +kernel
theorem dX7_count_99 : decode cX7_count 99 = .ok (.aload_n 0, 1) := by decide +kernel
theorem dX7_count_100 : decode cX7_count 100 = .ok (.getfield 13, 3) := by decide +kernel
theorem dX7_count_103 : decode cX7_count 103 = .ok (.iconst 3, 1) := by decide +kernel
theorem dX7_count_104 : decode cX7_count 104 = .ok (.iaload, 1) := by decide +kernel
theorem dX7_count_105 : decode cX7_count 105 = .ok (.ireturn, 1) := by decide +kernel
theorem dX7_count_106 : decode cX7_count 106 = .ok (.aload_n 0, 1) := by decide +kernel
theorem dX7_count_107 : decode cX7_count 107 = .ok (.getfield 166, 3) := by decide +kernel
theorem dX7_count_110 : decode cX7_count 110 = .ok (.ireturn, 1) := by decide +kernel
theorem dX7_count_111 : decode cX7_count 111 = .ok (.aload_n 0, 1) := by decide +kernel
theorem dX7_count_112 : decode cX7_count 112 = .ok (.getfield 68, 3) := by decide +kernel
theorem dX7_count_115 : decode cX7_count 115 = .ok (.ireturn, 1) := by decide +kernel
theorem dX7_count_116 : decode cX7_count 116 = .ok (.iload_n 1, 1) := by decide +kernel
theorem dX7_count_117 : decode cX7_count 117 = .ok (.bipush 11, 2) := by decide +kernel
theorem dX7_count_119 : decode cX7_count 119 = .ok (.if_icmp .lt 21, 3) := by decide +kernel
theorem dX7_count_122 : decode cX7_count 122 = .ok (.iload_n 1, 1) := by decide +kernel
theorem dX7_count_123 : decode cX7_count 123 = .ok (.bipush 16, 2) := by decide +kernel
theorem dX7_count_125 : decode cX7_count 125 = .ok (.if_icmp .gt 15, 3) := by decide +kernel
theorem dX7_count_128 : decode cX7_count 128 = .ok (.aload_n 0, 1) := by decide +kernel
theorem dX7_count_129 : decode cX7_count 129 = .ok (.getfield 1, 3) := by decide +kernel
theorem dX7_count_132 : decode cX7_count 132 = .ok (.iload_n 1, 1) := by decide +kernel
theorem dX7_count_133 : decode cX7_count 133 = .ok (.bipush 10, 2) := by decide +kernel
theorem dX7_count_135 : decode cX7_count 135 = .ok (.isub, 1) := by decide +kernel
theorem dX7_count_136 : decode cX7_count 136 = .ok (.iaload, 1) := by decide +kernel
theorem dX7_count_137 : decode cX7_count 137 = .ok (.goto 5, 3) := by decide +kernel
theorem dX7_count_140 : decode cX7_count 140 = .ok (.bipush (-9), 2) := by decide +kernel
theorem dX7_count_142 : decode cX7_count 142 = .ok (.ireturn, 1) := by decide +kernel
