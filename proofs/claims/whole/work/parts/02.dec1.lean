theorem dX6_init_0 : decode cX6_init 0 = .ok (.aload_n 0, 1) := by decide +kernel
theorem dX6_init_1 : decode cX6_init 1 = .ok (.invokespecial 3, 3) := by decide +kernel
theorem dX6_init_4 : decode cX6_init 4 = .ok (.aload_n 0, 1) := by decide +kernel
theorem dX6_init_5 : decode cX6_init 5 = .ok (.new 9, 3) := by decide +kernel
theorem dX6_init_8 : decode cX6_init 8 = .ok (.dup, 1) := by decide +kernel
theorem dX6_init_9 : decode cX6_init 9 = .ok (.invokespecial 11, 3) := by decide +kernel
theorem dX6_init_12 : decode cX6_init 12 = .ok (.putfield 12, 3) := by decide +kernel
theorem dX6_init_15 : decode cX6_init 15 = .ok (.aload_n 0, 1) := by decide +kernel
theorem dX6_init_16 : decode cX6_init 16 = .ok (.new 9, 3) := by decide +kernel
theorem dX6_init_19 : decode cX6_init 19 = .ok (.dup, 1) := by decide +kernel
theorem dX6_init_20 : decode cX6_init 20 = .ok (.invokespecial 11, 3) := by decide +kernel
theorem dX6_init_23 : decode cX6_init 23 = .ok (.putfield 16, 3) := by decide +kernel
theorem dX6_init_26 : decode cX6_init 26 = .ok (.aload_n 0, 1) := by decide +kernel
theorem dX6_init_27 : decode cX6_init 27 = .ok (.new 9, 3) := by decide +kernel
theorem dX6_init_30 : decode cX6_init 30 = .ok (.dup, 1) := by decide +kernel
theorem dX6_init_31 : decode cX6_init 31 = .ok (.invokespecial 11, 3) := by decide +kernel
theorem dX6_init_34 : decode cX6_init 34 = .ok (.putfield 19, 3) := by decide +kernel
theorem dX6_init_37 : decode cX6_init 37 = .ok (.aload_n 0, 1) := by decide +kernel
theorem dX6_init_38 : decode cX6_init 38 = .ok (.new 22, 3) := by decide +kernel
theorem dX6_init_41 : decode cX6_init 41 = .ok (.dup, 1) := by decide +kernel
theorem dX6_init_42 : decode cX6_init 42 = .ok (.invokespecial 24, 3) := by decide +kernel
theorem dX6_init_45 : decode cX6_init 45 = .ok (.putfield 25, 3) := by decide +kernel
theorem dX6_init_48 : decode cX6_init 48 = .ok (.aload_n 0, 1) := by decide +kernel
theorem dX6_init_49 : decode cX6_init 49 = .ok (.new 29, 3) := by decide +kernel
theorem dX6_init_52 : decode cX6_init 52 = .ok (.dup, 1) := by decide +kernel
theorem dX6_init_53 : decode cX6_init 53 = .ok (.invokespecial 31, 3) := by decide +kernel
theorem dX6_init_56 : decode cX6_init 56 = .ok (.putfield 32, 3) := by decide +kernel
theorem dX6_init_59 : decode cX6_init 59 = .ok (.aload_n 0, 1) := by decide +kernel
theorem dX6_init_60 : decode cX6_init 60 = .ok (.new 36, 3) := by decide +kernel
theorem dX6_init_63 : decode cX6_init 63 = .ok (.dup, 1) := by decide +kernel
theorem dX6_init_64 : decode cX6_init 64 = .ok (.invokespecial 38, 3) := by decide +kernel
theorem dX6_init_67 : decode cX6_init 67 = .ok (.putfield 39, 3) := by decide +kernel
theorem dX6_init_70 : decode cX6_init 70 = .ok (.aload_n 0, 1) := by decide +kernel
theorem dX6_init_71 : decode cX6_init 71 = .ok (.new 43, 3) := by decide +kernel
theorem dX6_init_74 : decode cX6_init 74 = .ok (.dup, 1) := by decide +kernel
theorem dX6_init_75 : decode cX6_init 75 = .ok (.invokespecial 45, 3) := by decide +kernel
theorem dX6_init_78 : decode cX6_init 78 = .ok (.putfield 46, 3) := by decide +kernel
theorem dX6_init_81 : decode cX6_init 81 = .ok (.aload_n 0, 1) := by decide +kernel
theorem dX6_init_82 : decode cX6_init 82 = .ok (.bipush 7, 2) := by decide +kernel
theorem dX6_init_84 : decode cX6_init 84 = .ok (.newarray .int, 2) := by decide +kernel
theorem dX6_init_86 : decode cX6_init 86 = .ok (.putfield 50, 3) := by decide +kernel
theorem dX6_init_89 : decode cX6_init 89 = .ok (.aload_n 0, 1) := by decide +kernel
theorem dX6_init_90 : decode cX6_init 90 = .ok (.iconst 0, 1) := by decide +kernel
theorem dX6_init_91 : decode cX6_init 91 = .ok (.putfield 54, 3) := by decide +kernel
theorem dX6_init_94 : decode cX6_init 94 = .ok (.return_, 1) := by decide +kernel
theorem dX6_letter_0 : decode cX6_letter 0 = .ok (.iload_n 1, 1) := by decide +kernel
theorem dX6_letter_1 : decode cX6_letter 1 = .ok (.ifCond .ge 10, 3) := by decide +kernel
theorem dX6_letter_4 : decode cX6_letter 4 = .ok (.aload_n 0, 1) := by decide +kernel
theorem dX6_letter_5 : decode cX6_letter 5 = .ok (.bipush (-4), 2) := by decide +kernel
theorem dX6_letter_7 : decode cX6_letter 7 = .ok (.invokevirtual 58, 3) := by decide +kernel
theorem dX6_letter_10 : decode cX6_letter 10 = .ok (.ireturn, 1) := by decide +kernel
theorem dX6_letter_11 : decode cX6_letter 11 = .ok (.iload_n 1, 1) := by decide +kernel
theorem dX6_letter_12 : decode cX6_letter 12 = .ok (.sipush 255, 3) := by decide +kernel
theorem dX6_letter_15 : decode cX6_letter 15 = .ok (.if_icmp .gt 15, 3) := by decide +kernel
theorem dX6_letter_18 : decode cX6_letter 18 = .ok (.aload_n 0, 1) := by decide +kernel
theorem dX6_letter_19 : decode cX6_letter 19 = .ok (.getfield 25, 3) := by decide +kernel
theorem dX6_letter_22 : decode cX6_letter 22 = .ok (.getfield 62, 3) := by decide +kernel
theorem dX6_letter_25 : decode cX6_letter 25 = .ok (.bipush 80, 2) := by decide +kernel
theorem dX6_letter_27 : decode cX6_letter 27 = .ok (.if_icmp .lt 10, 3) := by decide +kernel
theorem dX6_letter_30 : decode cX6_letter 30 = .ok (.aload_n 0, 1) := by decide +kernel
theorem dX6_letter_31 : decode cX6_letter 31 = .ok (.bipush (-6), 2) := by decide +kernel
theorem dX6_letter_33 : decode cX6_letter 33 = .ok (.invokevirtual 58, 3) := by decide +kernel
theorem dX6_letter_36 : decode cX6_letter 36 = .ok (.ireturn, 1) := by decide +kernel
theorem dX6_letter_37 : decode cX6_letter 37 = .ok (.aload_n 0, 1) := by decide +kernel
theorem dX6_letter_38 : decode cX6_letter 38 = .ok (.getfield 25, 3) := by decide +kernel
theorem dX6_letter_41 : decode cX6_letter 41 = .ok (.iload_n 1, 1) := by decide +kernel
theorem dX6_letter_42 : decode cX6_letter 42 = .ok (.invokevirtual 66, 3) := by decide +kernel
theorem dX6_letter_45 : decode cX6_letter 45 = .ok (.ireturn, 1) := by decide +kernel
theorem dX6_floor_0 : decode cX6_floor 0 = .ok (.aload_n 0, 1) := by decide +kernel
theorem dX6_floor_1 : decode cX6_floor 1 = .ok (.getfield 25, 3) := by decide +kernel
theorem dX6_floor_4 : decode cX6_floor 4 = .ok (.invokevirtual 69, 3) := by decide +kernel
theorem dX6_floor_7 : decode cX6_floor 7 = .ok (.istore_n 1, 1) := by decide +kernel
theorem dX6_floor_8 : decode cX6_floor 8 = .ok (.iload_n 1, 1) := by decide +kernel
theorem dX6_floor_9 : decode cX6_floor 9 = .ok (.ifCond .lt 11, 3) := by decide +kernel
theorem dX6_floor_12 : decode cX6_floor 12 = .ok (.sipush (-1000), 3) := by decide +kernel
theorem dX6_floor_15 : decode cX6_floor 15 = .ok (.iload_n 1, 1) := by decide +kernel
theorem dX6_floor_16 : decode cX6_floor 16 = .ok (.isub, 1) := by decide +kernel
theorem dX6_floor_17 : decode cX6_floor 17 = .ok (.goto 7, 3) := by decide +kernel
theorem dX6_floor_20 : decode cX6_floor 20 = .ok (.aload_n 0, 1) := by decide +kernel
theorem dX6_floor_21 : decode cX6_floor 21 = .ok (.invokevirtual 73, 3) := by decide +kernel
theorem dX6_floor_24 : decode cX6_floor 24 = .ok (.istore_n 2, 1) := by decide +kernel
theorem dX6_floor_25 : decode cX6_floor 25 = .ok (.aload_n 0, 1) := by decide +kernel
theorem dX6_floor_26 : decode cX6_floor 26 = .ok (.getfield 25, 3) := by decide +kernel
theorem dX6_floor_29 : decode cX6_floor 29 = .ok (.invokevirtual 76, 3) := by decide +kernel
theorem dX6_floor_32 : decode cX6_floor 32 = .ok (.iload_n 2, 1) := by decide +kernel
theorem dX6_floor_33 : decode cX6_floor 33 = .ok (.ireturn, 1) := by decide +kernel
theorem dX6_job_0 : decode cX6_job 0 = .ok (.aload_n 0, 1) := by decide +kernel
theorem dX6_job_1 : decode cX6_job 1 = .ok (.getfield 12, 3) := by decide +kernel
theorem dX6_job_4 : decode cX6_job 4 = .ok (.iload_n 1, 1) := by decide +kernel
theorem dX6_job_5 : decode cX6_job 5 = .ok (.invokevirtual 79, 3) := by decide +kernel
theorem dX6_job_8 : decode cX6_job 8 = .ok (.ifCond .ne 9, 3) := by decide +kernel
theorem dX6_job_11 : decode cX6_job 11 = .ok (.aload_n 0, 1) := by decide +kernel
theorem dX6_job_12 : decode cX6_job 12 = .ok (.iconst (-1), 1) := by decide +kernel
theorem dX6_job_13 : decode cX6_job 13 = .ok (.invokevirtual 58, 3) := by decide +kernel
theorem dX6_job_16 : decode cX6_job 16 = .ok (.ireturn, 1) := by decide +kernel
theorem dX6_job_17 : decode cX6_job 17 = .ok (.iload_n 2, 1) := by decide +kernel
theorem dX6_job_18 : decode cX6_job 18 = .ok (.tableswitch 56 0 2 #[26, 36, 46], 26) := by decide +kernel
theorem dX6_job_44 : decode cX6_job 44 = .ok (.aload_n 0, 1) := by decide +kernel
theorem dX6_job_45 : decode cX6_job 45 = .ok (.getfield 12, 3) := by decide +kernel
theorem dX6_job_48 : decode cX6_job 48 = .ok (.getfield 83, 3) := by decide +kernel
theorem dX6_job_51 : decode cX6_job 51 = .ok (.iload_n 1, 1) := by decide +kernel
theorem dX6_job_52 : decode cX6_job 52 = .ok (.iaload, 1) := by decide +kernel
theorem dX6_job_53 : decode cX6_job 53 = .ok (.ireturn, 1) := by decide +kernel
theorem dX6_job_54 : decode cX6_job 54 = .ok (.aload_n 0, 1) := by decide +kernel
theorem dX6_job_55 : decode cX6_job 55 = .ok (.getfield 12, 3) := by decide +kernel
theorem dX6_job_58 : decode cX6_job 58 = .ok (.getfield 86, 3) := by decide +kernel
theorem dX6_job_61 : decode cX6_job 61 = .ok (.iload_n 1, 1) := by decide +kernel
theorem dX6_job_62 : decode cX6_job 62 = .ok (.iaload, 1) := by decide +kernel
theorem dX6_job_63 : decode cX6_job 63 = .ok (.ireturn, 1) := by decide +kernel
theorem dX6_job_64 : decode cX6_job 64 = .ok (.aload_n 0, 1) := by decide +kernel
theorem dX6_job_65 : decode cX6_job 65 = .ok (.getfield 12, 3) := by decide +kernel
theorem dX6_job_68 : decode cX6_job 68 = .ok (.getfield 89, 3) := by decide +kernel
theorem dX6_job_71 : decode cX6_job 71 = .ok (.iload_n 1, 1) := by decide +kernel
theorem dX6_job_72 : decode cX6_job 72 = .ok (.iaload, 1) := by decide +kernel
theorem dX6_job_73 : decode cX6_job 73 = .ok (.ireturn, 1) := by decide +kernel
theorem dX6_job_74 : decode cX6_job 74 = .ok (.aload_n 0, 1) := by decide +kernel
theorem dX6_job_75 : decode cX6_job 75 = .ok (.bipush (-2), 2) := by decide +kernel
theorem dX6_job_77 : decode cX6_job 77 = .ok (.invokevirtual 58, 3) := by decide +kernel
theorem dX6_job_80 : decode cX6_job 80 = .ok (.ireturn, 1) := by decide +kernel
theorem dX6_taker_0 : decode cX6_taker 0 = .ok (.aload_n 0, 1) := by decide +kernel
theorem dX6_taker_1 : decode cX6_taker 1 = .ok (.getfield 12, 3) := by decide +kernel
theorem dX6_taker_4 : decode cX6_taker 4 = .ok (.iload_n 1, 1) := by decide +kernel
theorem dX6_taker_5 : decode cX6_taker 5 = .ok (.invokevirtual 92, 3) := by decide +kernel
theorem dX6_taker_8 : decode cX6_taker 8 = .ok (.ifCond .ne 9, 3) := by decide +kernel
theorem dX6_taker_11 : decode cX6_taker 11 = .ok (.aload_n 0, 1) := by decide +kernel
theorem dX6_taker_12 : decode cX6_taker 12 = .ok (.iconst (-1), 1) := by decide +kernel
theorem dX6_taker_13 : decode cX6_taker 13 = .ok (.invokevirtual 58, 3) := by decide +kernel
theorem dX6_taker_16 : decode cX6_taker 16 = .ok (.ireturn, 1) := by decide +kernel
theorem dX6_taker_17 : decode cX6_taker 17 = .ok (.iload_n 2, 1) := by decide +kernel
theorem dX6_taker_18 : decode cX6_taker 18 = .ok (.tableswitch 70 0 3 #[30, 40, 50, 60], 30) := by decide +kernel
theorem dX6_taker_48 : decode cX6_taker 48 = .ok (.aload_n 0, 1) := by decide +kernel
theorem dX6_taker_49 : decode cX6_taker 49 = .ok (.getfield 12, 3) := by decide +kernel
theorem dX6_taker_52 : decode cX6_taker 52 = .ok (.getfield 95, 3) := by decide +kernel
theorem dX6_taker_55 : decode cX6_taker 55 = .ok (.iload_n 1, 1) := by decide +kernel
theorem dX6_taker_56 : decode cX6_taker 56 = .ok (.iaload, 1) := by decide +kernel
theorem dX6_taker_57 : decode cX6_taker 57 = .ok (.ireturn, 1) := by decide +kernel
theorem dX6_taker_58 : decode cX6_taker 58 = .ok (.aload_n 0, 1) := by decide +kernel
theorem dX6_taker_59 : decode cX6_taker 59 = .ok (.getfield 12, 3) := by decide +kernel
theorem dX6_taker_62 : decode cX6_taker 62 = .ok (.getfield 98, 3) := by decide +kernel
theorem dX6_taker_65 : decode cX6_taker 65 = .ok (.iload_n 1, 1) := by decide +kernel
theorem dX6_taker_66 : decode cX6_taker 66 = .ok (.iaload, 1) := by decide +kernel
theorem dX6_taker_67 : decode cX6_taker 67 = .ok (.ireturn, 1) := by decide +kernel
theorem dX6_taker_68 : decode cX6_taker 68 = .ok (.aload_n 0, 1) := by decide +kernel
theorem dX6_taker_69 : decode cX6_taker 69 = .ok (.getfield 12, 3) := by decide +kernel
theorem dX6_taker_72 : decode cX6_taker 72 = .ok (.getfield 101, 3) := by decide +kernel
theorem dX6_taker_75 : decode cX6_taker 75 = .ok (.iload_n 1, 1) := by decide +kernel
theorem dX6_taker_76 : decode cX6_taker 76 = .ok (.iaload, 1) := by decide +kernel
theorem dX6_taker_77 : decode cX6_taker 77 = .ok (.ireturn, 1) := by decide +kernel
theorem dX6_taker_78 : decode cX6_taker 78 = .ok (.aload_n 0, 1) := by decide +kernel
theorem dX6_taker_79 : decode cX6_taker 79 = .ok (.getfield 12, 3) := by decide +kernel
theorem dX6_taker_82 : decode cX6_taker 82 = .ok (.getfield 104, 3) := by decide +kernel
theorem dX6_taker_85 : decode cX6_taker 85 = .ok (.iload_n 1, 1) := by decide +kernel
theorem dX6_taker_86 : decode cX6_taker 86 = .ok (.iaload, 1) := by decide +kernel
theorem dX6_taker_87 : decode cX6_taker 87 = .ok (.ireturn, 1) := by decide +kernel
theorem dX6_taker_88 : decode cX6_taker 88 = .ok (.aload_n 0, 1) := by decide +kernel
theorem dX6_taker_89 : decode cX6_taker 89 = .ok (.bipush (-2), 2) := by decide +kernel
theorem dX6_taker_91 : decode cX6_taker 91 = .ok (.invokevirtual 58, 3) := by decide +kernel
theorem dX6_taker_94 : decode cX6_taker 94 = .ok (.ireturn, 1) := by decide +kernel
theorem dX6_sent_0 : decode cX6_sent 0 = .ok (.aload_n 0, 1) := by decide +kernel
theorem dX6_sent_1 : decode cX6_sent 1 = .ok (.getfield 12, 3) := by decide +kernel
theorem dX6_sent_4 : decode cX6_sent 4 = .ok (.iload_n 1, 1) := by decide +kernel
theorem dX6_sent_5 : decode cX6_sent 5 = .ok (.invokevirtual 79, 3) := by decide +kernel
theorem dX6_sent_8 : decode cX6_sent 8 = .ok (.ifCond .ne 9, 3) := by decide +kernel
theorem dX6_sent_11 : decode cX6_sent 11 = .ok (.aload_n 0, 1) := by decide +kernel
theorem dX6_sent_12 : decode cX6_sent 12 = .ok (.iconst (-1), 1) := by decide +kernel
theorem dX6_sent_13 : decode cX6_sent 13 = .ok (.invokevirtual 58, 3) := by decide +kernel
theorem dX6_sent_16 : decode cX6_sent 16 = .ok (.ireturn, 1) := by decide +kernel
theorem dX6_sent_17 : decode cX6_sent 17 = .ok (.iload_n 2, 1) := by decide +kernel
theorem dX6_sent_18 : decode cX6_sent 18 = .ok (.ifCond .ge 10, 3) := by decide +kernel
theorem dX6_sent_21 : decode cX6_sent 21 = .ok (.aload_n 0, 1) := by decide +kernel
theorem dX6_sent_22 : decode cX6_sent 22 = .ok (.bipush (-4), 2) := by decide +kernel
theorem dX6_sent_24 : decode cX6_sent 24 = .ok (.invokevirtual 58, 3) := by decide +kernel
theorem dX6_sent_27 : decode cX6_sent 27 = .ok (.ireturn, 1) := by decide +kernel
theorem dX6_sent_28 : decode cX6_sent 28 = .ok (.iload_n 2, 1) := by decide +kernel
theorem dX6_sent_29 : decode cX6_sent 29 = .ok (.bipush 60, 2) := by decide +kernel
theorem dX6_sent_31 : decode cX6_sent 31 = .ok (.if_icmp .lt 10, 3) := by decide +kernel
theorem dX6_sent_34 : decode cX6_sent 34 = .ok (.aload_n 0, 1) := by decide +kernel
theorem dX6_sent_35 : decode cX6_sent 35 = .ok (.bipush (-6), 2) := by decide +kernel
theorem dX6_sent_37 : decode cX6_sent 37 = .ok (.invokevirtual 58, 3) := by decide +kernel
theorem dX6_sent_40 : decode cX6_sent 40 = .ok (.ireturn, 1) := by decide +kernel
theorem dX6_sent_41 : decode cX6_sent 41 = .ok (.aload_n 0, 1) := by decide +kernel
theorem dX6_sent_42 : decode cX6_sent 42 = .ok (.getfield 12, 3) := by decide +kernel
theorem dX6_sent_45 : decode cX6_sent 45 = .ok (.getfield 89, 3) := by decide +kernel
theorem dX6_sent_48 : decode cX6_sent 48 = .ok (.iload_n 1, 1) := by decide +kernel
theorem dX6_sent_49 : decode cX6_sent 49 = .ok (.iaload, 1) := by decide +kernel
theorem dX6_sent_50 : decode cX6_sent 50 = .ok (.istore_n 3, 1) := by decide +kernel
theorem dX6_sent_51 : decode cX6_sent 51 = .ok (.aload_n 0, 1) := by decide +kernel
theorem dX6_sent_52 : decode cX6_sent 52 = .ok (.getfield 12, 3) := by decide +kernel
theorem dX6_sent_55 : decode cX6_sent 55 = .ok (.getfield 89, 3) := by decide +kernel
theorem dX6_sent_58 : decode cX6_sent 58 = .ok (.iload_n 1, 1) := by decide +kernel
theorem dX6_sent_59 : decode cX6_sent 59 = .ok (.iload_n 2, 1) := by decide +kernel
theorem dX6_sent_60 : decode cX6_sent 60 = .ok (.iastore, 1) := by decide +kernel
theorem dX6_sent_61 : decode cX6_sent 61 = .ok (.iload_n 3, 1) := by decide +kernel
theorem dX6_sent_62 : decode cX6_sent 62 = .ok (.ireturn, 1) := by decide +kernel
theorem dX6_machine_0 : decode cX6_machine 0 = .ok (.iload_n 1, 1) := by decide +kernel
theorem dX6_machine_1 : decode cX6_machine 1 = .ok (.ifCond .lt 12, 3) := by decide +kernel
theorem dX6_machine_4 : decode cX6_machine 4 = .ok (.iload_n 1, 1) := by decide +kernel
theorem dX6_machine_5 : decode cX6_machine 5 = .ok (.ldc 107, 2) := by decide +kernel
theorem dX6_machine_7 : decode cX6_machine 7 = .ok (.invokevirtual 109, 3) := by decide +kernel
theorem dX6_machine_10 : decode cX6_machine 10 = .ok (.if_icmp .lt 10, 3) := by decide +kernel
theorem dX6_machine_13 : decode cX6_machine 13 = .ok (.aload_n 0, 1) := by decide +kernel
theorem dX6_machine_14 : decode cX6_machine 14 = .ok (.bipush (-2), 2) := by decide +kernel
theorem dX6_machine_16 : decode cX6_machine 16 = .ok (.invokevirtual 58, 3) := by decide +kernel
theorem dX6_machine_19 : decode cX6_machine 19 = .ok (.ireturn, 1) := by decide +kernel
theorem dX6_machine_20 : decode cX6_machine 20 = .ok (.iload_n 2, 1) := by decide +kernel
theorem dX6_machine_21 : decode cX6_machine 21 = .ok (.ifCond .ge 10, 3) := by decide +kernel
theorem dX6_machine_24 : decode cX6_machine 24 = .ok (.aload_n 0, 1) := by decide +kernel
theorem dX6_machine_25 : decode cX6_machine 25 = .ok (.bipush (-4), 2) := by decide +kernel
theorem dX6_machine_27 : decode cX6_machine 27 = .ok (.invokevirtual 58, 3) := by decide +kernel
theorem dX6_machine_30 : decode cX6_machine 30 = .ok (.ireturn, 1) := by decide +kernel
theorem dX6_machine_31 : decode cX6_machine 31 = .ok (.iload_n 2, 1) := by decide +kernel
theorem dX6_machine_32 : decode cX6_machine 32 = .ok (.bipush 9, 2) := by decide +kernel
theorem dX6_machine_34 : decode cX6_machine 34 = .ok (.if_icmp .le 10, 3) := by decide +kernel
theorem dX6_machine_37 : decode cX6_machine 37 = .ok (.aload_n 0, 1) := by decide +kernel
theorem dX6_machine_38 : decode cX6_machine 38 = .ok (.bipush (-6), 2) := by decide +kernel
theorem dX6_machine_40 : decode cX6_machine 40 = .ok (.invokevirtual 58, 3) := by decide +kernel
theorem dX6_machine_43 : decode cX6_machine 43 = .ok (.ireturn, 1) := by decide +kernel
theorem dX6_machine_44 : decode cX6_machine 44 = .ok (.bipush 10, 2) := by decide +kernel
theorem dX6_machine_46 : decode cX6_machine 46 = .ok (.aload_n 0, 1) := by decide +kernel
theorem dX6_machine_47 : decode cX6_machine 47 = .ok (.getfield 12, 3) := by decide +kernel
theorem dX6_machine_50 : decode cX6_machine 50 = .ok (.getfield 114, 3) := by decide +kernel
theorem dX6_machine_53 : decode cX6_machine 53 = .ok (.imul, 1) := by decide +kernel
theorem dX6_machine_54 : decode cX6_machine 54 = .ok (.aload_n 0, 1) := by decide +kernel
theorem dX6_machine_55 : decode cX6_machine 55 = .ok (.getfield 12, 3) := by decide +kernel
theorem dX6_machine_58 : decode cX6_machine 58 = .ok (.getfield 117, 3) := by decide +kernel
theorem dX6_machine_61 : decode cX6_machine 61 = .ok (.iadd, 1) := by decide +kernel
theorem dX6_machine_62 : decode cX6_machine 62 = .ok (.istore_n 3, 1) := by decide +kernel
theorem dX6_machine_63 : decode cX6_machine 63 = .ok (.aload_n 0, 1) := by decide +kernel
theorem dX6_machine_64 : decode cX6_machine 64 = .ok (.getfield 12, 3) := by decide +kernel
theorem dX6_machine_67 : decode cX6_machine 67 = .ok (.iload_n 1, 1) := by decide +kernel
theorem dX6_machine_68 : decode cX6_machine 68 = .ok (.iload_n 2, 1) := by decide +kernel
theorem dX6_machine_69 : decode cX6_machine 69 = .ok (.invokevirtual 120, 3) := by decide +kernel
theorem dX6_machine_72 : decode cX6_machine 72 = .ok (.iload_n 3, 1) := by decide +kernel
theorem dX6_machine_73 : decode cX6_machine 73 = .ok (.ireturn, 1) := by decide +kernel
theorem dX6_comes_0 : decode cX6_comes 0 = .ok (.aload_n 0, 1) := by decide +kernel
theorem dX6_comes_1 : decode cX6_comes 1 = .ok (.getfield 12, 3) := by decide +kernel
theorem dX6_comes_4 : decode cX6_comes 4 = .ok (.iload_n 1, 1) := by decide +kernel
theorem dX6_comes_5 : decode cX6_comes 5 = .ok (.invokevirtual 92, 3) := by decide +kernel
theorem dX6_comes_8 : decode cX6_comes 8 = .ok (.ifCond .ne 9, 3) := by decide +kernel
theorem dX6_comes_11 : decode cX6_comes 11 = .ok (.aload_n 0, 1) := by decide +kernel
theorem dX6_comes_12 : decode cX6_comes 12 = .ok (.iconst (-1), 1) := by decide +kernel
theorem dX6_comes_13 : decode cX6_comes 13 = .ok (.invokevirtual 58, 3) := by decide +kernel
theorem dX6_comes_16 : decode cX6_comes 16 = .ok (.ireturn, 1) := by decide +kernel
theorem dX6_comes_17 : decode cX6_comes 17 = .ok (.iload_n 2, 1) := by decide +kernel
theorem dX6_comes_18 : decode cX6_comes 18 = .ok (.ifCond .ge 10, 3) := by decide +kernel
theorem dX6_comes_21 : decode cX6_comes 21 = .ok (.aload_n 0, 1) := by decide +kernel
theorem dX6_comes_22 : decode cX6_comes 22 = .ok (.bipush (-4), 2) := by decide +kernel
theorem dX6_comes_24 : decode cX6_comes 24 = .ok (.invokevirtual 58, 3) := by decide +kernel
theorem dX6_comes_27 : decode cX6_comes 27 = .ok (.ireturn, 1) := by decide +kernel
theorem dX6_comes_28 : decode cX6_comes 28 = .ok (.iload_n 2, 1) := by decide +kernel
theorem dX6_comes_29 : decode cX6_comes 29 = .ok (.bipush 100, 2) := by decide +kernel
theorem dX6_comes_31 : decode cX6_comes 31 = .ok (.if_icmp .lt 10, 3) := by decide +kernel
theorem dX6_comes_34 : decode cX6_comes 34 = .ok (.aload_n 0, 1) := by decide +kernel
theorem dX6_comes_35 : decode cX6_comes 35 = .ok (.bipush (-6), 2) := by decide +kernel
theorem dX6_comes_37 : decode cX6_comes 37 = .ok (.invokevirtual 58, 3) := by decide +kernel
theorem dX6_comes_40 : decode cX6_comes 40 = .ok (.ireturn, 1) := by decide +kernel
theorem dX6_comes_41 : decode cX6_comes 41 = .ok (.aload_n 0, 1) := by decide +kernel
theorem dX6_comes_42 : decode cX6_comes 42 = .ok (.getfield 12, 3) := by decide +kernel
theorem dX6_comes_45 : decode cX6_comes 45 = .ok (.getfield 104, 3) := by decide +kernel
theorem dX6_comes_48 : decode cX6_comes 48 = .ok (.iload_n 1, 1) := by decide +kernel
theorem dX6_comes_49 : decode cX6_comes 49 = .ok (.iaload, 1) := by decide +kernel
theorem dX6_comes_50 : decode cX6_comes 50 = .ok (.istore_n 3, 1) := by decide +kernel
theorem dX6_comes_51 : decode cX6_comes 51 = .ok (.aload_n 0, 1) := by decide +kernel
theorem dX6_comes_52 : decode cX6_comes 52 = .ok (.getfield 12, 3) := by decide +kernel
theorem dX6_comes_55 : decode cX6_comes 55 = .ok (.getfield 104, 3) := by decide +kernel
theorem dX6_comes_58 : decode cX6_comes 58 = .ok (.iload_n 1, 1) := by decide +kernel
theorem dX6_comes_59 : decode cX6_comes 59 = .ok (.iload_n 2, 1) := by decide +kernel
theorem dX6_comes_60 : decode cX6_comes 60 = .ok (.iastore, 1) := by decide +kernel
theorem dX6_comes_61 : decode cX6_comes 61 = .ok (.iload_n 3, 1) := by decide +kernel
theorem dX6_comes_62 : decode cX6_comes 62 = .ok (.ireturn, 1) := by decide +kernel
theorem dX6_out_0 : decode cX6_out 0 = .ok (.iload_n 1, 1) := by decide +kernel
theorem dX6_out_1 : decode cX6_out 1 = .ok (.ifCond .ge 10, 3) := by decide +kernel
theorem dX6_out_4 : decode cX6_out 4 = .ok (.aload_n 0, 1) := by decide +kernel
theorem dX6_out_5 : decode cX6_out 5 = .ok (.bipush (-4), 2) := by decide +kernel
theorem dX6_out_7 : decode cX6_out 7 = .ok (.invokevirtual 58, 3) := by decide +kernel
theorem dX6_out_10 : decode cX6_out 10 = .ok (.ireturn, 1) := by decide +kernel
theorem dX6_out_11 : decode cX6_out 11 = .ok (.iload_n 2, 1) := by decide +kernel
theorem dX6_out_12 : decode cX6_out 12 = .ok (.invokestatic 124, 3) := by decide +kernel
theorem dX6_out_15 : decode cX6_out 15 = .ok (.ifCond .ne 10, 3) := by decide +kernel
theorem dX6_out_18 : decode cX6_out 18 = .ok (.aload_n 0, 1) := by decide +kernel
theorem dX6_out_19 : decode cX6_out 19 = .ok (.bipush (-2), 2) := by decide +kernel
theorem dX6_out_21 : decode cX6_out 21 = .ok (.invokevirtual 58, 3) := by decide +kernel
theorem dX6_out_24 : decode cX6_out 24 = .ok (.ireturn, 1) := by decide +kernel
theorem dX6_out_25 : decode cX6_out 25 = .ok (.aload_n 0, 1) := by decide +kernel
theorem dX6_out_26 : decode cX6_out 26 = .ok (.getfield 39, 3) := by decide +kernel
theorem dX6_out_29 : decode cX6_out 29 = .ok (.aload_n 0, 1) := by decide +kernel
theorem dX6_out_30 : decode cX6_out 30 = .ok (.getfield 12, 3) := by decide +kernel
theorem dX6_out_33 : decode cX6_out 33 = .ok (.bipush 99, 2) := by decide +kernel
theorem dX6_out_35 : decode cX6_out 35 = .ok (.invokevirtual 127, 3) := by decide +kernel
theorem dX6_out_38 : decode cX6_out 38 = .ok (.iload_n 2, 1) := by decide +kernel
theorem dX6_out_39 : decode cX6_out 39 = .ok (.ifCond .ne 14, 3) := by decide +kernel
theorem dX6_out_42 : decode cX6_out 42 = .ok (.aload_n 0, 1) := by decide +kernel
theorem dX6_out_43 : decode cX6_out 43 = .ok (.getfield 39, 3) := by decide +kernel
theorem dX6_out_46 : decode cX6_out 46 = .ok (.iload_n 1, 1) := by decide +kernel
theorem dX6_out_47 : decode cX6_out 47 = .ok (.invokevirtual 131, 3) := by decide +kernel
theorem dX6_out_50 : decode cX6_out 50 = .ok (.goto 11, 3) := by decide +kernel
theorem dX6_out_53 : decode cX6_out 53 = .ok (.aload_n 0, 1) := by decide +kernel
theorem dX6_out_54 : decode cX6_out 54 = .ok (.getfield 39, 3) := by decide +kernel
theorem dX6_out_57 : decode cX6_out 57 = .ok (.iload_n 1, 1) := by decide +kernel
theorem dX6_out_58 : decode cX6_out 58 = .ok (.invokevirtual 134, 3) := by decide +kernel
theorem dX6_out_61 : decode cX6_out 61 = .ok (.ireturn, 1) := by decide +kernel
theorem dX6_outMany_0 : decode cX6_outMany 0 = .ok (.aload_n 0, 1) := by decide +kernel
theorem dX6_outMany_1 : decode cX6_outMany 1 = .ok (.getfield 39, 3) := by decide +kernel
theorem dX6_outMany_4 : decode cX6_outMany 4 = .ok (.aload_n 0, 1) := by decide +kernel
theorem dX6_outMany_5 : decode cX6_outMany 5 = .ok (.getfield 12, 3) := by decide +kernel
theorem dX6_outMany_8 : decode cX6_outMany 8 = .ok (.bipush 99, 2) := by decide +kernel
theorem dX6_outMany_10 : decode cX6_outMany 10 = .ok (.invokevirtual 127, 3) := by decide +kernel
theorem dX6_outMany_13 : decode cX6_outMany 13 = .ok (.aload_n 0, 1) := by decide +kernel
theorem dX6_outMany_14 : decode cX6_outMany 14 = .ok (.getfield 39, 3) := by decide +kernel
theorem dX6_outMany_17 : decode cX6_outMany 17 = .ok (.getfield 137, 3) := by decide +kernel
theorem dX6_outMany_20 : decode cX6_outMany 20 = .ok (.ireturn, 1) := by decide +kernel
theorem dX6_lies_0 : decode cX6_lies 0 = .ok (.iload_n 1, 1) := by decide +kernel
theorem dX6_lies_1 : decode cX6_lies 1 = .ok (.ifCond .lt 8, 3) := by decide +kernel
theorem dX6_lies_4 : decode cX6_lies 4 = .ok (.iload_n 2, 1) := by decide +kernel
theorem dX6_lies_5 : decode cX6_lies 5 = .ok (.iconst (-1), 1) := by decide +kernel
theorem dX6_lies_6 : decode cX6_lies 6 = .ok (.if_icmp .ge 10, 3) := by decide +kernel
theorem dX6_lies_9 : decode cX6_lies 9 = .ok (.aload_n 0, 1) := by decide +kernel
theorem dX6_lies_10 : decode cX6_lies 10 = .ok (.bipush (-4), 2) := by decide +kernel
theorem dX6_lies_12 : decode cX6_lies 12 = .ok (.invokevirtual 58, 3) := by decide +kernel
theorem dX6_lies_15 : decode cX6_lies 15 = .ok (.ireturn, 1) := by decide +kernel
theorem dX6_lies_16 : decode cX6_lies 16 = .ok (.iload_n 1, 1) := by decide +kernel
theorem dX6_lies_17 : decode cX6_lies 17 = .ok (.bipush 100, 2) := by decide +kernel
theorem dX6_lies_19 : decode cX6_lies 19 = .ok (.if_icmp .lt 10, 3) := by decide +kernel
theorem dX6_lies_22 : decode cX6_lies 22 = .ok (.aload_n 0, 1) := by decide +kernel
theorem dX6_lies_23 : decode cX6_lies 23 = .ok (.bipush (-6), 2) := by decide +kernel
theorem dX6_lies_25 : decode cX6_lies 25 = .ok (.invokevirtual 58, 3) := by decide +kernel
theorem dX6_lies_28 : decode cX6_lies 28 = .ok (.ireturn, 1) := by decide +kernel
theorem dX6_lies_29 : decode cX6_lies 29 = .ok (.aload_n 0, 1) := by decide +kernel
theorem dX6_lies_30 : decode cX6_lies 30 = .ok (.getfield 39, 3) := by decide +kernel
theorem dX6_lies_33 : decode cX6_lies 33 = .ok (.aload_n 0, 1) := by decide +kernel
theorem dX6_lies_34 : decode cX6_lies 34 = .ok (.getfield 12, 3) := by decide +kernel
theorem dX6_lies_37 : decode cX6_lies 37 = .ok (.iload_n 1, 1) := by decide +kernel
theorem dX6_lies_38 : decode cX6_lies 38 = .ok (.invokevirtual 127, 3) := by decide +kernel
theorem dX6_lies_41 : decode cX6_lies 41 = .ok (.iload_n 2, 1) := by decide +kernel
theorem dX6_lies_42 : decode cX6_lies 42 = .ok (.iconst (-1), 1) := by decide +kernel
theorem dX6_lies_43 : decode cX6_lies 43 = .ok (.if_icmp .ne 16, 3) := by decide +kernel
theorem dX6_lies_46 : decode cX6_lies 46 = .ok (.aload_n 0, 1) := by decide +kernel
theorem dX6_lies_47 : decode cX6_lies 47 = .ok (.getfield 39, 3) := by decide +kernel
theorem dX6_lies_50 : decode cX6_lies 50 = .ok (.getfield 140, 3) := by decide +kernel
theorem dX6_lies_53 : decode cX6_lies 53 = .ok (.getfield 144, 3) := by decide +kernel
theorem dX6_lies_56 : decode cX6_lies 56 = .ok (.goto 14, 3) := by decide +kernel
theorem dX6_lies_59 : decode cX6_lies 59 = .ok (.aload_n 0, 1) := by decide +kernel
theorem dX6_lies_60 : decode cX6_lies 60 = .ok (.getfield 39, 3) := by decide +kernel
theorem dX6_lies_63 : decode cX6_lies 63 = .ok (.getfield 140, 3) := by decide +kernel
theorem dX6_lies_66 : decode cX6_lies 66 = .ok (.iload_n 2, 1) := by decide +kernel
theorem dX6_lies_67 : decode cX6_lies 67 = .ok (.invokevirtual 147, 3) := by decide +kernel
theorem dX6_lies_70 : decode cX6_lies 70 = .ok (.ireturn, 1) := by decide +kernel
theorem dX6_held_0 : decode cX6_held 0 = .ok (.iload_n 1, 1) := by decide +kernel
theorem dX6_held_1 : decode cX6_held 1 = .ok (.invokestatic 150, 3) := by decide +kernel
theorem dX6_held_4 : decode cX6_held 4 = .ok (.ifCond .ne 9, 3) := by decide +kernel
theorem dX6_held_7 : decode cX6_held 7 = .ok (.aload_n 0, 1) := by decide +kernel
theorem dX6_held_8 : decode cX6_held 8 = .ok (.iconst (-1), 1) := by decide +kernel
theorem dX6_held_9 : decode cX6_held 9 = .ok (.invokevirtual 58, 3) := by decide +kernel
theorem dX6_held_12 : decode cX6_held 12 = .ok (.ireturn, 1) := by decide +kernel
theorem dX6_held_13 : decode cX6_held 13 = .ok (.iload_n 2, 1) := by decide +kernel
theorem dX6_held_14 : decode cX6_held 14 = .ok (.invokestatic 124, 3) := by decide +kernel
theorem dX6_held_17 : decode cX6_held 17 = .ok (.ifCond .ne 10, 3) := by decide +kernel
theorem dX6_held_20 : decode cX6_held 20 = .ok (.aload_n 0, 1) := by decide +kernel
theorem dX6_held_21 : decode cX6_held 21 = .ok (.bipush (-2), 2) := by decide +kernel
theorem dX6_held_23 : decode cX6_held 23 = .ok (.invokevirtual 58, 3) := by decide +kernel
theorem dX6_held_26 : decode cX6_held 26 = .ok (.ireturn, 1) := by decide +kernel
theorem dX6_held_27 : decode cX6_held 27 = .ok (.aload_n 0, 1) := by decide +kernel
theorem dX6_held_28 : decode cX6_held 28 = .ok (.getfield 39, 3) := by decide +kernel
theorem dX6_held_31 : decode cX6_held 31 = .ok (.aload_n 0, 1) := by decide +kernel
theorem dX6_held_32 : decode cX6_held 32 = .ok (.getfield 12, 3) := by decide +kernel
theorem dX6_held_35 : decode cX6_held 35 = .ok (.bipush 99, 2) := by decide +kernel
theorem dX6_held_37 : decode cX6_held 37 = .ok (.invokevirtual 127, 3) := by decide +kernel
theorem dX6_held_40 : decode cX6_held 40 = .ok (.aload_n 0, 1) := by decide +kernel
theorem dX6_held_41 : decode cX6_held 41 = .ok (.getfield 39, 3) := by decide +kernel
theorem dX6_held_44 : decode cX6_held 44 = .ok (.aload_n 0, 1) := by decide +kernel
theorem dX6_held_45 : decode cX6_held 45 = .ok (.getfield 12, 3) := by decide +kernel
theorem dX6_held_48 : decode cX6_held 48 = .ok (.iload_n 1, 1) := by decide +kernel
theorem dX6_held_49 : decode cX6_held 49 = .ok (.iload_n 2, 1) := by decide +kernel
theorem dX6_held_50 : decode cX6_held 50 = .ok (.ifCond .ne 7, 3) := by decide +kernel
theorem dX6_held_53 : decode cX6_held 53 = .ok (.iconst 1, 1) := by decide +kernel
theorem dX6_held_54 : decode cX6_held 54 = .ok (.goto 4, 3) := by decide +kernel
theorem dX6_held_57 : decode cX6_held 57 = .ok (.iconst 0, 1) := by decide +kernel
theorem dX6_held_58 : decode cX6_held 58 = .ok (.invokevirtual 153, 3) := by decide +kernel
theorem dX6_held_61 : decode cX6_held 61 = .ok (.ireturn, 1) := by decide +kernel
theorem dX6_who_0 : decode cX6_who 0 = .ok (.aload_n 0, 1) := by decide +kernel
theorem dX6_who_1 : decode cX6_who 1 = .ok (.getfield 12, 3) := by decide +kernel
theorem dX6_who_4 : decode cX6_who 4 = .ok (.iload_n 1, 1) := by decide +kernel
theorem dX6_who_5 : decode cX6_who 5 = .ok (.invokevirtual 157, 3) := by decide +kernel
theorem dX6_who_8 : decode cX6_who 8 = .ok (.ifCond .ne 9, 3) := by decide +kernel
theorem dX6_who_11 : decode cX6_who 11 = .ok (.aload_n 0, 1) := by decide +kernel
theorem dX6_who_12 : decode cX6_who 12 = .ok (.iconst (-1), 1) := by decide +kernel
theorem dX6_who_13 : decode cX6_who 13 = .ok (.invokevirtual 58, 3) := by decide +kernel
theorem dX6_who_16 : decode cX6_who 16 = .ok (.ireturn, 1) := by decide +kernel
theorem dX6_who_17 : decode cX6_who 17 = .ok (.aload_n 0, 1) := by decide +kernel
theorem dX6_who_18 : decode cX6_who 18 = .ok (.getfield 39, 3) := by decide +kernel
theorem dX6_who_21 : decode cX6_who 21 = .ok (.aload_n 0, 1) := by decide +kernel
theorem dX6_who_22 : decode cX6_who 22 = .ok (.getfield 12, 3) := by decide +kernel
theorem dX6_who_25 : decode cX6_who 25 = .ok (.bipush 99, 2) := by decide +kernel
theorem dX6_who_27 : decode cX6_who 27 = .ok (.invokevirtual 127, 3) := by decide +kernel
theorem dX6_who_30 : decode cX6_who 30 = .ok (.aload_n 0, 1) := by decide +kernel
theorem dX6_who_31 : decode cX6_who 31 = .ok (.getfield 39, 3) := by decide +kernel
theorem dX6_who_34 : decode cX6_who 34 = .ok (.iload_n 1, 1) := by decide +kernel
theorem dX6_who_35 : decode cX6_who 35 = .ok (.invokevirtual 160, 3) := by decide +kernel
theorem dX6_who_38 : decode cX6_who 38 = .ok (.ireturn, 1) := by decide +kernel
theorem dX6_missing_0 : decode cX6_missing 0 = .ok (.iload_n 1, 1) := by decide +kernel
theorem dX6_missing_1 : decode cX6_missing 1 = .ok (.invokestatic 150, 3) := by decide +kernel
theorem dX6_missing_4 : decode cX6_missing 4 = .ok (.ifCond .ne 9, 3) := by decide +kernel
theorem dX6_missing_7 : decode cX6_missing 7 = .ok (.aload_n 0, 1) := by decide +kernel
theorem dX6_missing_8 : decode cX6_missing 8 = .ok (.iconst (-1), 1) := by decide +kernel
theorem dX6_missing_9 : decode cX6_missing 9 = .ok (.invokevirtual 58, 3) := by decide +kernel
theorem dX6_missing_12 : decode cX6_missing 12 = .ok (.ireturn, 1) := by decide +kernel
theorem dX6_missing_13 : decode cX6_missing 13 = .ok (.aload_n 0, 1) := by decide +kernel
theorem dX6_missing_14 : decode cX6_missing 14 = .ok (.getfield 39, 3) := by decide +kernel
theorem dX6_missing_17 : decode cX6_missing 17 = .ok (.aload_n 0, 1) := by decide +kernel
theorem dX6_missing_18 : decode cX6_missing 18 = .ok (.getfield 12, 3) := by decide +kernel
theorem dX6_missing_21 : decode cX6_missing 21 = .ok (.bipush 99, 2) := by decide +kernel
theorem dX6_missing_23 : decode cX6_missing 23 = .ok (.invokevirtual 127, 3) := by decide +kernel
theorem dX6_missing_26 : decode cX6_missing 26 = .ok (.aload_n 0, 1) := by decide +kernel
theorem dX6_missing_27 : decode cX6_missing 27 = .ok (.getfield 12, 3) := by decide +kernel
theorem dX6_missing_30 : decode cX6_missing 30 = .ok (.iload_n 1, 1) := by decide +kernel
theorem dX6_missing_31 : decode cX6_missing 31 = .ok (.invokevirtual 163, 3) := by decide +kernel
theorem dX6_missing_34 : decode cX6_missing 34 = .ok (.aload_n 0, 1) := by decide +kernel
theorem dX6_missing_35 : decode cX6_missing 35 = .ok (.getfield 39, 3) := by decide +kernel
theorem dX6_missing_38 : decode cX6_missing 38 = .ok (.aload_n 0, 1) := by decide +kernel
theorem dX6_missing_39 : decode cX6_missing 39 = .ok (.getfield 12, 3) := by decide +kernel
theorem dX6_missing_42 : decode cX6_missing 42 = .ok (.iload_n 1, 1) := by decide +kernel
theorem dX6_missing_43 : decode cX6_missing 43 = .ok (.iconst 1, 1) := by decide +kernel
theorem dX6_missing_44 : decode cX6_missing 44 = .ok (.invokevirtual 153, 3) := by decide +kernel
theorem dX6_missing_47 : decode cX6_missing 47 = .ok (.isub, 1) := by decide +kernel
theorem dX6_missing_48 : decode cX6_missing 48 = .ok (.ireturn, 1) := by decide +kernel
theorem dX6_ask_0 : decode cX6_ask 0 = .ok (.iload_n 1, 1) := by decide +kernel
theorem dX6_ask_1 : decode cX6_ask 1 = .ok (.invokestatic 150, 3) := by decide +kernel
theorem dX6_ask_4 : decode cX6_ask 4 = .ok (.ifCond .ne 9, 3) := by decide +kernel
theorem dX6_ask_7 : decode cX6_ask 7 = .ok (.aload_n 0, 1) := by decide +kernel
theorem dX6_ask_8 : decode cX6_ask 8 = .ok (.iconst (-1), 1) := by decide +kernel
theorem dX6_ask_9 : decode cX6_ask 9 = .ok (.invokevirtual 58, 3) := by decide +kernel
theorem dX6_ask_12 : decode cX6_ask 12 = .ok (.ireturn, 1) := by decide +kernel
theorem dX6_ask_13 : decode cX6_ask 13 = .ok (.aload_n 0, 1) := by decide +kernel
theorem dX6_ask_14 : decode cX6_ask 14 = .ok (.getfield 39, 3) := by decide +kernel
theorem dX6_ask_17 : decode cX6_ask 17 = .ok (.aload_n 0, 1) := by decide +kernel
theorem dX6_ask_18 : decode cX6_ask 18 = .ok (.getfield 12, 3) := by decide +kernel
theorem dX6_ask_21 : decode cX6_ask 21 = .ok (.bipush 99, 2) := by decide +kernel
theorem dX6_ask_23 : decode cX6_ask 23 = .ok (.invokevirtual 127, 3) := by decide +kernel
theorem dX6_ask_26 : decode cX6_ask 26 = .ok (.aload_n 0, 1) := by decide +kernel
theorem dX6_ask_27 : decode cX6_ask 27 = .ok (.getfield 39, 3) := by decide +kernel
theorem dX6_ask_30 : decode cX6_ask 30 = .ok (.aload_n 0, 1) := by decide +kernel
theorem dX6_ask_31 : decode cX6_ask 31 = .ok (.getfield 12, 3) := by decide +kernel
theorem dX6_ask_34 : decode cX6_ask 34 = .ok (.iload_n 1, 1) := by decide +kernel
theorem dX6_ask_35 : decode cX6_ask 35 = .ok (.invokevirtual 166, 3) := by decide +kernel
theorem dX6_ask_38 : decode cX6_ask 38 = .ok (.ireturn, 1) := by decide +kernel
theorem dX6_ready_0 : decode cX6_ready 0 = .ok (.iload_n 1, 1) := by decide +kernel
theorem dX6_ready_1 : decode cX6_ready 1 = .ok (.invokestatic 150, 3) := by decide +kernel
theorem dX6_ready_4 : decode cX6_ready 4 = .ok (.ifCond .ne 9, 3) := by decide +kernel
theorem dX6_ready_7 : decode cX6_ready 7 = .ok (.aload_n 0, 1) := by decide +kernel
theorem dX6_ready_8 : decode cX6_ready 8 = .ok (.iconst (-1), 1) := by decide +kernel
theorem dX6_ready_9 : decode cX6_ready 9 = .ok (.invokevirtual 58, 3) := by decide +kernel
theorem dX6_ready_12 : decode cX6_ready 12 = .ok (.ireturn, 1) := by decide +kernel
theorem dX6_ready_13 : decode cX6_ready 13 = .ok (.aload_n 0, 1) := by decide +kernel
theorem dX6_ready_14 : decode cX6_ready 14 = .ok (.getfield 39, 3) := by decide +kernel
theorem dX6_ready_17 : decode cX6_ready 17 = .ok (.aload_n 0, 1) := by decide +kernel
theorem dX6_ready_18 : decode cX6_ready 18 = .ok (.getfield 12, 3) := by decide +kernel
theorem dX6_ready_21 : decode cX6_ready 21 = .ok (.bipush 99, 2) := by decide +kernel
theorem dX6_ready_23 : decode cX6_ready 23 = .ok (.invokevirtual 127, 3) := by decide +kernel
theorem dX6_ready_26 : decode cX6_ready 26 = .ok (.aload_n 0, 1) := by decide +kernel
theorem dX6_ready_27 : decode cX6_ready 27 = .ok (.getfield 39, 3) := by decide +kernel
theorem dX6_ready_30 : decode cX6_ready 30 = .ok (.aload_n 0, 1) := by decide +kernel
theorem dX6_ready_31 : decode cX6_ready 31 = .ok (.getfield 12, 3) := by decide +kernel
theorem dX6_ready_34 : decode cX6_ready 34 = .ok (.iload_n 1, 1) := by decide +kernel
theorem dX6_ready_35 : decode cX6_ready 35 = .ok (.invokevirtual 170, 3) := by decide +kernel
theorem dX6_ready_38 : decode cX6_ready 38 = .ok (.ireturn, 1) := by decide +kernel
theorem dX6_mixed_0 : decode cX6_mixed 0 = .ok (.aload_n 0, 1) := by decide +kernel
theorem dX6_mixed_1 : decode cX6_mixed 1 = .ok (.getfield 32, 3) := by decide +kernel
theorem dX6_mixed_4 : decode cX6_mixed 4 = .ok (.aload_n 0, 1) := by decide +kernel
theorem dX6_mixed_5 : decode cX6_mixed 5 = .ok (.getfield 12, 3) := by decide +kernel
theorem dX6_mixed_8 : decode cX6_mixed 8 = .ok (.invokevirtual 173, 3) := by decide +kernel
theorem dX6_mixed_11 : decode cX6_mixed 11 = .ok (.ireturn, 1) := by decide +kernel
theorem dX6_byKind_0 : decode cX6_byKind 0 = .ok (.aload_n 0, 1) := by decide +kernel
theorem dX6_byKind_1 : decode cX6_byKind 1 = .ok (.getfield 19, 3) := by decide +kernel
theorem dX6_byKind_4 : decode cX6_byKind 4 = .ok (.aload_n 0, 1) := by decide +kernel
theorem dX6_byKind_5 : decode cX6_byKind 5 = .ok (.getfield 12, 3) := by decide +kernel
theorem dX6_byKind_8 : decode cX6_byKind 8 = .ok (.invokevirtual 177, 3) := by decide +kernel
theorem dX6_byKind_11 : decode cX6_byKind 11 = .ok (.iconst 0, 1) := by decide +kernel
theorem dX6_byKind_12 : decode cX6_byKind 12 = .ok (.istore_n 1, 1) := by decide +kernel
theorem dX6_byKind_13 : decode cX6_byKind 13 = .ok (.iconst 0, 1) := by decide +kernel
theorem dX6_byKind_14 : decode cX6_byKind 14 = .ok (.istore_n 2, 1) := by decide +kernel
theorem dX6_byKind_15 : decode cX6_byKind 15 = .ok (.iconst 0, 1) := by decide +kernel
theorem dX6_byKind_16 : decode cX6_byKind 16 = .ok (.istore_n 3, 1) := by decide +kernel
theorem dX6_byKind_17 : decode cX6_byKind 17 = .ok (.iload_n 3, 1) := by decide +kernel
theorem dX6_byKind_18 : decode cX6_byKind 18 = .ok (.ldc 107, 2) := by decide +kernel
theorem dX6_byKind_20 : decode cX6_byKind 20 = .ok (.invokevirtual 109, 3) := by decide +kernel
theorem dX6_byKind_23 : decode cX6_byKind 23 = .ok (.if_icmp .ge 52, 3) := by decide +kernel
theorem dX6_byKind_26 : decode cX6_byKind 26 = .ok (.aload_n 0, 1) := by decide +kernel
theorem dX6_byKind_27 : decode cX6_byKind 27 = .ok (.getfield 19, 3) := by decide +kernel
theorem dX6_byKind_30 : decode cX6_byKind 30 = .ok (.iload_n 3, 1) := by decide +kernel
theorem dX6_byKind_31 : decode cX6_byKind 31 = .ok (.aload_n 0, 1) := by decide +kernel
theorem dX6_byKind_32 : decode cX6_byKind 32 = .ok (.getfield 12, 3) := by decide +kernel
theorem dX6_byKind_35 : decode cX6_byKind 35 = .ok (.getfield 117, 3) := by decide +kernel
theorem dX6_byKind_38 : decode cX6_byKind 38 = .ok (.invokevirtual 120, 3) := by decide +kernel
theorem dX6_byKind_41 : decode cX6_byKind 41 = .ok (.aload_n 0, 1) := by decide +kernel
theorem dX6_byKind_42 : decode cX6_byKind 42 = .ok (.getfield 32, 3) := by decide +kernel
theorem dX6_byKind_45 : decode cX6_byKind 45 = .ok (.aload_n 0, 1) := by decide +kernel
theorem dX6_byKind_46 : decode cX6_byKind 46 = .ok (.getfield 19, 3) := by decide +kernel
theorem dX6_byKind_49 : decode cX6_byKind 49 = .ok (.invokevirtual 173, 3) := by decide +kernel
theorem dX6_byKind_52 : decode cX6_byKind 52 = .ok (.istore 4, 2) := by decide +kernel
theorem dX6_byKind_54 : decode cX6_byKind 54 = .ok (.iload_n 3, 1) := by decide +kernel
theorem dX6_byKind_55 : decode cX6_byKind 55 = .ok (.ifCond .eq 9, 3) := by decide +kernel
theorem dX6_byKind_58 : decode cX6_byKind 58 = .ok (.iload 4, 2) := by decide +kernel
theorem dX6_byKind_60 : decode cX6_byKind 60 = .ok (.iload_n 2, 1) := by decide +kernel
theorem dX6_byKind_61 : decode cX6_byKind 61 = .ok (.if_icmp .ge 8, 3) := by decide +kernel
theorem dX6_byKind_64 : decode cX6_byKind 64 = .ok (.iload_n 3, 1) := by decide +kernel
theorem dX6_byKind_65 : decode cX6_byKind 65 = .ok (.istore_n 1, 1) := by decide +kernel
theorem dX6_byKind_66 : decode cX6_byKind 66 = .ok (.iload 4, 2) := by decide +kernel
theorem dX6_byKind_68 : decode cX6_byKind 68 = .ok (.istore_n 2, 1) := by decide +kernel
theorem dX6_byKind_69 : decode cX6_byKind 69 = .ok (.iinc 3 1, 3) := by decide +kernel
theorem dX6_byKind_72 : decode cX6_byKind 72 = .ok (.goto (-55), 3) := by decide +kernel
theorem dX6_byKind_75 : decode cX6_byKind 75 = .ok (.iload_n 1, 1) := by decide +kernel
theorem dX6_byKind_76 : decode cX6_byKind 76 = .ok (.ireturn, 1) := by decide +kernel
theorem dX6_send_0 : decode cX6_send 0 = .ok (.aload_n 0, 1) := by decide +kernel
theorem dX6_send_1 : decode cX6_send 1 = .ok (.getfield 12, 3) := by decide +kernel
theorem dX6_send_4 : decode cX6_send 4 = .ok (.iload_n 1, 1) := by decide +kernel
theorem dX6_send_5 : decode cX6_send 5 = .ok (.invokevirtual 79, 3) := by decide +kernel
theorem dX6_send_8 : decode cX6_send 8 = .ok (.ifCond .ne 9, 3) := by decide +kernel
theorem dX6_send_11 : decode cX6_send 11 = .ok (.aload_n 0, 1) := by decide +kernel
theorem dX6_send_12 : decode cX6_send 12 = .ok (.iconst (-1), 1) := by decide +kernel
theorem dX6_send_13 : decode cX6_send 13 = .ok (.invokevirtual 58, 3) := by decide +kernel
theorem dX6_send_16 : decode cX6_send 16 = .ok (.ireturn, 1) := by decide +kernel
theorem dX6_send_17 : decode cX6_send 17 = .ok (.iload_n 2, 1) := by decide +kernel
theorem dX6_send_18 : decode cX6_send 18 = .ok (.invokestatic 124, 3) := by decide +kernel
theorem dX6_send_21 : decode cX6_send 21 = .ok (.ifCond .ne 10, 3) := by decide +kernel
theorem dX6_send_24 : decode cX6_send 24 = .ok (.aload_n 0, 1) := by decide +kernel
theorem dX6_send_25 : decode cX6_send 25 = .ok (.bipush (-2), 2) := by decide +kernel
theorem dX6_send_27 : decode cX6_send 27 = .ok (.invokevirtual 58, 3) := by decide +kernel
theorem dX6_send_30 : decode cX6_send 30 = .ok (.ireturn, 1) := by decide +kernel
theorem dX6_send_31 : decode cX6_send 31 = .ok (.aload_n 0, 1) := by decide +kernel
theorem dX6_send_32 : decode cX6_send 32 = .ok (.getfield 19, 3) := by decide +kernel
theorem dX6_send_35 : decode cX6_send 35 = .ok (.aload_n 0, 1) := by decide +kernel
theorem dX6_send_36 : decode cX6_send 36 = .ok (.getfield 12, 3) := by decide +kernel
theorem dX6_send_39 : decode cX6_send 39 = .ok (.invokevirtual 177, 3) := by decide +kernel
theorem dX6_send_42 : decode cX6_send 42 = .ok (.iconst 0, 1) := by decide +kernel
theorem dX6_send_43 : decode cX6_send 43 = .ok (.istore_n 3, 1) := by decide +kernel
theorem dX6_send_44 : decode cX6_send 44 = .ok (.iconst 0, 1) := by decide +kernel
theorem dX6_send_45 : decode cX6_send 45 = .ok (.istore 4, 2) := by decide +kernel
theorem dX6_send_47 : decode cX6_send 47 = .ok (.iconst 0, 1) := by decide +kernel
theorem dX6_send_48 : decode cX6_send 48 = .ok (.istore 5, 2) := by decide +kernel
theorem dX6_send_50 : decode cX6_send 50 = .ok (.iload 5, 2) := by decide +kernel
theorem dX6_send_52 : decode cX6_send 52 = .ok (.bipush 60, 2) := by decide +kernel
theorem dX6_send_54 : decode cX6_send 54 = .ok (.if_icmp .ge 52, 3) := by decide +kernel
theorem dX6_send_57 : decode cX6_send 57 = .ok (.aload_n 0, 1) := by decide +kernel
theorem dX6_send_58 : decode cX6_send 58 = .ok (.getfield 19, 3) := by decide +kernel
theorem dX6_send_61 : decode cX6_send 61 = .ok (.getfield 89, 3) := by decide +kernel
theorem dX6_send_64 : decode cX6_send 64 = .ok (.iload_n 1, 1) := by decide +kernel
theorem dX6_send_65 : decode cX6_send 65 = .ok (.iload 5, 2) := by decide +kernel
theorem dX6_send_67 : decode cX6_send 67 = .ok (.iastore, 1) := by decide +kernel
theorem dX6_send_68 : decode cX6_send 68 = .ok (.aload_n 0, 1) := by decide +kernel
theorem dX6_send_69 : decode cX6_send 69 = .ok (.getfield 32, 3) := by decide +kernel
theorem dX6_send_72 : decode cX6_send 72 = .ok (.aload_n 0, 1) := by decide +kernel
theorem dX6_send_73 : decode cX6_send 73 = .ok (.getfield 19, 3) := by decide +kernel
theorem dX6_send_76 : decode cX6_send 76 = .ok (.invokevirtual 173, 3) := by decide +kernel
theorem dX6_send_79 : decode cX6_send 79 = .ok (.istore 6, 2) := by decide +kernel
theorem dX6_send_81 : decode cX6_send 81 = .ok (.iload 5, 2) := by decide +kernel
theorem dX6_send_83 : decode cX6_send 83 = .ok (.ifCond .eq 10, 3) := by decide +kernel
theorem dX6_send_86 : decode cX6_send 86 = .ok (.iload 6, 2) := by decide +kernel
theorem dX6_send_88 : decode cX6_send 88 = .ok (.iload 4, 2) := by decide +kernel
theorem dX6_send_90 : decode cX6_send 90 = .ok (.if_icmp .ge 10, 3) := by decide +kernel
theorem dX6_send_93 : decode cX6_send 93 = .ok (.iload 5, 2) := by decide +kernel
theorem dX6_send_95 : decode cX6_send 95 = .ok (.istore_n 3, 1) := by decide +kernel
theorem dX6_send_96 : decode cX6_send 96 = .ok (.iload 6, 2) := by decide +kernel
theorem dX6_send_98 : decode cX6_send 98 = .ok (.istore 4, 2) := by decide +kernel
theorem dX6_send_100 : decode cX6_send 100 = .ok (.iinc 5 1, 3) := by decide +kernel
theorem dX6_send_103 : decode cX6_send 103 = .ok (.goto (-53), 3) := by decide +kernel
theorem dX6_send_106 : decode cX6_send 106 = .ok (.iload_n 2, 1) := by decide +kernel
theorem dX6_send_107 : decode cX6_send 107 = .ok (.ifCond .ne 7, 3) := by decide +kernel
theorem dX6_send_110 : decode cX6_send 110 = .ok (.iload_n 3, 1) := by decide +kernel
theorem dX6_send_111 : decode cX6_send 111 = .ok (.goto 5, 3) := by decide +kernel
theorem dX6_send_114 : decode cX6_send 114 = .ok (.iload 4, 2) := by decide +kernel
theorem dX6_send_116 : decode cX6_send 116 = .ok (.ireturn, 1) := by decide +kernel
theorem dX6_two_0 : decode cX6_two 0 = .ok (.aload_n 0, 1) := by decide +kernel
theorem dX6_two_1 : decode cX6_two 1 = .ok (.iload_n 1, 1) := by decide +kernel
theorem dX6_two_2 : decode cX6_two 2 = .ok (.iload_n 2, 1) := by decide +kernel
theorem dX6_two_3 : decode cX6_two 3 = .ok (.invokevirtual 181, 3) := by decide +kernel
theorem dX6_two_6 : decode cX6_two 6 = .ok (.ifCond .ne 9, 3) := by decide +kernel
theorem dX6_two_9 : decode cX6_two 9 = .ok (.aload_n 0, 1) := by decide +kernel
theorem dX6_two_10 : decode cX6_two 10 = .ok (.iconst (-1), 1) := by decide +kernel
theorem dX6_two_11 : decode cX6_two 11 = .ok (.invokevirtual 58, 3) := by decide +kernel
theorem dX6_two_14 : decode cX6_two 14 = .ok (.ireturn, 1) := by decide +kernel
theorem dX6_two_15 : decode cX6_two 15 = .ok (.aload_n 0, 1) := by decide +kernel
theorem dX6_two_16 : decode cX6_two 16 = .ok (.getfield 46, 3) := by decide +kernel
theorem dX6_two_19 : decode cX6_two 19 = .ok (.aload_n 0, 1) := by decide +kernel
theorem dX6_two_20 : decode cX6_two 20 = .ok (.getfield 12, 3) := by decide +kernel
theorem dX6_two_23 : decode cX6_two 23 = .ok (.getfield 86, 3) := by decide +kernel
theorem dX6_two_26 : decode cX6_two 26 = .ok (.iload_n 1, 1) := by decide +kernel
theorem dX6_two_27 : decode cX6_two 27 = .ok (.iaload, 1) := by decide +kernel
theorem dX6_two_28 : decode cX6_two 28 = .ok (.aload_n 0, 1) := by decide +kernel
theorem dX6_two_29 : decode cX6_two 29 = .ok (.getfield 12, 3) := by decide +kernel
theorem dX6_two_32 : decode cX6_two 32 = .ok (.getfield 86, 3) := by decide +kernel
theorem dX6_two_35 : decode cX6_two 35 = .ok (.iload_n 2, 1) := by decide +kernel
theorem dX6_two_36 : decode cX6_two 36 = .ok (.iaload, 1) := by decide +kernel
theorem dX6_two_37 : decode cX6_two 37 = .ok (.iconst 0, 1) := by decide +kernel
theorem dX6_two_38 : decode cX6_two 38 = .ok (.invokevirtual 185, 3) := by decide +kernel
theorem dX6_two_41 : decode cX6_two 41 = .ok (.ireturn, 1) := by decide +kernel
theorem dX6_three_0 : decode cX6_three 0 = .ok (.aload_n 0, 1) := by decide +kernel
theorem dX6_three_1 : decode cX6_three 1 = .ok (.iload_n 1, 1) := by decide +kernel
theorem dX6_three_2 : decode cX6_three 2 = .ok (.iload_n 2, 1) := by decide +kernel
theorem dX6_three_3 : decode cX6_three 3 = .ok (.invokevirtual 181, 3) := by decide +kernel
theorem dX6_three_6 : decode cX6_three 6 = .ok (.ifCond .eq 21, 3) := by decide +kernel
theorem dX6_three_9 : decode cX6_three 9 = .ok (.aload_n 0, 1) := by decide +kernel
theorem dX6_three_10 : decode cX6_three 10 = .ok (.iload_n 1, 1) := by decide +kernel
theorem dX6_three_11 : decode cX6_three 11 = .ok (.iload_n 3, 1) := by decide +kernel
theorem dX6_three_12 : decode cX6_three 12 = .ok (.invokevirtual 181, 3) := by decide +kernel
theorem dX6_three_15 : decode cX6_three 15 = .ok (.ifCond .eq 12, 3) := by decide +kernel
theorem dX6_three_18 : decode cX6_three 18 = .ok (.aload_n 0, 1) := by decide +kernel
theorem dX6_three_19 : decode cX6_three 19 = .ok (.iload_n 2, 1) := by decide +kernel
theorem dX6_three_20 : decode cX6_three 20 = .ok (.iload_n 3, 1) := by decide +kernel
theorem dX6_three_21 : decode cX6_three 21 = .ok (.invokevirtual 181, 3) := by decide +kernel
theorem dX6_three_24 : decode cX6_three 24 = .ok (.ifCond .ne 9, 3) := by decide +kernel
theorem dX6_three_27 : decode cX6_three 27 = .ok (.aload_n 0, 1) := by decide +kernel
theorem dX6_three_28 : decode cX6_three 28 = .ok (.iconst (-1), 1) := by decide +kernel
theorem dX6_three_29 : decode cX6_three 29 = .ok (.invokevirtual 58, 3) := by decide +kernel
theorem dX6_three_32 : decode cX6_three 32 = .ok (.ireturn, 1) := by decide +kernel
theorem dX6_three_33 : decode cX6_three 33 = .ok (.aload_n 0, 1) := by decide +kernel
theorem dX6_three_34 : decode cX6_three 34 = .ok (.getfield 46, 3) := by decide +kernel
theorem dX6_three_37 : decode cX6_three 37 = .ok (.aload_n 0, 1) := by decide +kernel
theorem dX6_three_38 : decode cX6_three 38 = .ok (.getfield 12, 3) := by decide +kernel
theorem dX6_three_41 : decode cX6_three 41 = .ok (.getfield 86, 3) := by decide +kernel
theorem dX6_three_44 : decode cX6_three 44 = .ok (.iload_n 1, 1) := by decide +kernel
theorem dX6_three_45 : decode cX6_three 45 = .ok (.iaload, 1) := by decide +kernel
theorem dX6_three_46 : decode cX6_three 46 = .ok (.aload_n 0, 1) := by decide +kernel
theorem dX6_three_47 : decode cX6_three 47 = .ok (.getfield 12, 3) := by decide +kernel
theorem dX6_three_50 : decode cX6_three 50 = .ok (.getfield 86, 3) := by decide +kernel
theorem dX6_three_53 : decode cX6_three 53 = .ok (.iload_n 2, 1) := by decide +kernel
theorem dX6_three_54 : decode cX6_three 54 = .ok (.iaload, 1) := by decide +kernel
theorem dX6_three_55 : decode cX6_three 55 = .ok (.aload_n 0, 1) := by decide +kernel
theorem dX6_three_56 : decode cX6_three 56 = .ok (.getfield 12, 3) := by decide +kernel
theorem dX6_three_59 : decode cX6_three 59 = .ok (.getfield 86, 3) := by decide +kernel
theorem dX6_three_62 : decode cX6_three 62 = .ok (.iload_n 3, 1) := by decide +kernel
theorem dX6_three_63 : decode cX6_three 63 = .ok (.iaload, 1) := by decide +kernel
theorem dX6_three_64 : decode cX6_three 64 = .ok (.invokevirtual 185, 3) := by decide +kernel
theorem dX6_three_67 : decode cX6_three 67 = .ok (.ireturn, 1) := by decide +kernel
theorem dX6_parts_0 : decode cX6_parts 0 = .ok (.aload_n 0, 1) := by decide +kernel
theorem dX6_parts_1 : decode cX6_parts 1 = .ok (.getfield 46, 3) := by decide +kernel
theorem dX6_parts_4 : decode cX6_parts 4 = .ok (.invokevirtual 189, 3) := by decide +kernel
theorem dX6_parts_7 : decode cX6_parts 7 = .ok (.ireturn, 1) := by decide +kernel
theorem dX6_lacks_0 : decode cX6_lacks 0 = .ok (.aload_n 0, 1) := by decide +kernel
theorem dX6_lacks_1 : decode cX6_lacks 1 = .ok (.getfield 12, 3) := by decide +kernel
theorem dX6_lacks_4 : decode cX6_lacks 4 = .ok (.iload_n 1, 1) := by decide +kernel
theorem dX6_lacks_5 : decode cX6_lacks 5 = .ok (.invokevirtual 79, 3) := by decide +kernel
theorem dX6_lacks_8 : decode cX6_lacks 8 = .ok (.ifCond .ne 9, 3) := by decide +kernel
theorem dX6_lacks_11 : decode cX6_lacks 11 = .ok (.aload_n 0, 1) := by decide +kernel
theorem dX6_lacks_12 : decode cX6_lacks 12 = .ok (.iconst (-1), 1) := by decide +kernel
theorem dX6_lacks_13 : decode cX6_lacks 13 = .ok (.invokevirtual 58, 3) := by decide +kernel
theorem dX6_lacks_16 : decode cX6_lacks 16 = .ok (.ireturn, 1) := by decide +kernel
theorem dX6_lacks_17 : decode cX6_lacks 17 = .ok (.aload_n 0, 1) := by decide +kernel
theorem dX6_lacks_18 : decode cX6_lacks 18 = .ok (.getfield 46, 3) := by decide +kernel
theorem dX6_lacks_21 : decode cX6_lacks 21 = .ok (.iload_n 1, 1) := by decide +kernel
theorem dX6_lacks_22 : decode cX6_lacks 22 = .ok (.aload_n 0, 1) := by decide +kernel
theorem dX6_lacks_23 : decode cX6_lacks 23 = .ok (.getfield 12, 3) := by decide +kernel
theorem dX6_lacks_26 : decode cX6_lacks 26 = .ok (.getfield 86, 3) := by decide +kernel
theorem dX6_lacks_29 : decode cX6_lacks 29 = .ok (.iload_n 1, 1) := by decide +kernel
theorem dX6_lacks_30 : decode cX6_lacks 30 = .ok (.iaload, 1) := by decide +kernel
theorem dX6_lacks_31 : decode cX6_lacks 31 = .ok (.invokevirtual 192, 3) := by decide +kernel
theorem dX6_lacks_34 : decode cX6_lacks 34 = .ok (.ireturn, 1) := by decide +kernel
theorem dX6_laps_0 : decode cX6_laps 0 = .ok (.iload_n 1, 1) := by decide +kernel
theorem dX6_laps_1 : decode cX6_laps 1 = .ok (.iconst 2, 1) := by decide +kernel
theorem dX6_laps_2 : decode cX6_laps 2 = .ok (.if_icmp .ge 10, 3) := by decide +kernel
theorem dX6_laps_5 : decode cX6_laps 5 = .ok (.aload_n 0, 1) := by decide +kernel
theorem dX6_laps_6 : decode cX6_laps 6 = .ok (.bipush (-4), 2) := by decide +kernel
theorem dX6_laps_8 : decode cX6_laps 8 = .ok (.invokevirtual 58, 3) := by decide +kernel
theorem dX6_laps_11 : decode cX6_laps 11 = .ok (.ireturn, 1) := by decide +kernel
theorem dX6_laps_12 : decode cX6_laps 12 = .ok (.iload_n 1, 1) := by decide +kernel
theorem dX6_laps_13 : decode cX6_laps 13 = .ok (.bipush 9, 2) := by decide +kernel
theorem dX6_laps_15 : decode cX6_laps 15 = .ok (.if_icmp .le 10, 3) := by decide +kernel
theorem dX6_laps_18 : decode cX6_laps 18 = .ok (.aload_n 0, 1) := by decide +kernel
theorem dX6_laps_19 : decode cX6_laps 19 = .ok (.bipush (-6), 2) := by decide +kernel
theorem dX6_laps_21 : decode cX6_laps 21 = .ok (.invokevirtual 58, 3) := by decide +kernel
theorem dX6_laps_24 : decode cX6_laps 24 = .ok (.ireturn, 1) := by decide +kernel
theorem dX6_laps_25 : decode cX6_laps 25 = .ok (.aload_n 0, 1) := by decide +kernel
theorem dX6_laps_26 : decode cX6_laps 26 = .ok (.getfield 46, 3) := by decide +kernel
theorem dX6_laps_29 : decode cX6_laps 29 = .ok (.iload_n 1, 1) := by decide +kernel
theorem dX6_laps_30 : decode cX6_laps 30 = .ok (.invokevirtual 196, 3) := by decide +kernel
theorem dX6_laps_33 : decode cX6_laps 33 = .ok (.ireturn, 1) := by decide +kernel
theorem dX6_waits_0 : decode cX6_waits 0 = .ok (.iload_n 1, 1) := by decide +kernel
theorem dX6_waits_1 : decode cX6_waits 1 = .ok (.invokestatic 150, 3) := by decide +kernel
theorem dX6_waits_4 : decode cX6_waits 4 = .ok (.ifCond .ne 9, 3) := by decide +kernel
theorem dX6_waits_7 : decode cX6_waits 7 = .ok (.aload_n 0, 1) := by decide +kernel
theorem dX6_waits_8 : decode cX6_waits 8 = .ok (.iconst (-1), 1) := by decide +kernel
theorem dX6_waits_9 : decode cX6_waits 9 = .ok (.invokevirtual 58, 3) := by decide +kernel
theorem dX6_waits_12 : decode cX6_waits 12 = .ok (.ireturn, 1) := by decide +kernel
theorem dX6_waits_13 : decode cX6_waits 13 = .ok (.iload_n 2, 1) := by decide +kernel
theorem dX6_waits_14 : decode cX6_waits 14 = .ok (.ifCond .lt 7, 3) := by decide +kernel
theorem dX6_waits_17 : decode cX6_waits 17 = .ok (.iload_n 3, 1) := by decide +kernel
theorem dX6_waits_18 : decode cX6_waits 18 = .ok (.ifCond .ge 10, 3) := by decide +kernel
theorem dX6_waits_21 : decode cX6_waits 21 = .ok (.aload_n 0, 1) := by decide +kernel
theorem dX6_waits_22 : decode cX6_waits 22 = .ok (.bipush (-4), 2) := by decide +kernel
theorem dX6_waits_24 : decode cX6_waits 24 = .ok (.invokevirtual 58, 3) := by decide +kernel
theorem dX6_waits_27 : decode cX6_waits 27 = .ok (.ireturn, 1) := by decide +kernel
theorem dX6_waits_28 : decode cX6_waits 28 = .ok (.iload_n 2, 1) := by decide +kernel
theorem dX6_waits_29 : decode cX6_waits 29 = .ok (.bipush 100, 2) := by decide +kernel
theorem dX6_waits_31 : decode cX6_waits 31 = .ok (.if_icmp .ge 9, 3) := by decide +kernel
theorem dX6_waits_34 : decode cX6_waits 34 = .ok (.iload_n 3, 1) := by decide +kernel
theorem dX6_waits_35 : decode cX6_waits 35 = .ok (.bipush 30, 2) := by decide +kernel
theorem dX6_waits_37 : decode cX6_waits 37 = .ok (.if_icmp .le 10, 3) := by decide +kernel
theorem dX6_waits_40 : decode cX6_waits 40 = .ok (.aload_n 0, 1) := by decide +kernel
theorem dX6_waits_41 : decode cX6_waits 41 = .ok (.bipush (-6), 2) := by decide +kernel
theorem dX6_waits_43 : decode cX6_waits 43 = .ok (.invokevirtual 58, 3) := by decide +kernel
theorem dX6_waits_46 : decode cX6_waits 46 = .ok (.ireturn, 1) := by decide +kernel
theorem dX6_waits_47 : decode cX6_waits 47 = .ok (.aload_n 0, 1) := by decide +kernel
theorem dX6_waits_48 : decode cX6_waits 48 = .ok (.getfield 39, 3) := by decide +kernel
theorem dX6_waits_51 : decode cX6_waits 51 = .ok (.aload_n 0, 1) := by decide +kernel
theorem dX6_waits_52 : decode cX6_waits 52 = .ok (.getfield 12, 3) := by decide +kernel
theorem dX6_waits_55 : decode cX6_waits 55 = .ok (.bipush 99, 2) := by decide +kernel
theorem dX6_waits_57 : decode cX6_waits 57 = .ok (.invokevirtual 127, 3) := by decide +kernel
theorem dX6_waits_60 : decode cX6_waits 60 = .ok (.aload_n 0, 1) := by decide +kernel
theorem dX6_waits_61 : decode cX6_waits 61 = .ok (.getfield 39, 3) := by decide +kernel
theorem dX6_waits_64 : decode cX6_waits 64 = .ok (.aload_n 0, 1) := by decide +kernel
theorem dX6_waits_65 : decode cX6_waits 65 = .ok (.getfield 12, 3) := by decide +kernel
theorem dX6_waits_68 : decode cX6_waits 68 = .ok (.iload_n 1, 1) := by decide +kernel
theorem dX6_waits_69 : decode cX6_waits 69 = .ok (.invokevirtual 170, 3) := by decide +kernel
theorem dX6_waits_72 : decode cX6_waits 72 = .ok (.istore 4, 2) := by decide +kernel
theorem dX6_waits_74 : decode cX6_waits 74 = .ok (.iload 4, 2) := by decide +kernel
theorem dX6_waits_76 : decode cX6_waits 76 = .ok (.ifCond .ge 8, 3) := by decide +kernel
theorem dX6_waits_79 : decode cX6_waits 79 = .ok (.bipush (-9), 2) := by decide +kernel
theorem dX6_waits_81 : decode cX6_waits 81 = .ok (.goto 13, 3) := by decide +kernel
theorem dX6_waits_84 : decode cX6_waits 84 = .ok (.iconst 0, 1) := by decide +kernel
theorem dX6_waits_85 : decode cX6_waits 85 = .ok (.iload 4, 2) := by decide +kernel
theorem dX6_waits_87 : decode cX6_waits 87 = .ok (.iload_n 2, 1) := by decide +kernel
theorem dX6_waits_88 : decode cX6_waits 88 = .ok (.isub, 1) := by decide +kernel
theorem dX6_waits_89 : decode cX6_waits 89 = .ok (.iload_n 3, 1) := by decide +kernel
theorem dX6_waits_90 : decode cX6_waits 90 = .ok (.isub, 1) := by decide +kernel
theorem dX6_waits_91 : decode cX6_waits 91 = .ok (.invokestatic 199, 3) := by decide +kernel
theorem dX6_waits_94 : decode cX6_waits 94 = .ok (.ireturn, 1) := by decide +kernel
theorem dX6_vain_0 : decode cX6_vain 0 = .ok (.iload_n 1, 1) := by decide +kernel
theorem dX6_vain_1 : decode cX6_vain 1 = .ok (.invokestatic 150, 3) := by decide +kernel
theorem dX6_vain_4 : decode cX6_vain 4 = .ok (.ifCond .ne 9, 3) := by decide +kernel
theorem dX6_vain_7 : decode cX6_vain 7 = .ok (.aload_n 0, 1) := by decide +kernel
theorem dX6_vain_8 : decode cX6_vain 8 = .ok (.iconst (-1), 1) := by decide +kernel
theorem dX6_vain_9 : decode cX6_vain 9 = .ok (.invokevirtual 58, 3) := by decide +kernel
theorem dX6_vain_12 : decode cX6_vain 12 = .ok (.ireturn, 1) := by decide +kernel
theorem dX6_vain_13 : decode cX6_vain 13 = .ok (.iload_n 2, 1) := by decide +kernel
theorem dX6_vain_14 : decode cX6_vain 14 = .ok (.ifCond .lt 8, 3) := by decide +kernel
theorem dX6_vain_17 : decode cX6_vain 17 = .ok (.iload_n 3, 1) := by decide +kernel
theorem dX6_vain_18 : decode cX6_vain 18 = .ok (.iconst 1, 1) := by decide +kernel
theorem dX6_vain_19 : decode cX6_vain 19 = .ok (.if_icmp .ge 10, 3) := by decide +kernel
theorem dX6_vain_22 : decode cX6_vain 22 = .ok (.aload_n 0, 1) := by decide +kernel
theorem dX6_vain_23 : decode cX6_vain 23 = .ok (.bipush (-4), 2) := by decide +kernel
theorem dX6_vain_25 : decode cX6_vain 25 = .ok (.invokevirtual 58, 3) := by decide +kernel
theorem dX6_vain_28 : decode cX6_vain 28 = .ok (.ireturn, 1) := by decide +kernel
theorem dX6_vain_29 : decode cX6_vain 29 = .ok (.iload_n 2, 1) := by decide +kernel
theorem dX6_vain_30 : decode cX6_vain 30 = .ok (.bipush 100, 2) := by decide +kernel
theorem dX6_vain_32 : decode cX6_vain 32 = .ok (.if_icmp .ge 9, 3) := by decide +kernel
theorem dX6_vain_35 : decode cX6_vain 35 = .ok (.iload_n 3, 1) := by decide +kernel
theorem dX6_vain_36 : decode cX6_vain 36 = .ok (.bipush 30, 2) := by decide +kernel
theorem dX6_vain_38 : decode cX6_vain 38 = .ok (.if_icmp .le 10, 3) := by decide +kernel
theorem dX6_vain_41 : decode cX6_vain 41 = .ok (.aload_n 0, 1) := by decide +kernel
theorem dX6_vain_42 : decode cX6_vain 42 = .ok (.bipush (-6), 2) := by decide +kernel
theorem dX6_vain_44 : decode cX6_vain 44 = .ok (.invokevirtual 58, 3) := by decide +kernel
theorem dX6_vain_47 : decode cX6_vain 47 = .ok (.ireturn, 1) := by decide +kernel
theorem dX6_vain_48 : decode cX6_vain 48 = .ok (.aload_n 0, 1) := by decide +kernel
theorem dX6_vain_49 : decode cX6_vain 49 = .ok (.getfield 39, 3) := by decide +kernel
theorem dX6_vain_52 : decode cX6_vain 52 = .ok (.aload_n 0, 1) := by decide +kernel
theorem dX6_vain_53 : decode cX6_vain 53 = .ok (.getfield 12, 3) := by decide +kernel
theorem dX6_vain_56 : decode cX6_vain 56 = .ok (.bipush 99, 2) := by decide +kernel
theorem dX6_vain_58 : decode cX6_vain 58 = .ok (.invokevirtual 127, 3) := by decide +kernel
theorem dX6_vain_61 : decode cX6_vain 61 = .ok (.aload_n 0, 1) := by decide +kernel
theorem dX6_vain_62 : decode cX6_vain 62 = .ok (.getfield 39, 3) := by decide +kernel
theorem dX6_vain_65 : decode cX6_vain 65 = .ok (.aload_n 0, 1) := by decide +kernel
theorem dX6_vain_66 : decode cX6_vain 66 = .ok (.getfield 12, 3) := by decide +kernel
theorem dX6_vain_69 : decode cX6_vain 69 = .ok (.iload_n 1, 1) := by decide +kernel
theorem dX6_vain_70 : decode cX6_vain 70 = .ok (.invokevirtual 170, 3) := by decide +kernel
theorem dX6_vain_73 : decode cX6_vain 73 = .ok (.istore 4, 2) := by decide +kernel
theorem dX6_vain_75 : decode cX6_vain 75 = .ok (.iload 4, 2) := by decide +kernel
theorem dX6_vain_77 : decode cX6_vain 77 = .ok (.ifCond .ge 6, 3) := by decide +kernel
theorem dX6_vain_80 : decode cX6_vain 80 = .ok (.bipush (-9), 2) := by decide +kernel
theorem dX6_vain_82 : decode cX6_vain 82 = .ok (.ireturn, 1) := by decide +kernel
theorem dX6_vain_83 : decode cX6_vain 83 = .ok (.iload_n 2, 1) := by decide +kernel
theorem dX6_vain_84 : decode cX6_vain 84 = .ok (.iload 4, 2) := by decide +kernel
theorem dX6_vain_86 : decode cX6_vain 86 = .ok (.if_icmp .lt 7, 3) := by decide +kernel
theorem dX6_vain_89 : decode cX6_vain 89 = .ok (.iconst 0, 1) := by decide +kernel
theorem dX6_vain_90 : decode cX6_vain 90 = .ok (.goto 13, 3) := by decide +kernel
theorem dX6_vain_93 : decode cX6_vain 93 = .ok (.iload 4, 2) := by decide +kernel
theorem dX6_vain_95 : decode cX6_vain 95 = .ok (.iload_n 2, 1) := by decide +kernel
theorem dX6_vain_96 : decode cX6_vain 96 = .ok (.isub, 1) := by decide +kernel
theorem dX6_vain_97 : decode cX6_vain 97 = .ok (.iconst 1, 1) := by decide +kernel
theorem dX6_vain_98 : decode cX6_vain 98 = .ok (.isub, 1) := by decide +kernel
theorem dX6_vain_99 : decode cX6_vain 99 = .ok (.iload_n 3, 1) := by decide +kernel
theorem dX6_vain_100 : decode cX6_vain 100 = .ok (.idiv, 1) := by decide +kernel
theorem dX6_vain_101 : decode cX6_vain 101 = .ok (.iconst 1, 1) := by decide +kernel
theorem dX6_vain_102 : decode cX6_vain 102 = .ok (.iadd, 1) := by decide +kernel
theorem dX6_vain_103 : decode cX6_vain 103 = .ok (.ireturn, 1) := by decide +kernel
theorem dX6_seen_0 : decode cX6_seen 0 = .ok (.iload_n 1, 1) := by decide +kernel
theorem dX6_seen_1 : decode cX6_seen 1 = .ok (.invokestatic 124, 3) := by decide +kernel
theorem dX6_seen_4 : decode cX6_seen 4 = .ok (.ifCond .ne 10, 3) := by decide +kernel
theorem dX6_seen_7 : decode cX6_seen 7 = .ok (.aload_n 0, 1) := by decide +kernel
theorem dX6_seen_8 : decode cX6_seen 8 = .ok (.bipush (-2), 2) := by decide +kernel
theorem dX6_seen_10 : decode cX6_seen 10 = .ok (.invokevirtual 58, 3) := by decide +kernel
theorem dX6_seen_13 : decode cX6_seen 13 = .ok (.ireturn, 1) := by decide +kernel
theorem dX6_seen_14 : decode cX6_seen 14 = .ok (.iconst 0, 1) := by decide +kernel
theorem dX6_seen_15 : decode cX6_seen 15 = .ok (.istore_n 2, 1) := by decide +kernel
theorem dX6_seen_16 : decode cX6_seen 16 = .ok (.bipush (-9), 2) := by decide +kernel
theorem dX6_seen_18 : decode cX6_seen 18 = .ok (.istore_n 3, 1) := by decide +kernel
theorem dX6_seen_19 : decode cX6_seen 19 = .ok (.aload_n 0, 1) := by decide +kernel
theorem dX6_seen_20 : decode cX6_seen 20 = .ok (.getfield 39, 3) := by decide +kernel
theorem dX6_seen_23 : decode cX6_seen 23 = .ok (.aload_n 0, 1) := by decide +kernel
theorem dX6_seen_24 : decode cX6_seen 24 = .ok (.getfield 12, 3) := by decide +kernel
theorem dX6_seen_27 : decode cX6_seen 27 = .ok (.invokevirtual 204, 3) := by decide +kernel
theorem dX6_seen_30 : decode cX6_seen 30 = .ok (.iconst 0, 1) := by decide +kernel
theorem dX6_seen_31 : decode cX6_seen 31 = .ok (.istore 4, 2) := by decide +kernel
theorem dX6_seen_33 : decode cX6_seen 33 = .ok (.iload 4, 2) := by decide +kernel
theorem dX6_seen_35 : decode cX6_seen 35 = .ok (.bipush 100, 2) := by decide +kernel
theorem dX6_seen_37 : decode cX6_seen 37 = .ok (.if_icmp .ge 55, 3) := by decide +kernel
theorem dX6_seen_40 : decode cX6_seen 40 = .ok (.aload_n 0, 1) := by decide +kernel
theorem dX6_seen_41 : decode cX6_seen 41 = .ok (.getfield 39, 3) := by decide +kernel
theorem dX6_seen_44 : decode cX6_seen 44 = .ok (.aload_n 0, 1) := by decide +kernel
theorem dX6_seen_45 : decode cX6_seen 45 = .ok (.getfield 12, 3) := by decide +kernel
theorem dX6_seen_48 : decode cX6_seen 48 = .ok (.iload 4, 2) := by decide +kernel
theorem dX6_seen_50 : decode cX6_seen 50 = .ok (.invokevirtual 207, 3) := by decide +kernel
theorem dX6_seen_53 : decode cX6_seen 53 = .ok (.aload_n 0, 1) := by decide +kernel
theorem dX6_seen_54 : decode cX6_seen 54 = .ok (.getfield 39, 3) := by decide +kernel
theorem dX6_seen_57 : decode cX6_seen 57 = .ok (.getfield 140, 3) := by decide +kernel
theorem dX6_seen_60 : decode cX6_seen 60 = .ok (.aload_n 0, 1) := by decide +kernel
theorem dX6_seen_61 : decode cX6_seen 61 = .ok (.getfield 46, 3) := by decide +kernel
theorem dX6_seen_64 : decode cX6_seen 64 = .ok (.invokevirtual 210, 3) := by decide +kernel
theorem dX6_seen_67 : decode cX6_seen 67 = .ok (.ifCond .eq 19, 3) := by decide +kernel
theorem dX6_seen_70 : decode cX6_seen 70 = .ok (.iinc 2 1, 3) := by decide +kernel
theorem dX6_seen_73 : decode cX6_seen 73 = .ok (.iload_n 3, 1) := by decide +kernel
theorem dX6_seen_74 : decode cX6_seen 74 = .ok (.bipush (-9), 2) := by decide +kernel
theorem dX6_seen_76 : decode cX6_seen 76 = .ok (.if_icmp .ne 8, 3) := by decide +kernel
theorem dX6_seen_79 : decode cX6_seen 79 = .ok (.iload 4, 2) := by decide +kernel
theorem dX6_seen_81 : decode cX6_seen 81 = .ok (.goto 4, 3) := by decide +kernel
theorem dX6_seen_84 : decode cX6_seen 84 = .ok (.iload_n 3, 1) := by decide +kernel
theorem dX6_seen_85 : decode cX6_seen 85 = .ok (.istore_n 3, 1) := by decide +kernel
theorem dX6_seen_86 : decode cX6_seen 86 = .ok (.iinc 4 1, 3) := by decide +kernel
theorem dX6_seen_89 : decode cX6_seen 89 = .ok (.goto (-56), 3) := by decide +kernel
theorem dX6_seen_92 : decode cX6_seen 92 = .ok (.iload_n 1, 1) := by decide +kernel
theorem dX6_seen_93 : decode cX6_seen 93 = .ok (.ifCond .ne 7, 3) := by decide +kernel
theorem dX6_seen_96 : decode cX6_seen 96 = .ok (.iload_n 2, 1) := by decide +kernel
theorem dX6_seen_97 : decode cX6_seen 97 = .ok (.goto 4, 3) := by decide +kernel
theorem dX6_seen_100 : decode cX6_seen 100 = .ok (.iload_n 3, 1) := by decide +kernel
theorem dX6_seen_101 : decode cX6_seen 101 = .ok (.ireturn, 1) := by decide +kernel
theorem dX6_row_0 : decode cX6_row 0 = .ok (.iload_n 1, 1) := by decide +kernel
theorem dX6_row_1 : decode cX6_row 1 = .ok (.ifCond .ge 10, 3) := by decide +kernel
theorem dX6_row_4 : decode cX6_row 4 = .ok (.aload_n 0, 1) := by decide +kernel
theorem dX6_row_5 : decode cX6_row 5 = .ok (.bipush (-4), 2) := by decide +kernel
theorem dX6_row_7 : decode cX6_row 7 = .ok (.invokevirtual 58, 3) := by decide +kernel
theorem dX6_row_10 : decode cX6_row 10 = .ok (.ireturn, 1) := by decide +kernel
theorem dX6_row_11 : decode cX6_row 11 = .ok (.iload_n 1, 1) := by decide +kernel
theorem dX6_row_12 : decode cX6_row 12 = .ok (.bipush 100, 2) := by decide +kernel
theorem dX6_row_14 : decode cX6_row 14 = .ok (.if_icmp .ge 15, 3) := by decide +kernel
theorem dX6_row_17 : decode cX6_row 17 = .ok (.aload_n 0, 1) := by decide +kernel
theorem dX6_row_18 : decode cX6_row 18 = .ok (.getfield 46, 3) := by decide +kernel
theorem dX6_row_21 : decode cX6_row 21 = .ok (.getfield 214, 3) := by decide +kernel
theorem dX6_row_24 : decode cX6_row 24 = .ok (.bipush 20, 2) := by decide +kernel
theorem dX6_row_26 : decode cX6_row 26 = .ok (.if_icmp .lt 10, 3) := by decide +kernel
theorem dX6_row_29 : decode cX6_row 29 = .ok (.aload_n 0, 1) := by decide +kernel
theorem dX6_row_30 : decode cX6_row 30 = .ok (.bipush (-6), 2) := by decide +kernel
theorem dX6_row_32 : decode cX6_row 32 = .ok (.invokevirtual 58, 3) := by decide +kernel
theorem dX6_row_35 : decode cX6_row 35 = .ok (.ireturn, 1) := by decide +kernel
theorem dX6_row_36 : decode cX6_row 36 = .ok (.aload_n 0, 1) := by decide +kernel
theorem dX6_row_37 : decode cX6_row 37 = .ok (.getfield 46, 3) := by decide +kernel
theorem dX6_row_40 : decode cX6_row 40 = .ok (.iload_n 1, 1) := by decide +kernel
theorem dX6_row_41 : decode cX6_row 41 = .ok (.invokevirtual 215, 3) := by decide +kernel
theorem dX6_row_44 : decode cX6_row 44 = .ok (.ireturn, 1) := by decide +kernel
theorem dX6_judge_0 : decode cX6_judge 0 = .ok (.aload_n 0, 1) := by decide +kernel
theorem dX6_judge_1 : decode cX6_judge 1 = .ok (.getfield 39, 3) := by decide +kernel
theorem dX6_judge_4 : decode cX6_judge 4 = .ok (.aload_n 0, 1) := by decide +kernel
theorem dX6_judge_5 : decode cX6_judge 5 = .ok (.getfield 12, 3) := by decide +kernel
theorem dX6_judge_8 : decode cX6_judge 8 = .ok (.bipush 99, 2) := by decide +kernel
theorem dX6_judge_10 : decode cX6_judge 10 = .ok (.invokevirtual 127, 3) := by decide +kernel
theorem dX6_judge_13 : decode cX6_judge 13 = .ok (.bipush (-9), 2) := by decide +kernel
theorem dX6_judge_15 : decode cX6_judge 15 = .ok (.istore_n 1, 1) := by decide +kernel
theorem dX6_judge_16 : decode cX6_judge 16 = .ok (.iconst 0, 1) := by decide +kernel
theorem dX6_judge_17 : decode cX6_judge 17 = .ok (.istore_n 2, 1) := by decide +kernel
theorem dX6_judge_18 : decode cX6_judge 18 = .ok (.iload_n 2, 1) := by decide +kernel
theorem dX6_judge_19 : decode cX6_judge 19 = .ok (.aload_n 0, 1) := by decide +kernel
theorem dX6_judge_20 : decode cX6_judge 20 = .ok (.getfield 46, 3) := by decide +kernel
theorem dX6_judge_23 : decode cX6_judge 23 = .ok (.getfield 214, 3) := by decide +kernel
theorem dX6_judge_26 : decode cX6_judge 26 = .ok (.if_icmp .ge 37, 3) := by decide +kernel
theorem dX6_judge_29 : decode cX6_judge 29 = .ok (.iload_n 1, 1) := by decide +kernel
theorem dX6_judge_30 : decode cX6_judge 30 = .ok (.bipush (-9), 2) := by decide +kernel
theorem dX6_judge_32 : decode cX6_judge 32 = .ok (.if_icmp .ne 31, 3) := by decide +kernel
theorem dX6_judge_35 : decode cX6_judge 35 = .ok (.aload_n 0, 1) := by decide +kernel
theorem dX6_judge_36 : decode cX6_judge 36 = .ok (.getfield 39, 3) := by decide +kernel
theorem dX6_judge_39 : decode cX6_judge 39 = .ok (.iload_n 2, 1) := by decide +kernel
theorem dX6_judge_40 : decode cX6_judge 40 = .ok (.invokevirtual 131, 3) := by decide +kernel
theorem dX6_judge_43 : decode cX6_judge 43 = .ok (.aload_n 0, 1) := by decide +kernel
theorem dX6_judge_44 : decode cX6_judge 44 = .ok (.getfield 46, 3) := by decide +kernel
theorem dX6_judge_47 : decode cX6_judge 47 = .ok (.getfield 216, 3) := by decide +kernel
theorem dX6_judge_50 : decode cX6_judge 50 = .ok (.iload_n 2, 1) := by decide +kernel
theorem dX6_judge_51 : decode cX6_judge 51 = .ok (.iaload, 1) := by decide +kernel
theorem dX6_judge_52 : decode cX6_judge 52 = .ok (.if_icmp .eq 5, 3) := by decide +kernel
theorem dX6_judge_55 : decode cX6_judge 55 = .ok (.iload_n 2, 1) := by decide +kernel
theorem dX6_judge_56 : decode cX6_judge 56 = .ok (.istore_n 1, 1) := by decide +kernel
theorem dX6_judge_57 : decode cX6_judge 57 = .ok (.iinc 2 1, 3) := by decide +kernel
theorem dX6_judge_60 : decode cX6_judge 60 = .ok (.goto (-42), 3) := by decide +kernel
theorem dX6_judge_63 : decode cX6_judge 63 = .ok (.aload_n 0, 1) := by decide +kernel
theorem dX6_judge_64 : decode cX6_judge 64 = .ok (.getfield 46, 3) := by decide +kernel
theorem dX6_judge_67 : decode cX6_judge 67 = .ok (.invokevirtual 219, 3) := by decide +kernel
theorem dX6_judge_70 : decode cX6_judge 70 = .ok (.iload_n 1, 1) := by decide +kernel
theorem dX6_judge_71 : decode cX6_judge 71 = .ok (.ireturn, 1) := by decide +kernel
theorem dX6_lots_0 : decode cX6_lots 0 = .ok (.iload_n 1, 1) := by decide +kernel
theorem dX6_lots_1 : decode cX6_lots 1 = .ok (.iconst 1, 1) := by decide +kernel
theorem dX6_lots_2 : decode cX6_lots 2 = .ok (.if_icmp .ge 10, 3) := by decide +kernel
theorem dX6_lots_5 : decode cX6_lots 5 = .ok (.aload_n 0, 1) := by decide +kernel
theorem dX6_lots_6 : decode cX6_lots 6 = .ok (.bipush (-4), 2) := by decide +kernel
theorem dX6_lots_8 : decode cX6_lots 8 = .ok (.invokevirtual 58, 3) := by decide +kernel
theorem dX6_lots_11 : decode cX6_lots 11 = .ok (.ireturn, 1) := by decide +kernel
theorem dX6_lots_12 : decode cX6_lots 12 = .ok (.iload_n 1, 1) := by decide +kernel
theorem dX6_lots_13 : decode cX6_lots 13 = .ok (.bipush 20, 2) := by decide +kernel
theorem dX6_lots_15 : decode cX6_lots 15 = .ok (.if_icmp .le 10, 3) := by decide +kernel
theorem dX6_lots_18 : decode cX6_lots 18 = .ok (.aload_n 0, 1) := by decide +kernel
theorem dX6_lots_19 : decode cX6_lots 19 = .ok (.bipush (-6), 2) := by decide +kernel
theorem dX6_lots_21 : decode cX6_lots 21 = .ok (.invokevirtual 58, 3) := by decide +kernel
theorem dX6_lots_24 : decode cX6_lots 24 = .ok (.ireturn, 1) := by decide +kernel
theorem dX6_lots_25 : decode cX6_lots 25 = .ok (.aload_n 0, 1) := by decide +kernel
theorem dX6_lots_26 : decode cX6_lots 26 = .ok (.getfield 19, 3) := by decide +kernel
theorem dX6_lots_29 : decode cX6_lots 29 = .ok (.aload_n 0, 1) := by decide +kernel
theorem dX6_lots_30 : decode cX6_lots 30 = .ok (.getfield 12, 3) := by decide +kernel
theorem dX6_lots_33 : decode cX6_lots 33 = .ok (.invokevirtual 177, 3) := by decide +kernel
theorem dX6_lots_36 : decode cX6_lots 36 = .ok (.iload_n 2, 1) := by decide +kernel
theorem dX6_lots_37 : decode cX6_lots 37 = .ok (.istore_n 3, 1) := by decide +kernel
theorem dX6_lots_38 : decode cX6_lots 38 = .ok (.iconst 0, 1) := by decide +kernel
theorem dX6_lots_39 : decode cX6_lots 39 = .ok (.istore 4, 2) := by decide +kernel
theorem dX6_lots_41 : decode cX6_lots 41 = .ok (.iconst 0, 1) := by decide +kernel
theorem dX6_lots_42 : decode cX6_lots 42 = .ok (.istore 5, 2) := by decide +kernel
theorem dX6_lots_44 : decode cX6_lots 44 = .ok (.iload 5, 2) := by decide +kernel
theorem dX6_lots_46 : decode cX6_lots 46 = .ok (.iload_n 1, 1) := by decide +kernel
theorem dX6_lots_47 : decode cX6_lots 47 = .ok (.if_icmp .ge 75, 3) := by decide +kernel
theorem dX6_lots_50 : decode cX6_lots 50 = .ok (.iconst 0, 1) := by decide +kernel
theorem dX6_lots_51 : decode cX6_lots 51 = .ok (.istore 6, 2) := by decide +kernel
theorem dX6_lots_53 : decode cX6_lots 53 = .ok (.iload 6, 2) := by decide +kernel
theorem dX6_lots_55 : decode cX6_lots 55 = .ok (.aload_n 0, 1) := by decide +kernel
theorem dX6_lots_56 : decode cX6_lots 56 = .ok (.getfield 19, 3) := by decide +kernel
theorem dX6_lots_59 : decode cX6_lots 59 = .ok (.getfield 220, 3) := by decide +kernel
theorem dX6_lots_62 : decode cX6_lots 62 = .ok (.if_icmp .ge 38, 3) := by decide +kernel
theorem dX6_lots_65 : decode cX6_lots 65 = .ok (.iload_n 3, 1) := by decide +kernel
theorem dX6_lots_66 : decode cX6_lots 66 = .ok (.ldc 223, 2) := by decide +kernel
theorem dX6_lots_68 : decode cX6_lots 68 = .ok (.imul, 1) := by decide +kernel
theorem dX6_lots_69 : decode cX6_lots 69 = .ok (.ldc 224, 2) := by decide +kernel
theorem dX6_lots_71 : decode cX6_lots 71 = .ok (.iadd, 1) := by decide +kernel
theorem dX6_lots_72 : decode cX6_lots 72 = .ok (.istore_n 3, 1) := by decide +kernel
theorem dX6_lots_73 : decode cX6_lots 73 = .ok (.aload_n 0, 1) := by decide +kernel
theorem dX6_lots_74 : decode cX6_lots 74 = .ok (.getfield 19, 3) := by decide +kernel
theorem dX6_lots_77 : decode cX6_lots 77 = .ok (.getfield 89, 3) := by decide +kernel
theorem dX6_lots_80 : decode cX6_lots 80 = .ok (.iload 6, 2) := by decide +kernel
theorem dX6_lots_82 : decode cX6_lots 82 = .ok (.iload_n 3, 1) := by decide +kernel
theorem dX6_lots_83 : decode cX6_lots 83 = .ok (.ldc 225, 2) := by decide +kernel
theorem dX6_lots_85 : decode cX6_lots 85 = .ok (.iand, 1) := by decide +kernel
theorem dX6_lots_86 : decode cX6_lots 86 = .ok (.sipush 256, 3) := by decide +kernel
theorem dX6_lots_89 : decode cX6_lots 89 = .ok (.idiv, 1) := by decide +kernel
theorem dX6_lots_90 : decode cX6_lots 90 = .ok (.bipush 60, 2) := by decide +kernel
theorem dX6_lots_92 : decode cX6_lots 92 = .ok (.irem, 1) := by decide +kernel
theorem dX6_lots_93 : decode cX6_lots 93 = .ok (.iastore, 1) := by decide +kernel
theorem dX6_lots_94 : decode cX6_lots 94 = .ok (.iinc 6 1, 3) := by decide +kernel
theorem dX6_lots_97 : decode cX6_lots 97 = .ok (.goto (-44), 3) := by decide +kernel
theorem dX6_lots_100 : decode cX6_lots 100 = .ok (.iload 4, 2) := by decide +kernel
theorem dX6_lots_102 : decode cX6_lots 102 = .ok (.aload_n 0, 1) := by decide +kernel
theorem dX6_lots_103 : decode cX6_lots 103 = .ok (.getfield 32, 3) := by decide +kernel
theorem dX6_lots_106 : decode cX6_lots 106 = .ok (.aload_n 0, 1) := by decide +kernel
theorem dX6_lots_107 : decode cX6_lots 107 = .ok (.getfield 19, 3) := by decide +kernel
theorem dX6_lots_110 : decode cX6_lots 110 = .ok (.invokevirtual 173, 3) := by decide +kernel
theorem dX6_lots_113 : decode cX6_lots 113 = .ok (.iadd, 1) := by decide +kernel
theorem dX6_lots_114 : decode cX6_lots 114 = .ok (.istore 4, 2) := by decide +kernel
theorem dX6_lots_116 : decode cX6_lots 116 = .ok (.iinc 5 1, 3) := by decide +kernel
theorem dX6_lots_119 : decode cX6_lots 119 = .ok (.goto (-75), 3) := by decide +kernel
theorem dX6_lots_122 : decode cX6_lots 122 = .ok (.iload 4, 2) := by decide +kernel
theorem dX6_lots_124 : decode cX6_lots 124 = .ok (.ireturn, 1) := by decide +kernel
theorem dX6_image_0 : decode cX6_image 0 = .ok (.aload_n 0, 1) := by decide +kernel
theorem dX6_image_1 : decode cX6_image 1 = .ok (.getfield 16, 3) := by decide +kernel
theorem dX6_image_4 : decode cX6_image 4 = .ok (.aload_n 0, 1) := by decide +kernel
theorem dX6_image_5 : decode cX6_image 5 = .ok (.getfield 12, 3) := by decide +kernel
theorem dX6_image_8 : decode cX6_image 8 = .ok (.invokevirtual 177, 3) := by decide +kernel
theorem dX6_image_11 : decode cX6_image 11 = .ok (.aload_n 0, 1) := by decide +kernel
theorem dX6_image_12 : decode cX6_image 12 = .ok (.iconst 1, 1) := by decide +kernel
theorem dX6_image_13 : decode cX6_image 13 = .ok (.putfield 54, 3) := by decide +kernel
theorem dX6_image_16 : decode cX6_image 16 = .ok (.aload_n 0, 1) := by decide +kernel
theorem dX6_image_17 : decode cX6_image 17 = .ok (.getfield 12, 3) := by decide +kernel
theorem dX6_image_20 : decode cX6_image 20 = .ok (.getfield 220, 3) := by decide +kernel
theorem dX6_image_23 : decode cX6_image 23 = .ok (.ireturn, 1) := by decide +kernel
theorem dX6_on_0 : decode cX6_on 0 = .ok (.aload_n 0, 1) := by decide +kernel
theorem dX6_on_1 : decode cX6_on 1 = .ok (.getfield 54, 3) := by decide +kernel
theorem dX6_on_4 : decode cX6_on 4 = .ok (.ifCond .ne 10, 3) := by decide +kernel
theorem dX6_on_7 : decode cX6_on 7 = .ok (.aload_n 0, 1) := by decide +kernel
theorem dX6_on_8 : decode cX6_on 8 = .ok (.bipush (-3), 2) := by decide +kernel
theorem dX6_on_10 : decode cX6_on 10 = .ok (.invokevirtual 58, 3) := by decide +kernel
theorem dX6_on_13 : decode cX6_on 13 = .ok (.ireturn, 1) := by decide +kernel
theorem dX6_on_14 : decode cX6_on 14 = .ok (.aload_n 0, 1) := by decide +kernel
theorem dX6_on_15 : decode cX6_on 15 = .ok (.getfield 12, 3) := by decide +kernel
theorem dX6_on_18 : decode cX6_on 18 = .ok (.aload_n 0, 1) := by decide +kernel
theorem dX6_on_19 : decode cX6_on 19 = .ok (.getfield 16, 3) := by decide +kernel
theorem dX6_on_22 : decode cX6_on 22 = .ok (.invokevirtual 177, 3) := by decide +kernel
theorem dX6_on_25 : decode cX6_on 25 = .ok (.aload_n 0, 1) := by decide +kernel
theorem dX6_on_26 : decode cX6_on 26 = .ok (.getfield 12, 3) := by decide +kernel
theorem dX6_on_29 : decode cX6_on 29 = .ok (.getfield 220, 3) := by decide +kernel
theorem dX6_on_32 : decode cX6_on 32 = .ok (.ireturn, 1) := by decide +kernel
theorem dX6_count_0 : decode cX6_count 0 = .ok (.iload_n 1, 1) := by decide +kernel
theorem dX6_count_1 : decode cX6_count 1 = .ok (.tableswitch 99 0 6 #[43, 51, 59, 67, 75, 83, 91], 43) := by decide +kernel
theorem dX6_count_44 : decode cX6_count 44 = .ok (.aload_n 0, 1) := by decide +kernel
theorem dX6_count_45 : decode cX6_count 45 = .ok (.getfield 12, 3) := by decide +kernel
theorem dX6_count_48 : decode cX6_count 48 = .ok (.getfield 220, 3) := by decide +kernel
theorem dX6_count_51 : decode cX6_count 51 = .ok (.ireturn, 1) := by decide +kernel
theorem dX6_count_52 : decode cX6_count 52 = .ok (.aload_n 0, 1) := by decide +kernel
theorem dX6_count_53 : decode cX6_count 53 = .ok (.getfield 12, 3) := by decide +kernel
theorem dX6_count_56 : decode cX6_count 56 = .ok (.invokevirtual 226, 3) := by decide +kernel
theorem dX6_count_59 : decode cX6_count 59 = .ok (.ireturn, 1) := by decide +kernel
theorem dX6_count_60 : decode cX6_count 60 = .ok (.aload_n 0, 1) := by decide +kernel
theorem dX6_count_61 : decode cX6_count 61 = .ok (.getfield 12, 3) := by decide +kernel
theorem dX6_count_64 : decode cX6_count 64 = .ok (.getfield 229, 3) := by decide +kernel
theorem dX6_count_67 : decode cX6_count 67 = .ok (.ireturn, 1) := by decide +kernel
theorem dX6_count_68 : decode cX6_count 68 = .ok (.aload_n 0, 1) := by decide +kernel
theorem dX6_count_69 : decode cX6_count 69 = .ok (.getfield 12, 3) := by decide +kernel
theorem dX6_count_72 : decode cX6_count 72 = .ok (.getfield 114, 3) := by decide +kernel
theorem dX6_count_75 : decode cX6_count 75 = .ok (.ireturn, 1) := by decide +kernel
theorem dX6_count_76 : decode cX6_count 76 = .ok (.aload_n 0, 1) := by decide +kernel
theorem dX6_count_77 : decode cX6_count 77 = .ok (.getfield 12, 3) := by decide +kernel
theorem dX6_count_80 : decode cX6_count 80 = .ok (.getfield 117, 3) := by decide +kernel
theorem dX6_count_83 : decode cX6_count 83 = .ok (.ireturn, 1) := by decide +kernel
theorem dX6_count_84 : decode cX6_count 84 = .ok (.aload_n 0, 1) := by decide +kernel
theorem dX6_count_85 : decode cX6_count 85 = .ok (.getfield 46, 3) := by decide +kernel
theorem dX6_count_88 : decode cX6_count 88 = .ok (.getfield 214, 3) := by decide +kernel
theorem dX6_count_91 : decode cX6_count 91 = .ok (.ireturn, 1) := by decide +kernel
theorem dX6_count_92 : decode cX6_count 92 = .ok (.aload_n 0, 1) := by decide +kernel
theorem dX6_count_93 : decode cX6_count 93 = .ok (.getfield 25, 3) := by decide +kernel
theorem dX6_count_96 : decode cX6_count 96 = .ok (.getfield 62, 3) := by decide +kernel
theorem dX6_count_99 : decode cX6_count 99 = .ok (.ireturn, 1) := by decide +kernel
theorem dX6_count_100 : decode cX6_count 100 = .ok (.aload_n 0, 1) := by decide +kernel
theorem dX6_count_101 : decode cX6_count 101 = .ok (.iload_n 1, 1) := by decide +kernel
theorem dX6_count_102 : decode cX6_count 102 = .ok (.bipush 10, 2) := by decide +kernel
theorem dX6_count_104 : decode cX6_count 104 = .ok (.isub, 1) := by decide +kernel
theorem dX6_count_105 : decode cX6_count 105 = .ok (.invokevirtual 232, 3) := by decide +kernel
theorem dX6_count_108 : decode cX6_count 108 = .ok (.ireturn, 1) := by decide +kernel
theorem dX6_refusalsCounted_0 : decode cX6_refusalsCounted 0 = .ok (.iload_n 1, 1) := by decide +kernel
theorem dX6_refusalsCounted_1 : decode cX6_refusalsCounted 1 = .ok (.iconst 1, 1) := by decide +kernel
theorem dX6_refusalsCounted_2 : decode cX6_refusalsCounted 2 = .ok (.if_icmp .lt 18, 3) := by decide +kernel
theorem dX6_refusalsCounted_5 : decode cX6_refusalsCounted 5 = .ok (.iload_n 1, 1) := by decide +kernel
theorem dX6_refusalsCounted_6 : decode cX6_refusalsCounted 6 = .ok (.bipush 7, 2) := by decide +kernel
theorem dX6_refusalsCounted_8 : decode cX6_refusalsCounted 8 = .ok (.if_icmp .ge 12, 3) := by decide +kernel
theorem dX6_refusalsCounted_11 : decode cX6_refusalsCounted 11 = .ok (.aload_n 0, 1) := by decide +kernel
theorem dX6_refusalsCounted_12 : decode cX6_refusalsCounted 12 = .ok (.getfield 50, 3) := by decide +kernel
theorem dX6_refusalsCounted_15 : decode cX6_refusalsCounted 15 = .ok (.iload_n 1, 1) := by decide +kernel
theorem dX6_refusalsCounted_16 : decode cX6_refusalsCounted 16 = .ok (.iaload, 1) := by decide +kernel
theorem dX6_refusalsCounted_17 : decode cX6_refusalsCounted 17 = .ok (.goto 5, 3) := by decide +kernel
theorem dX6_refusalsCounted_20 : decode cX6_refusalsCounted 20 = .ok (.bipush (-9), 2) := by decide +kernel
theorem dX6_refusalsCounted_22 : decode cX6_refusalsCounted 22 = .ok (.ireturn, 1) := by decide +kernel
theorem dX6_refuse_0 : decode cX6_refuse 0 = .ok (.iload_n 1, 1) := by decide +kernel
theorem dX6_refuse_1 : decode cX6_refuse 1 = .ok (.ineg, 1) := by decide +kernel
theorem dX6_refuse_2 : decode cX6_refuse 2 = .ok (.istore_n 2, 1) := by decide +kernel
theorem dX6_refuse_3 : decode cX6_refuse 3 = .ok (.iload_n 2, 1) := by decide +kernel
theorem dX6_refuse_4 : decode cX6_refuse 4 = .ok (.iconst 1, 1) := by decide +kernel
theorem dX6_refuse_5 : decode cX6_refuse 5 = .ok (.if_icmp .lt 19, 3) := by decide +kernel
theorem dX6_refuse_8 : decode cX6_refuse 8 = .ok (.iload_n 2, 1) := by decide +kernel
theorem dX6_refuse_9 : decode cX6_refuse 9 = .ok (.bipush 7, 2) := by decide +kernel
theorem dX6_refuse_11 : decode cX6_refuse 11 = .ok (.if_icmp .ge 13, 3) := by decide +kernel
theorem dX6_refuse_14 : decode cX6_refuse 14 = .ok (.aload_n 0, 1) := by decide +kernel
theorem dX6_refuse_15 : decode cX6_refuse 15 = .ok (.getfield 50, 3) := by decide +kernel
theorem dX6_refuse_18 : decode cX6_refuse 18 = .ok (.iload_n 2, 1) := by decide +kernel
theorem dX6_refuse_19 : decode cX6_refuse 19 = .ok (.dup2, 1) := by decide +kernel
theorem dX6_refuse_20 : decode cX6_refuse 20 = .ok (.iaload, 1) := by decide +kernel
theorem dX6_refuse_21 : decode cX6_refuse 21 = .ok (.iconst 1, 1) := by decide +kernel
theorem dX6_refuse_22 : decode cX6_refuse 22 = .ok (.iadd, 1) := by decide +kernel
theorem dX6_refuse_23 : decode cX6_refuse 23 = .ok (.iastore, 1) := by decide +kernel
theorem dX6_refuse_24 : decode cX6_refuse 24 = .ok (.iload_n 1, 1) := by decide +kernel
theorem dX6_refuse_25 : decode cX6_refuse 25 = .ok (.ireturn, 1) := by decide +kernel
theorem dX6_tellStatements_0 : decode cX6_tellStatements 0 = .ok (.aload_n 0, 1) := by decide +kernel
theorem dX6_tellStatements_1 : decode cX6_tellStatements 1 = .ok (.getfield 19, 3) := by decide +kernel
theorem dX6_tellStatements_4 : decode cX6_tellStatements 4 = .ok (.aload_n 0, 1) := by decide +kernel
theorem dX6_tellStatements_5 : decode cX6_tellStatements 5 = .ok (.getfield 12, 3) := by decide +kernel
theorem dX6_tellStatements_8 : decode cX6_tellStatements 8 = .ok (.invokevirtual 177, 3) := by decide +kernel
theorem dX6_tellStatements_11 : decode cX6_tellStatements 11 = .ok (.aload_n 0, 1) := by decide +kernel
theorem dX6_tellStatements_12 : decode cX6_tellStatements 12 = .ok (.getfield 25, 3) := by decide +kernel
theorem dX6_tellStatements_15 : decode cX6_tellStatements 15 = .ok (.iconst 0, 1) := by decide +kernel
theorem dX6_tellStatements_16 : decode cX6_tellStatements 16 = .ok (.putfield 235, 3) := by decide +kernel
theorem dX6_tellStatements_19 : decode cX6_tellStatements 19 = .ok (.iconst 0, 1) := by decide +kernel
theorem dX6_tellStatements_20 : decode cX6_tellStatements 20 = .ok (.istore_n 1, 1) := by decide +kernel
theorem dX6_tellStatements_21 : decode cX6_tellStatements 21 = .ok (.iload_n 1, 1) := by decide +kernel
theorem dX6_tellStatements_22 : decode cX6_tellStatements 22 = .ok (.bipush 80, 2) := by decide +kernel
theorem dX6_tellStatements_24 : decode cX6_tellStatements 24 = .ok (.if_icmp .ge 64, 3) := by decide +kernel
theorem dX6_tellStatements_27 : decode cX6_tellStatements 27 = .ok (.aload_n 0, 1) := by decide +kernel
theorem dX6_tellStatements_28 : decode cX6_tellStatements 28 = .ok (.getfield 25, 3) := by decide +kernel
theorem dX6_tellStatements_31 : decode cX6_tellStatements 31 = .ok (.getfield 235, 3) := by decide +kernel
theorem dX6_tellStatements_34 : decode cX6_tellStatements 34 = .ok (.aload_n 0, 1) := by decide +kernel
theorem dX6_tellStatements_35 : decode cX6_tellStatements 35 = .ok (.getfield 25, 3) := by decide +kernel
theorem dX6_tellStatements_38 : decode cX6_tellStatements 38 = .ok (.getfield 62, 3) := by decide +kernel
theorem dX6_tellStatements_41 : decode cX6_tellStatements 41 = .ok (.if_icmp .ge 47, 3) := by decide +kernel
theorem dX6_tellStatements_44 : decode cX6_tellStatements 44 = .ok (.aload_n 0, 1) := by decide +kernel
theorem dX6_tellStatements_45 : decode cX6_tellStatements 45 = .ok (.getfield 25, 3) := by decide +kernel
theorem dX6_tellStatements_48 : decode cX6_tellStatements 48 = .ok (.getfield 235, 3) := by decide +kernel
theorem dX6_tellStatements_51 : decode cX6_tellStatements 51 = .ok (.istore_n 2, 1) := by decide +kernel
theorem dX6_tellStatements_52 : decode cX6_tellStatements 52 = .ok (.aload_n 0, 1) := by decide +kernel
theorem dX6_tellStatements_53 : decode cX6_tellStatements 53 = .ok (.getfield 25, 3) := by decide +kernel
theorem dX6_tellStatements_56 : decode cX6_tellStatements 56 = .ok (.invokevirtual 238, 3) := by decide +kernel
theorem dX6_tellStatements_59 : decode cX6_tellStatements 59 = .ok (.ifCond .eq 17, 3) := by decide +kernel
theorem dX6_tellStatements_62 : decode cX6_tellStatements 62 = .ok (.aload_n 0, 1) := by decide +kernel
theorem dX6_tellStatements_63 : decode cX6_tellStatements 63 = .ok (.getfield 25, 3) := by decide +kernel
theorem dX6_tellStatements_66 : decode cX6_tellStatements 66 = .ok (.aload_n 0, 1) := by decide +kernel
theorem dX6_tellStatements_67 : decode cX6_tellStatements 67 = .ok (.getfield 19, 3) := by decide +kernel
theorem dX6_tellStatements_70 : decode cX6_tellStatements 70 = .ok (.invokevirtual 242, 3) := by decide +kernel
theorem dX6_tellStatements_73 : decode cX6_tellStatements 73 = .ok (.ifCond .ne 9, 3) := by decide +kernel
theorem dX6_tellStatements_76 : decode cX6_tellStatements 76 = .ok (.sipush (-2000), 3) := by decide +kernel
theorem dX6_tellStatements_79 : decode cX6_tellStatements 79 = .ok (.iload_n 2, 1) := by decide +kernel
theorem dX6_tellStatements_80 : decode cX6_tellStatements 80 = .ok (.isub, 1) := by decide +kernel
theorem dX6_tellStatements_81 : decode cX6_tellStatements 81 = .ok (.ireturn, 1) := by decide +kernel
theorem dX6_tellStatements_82 : decode cX6_tellStatements 82 = .ok (.iinc 1 1, 3) := by decide +kernel
theorem dX6_tellStatements_85 : decode cX6_tellStatements 85 = .ok (.goto (-64), 3) := by decide +kernel
theorem dX6_tellStatements_88 : decode cX6_tellStatements 88 = .ok (.aload_n 0, 1) := by decide +kernel
theorem dX6_tellStatements_89 : decode cX6_tellStatements 89 = .ok (.getfield 12, 3) := by decide +kernel
theorem dX6_tellStatements_92 : decode cX6_tellStatements 92 = .ok (.aload_n 0, 1) := by decide +kernel
theorem dX6_tellStatements_93 : decode cX6_tellStatements 93 = .ok (.getfield 19, 3) := by decide +kernel
theorem dX6_tellStatements_96 : decode cX6_tellStatements 96 = .ok (.invokevirtual 177, 3) := by decide +kernel
theorem dX6_tellStatements_99 : decode cX6_tellStatements 99 = .ok (.iload_n 1, 1) := by decide +kernel
theorem dX6_tellStatements_100 : decode cX6_tellStatements 100 = .ok (.ireturn, 1) := by decide +kernel
theorem dX6_areTwoJobs_0 : decode cX6_areTwoJobs 0 = .ok (.aload_n 0, 1) := by decide +kernel
theorem dX6_areTwoJobs_1 : decode cX6_areTwoJobs 1 = .ok (.getfield 12, 3) := by decide +kernel
theorem dX6_areTwoJobs_4 : decode cX6_areTwoJobs 4 = .ok (.iload_n 1, 1) := by decide +kernel
theorem dX6_areTwoJobs_5 : decode cX6_areTwoJobs 5 = .ok (.invokevirtual 79, 3) := by decide +kernel
theorem dX6_areTwoJobs_8 : decode cX6_areTwoJobs 8 = .ok (.ifCond .eq 23, 3) := by decide +kernel
theorem dX6_areTwoJobs_11 : decode cX6_areTwoJobs 11 = .ok (.aload_n 0, 1) := by decide +kernel
theorem dX6_areTwoJobs_12 : decode cX6_areTwoJobs 12 = .ok (.getfield 12, 3) := by decide +kernel
theorem dX6_areTwoJobs_15 : decode cX6_areTwoJobs 15 = .ok (.iload_n 2, 1) := by decide +kernel
theorem dX6_areTwoJobs_16 : decode cX6_areTwoJobs 16 = .ok (.invokevirtual 79, 3) := by decide +kernel
theorem dX6_areTwoJobs_19 : decode cX6_areTwoJobs 19 = .ok (.ifCond .eq 12, 3) := by decide +kernel
theorem dX6_areTwoJobs_22 : decode cX6_areTwoJobs 22 = .ok (.iload_n 1, 1) := by decide +kernel
theorem dX6_areTwoJobs_23 : decode cX6_areTwoJobs 23 = .ok (.iload_n 2, 1) := by decide +kernel
theorem dX6_areTwoJobs_24 : decode cX6_areTwoJobs 24 = .ok (.if_icmp .eq 7, 3) := by decide +kernel
theorem dX6_areTwoJobs_27 : decode cX6_areTwoJobs 27 = .ok (.iconst 1, 1) := by decide +kernel
theorem dX6_areTwoJobs_28 : decode cX6_areTwoJobs 28 = .ok (.goto 4, 3) := by decide +kernel
theorem dX6_areTwoJobs_31 : decode cX6_areTwoJobs 31 = .ok (.iconst 0, 1) := by decide +kernel
theorem dX6_areTwoJobs_32 : decode cX6_areTwoJobs 32 = .ok (.ireturn, 1) := by decide +kernel
theorem dX6_isOwner_0 : decode cX6_isOwner 0 = .ok (.iload_n 0, 1) := by decide +kernel
theorem dX6_isOwner_1 : decode cX6_isOwner 1 = .ok (.ifCond .lt 12, 3) := by decide +kernel
theorem dX6_isOwner_4 : decode cX6_isOwner 4 = .ok (.iload_n 0, 1) := by decide +kernel
theorem dX6_isOwner_5 : decode cX6_isOwner 5 = .ok (.iconst 4, 1) := by decide +kernel
theorem dX6_isOwner_6 : decode cX6_isOwner 6 = .ok (.if_icmp .ge 7, 3) := by decide +kernel
theorem dX6_isOwner_9 : decode cX6_isOwner 9 = .ok (.iconst 1, 1) := by decide +kernel
theorem dX6_isOwner_10 : decode cX6_isOwner 10 = .ok (.goto 4, 3) := by decide +kernel
theorem dX6_isOwner_13 : decode cX6_isOwner 13 = .ok (.iconst 0, 1) := by decide +kernel
theorem dX6_isOwner_14 : decode cX6_isOwner 14 = .ok (.ireturn, 1) := by decide +kernel
theorem dX6_isZeroOrOne_0 : decode cX6_isZeroOrOne 0 = .ok (.iload_n 0, 1) := by decide +kernel
theorem dX6_isZeroOrOne_1 : decode cX6_isZeroOrOne 1 = .ok (.ifCond .eq 8, 3) := by decide +kernel
theorem dX6_isZeroOrOne_4 : decode cX6_isZeroOrOne 4 = .ok (.iload_n 0, 1) := by decide +kernel
theorem dX6_isZeroOrOne_5 : decode cX6_isZeroOrOne 5 = .ok (.iconst 1, 1) := by decide +kernel
theorem dX6_isZeroOrOne_6 : decode cX6_isZeroOrOne 6 = .ok (.if_icmp .ne 7, 3) := by decide +kernel
theorem dX6_isZeroOrOne_9 : decode cX6_isZeroOrOne 9 = .ok (.iconst 1, 1) := by decide +kernel
theorem dX6_isZeroOrOne_10 : decode cX6_isZeroOrOne 10 = .ok (.goto 4, 3) := by decide +kernel
theorem dX6_isZeroOrOne_13 : decode cX6_isZeroOrOne 13 = .ok (.iconst 0, 1) := by decide +kernel
theorem dX6_isZeroOrOne_14 : decode cX6_isZeroOrOne 14 = .ok (.ireturn, 1) := by decide +kernel
theorem dX6_hasBit_0 : decode cX6_hasBit 0 = .ok (.iload_n 0, 1) := by decide +kernel
theorem dX6_hasBit_1 : decode cX6_hasBit 1 = .ok (.iload_n 1, 1) := by decide +kernel
theorem dX6_hasBit_2 : decode cX6_hasBit 2 = .ok (.ishr, 1) := by decide +kernel
theorem dX6_hasBit_3 : decode cX6_hasBit 3 = .ok (.iconst 1, 1) := by decide +kernel
theorem dX6_hasBit_4 : decode cX6_hasBit 4 = .ok (.iand, 1) := by decide +kernel
theorem dX6_hasBit_5 : decode cX6_hasBit 5 = .ok (.iconst 1, 1) := by decide +kernel
theorem dX6_hasBit_6 : decode cX6_hasBit 6 = .ok (.if_icmp .ne 7, 3) := by decide +kernel
theorem dX6_hasBit_9 : decode cX6_hasBit 9 = .ok (.iconst 1, 1) := by decide +kernel
theorem dX6_hasBit_10 : decode cX6_hasBit 10 = .ok (.goto 4, 3) := by decide +kernel
theorem dX6_hasBit_13 : decode cX6_hasBit 13 = .ok (.iconst 0, 1) := by decide +kernel
theorem dX6_hasBit_14 : decode cX6_hasBit 14 = .ok (.ireturn, 1) := by decide +kernel
theorem dX6_bitsUpTo_0 : decode cX6_bitsUpTo 0 = .ok (.iconst 1, 1) := by decide +kernel
theorem dX6_bitsUpTo_1 : decode cX6_bitsUpTo 1 = .ok (.iload_n 0, 1) := by decide +kernel
theorem dX6_bitsUpTo_2 : decode cX6_bitsUpTo 2 = .ok (.iconst 1, 1) := by decide +kernel
theorem dX6_bitsUpTo_3 : decode cX6_bitsUpTo 3 = .ok (.iadd, 1) := by decide +kernel
theorem dX6_bitsUpTo_4 : decode cX6_bitsUpTo 4 = .ok (.ishl, 1) := by decide +kernel
theorem dX6_bitsUpTo_5 : decode cX6_bitsUpTo 5 = .ok (.iconst 2, 1) := by decide +kernel
theorem dX6_bitsUpTo_6 : decode cX6_bitsUpTo 6 = .ok (.isub, 1) := by decide +kernel
theorem dX6_bitsUpTo_7 : decode cX6_bitsUpTo 7 = .ok (.ireturn, 1) := by decide +kernel
