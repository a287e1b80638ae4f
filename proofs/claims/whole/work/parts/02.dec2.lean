theorem dX7_no_0 : decode cX7_no 0 = .ok (.aload_n 0, 1) := by decide +kernel
theorem dX7_no_1 : decode cX7_no 1 = .ok (.getfield 1, 3) := by decide +kernel
theorem dX7_no_4 : decode cX7_no 4 = .ok (.iload_n 1, 1) := by decide +kernel
theorem dX7_no_5 : decode cX7_no 5 = .ok (.ineg, 1) := by decide +kernel
theorem dX7_no_6 : decode cX7_no 6 = .ok (.dup2, 1) := by decide +kernel
theorem dX7_no_7 : decode cX7_no 7 = .ok (.iaload, 1) := by decide +kernel
theorem dX7_no_8 : decode cX7_no 8 = .ok (.iconst 1, 1) := by decide +kernel
theorem dX7_no_9 : decode cX7_no 9 = .ok (.iadd, 1) := by decide +kernel
theorem dX7_no_10 : decode cX7_no 10 = .ok (.iastore, 1) := by decide +kernel
theorem dX7_no_11 : decode cX7_no 11 = .ok (.iload_n 1, 1) := by decide +kernel
theorem dX7_no_12 : decode cX7_no 12 = .ok (.ireturn, 1) := by decide +kernel
theorem dX7_init_0 : decode cX7_init 0 = .ok (.aload_n 0, 1) := by decide +kernel
theorem dX7_init_1 : decode cX7_init 1 = .ok (.invokespecial 7, 3) := by decide +kernel
theorem dX7_init_4 : decode cX7_init 4 = .ok (.aload_n 0, 1) := by decide +kernel
theorem dX7_init_5 : decode cX7_init 5 = .ok (.bipush 7, 2) := by decide +kernel
theorem dX7_init_7 : decode cX7_init 7 = .ok (.newarray .int, 2) := by decide +kernel
theorem dX7_init_9 : decode cX7_init 9 = .ok (.putfield 1, 3) := by decide +kernel
theorem dX7_init_12 : decode cX7_init 12 = .ok (.aload_n 0, 1) := by decide +kernel
theorem dX7_init_13 : decode cX7_init 13 = .ok (.bipush 80, 2) := by decide +kernel
theorem dX7_init_15 : decode cX7_init 15 = .ok (.newarray .int, 2) := by decide +kernel
theorem dX7_init_17 : decode cX7_init 17 = .ok (.putfield 13, 3) := by decide +kernel
theorem dX7_init_20 : decode cX7_init 20 = .ok (.aload_n 0, 1) := by decide +kernel
theorem dX7_init_21 : decode cX7_init 21 = .ok (.bipush 80, 2) := by decide +kernel
theorem dX7_init_23 : decode cX7_init 23 = .ok (.newarray .int, 2) := by decide +kernel
theorem dX7_init_25 : decode cX7_init 25 = .ok (.putfield 16, 3) := by decide +kernel
theorem dX7_init_28 : decode cX7_init 28 = .ok (.aload_n 0, 1) := by decide +kernel
theorem dX7_init_29 : decode cX7_init 29 = .ok (.bipush 80, 2) := by decide +kernel
theorem dX7_init_31 : decode cX7_init 31 = .ok (.newarray .int, 2) := by decide +kernel
theorem dX7_init_33 : decode cX7_init 33 = .ok (.putfield 19, 3) := by decide +kernel
theorem dX7_init_36 : decode cX7_init 36 = .ok (.aload_n 0, 1) := by decide +kernel
theorem dX7_init_37 : decode cX7_init 37 = .ok (.iconst 3, 1) := by decide +kernel
theorem dX7_init_38 : decode cX7_init 38 = .ok (.newarray .char, 2) := by decide +kernel
theorem dX7_init_40 : decode cX7_init 40 = .ok (.dup, 1) := by decide +kernel
theorem dX7_init_41 : decode cX7_init 41 = .ok (.iconst 0, 1) := by decide +kernel
theorem dX7_init_42 : decode cX7_init 42 = .ok (.bipush 106, 2) := by decide +kernel
theorem dX7_init_44 : decode cX7_init 44 = .ok (.castore, 1) := by decide +kernel
theorem dX7_init_45 : decode cX7_init 45 = .ok (.dup, 1) := by decide +kernel
theorem dX7_init_46 : decode cX7_init 46 = .ok (.iconst 1, 1) := by decide +kernel
theorem dX7_init_47 : decode cX7_init 47 = .ok (.bipush 109, 2) := by decide +kernel
theorem dX7_init_49 : decode cX7_init 49 = .ok (.castore, 1) := by decide +kernel
theorem dX7_init_50 : decode cX7_init 50 = .ok (.dup, 1) := by decide +kernel
theorem dX7_init_51 : decode cX7_init 51 = .ok (.iconst 2, 1) := by decide +kernel
theorem dX7_init_52 : decode cX7_init 52 = .ok (.bipush 116, 2) := by decide +kernel
theorem dX7_init_54 : decode cX7_init 54 = .ok (.castore, 1) := by decide +kernel
theorem dX7_init_55 : decode cX7_init 55 = .ok (.putfield 22, 3) := by decide +kernel
theorem dX7_init_58 : decode cX7_init 58 = .ok (.aload_n 0, 1) := by decide +kernel
theorem dX7_init_59 : decode cX7_init 59 = .ok (.bipush 6, 2) := by decide +kernel
theorem dX7_init_61 : decode cX7_init 61 = .ok (.newarray .char, 2) := by decide +kernel
theorem dX7_init_63 : decode cX7_init 63 = .ok (.dup, 1) := by decide +kernel
theorem dX7_init_64 : decode cX7_init 64 = .ok (.iconst 0, 1) := by decide +kernel
theorem dX7_init_65 : decode cX7_init 65 = .ok (.bipush 102, 2) := by decide +kernel
theorem dX7_init_67 : decode cX7_init 67 = .ok (.castore, 1) := by decide +kernel
theorem dX7_init_68 : decode cX7_init 68 = .ok (.dup, 1) := by decide +kernel
theorem dX7_init_69 : decode cX7_init 69 = .ok (.iconst 1, 1) := by decide +kernel
theorem dX7_init_70 : decode cX7_init 70 = .ok (.bipush 115, 2) := by decide +kernel
theorem dX7_init_72 : decode cX7_init 72 = .ok (.castore, 1) := by decide +kernel
theorem dX7_init_73 : decode cX7_init 73 = .ok (.dup, 1) := by decide +kernel
theorem dX7_init_74 : decode cX7_init 74 = .ok (.iconst 2, 1) := by decide +kernel
theorem dX7_init_75 : decode cX7_init 75 = .ok (.bipush 116, 2) := by decide +kernel
theorem dX7_init_77 : decode cX7_init 77 = .ok (.castore, 1) := by decide +kernel
theorem dX7_init_78 : decode cX7_init 78 = .ok (.dup, 1) := by decide +kernel
theorem dX7_init_79 : decode cX7_init 79 = .ok (.iconst 3, 1) := by decide +kernel
theorem dX7_init_80 : decode cX7_init 80 = .ok (.bipush 111, 2) := by decide +kernel
theorem dX7_init_82 : decode cX7_init 82 = .ok (.castore, 1) := by decide +kernel
theorem dX7_init_83 : decode cX7_init 83 = .ok (.dup, 1) := by decide +kernel
theorem dX7_init_84 : decode cX7_init 84 = .ok (.iconst 4, 1) := by decide +kernel
theorem dX7_init_85 : decode cX7_init 85 = .ok (.bipush 97, 2) := by decide +kernel
theorem dX7_init_87 : decode cX7_init 87 = .ok (.castore, 1) := by decide +kernel
theorem dX7_init_88 : decode cX7_init 88 = .ok (.dup, 1) := by decide +kernel
theorem dX7_init_89 : decode cX7_init 89 = .ok (.iconst 5, 1) := by decide +kernel
theorem dX7_init_90 : decode cX7_init 90 = .ok (.bipush 98, 2) := by decide +kernel
theorem dX7_init_92 : decode cX7_init 92 = .ok (.castore, 1) := by decide +kernel
theorem dX7_init_93 : decode cX7_init 93 = .ok (.putfield 26, 3) := by decide +kernel
theorem dX7_init_96 : decode cX7_init 96 = .ok (.aload_n 0, 1) := by decide +kernel
theorem dX7_init_97 : decode cX7_init 97 = .ok (.bipush 6, 2) := by decide +kernel
theorem dX7_init_99 : decode cX7_init 99 = .ok (.newarray .char, 2) := by decide +kernel
theorem dX7_init_101 : decode cX7_init 101 = .ok (.dup, 1) := by decide +kernel
theorem dX7_init_102 : decode cX7_init 102 = .ok (.iconst 0, 1) := by decide +kernel
theorem dX7_init_103 : decode cX7_init 103 = .ok (.bipush 97, 2) := by decide +kernel
theorem dX7_init_105 : decode cX7_init 105 = .ok (.castore, 1) := by decide +kernel
theorem dX7_init_106 : decode cX7_init 106 = .ok (.dup, 1) := by decide +kernel
theorem dX7_init_107 : decode cX7_init 107 = .ok (.iconst 1, 1) := by decide +kernel
theorem dX7_init_108 : decode cX7_init 108 = .ok (.bipush 111, 2) := by decide +kernel
theorem dX7_init_110 : decode cX7_init 110 = .ok (.castore, 1) := by decide +kernel
theorem dX7_init_111 : decode cX7_init 111 = .ok (.dup, 1) := by decide +kernel
theorem dX7_init_112 : decode cX7_init 112 = .ok (.iconst 2, 1) := by decide +kernel
theorem dX7_init_113 : decode cX7_init 113 = .ok (.bipush 104, 2) := by decide +kernel
theorem dX7_init_115 : decode cX7_init 115 = .ok (.castore, 1) := by decide +kernel
theorem dX7_init_116 : decode cX7_init 116 = .ok (.dup, 1) := by decide +kernel
theorem dX7_init_117 : decode cX7_init 117 = .ok (.iconst 3, 1) := by decide +kernel
theorem dX7_init_118 : decode cX7_init 118 = .ok (.bipush 110, 2) := by decide +kernel
theorem dX7_init_120 : decode cX7_init 120 = .ok (.castore, 1) := by decide +kernel
theorem dX7_init_121 : decode cX7_init 121 = .ok (.dup, 1) := by decide +kernel
theorem dX7_init_122 : decode cX7_init 122 = .ok (.iconst 4, 1) := by decide +kernel
theorem dX7_init_123 : decode cX7_init 123 = .ok (.bipush 100, 2) := by decide +kernel
theorem dX7_init_125 : decode cX7_init 125 = .ok (.castore, 1) := by decide +kernel
theorem dX7_init_126 : decode cX7_init 126 = .ok (.dup, 1) := by decide +kernel
theorem dX7_init_127 : decode cX7_init 127 = .ok (.iconst 5, 1) := by decide +kernel
theorem dX7_init_128 : decode cX7_init 128 = .ok (.bipush 99, 2) := by decide +kernel
theorem dX7_init_130 : decode cX7_init 130 = .ok (.castore, 1) := by decide +kernel
theorem dX7_init_131 : decode cX7_init 131 = .ok (.putfield 29, 3) := by decide +kernel
theorem dX7_init_134 : decode cX7_init 134 = .ok (.aload_n 0, 1) := by decide +kernel
theorem dX7_init_135 : decode cX7_init 135 = .ok (.iconst 4, 1) := by decide +kernel
theorem dX7_init_136 : decode cX7_init 136 = .ok (.newarray .int, 2) := by decide +kernel
theorem dX7_init_138 : decode cX7_init 138 = .ok (.putfield 32, 3) := by decide +kernel
theorem dX7_init_141 : decode cX7_init 141 = .ok (.aload_n 0, 1) := by decide +kernel
theorem dX7_init_142 : decode cX7_init 142 = .ok (.bipush 6, 2) := by decide +kernel
theorem dX7_init_144 : decode cX7_init 144 = .ok (.newarray .int, 2) := by decide +kernel
theorem dX7_init_146 : decode cX7_init 146 = .ok (.putfield 35, 3) := by decide +kernel
theorem dX7_init_149 : decode cX7_init 149 = .ok (.aload_n 0, 1) := by decide +kernel
theorem dX7_init_150 : decode cX7_init 150 = .ok (.bipush 100, 2) := by decide +kernel
theorem dX7_init_152 : decode cX7_init 152 = .ok (.newarray .int, 2) := by decide +kernel
theorem dX7_init_154 : decode cX7_init 154 = .ok (.putfield 38, 3) := by decide +kernel
theorem dX7_init_157 : decode cX7_init 157 = .ok (.aload_n 0, 1) := by decide +kernel
theorem dX7_init_158 : decode cX7_init 158 = .ok (.bipush 100, 2) := by decide +kernel
theorem dX7_init_160 : decode cX7_init 160 = .ok (.newarray .int, 2) := by decide +kernel
theorem dX7_init_162 : decode cX7_init 162 = .ok (.putfield 41, 3) := by decide +kernel
theorem dX7_init_165 : decode cX7_init 165 = .ok (.aload_n 0, 1) := by decide +kernel
theorem dX7_init_166 : decode cX7_init 166 = .ok (.bipush 100, 2) := by decide +kernel
theorem dX7_init_168 : decode cX7_init 168 = .ok (.newarray .int, 2) := by decide +kernel
theorem dX7_init_170 : decode cX7_init 170 = .ok (.putfield 44, 3) := by decide +kernel
theorem dX7_init_173 : decode cX7_init 173 = .ok (.aload_n 0, 1) := by decide +kernel
theorem dX7_init_174 : decode cX7_init 174 = .ok (.bipush 60, 2) := by decide +kernel
theorem dX7_init_176 : decode cX7_init 176 = .ok (.newarray .int, 2) := by decide +kernel
theorem dX7_init_178 : decode cX7_init 178 = .ok (.putfield 47, 3) := by decide +kernel
theorem dX7_init_181 : decode cX7_init 181 = .ok (.aload_n 0, 1) := by decide +kernel
theorem dX7_init_182 : decode cX7_init 182 = .ok (.bipush 6, 2) := by decide +kernel
theorem dX7_init_184 : decode cX7_init 184 = .ok (.newarray .boolean, 2) := by decide +kernel
theorem dX7_init_186 : decode cX7_init 186 = .ok (.putfield 50, 3) := by decide +kernel
theorem dX7_init_189 : decode cX7_init 189 = .ok (.aload_n 0, 1) := by decide +kernel
theorem dX7_init_190 : decode cX7_init 190 = .ok (.bipush 20, 2) := by decide +kernel
theorem dX7_init_192 : decode cX7_init 192 = .ok (.newarray .int, 2) := by decide +kernel
theorem dX7_init_194 : decode cX7_init 194 = .ok (.putfield 54, 3) := by decide +kernel
theorem dX7_init_197 : decode cX7_init 197 = .ok (.aload_n 0, 1) := by decide +kernel
theorem dX7_init_198 : decode cX7_init 198 = .ok (.sipush 1000, 3) := by decide +kernel
theorem dX7_init_201 : decode cX7_init 201 = .ok (.newarray .int, 2) := by decide +kernel
theorem dX7_init_203 : decode cX7_init 203 = .ok (.putfield 57, 3) := by decide +kernel
theorem dX7_init_206 : decode cX7_init 206 = .ok (.return_, 1) := by decide +kernel
theorem dX7_image_0 : decode cX7_image 0 = .ok (.aload_n 0, 1) := by decide +kernel
theorem dX7_image_1 : decode cX7_image 1 = .ok (.iconst 1, 1) := by decide +kernel
theorem dX7_image_2 : decode cX7_image 2 = .ok (.putfield 60, 3) := by decide +kernel
theorem dX7_image_5 : decode cX7_image 5 = .ok (.iconst 0, 1) := by decide +kernel
theorem dX7_image_6 : decode cX7_image 6 = .ok (.istore_n 1, 1) := by decide +kernel
theorem dX7_image_7 : decode cX7_image 7 = .ok (.iload_n 1, 1) := by decide +kernel
theorem dX7_image_8 : decode cX7_image 8 = .ok (.bipush 80, 2) := by decide +kernel
theorem dX7_image_10 : decode cX7_image 10 = .ok (.if_icmp .ge 21, 3) := by decide +kernel
theorem dX7_image_13 : decode cX7_image 13 = .ok (.aload_n 0, 1) := by decide +kernel
theorem dX7_image_14 : decode cX7_image 14 = .ok (.getfield 16, 3) := by decide +kernel
theorem dX7_image_17 : decode cX7_image 17 = .ok (.iload_n 1, 1) := by decide +kernel
theorem dX7_image_18 : decode cX7_image 18 = .ok (.aload_n 0, 1) := by decide +kernel
theorem dX7_image_19 : decode cX7_image 19 = .ok (.getfield 13, 3) := by decide +kernel
theorem dX7_image_22 : decode cX7_image 22 = .ok (.iload_n 1, 1) := by decide +kernel
theorem dX7_image_23 : decode cX7_image 23 = .ok (.iaload, 1) := by decide +kernel
theorem dX7_image_24 : decode cX7_image 24 = .ok (.iastore, 1) := by decide +kernel
theorem dX7_image_25 : decode cX7_image 25 = .ok (.iinc 1 1, 3) := by decide +kernel
theorem dX7_image_28 : decode cX7_image 28 = .ok (.goto (-21), 3) := by decide +kernel
theorem dX7_image_31 : decode cX7_image 31 = .ok (.aload_n 0, 1) := by decide +kernel
theorem dX7_image_32 : decode cX7_image 32 = .ok (.getfield 13, 3) := by decide +kernel
theorem dX7_image_35 : decode cX7_image 35 = .ok (.iconst 0, 1) := by decide +kernel
theorem dX7_image_36 : decode cX7_image 36 = .ok (.iaload, 1) := by decide +kernel
theorem dX7_image_37 : decode cX7_image 37 = .ok (.ireturn, 1) := by decide +kernel
theorem dX7_on_0 : decode cX7_on 0 = .ok (.aload_n 0, 1) := by decide +kernel
theorem dX7_on_1 : decode cX7_on 1 = .ok (.getfield 60, 3) := by decide +kernel
theorem dX7_on_4 : decode cX7_on 4 = .ok (.ifCond .ne 10, 3) := by decide +kernel
theorem dX7_on_7 : decode cX7_on 7 = .ok (.aload_n 0, 1) := by decide +kernel
theorem dX7_on_8 : decode cX7_on 8 = .ok (.bipush (-3), 2) := by decide +kernel
theorem dX7_on_10 : decode cX7_on 10 = .ok (.invokevirtual 64, 3) := by decide +kernel
theorem dX7_on_13 : decode cX7_on 13 = .ok (.ireturn, 1) := by decide +kernel
theorem dX7_on_14 : decode cX7_on 14 = .ok (.iconst 0, 1) := by decide +kernel
theorem dX7_on_15 : decode cX7_on 15 = .ok (.istore_n 1, 1) := by decide +kernel
theorem dX7_on_16 : decode cX7_on 16 = .ok (.iload_n 1, 1) := by decide +kernel
theorem dX7_on_17 : decode cX7_on 17 = .ok (.bipush 80, 2) := by decide +kernel
theorem dX7_on_19 : decode cX7_on 19 = .ok (.if_icmp .ge 21, 3) := by decide +kernel
theorem dX7_on_22 : decode cX7_on 22 = .ok (.aload_n 0, 1) := by decide +kernel
theorem dX7_on_23 : decode cX7_on 23 = .ok (.getfield 13, 3) := by decide +kernel
theorem dX7_on_26 : decode cX7_on 26 = .ok (.iload_n 1, 1) := by decide +kernel
theorem dX7_on_27 : decode cX7_on 27 = .ok (.aload_n 0, 1) := by decide +kernel
theorem dX7_on_28 : decode cX7_on 28 = .ok (.getfield 16, 3) := by decide +kernel
theorem dX7_on_31 : decode cX7_on 31 = .ok (.iload_n 1, 1) := by decide +kernel
theorem dX7_on_32 : decode cX7_on 32 = .ok (.iaload, 1) := by decide +kernel
theorem dX7_on_33 : decode cX7_on 33 = .ok (.iastore, 1) := by decide +kernel
theorem dX7_on_34 : decode cX7_on 34 = .ok (.iinc 1 1, 3) := by decide +kernel
theorem dX7_on_37 : decode cX7_on 37 = .ok (.goto (-21), 3) := by decide +kernel
theorem dX7_on_40 : decode cX7_on 40 = .ok (.aload_n 0, 1) := by decide +kernel
theorem dX7_on_41 : decode cX7_on 41 = .ok (.getfield 13, 3) := by decide +kernel
theorem dX7_on_44 : decode cX7_on 44 = .ok (.iconst 0, 1) := by decide +kernel
theorem dX7_on_45 : decode cX7_on 45 = .ok (.iaload, 1) := by decide +kernel
theorem dX7_on_46 : decode cX7_on 46 = .ok (.ireturn, 1) := by decide +kernel
theorem dX7_letter_0 : decode cX7_letter 0 = .ok (.iload_n 1, 1) := by decide +kernel
theorem dX7_letter_1 : decode cX7_letter 1 = .ok (.ifCond .ge 10, 3) := by decide +kernel
theorem dX7_letter_4 : decode cX7_letter 4 = .ok (.aload_n 0, 1) := by decide +kernel
theorem dX7_letter_5 : decode cX7_letter 5 = .ok (.bipush (-4), 2) := by decide +kernel
theorem dX7_letter_7 : decode cX7_letter 7 = .ok (.invokevirtual 64, 3) := by decide +kernel
theorem dX7_letter_10 : decode cX7_letter 10 = .ok (.ireturn, 1) := by decide +kernel
theorem dX7_letter_11 : decode cX7_letter 11 = .ok (.iload_n 1, 1) := by decide +kernel
theorem dX7_letter_12 : decode cX7_letter 12 = .ok (.sipush 255, 3) := by decide +kernel
theorem dX7_letter_15 : decode cX7_letter 15 = .ok (.if_icmp .gt 12, 3) := by decide +kernel
theorem dX7_letter_18 : decode cX7_letter 18 = .ok (.aload_n 0, 1) := by decide +kernel
theorem dX7_letter_19 : decode cX7_letter 19 = .ok (.getfield 68, 3) := by decide +kernel
theorem dX7_letter_22 : decode cX7_letter 22 = .ok (.bipush 80, 2) := by decide +kernel
theorem dX7_letter_24 : decode cX7_letter 24 = .ok (.if_icmp .ne 10, 3) := by decide +kernel
theorem dX7_letter_27 : decode cX7_letter 27 = .ok (.aload_n 0, 1) := by decide +kernel
theorem dX7_letter_28 : decode cX7_letter 28 = .ok (.bipush (-6), 2) := by decide +kernel
theorem dX7_letter_30 : decode cX7_letter 30 = .ok (.invokevirtual 64, 3) := by decide +kernel
theorem dX7_letter_33 : decode cX7_letter 33 = .ok (.ireturn, 1) := by decide +kernel
theorem dX7_letter_34 : decode cX7_letter 34 = .ok (.aload_n 0, 1) := by decide +kernel
theorem dX7_letter_35 : decode cX7_letter 35 = .ok (.getfield 19, 3) := by decide +kernel
theorem dX7_letter_38 : decode cX7_letter 38 = .ok (.aload_n 0, 1) := by decide +kernel
theorem dX7_letter_39 : decode cX7_letter 39 = .ok (.getfield 68, 3) := by decide +kernel
theorem dX7_letter_42 : decode cX7_letter 42 = .ok (.iload_n 1, 1) := by decide +kernel
theorem dX7_letter_43 : decode cX7_letter 43 = .ok (.iastore, 1) := by decide +kernel
theorem dX7_letter_44 : decode cX7_letter 44 = .ok (.aload_n 0, 1) := by decide +kernel
theorem dX7_letter_45 : decode cX7_letter 45 = .ok (.dup, 1) := by decide +kernel
theorem dX7_letter_46 : decode cX7_letter 46 = .ok (.getfield 68, 3) := by decide +kernel
theorem dX7_letter_49 : decode cX7_letter 49 = .ok (.iconst 1, 1) := by decide +kernel
theorem dX7_letter_50 : decode cX7_letter 50 = .ok (.iadd, 1) := by decide +kernel
theorem dX7_letter_51 : decode cX7_letter 51 = .ok (.putfield 68, 3) := by decide +kernel
theorem dX7_letter_54 : decode cX7_letter 54 = .ok (.aload_n 0, 1) := by decide +kernel
theorem dX7_letter_55 : decode cX7_letter 55 = .ok (.getfield 68, 3) := by decide +kernel
theorem dX7_letter_58 : decode cX7_letter 58 = .ok (.ireturn, 1) := by decide +kernel
theorem dX7_expect_0 : decode cX7_expect 0 = .ok (.aload_n 0, 1) := by decide +kernel
theorem dX7_expect_1 : decode cX7_expect 1 = .ok (.getfield 72, 3) := by decide +kernel
theorem dX7_expect_4 : decode cX7_expect 4 = .ok (.ifCond .eq 40, 3) := by decide +kernel
theorem dX7_expect_7 : decode cX7_expect 7 = .ok (.aload_n 0, 1) := by decide +kernel
theorem dX7_expect_8 : decode cX7_expect 8 = .ok (.getfield 75, 3) := by decide +kernel
theorem dX7_expect_11 : decode cX7_expect 11 = .ok (.aload_n 0, 1) := by decide +kernel
theorem dX7_expect_12 : decode cX7_expect 12 = .ok (.getfield 68, 3) := by decide +kernel
theorem dX7_expect_15 : decode cX7_expect 15 = .ok (.if_icmp .ge 29, 3) := by decide +kernel
theorem dX7_expect_18 : decode cX7_expect 18 = .ok (.aload_n 0, 1) := by decide +kernel
theorem dX7_expect_19 : decode cX7_expect 19 = .ok (.getfield 19, 3) := by decide +kernel
theorem dX7_expect_22 : decode cX7_expect 22 = .ok (.aload_n 0, 1) := by decide +kernel
theorem dX7_expect_23 : decode cX7_expect 23 = .ok (.getfield 75, 3) := by decide +kernel
theorem dX7_expect_26 : decode cX7_expect 26 = .ok (.iaload, 1) := by decide +kernel
theorem dX7_expect_27 : decode cX7_expect 27 = .ok (.iload_n 1, 1) := by decide +kernel
theorem dX7_expect_28 : decode cX7_expect 28 = .ok (.if_icmp .ne 16, 3) := by decide +kernel
theorem dX7_expect_31 : decode cX7_expect 31 = .ok (.aload_n 0, 1) := by decide +kernel
theorem dX7_expect_32 : decode cX7_expect 32 = .ok (.dup, 1) := by decide +kernel
theorem dX7_expect_33 : decode cX7_expect 33 = .ok (.getfield 75, 3) := by decide +kernel
theorem dX7_expect_36 : decode cX7_expect 36 = .ok (.iconst 1, 1) := by decide +kernel
theorem dX7_expect_37 : decode cX7_expect 37 = .ok (.iadd, 1) := by decide +kernel
theorem dX7_expect_38 : decode cX7_expect 38 = .ok (.putfield 75, 3) := by decide +kernel
theorem dX7_expect_41 : decode cX7_expect 41 = .ok (.goto 8, 3) := by decide +kernel
theorem dX7_expect_44 : decode cX7_expect 44 = .ok (.aload_n 0, 1) := by decide +kernel
theorem dX7_expect_45 : decode cX7_expect 45 = .ok (.iconst 0, 1) := by decide +kernel
theorem dX7_expect_46 : decode cX7_expect 46 = .ok (.putfield 72, 3) := by decide +kernel
theorem dX7_expect_49 : decode cX7_expect 49 = .ok (.return_, 1) := by decide +kernel
theorem dX7_oneOf_0 : decode cX7_oneOf 0 = .ok (.iconst 0, 1) := by decide +kernel
theorem dX7_oneOf_1 : decode cX7_oneOf 1 = .ok (.istore_n 2, 1) := by decide +kernel
theorem dX7_oneOf_2 : decode cX7_oneOf 2 = .ok (.iload_n 2, 1) := by decide +kernel
theorem dX7_oneOf_3 : decode cX7_oneOf 3 = .ok (.aload_n 1, 1) := by decide +kernel
theorem dX7_oneOf_4 : decode cX7_oneOf 4 = .ok (.arraylength, 1) := by decide +kernel
theorem dX7_oneOf_5 : decode cX7_oneOf 5 = .ok (.if_icmp .ge 54, 3) := by decide +kernel
theorem dX7_oneOf_8 : decode cX7_oneOf 8 = .ok (.aload_n 0, 1) := by decide +kernel
theorem dX7_oneOf_9 : decode cX7_oneOf 9 = .ok (.getfield 72, 3) := by decide +kernel
theorem dX7_oneOf_12 : decode cX7_oneOf 12 = .ok (.ifCond .eq 41, 3) := by decide +kernel
theorem dX7_oneOf_15 : decode cX7_oneOf 15 = .ok (.aload_n 0, 1) := by decide +kernel
theorem dX7_oneOf_16 : decode cX7_oneOf 16 = .ok (.getfield 75, 3) := by decide +kernel
theorem dX7_oneOf_19 : decode cX7_oneOf 19 = .ok (.aload_n 0, 1) := by decide +kernel
theorem dX7_oneOf_20 : decode cX7_oneOf 20 = .ok (.getfield 68, 3) := by decide +kernel
theorem dX7_oneOf_23 : decode cX7_oneOf 23 = .ok (.if_icmp .ge 30, 3) := by decide +kernel
theorem dX7_oneOf_26 : decode cX7_oneOf 26 = .ok (.aload_n 0, 1) := by decide +kernel
theorem dX7_oneOf_27 : decode cX7_oneOf 27 = .ok (.getfield 19, 3) := by decide +kernel
theorem dX7_oneOf_30 : decode cX7_oneOf 30 = .ok (.aload_n 0, 1) := by decide +kernel
theorem dX7_oneOf_31 : decode cX7_oneOf 31 = .ok (.getfield 75, 3) := by decide +kernel
theorem dX7_oneOf_34 : decode cX7_oneOf 34 = .ok (.iaload, 1) := by decide +kernel
theorem dX7_oneOf_35 : decode cX7_oneOf 35 = .ok (.aload_n 1, 1) := by decide +kernel
theorem dX7_oneOf_36 : decode cX7_oneOf 36 = .ok (.iload_n 2, 1) := by decide +kernel
theorem dX7_oneOf_37 : decode cX7_oneOf 37 = .ok (.caload, 1) := by decide +kernel
theorem dX7_oneOf_38 : decode cX7_oneOf 38 = .ok (.if_icmp .ne 15, 3) := by decide +kernel
theorem dX7_oneOf_41 : decode cX7_oneOf 41 = .ok (.aload_n 0, 1) := by decide +kernel
theorem dX7_oneOf_42 : decode cX7_oneOf 42 = .ok (.dup, 1) := by decide +kernel
theorem dX7_oneOf_43 : decode cX7_oneOf 43 = .ok (.getfield 75, 3) := by decide +kernel
theorem dX7_oneOf_46 : decode cX7_oneOf 46 = .ok (.iconst 1, 1) := by decide +kernel
theorem dX7_oneOf_47 : decode cX7_oneOf 47 = .ok (.iadd, 1) := by decide +kernel
theorem dX7_oneOf_48 : decode cX7_oneOf 48 = .ok (.putfield 75, 3) := by decide +kernel
theorem dX7_oneOf_51 : decode cX7_oneOf 51 = .ok (.iload_n 2, 1) := by decide +kernel
theorem dX7_oneOf_52 : decode cX7_oneOf 52 = .ok (.ireturn, 1) := by decide +kernel
theorem dX7_oneOf_53 : decode cX7_oneOf 53 = .ok (.iinc 2 1, 3) := by decide +kernel
theorem dX7_oneOf_56 : decode cX7_oneOf 56 = .ok (.goto (-54), 3) := by decide +kernel
theorem dX7_oneOf_59 : decode cX7_oneOf 59 = .ok (.aload_n 0, 1) := by decide +kernel
theorem dX7_oneOf_60 : decode cX7_oneOf 60 = .ok (.iconst 0, 1) := by decide +kernel
theorem dX7_oneOf_61 : decode cX7_oneOf 61 = .ok (.putfield 72, 3) := by decide +kernel
theorem dX7_oneOf_64 : decode cX7_oneOf 64 = .ok (.iconst 0, 1) := by decide +kernel
theorem dX7_oneOf_65 : decode cX7_oneOf 65 = .ok (.ireturn, 1) := by decide +kernel
theorem dX7_figures_0 : decode cX7_figures 0 = .ok (.iconst 0, 1) := by decide +kernel
theorem dX7_figures_1 : decode cX7_figures 1 = .ok (.istore_n 2, 1) := by decide +kernel
theorem dX7_figures_2 : decode cX7_figures 2 = .ok (.iconst 0, 1) := by decide +kernel
theorem dX7_figures_3 : decode cX7_figures 3 = .ok (.istore_n 3, 1) := by decide +kernel
theorem dX7_figures_4 : decode cX7_figures 4 = .ok (.aload_n 0, 1) := by decide +kernel
theorem dX7_figures_5 : decode cX7_figures 5 = .ok (.getfield 72, 3) := by decide +kernel
theorem dX7_figures_8 : decode cX7_figures 8 = .ok (.ifCond .eq 81, 3) := by decide +kernel
theorem dX7_figures_11 : decode cX7_figures 11 = .ok (.iload_n 3, 1) := by decide +kernel
theorem dX7_figures_12 : decode cX7_figures 12 = .ok (.iload_n 1, 1) := by decide +kernel
theorem dX7_figures_13 : decode cX7_figures 13 = .ok (.if_icmp .ge 76, 3) := by decide +kernel
theorem dX7_figures_16 : decode cX7_figures 16 = .ok (.aload_n 0, 1) := by decide +kernel
theorem dX7_figures_17 : decode cX7_figures 17 = .ok (.getfield 75, 3) := by decide +kernel
theorem dX7_figures_20 : decode cX7_figures 20 = .ok (.aload_n 0, 1) := by decide +kernel
theorem dX7_figures_21 : decode cX7_figures 21 = .ok (.getfield 68, 3) := by decide +kernel
theorem dX7_figures_24 : decode cX7_figures 24 = .ok (.if_icmp .ge 65, 3) := by decide +kernel
theorem dX7_figures_27 : decode cX7_figures 27 = .ok (.aload_n 0, 1) := by decide +kernel
theorem dX7_figures_28 : decode cX7_figures 28 = .ok (.getfield 19, 3) := by decide +kernel
theorem dX7_figures_31 : decode cX7_figures 31 = .ok (.aload_n 0, 1) := by decide +kernel
theorem dX7_figures_32 : decode cX7_figures 32 = .ok (.getfield 75, 3) := by decide +kernel
theorem dX7_figures_35 : decode cX7_figures 35 = .ok (.iaload, 1) := by decide +kernel
theorem dX7_figures_36 : decode cX7_figures 36 = .ok (.bipush 48, 2) := by decide +kernel
theorem dX7_figures_38 : decode cX7_figures 38 = .ok (.if_icmp .lt 51, 3) := by decide +kernel
theorem dX7_figures_41 : decode cX7_figures 41 = .ok (.aload_n 0, 1) := by decide +kernel
theorem dX7_figures_42 : decode cX7_figures 42 = .ok (.getfield 19, 3) := by decide +kernel
theorem dX7_figures_45 : decode cX7_figures 45 = .ok (.aload_n 0, 1) := by decide +kernel
theorem dX7_figures_46 : decode cX7_figures 46 = .ok (.getfield 75, 3) := by decide +kernel
theorem dX7_figures_49 : decode cX7_figures 49 = .ok (.iaload, 1) := by decide +kernel
theorem dX7_figures_50 : decode cX7_figures 50 = .ok (.bipush 57, 2) := by decide +kernel
theorem dX7_figures_52 : decode cX7_figures 52 = .ok (.if_icmp .gt 37, 3) := by decide +kernel
theorem dX7_figures_55 : decode cX7_figures 55 = .ok (.bipush 10, 2) := by decide +kernel
theorem dX7_figures_57 : decode cX7_figures 57 = .ok (.iload_n 2, 1) := by decide +kernel
theorem dX7_figures_58 : decode cX7_figures 58 = .ok (.imul, 1) := by decide +kernel
theorem dX7_figures_59 : decode cX7_figures 59 = .ok (.aload_n 0, 1) := by decide +kernel
theorem dX7_figures_60 : decode cX7_figures 60 = .ok (.getfield 19, 3) := by decide +kernel
theorem dX7_figures_63 : decode cX7_figures 63 = .ok (.aload_n 0, 1) := by decide +kernel
theorem dX7_figures_64 : decode cX7_figures 64 = .ok (.getfield 75, 3) := by decide +kernel
theorem dX7_figures_67 : decode cX7_figures 67 = .ok (.iaload, 1) := by decide +kernel
theorem dX7_figures_68 : decode cX7_figures 68 = .ok (.iadd, 1) := by decide +kernel
theorem dX7_figures_69 : decode cX7_figures 69 = .ok (.bipush 48, 2) := by decide +kernel
theorem dX7_figures_71 : decode cX7_figures 71 = .ok (.isub, 1) := by decide +kernel
theorem dX7_figures_72 : decode cX7_figures 72 = .ok (.istore_n 2, 1) := by decide +kernel
theorem dX7_figures_73 : decode cX7_figures 73 = .ok (.aload_n 0, 1) := by decide +kernel
theorem dX7_figures_74 : decode cX7_figures 74 = .ok (.dup, 1) := by decide +kernel
theorem dX7_figures_75 : decode cX7_figures 75 = .ok (.getfield 75, 3) := by decide +kernel
theorem dX7_figures_78 : decode cX7_figures 78 = .ok (.iconst 1, 1) := by decide +kernel
theorem dX7_figures_79 : decode cX7_figures 79 = .ok (.iadd, 1) := by decide +kernel
theorem dX7_figures_80 : decode cX7_figures 80 = .ok (.putfield 75, 3) := by decide +kernel
theorem dX7_figures_83 : decode cX7_figures 83 = .ok (.iinc 3 1, 3) := by decide +kernel
theorem dX7_figures_86 : decode cX7_figures 86 = .ok (.goto (-82), 3) := by decide +kernel
theorem dX7_figures_89 : decode cX7_figures 89 = .ok (.aload_n 0, 1) := by decide +kernel
theorem dX7_figures_90 : decode cX7_figures 90 = .ok (.aload_n 0, 1) := by decide +kernel
theorem dX7_figures_91 : decode cX7_figures 91 = .ok (.getfield 72, 3) := by decide +kernel
theorem dX7_figures_94 : decode cX7_figures 94 = .ok (.ifCond .eq 11, 3) := by decide +kernel
theorem dX7_figures_97 : decode cX7_figures 97 = .ok (.iload_n 3, 1) := by decide +kernel
theorem dX7_figures_98 : decode cX7_figures 98 = .ok (.ifCond .le 7, 3) := by decide +kernel
theorem dX7_figures_101 : decode cX7_figures 101 = .ok (.iconst 1, 1) := by decide +kernel
theorem dX7_figures_102 : decode cX7_figures 102 = .ok (.goto 4, 3) := by decide +kernel
theorem dX7_figures_105 : decode cX7_figures 105 = .ok (.iconst 0, 1) := by decide +kernel
theorem dX7_figures_106 : decode cX7_figures 106 = .ok (.putfield 72, 3) := by decide +kernel
theorem dX7_figures_109 : decode cX7_figures 109 = .ok (.iload_n 2, 1) := by decide +kernel
theorem dX7_figures_110 : decode cX7_figures 110 = .ok (.ireturn, 1) := by decide +kernel
theorem dX7_statement_0 : decode cX7_statement 0 = .ok (.aload_n 0, 1) := by decide +kernel
theorem dX7_statement_1 : decode cX7_statement 1 = .ok (.aload_n 0, 1) := by decide +kernel
theorem dX7_statement_2 : decode cX7_statement 2 = .ok (.aload_n 0, 1) := by decide +kernel
theorem dX7_statement_3 : decode cX7_statement 3 = .ok (.getfield 22, 3) := by decide +kernel
theorem dX7_statement_6 : decode cX7_statement 6 = .ok (.invokevirtual 78, 3) := by decide +kernel
theorem dX7_statement_9 : decode cX7_statement 9 = .ok (.putfield 82, 3) := by decide +kernel
theorem dX7_statement_12 : decode cX7_statement 12 = .ok (.aload_n 0, 1) := by decide +kernel
theorem dX7_statement_13 : decode cX7_statement 13 = .ok (.getfield 82, 3) := by decide +kernel
theorem dX7_statement_16 : decode cX7_statement 16 = .ok (.iconst 1, 1) := by decide +kernel
theorem dX7_statement_17 : decode cX7_statement 17 = .ok (.if_icmp .ne 31, 3) := by decide +kernel
theorem dX7_statement_20 : decode cX7_statement 20 = .ok (.aload_n 0, 1) := by decide +kernel
theorem dX7_statement_21 : decode cX7_statement 21 = .ok (.getfield 32, 3) := by decide +kernel
theorem dX7_statement_24 : decode cX7_statement 24 = .ok (.iconst 0, 1) := by decide +kernel
theorem dX7_statement_25 : decode cX7_statement 25 = .ok (.aload_n 0, 1) := by decide +kernel
theorem dX7_statement_26 : decode cX7_statement 26 = .ok (.aload_n 0, 1) := by decide +kernel
theorem dX7_statement_27 : decode cX7_statement 27 = .ok (.getfield 26, 3) := by decide +kernel
theorem dX7_statement_30 : decode cX7_statement 30 = .ok (.invokevirtual 78, 3) := by decide +kernel
theorem dX7_statement_33 : decode cX7_statement 33 = .ok (.iastore, 1) := by decide +kernel
theorem dX7_statement_34 : decode cX7_statement 34 = .ok (.aload_n 0, 1) := by decide +kernel
theorem dX7_statement_35 : decode cX7_statement 35 = .ok (.getfield 32, 3) := by decide +kernel
theorem dX7_statement_38 : decode cX7_statement 38 = .ok (.iconst 1, 1) := by decide +kernel
theorem dX7_statement_39 : decode cX7_statement 39 = .ok (.aload_n 0, 1) := by decide +kernel
theorem dX7_statement_40 : decode cX7_statement 40 = .ok (.iconst 1, 1) := by decide +kernel
theorem dX7_statement_41 : decode cX7_statement 41 = .ok (.invokevirtual 85, 3) := by decide +kernel
theorem dX7_statement_44 : decode cX7_statement 44 = .ok (.iastore, 1) := by decide +kernel
theorem dX7_statement_45 : decode cX7_statement 45 = .ok (.goto 68, 3) := by decide +kernel
theorem dX7_statement_48 : decode cX7_statement 48 = .ok (.aload_n 0, 1) := by decide +kernel
theorem dX7_statement_49 : decode cX7_statement 49 = .ok (.getfield 32, 3) := by decide +kernel
theorem dX7_statement_52 : decode cX7_statement 52 = .ok (.iconst 0, 1) := by decide +kernel
theorem dX7_statement_53 : decode cX7_statement 53 = .ok (.aload_n 0, 1) := by decide +kernel
theorem dX7_statement_54 : decode cX7_statement 54 = .ok (.getfield 82, 3) := by decide +kernel
theorem dX7_statement_57 : decode cX7_statement 57 = .ok (.iconst 2, 1) := by decide +kernel
theorem dX7_statement_58 : decode cX7_statement 58 = .ok (.if_icmp .ne 14, 3) := by decide +kernel
theorem dX7_statement_61 : decode cX7_statement 61 = .ok (.aload_n 0, 1) := by decide +kernel
theorem dX7_statement_62 : decode cX7_statement 62 = .ok (.aload_n 0, 1) := by decide +kernel
theorem dX7_statement_63 : decode cX7_statement 63 = .ok (.getfield 29, 3) := by decide +kernel
theorem dX7_statement_66 : decode cX7_statement 66 = .ok (.invokevirtual 78, 3) := by decide +kernel
theorem dX7_statement_69 : decode cX7_statement 69 = .ok (.goto 4, 3) := by decide +kernel
theorem dX7_statement_72 : decode cX7_statement 72 = .ok (.iconst 0, 1) := by decide +kernel
theorem dX7_statement_73 : decode cX7_statement 73 = .ok (.iastore, 1) := by decide +kernel
theorem dX7_statement_74 : decode cX7_statement 74 = .ok (.aload_n 0, 1) := by decide +kernel
theorem dX7_statement_75 : decode cX7_statement 75 = .ok (.getfield 32, 3) := by decide +kernel
theorem dX7_statement_78 : decode cX7_statement 78 = .ok (.iconst 1, 1) := by decide +kernel
theorem dX7_statement_79 : decode cX7_statement 79 = .ok (.aload_n 0, 1) := by decide +kernel
theorem dX7_statement_80 : decode cX7_statement 80 = .ok (.iconst 1, 1) := by decide +kernel
theorem dX7_statement_81 : decode cX7_statement 81 = .ok (.invokevirtual 85, 3) := by decide +kernel
theorem dX7_statement_84 : decode cX7_statement 84 = .ok (.iastore, 1) := by decide +kernel
theorem dX7_statement_85 : decode cX7_statement 85 = .ok (.aload_n 0, 1) := by decide +kernel
theorem dX7_statement_86 : decode cX7_statement 86 = .ok (.getfield 32, 3) := by decide +kernel
theorem dX7_statement_89 : decode cX7_statement 89 = .ok (.iconst 2, 1) := by decide +kernel
theorem dX7_statement_90 : decode cX7_statement 90 = .ok (.aload_n 0, 1) := by decide +kernel
theorem dX7_statement_91 : decode cX7_statement 91 = .ok (.iconst 1, 1) := by decide +kernel
theorem dX7_statement_92 : decode cX7_statement 92 = .ok (.invokevirtual 85, 3) := by decide +kernel
theorem dX7_statement_95 : decode cX7_statement 95 = .ok (.iastore, 1) := by decide +kernel
theorem dX7_statement_96 : decode cX7_statement 96 = .ok (.aload_n 0, 1) := by decide +kernel
theorem dX7_statement_97 : decode cX7_statement 97 = .ok (.bipush 44, 2) := by decide +kernel
theorem dX7_statement_99 : decode cX7_statement 99 = .ok (.invokevirtual 88, 3) := by decide +kernel
theorem dX7_statement_102 : decode cX7_statement 102 = .ok (.aload_n 0, 1) := by decide +kernel
theorem dX7_statement_103 : decode cX7_statement 103 = .ok (.getfield 32, 3) := by decide +kernel
theorem dX7_statement_106 : decode cX7_statement 106 = .ok (.iconst 3, 1) := by decide +kernel
theorem dX7_statement_107 : decode cX7_statement 107 = .ok (.aload_n 0, 1) := by decide +kernel
theorem dX7_statement_108 : decode cX7_statement 108 = .ok (.iconst 2, 1) := by decide +kernel
theorem dX7_statement_109 : decode cX7_statement 109 = .ok (.invokevirtual 85, 3) := by decide +kernel
theorem dX7_statement_112 : decode cX7_statement 112 = .ok (.iastore, 1) := by decide +kernel
theorem dX7_statement_113 : decode cX7_statement 113 = .ok (.aload_n 0, 1) := by decide +kernel
theorem dX7_statement_114 : decode cX7_statement 114 = .ok (.bipush 59, 2) := by decide +kernel
theorem dX7_statement_116 : decode cX7_statement 116 = .ok (.invokevirtual 88, 3) := by decide +kernel
theorem dX7_statement_119 : decode cX7_statement 119 = .ok (.return_, 1) := by decide +kernel
theorem dX7_isAsItMustBe_0 : decode cX7_isAsItMustBe 0 = .ok (.aload_n 0, 1) := by decide +kernel
theorem dX7_isAsItMustBe_1 : decode cX7_isAsItMustBe 1 = .ok (.getfield 82, 3) := by decide +kernel
theorem dX7_isAsItMustBe_4 : decode cX7_isAsItMustBe 4 = .ok (.iconst 1, 1) := by decide +kernel
theorem dX7_isAsItMustBe_5 : decode cX7_isAsItMustBe 5 = .ok (.if_icmp .ne 5, 3) := by decide +kernel
theorem dX7_isAsItMustBe_8 : decode cX7_isAsItMustBe 8 = .ok (.iconst 1, 1) := by decide +kernel
theorem dX7_isAsItMustBe_9 : decode cX7_isAsItMustBe 9 = .ok (.ireturn, 1) := by decide +kernel
theorem dX7_isAsItMustBe_10 : decode cX7_isAsItMustBe 10 = .ok (.aload_n 0, 1) := by decide +kernel
theorem dX7_isAsItMustBe_11 : decode cX7_isAsItMustBe 11 = .ok (.getfield 32, 3) := by decide +kernel
theorem dX7_isAsItMustBe_14 : decode cX7_isAsItMustBe 14 = .ok (.iconst 1, 1) := by decide +kernel
theorem dX7_isAsItMustBe_15 : decode cX7_isAsItMustBe 15 = .ok (.iaload, 1) := by decide +kernel
theorem dX7_isAsItMustBe_16 : decode cX7_isAsItMustBe 16 = .ok (.iconst 4, 1) := by decide +kernel
theorem dX7_isAsItMustBe_17 : decode cX7_isAsItMustBe 17 = .ok (.if_icmp .ge 49, 3) := by decide +kernel
theorem dX7_isAsItMustBe_20 : decode cX7_isAsItMustBe 20 = .ok (.aload_n 0, 1) := by decide +kernel
theorem dX7_isAsItMustBe_21 : decode cX7_isAsItMustBe 21 = .ok (.getfield 82, 3) := by decide +kernel
theorem dX7_isAsItMustBe_24 : decode cX7_isAsItMustBe 24 = .ok (.ifCond .ne 32, 3) := by decide +kernel
theorem dX7_isAsItMustBe_27 : decode cX7_isAsItMustBe 27 = .ok (.aload_n 0, 1) := by decide +kernel
theorem dX7_isAsItMustBe_28 : decode cX7_isAsItMustBe 28 = .ok (.getfield 32, 3) := by decide +kernel
theorem dX7_isAsItMustBe_31 : decode cX7_isAsItMustBe 31 = .ok (.iconst 2, 1) := by decide +kernel
theorem dX7_isAsItMustBe_32 : decode cX7_isAsItMustBe 32 = .ok (.iaload, 1) := by decide +kernel
theorem dX7_isAsItMustBe_33 : decode cX7_isAsItMustBe 33 = .ok (.ifCond .le 33, 3) := by decide +kernel
theorem dX7_isAsItMustBe_36 : decode cX7_isAsItMustBe 36 = .ok (.aload_n 0, 1) := by decide +kernel
theorem dX7_isAsItMustBe_37 : decode cX7_isAsItMustBe 37 = .ok (.getfield 32, 3) := by decide +kernel
theorem dX7_isAsItMustBe_40 : decode cX7_isAsItMustBe 40 = .ok (.iconst 3, 1) := by decide +kernel
theorem dX7_isAsItMustBe_41 : decode cX7_isAsItMustBe 41 = .ok (.iaload, 1) := by decide +kernel
theorem dX7_isAsItMustBe_42 : decode cX7_isAsItMustBe 42 = .ok (.bipush 60, 2) := by decide +kernel
theorem dX7_isAsItMustBe_44 : decode cX7_isAsItMustBe 44 = .ok (.if_icmp .ge 22, 3) := by decide +kernel
theorem dX7_isAsItMustBe_47 : decode cX7_isAsItMustBe 47 = .ok (.iload_n 1, 1) := by decide +kernel
theorem dX7_isAsItMustBe_48 : decode cX7_isAsItMustBe 48 = .ok (.bipush 6, 2) := by decide +kernel
theorem dX7_isAsItMustBe_50 : decode cX7_isAsItMustBe 50 = .ok (.if_icmp .ge 16, 3) := by decide +kernel
theorem dX7_isAsItMustBe_53 : decode cX7_isAsItMustBe 53 = .ok (.goto 9, 3) := by decide +kernel
theorem dX7_isAsItMustBe_56 : decode cX7_isAsItMustBe 56 = .ok (.iload_n 2, 1) := by decide +kernel
theorem dX7_isAsItMustBe_57 : decode cX7_isAsItMustBe 57 = .ok (.bipush 6, 2) := by decide +kernel
theorem dX7_isAsItMustBe_59 : decode cX7_isAsItMustBe 59 = .ok (.if_icmp .ge 7, 3) := by decide +kernel
theorem dX7_isAsItMustBe_62 : decode cX7_isAsItMustBe 62 = .ok (.iconst 1, 1) := by decide +kernel
theorem dX7_isAsItMustBe_63 : decode cX7_isAsItMustBe 63 = .ok (.goto 4, 3) := by decide +kernel
theorem dX7_isAsItMustBe_66 : decode cX7_isAsItMustBe 66 = .ok (.iconst 0, 1) := by decide +kernel
theorem dX7_isAsItMustBe_67 : decode cX7_isAsItMustBe 67 = .ok (.ireturn, 1) := by decide +kernel
theorem dX7_come_0 : decode cX7_come 0 = .ok (.aload_n 0, 1) := by decide +kernel
theorem dX7_come_1 : decode cX7_come 1 = .ok (.getfield 82, 3) := by decide +kernel
theorem dX7_come_4 : decode cX7_come 4 = .ok (.lookupswitch 128 #[(0, 28), (1, 101)], 28) := by decide +kernel
theorem dX7_come_32 : decode cX7_come 32 = .ok (.aload_n 0, 1) := by decide +kernel
theorem dX7_come_33 : decode cX7_come 33 = .ok (.getfield 13, 3) := by decide +kernel
theorem dX7_come_36 : decode cX7_come 36 = .ok (.bipush 10, 2) := by decide +kernel
theorem dX7_come_38 : decode cX7_come 38 = .ok (.aload_n 0, 1) := by decide +kernel
theorem dX7_come_39 : decode cX7_come 39 = .ok (.getfield 13, 3) := by decide +kernel
theorem dX7_come_42 : decode cX7_come 42 = .ok (.iconst 0, 1) := by decide +kernel
theorem dX7_come_43 : decode cX7_come 43 = .ok (.iaload, 1) := by decide +kernel
theorem dX7_come_44 : decode cX7_come 44 = .ok (.iadd, 1) := by decide +kernel
theorem dX7_come_45 : decode cX7_come 45 = .ok (.aload_n 0, 1) := by decide +kernel
theorem dX7_come_46 : decode cX7_come 46 = .ok (.getfield 32, 3) := by decide +kernel
theorem dX7_come_49 : decode cX7_come 49 = .ok (.iconst 1, 1) := by decide +kernel
theorem dX7_come_50 : decode cX7_come 50 = .ok (.iaload, 1) := by decide +kernel
theorem dX7_come_51 : decode cX7_come 51 = .ok (.iastore, 1) := by decide +kernel
theorem dX7_come_52 : decode cX7_come 52 = .ok (.aload_n 0, 1) := by decide +kernel
theorem dX7_come_53 : decode cX7_come 53 = .ok (.getfield 13, 3) := by decide +kernel
theorem dX7_come_56 : decode cX7_come 56 = .ok (.bipush 20, 2) := by decide +kernel
theorem dX7_come_58 : decode cX7_come 58 = .ok (.aload_n 0, 1) := by decide +kernel
theorem dX7_come_59 : decode cX7_come 59 = .ok (.getfield 13, 3) := by decide +kernel
theorem dX7_come_62 : decode cX7_come 62 = .ok (.iconst 0, 1) := by decide +kernel
theorem dX7_come_63 : decode cX7_come 63 = .ok (.iaload, 1) := by decide +kernel
theorem dX7_come_64 : decode cX7_come 64 = .ok (.iadd, 1) := by decide +kernel
theorem dX7_come_65 : decode cX7_come 65 = .ok (.aload_n 0, 1) := by decide +kernel
theorem dX7_come_66 : decode cX7_come 66 = .ok (.getfield 32, 3) := by decide +kernel
theorem dX7_come_69 : decode cX7_come 69 = .ok (.iconst 2, 1) := by decide +kernel
theorem dX7_come_70 : decode cX7_come 70 = .ok (.iaload, 1) := by decide +kernel
theorem dX7_come_71 : decode cX7_come 71 = .ok (.iastore, 1) := by decide +kernel
theorem dX7_come_72 : decode cX7_come 72 = .ok (.aload_n 0, 1) := by decide +kernel
theorem dX7_come_73 : decode cX7_come 73 = .ok (.getfield 13, 3) := by decide +kernel
theorem dX7_come_76 : decode cX7_come 76 = .ok (.bipush 30, 2) := by decide +kernel
theorem dX7_come_78 : decode cX7_come 78 = .ok (.aload_n 0, 1) := by decide +kernel
theorem dX7_come_79 : decode cX7_come 79 = .ok (.getfield 13, 3) := by decide +kernel
theorem dX7_come_82 : decode cX7_come 82 = .ok (.iconst 0, 1) := by decide +kernel
theorem dX7_come_83 : decode cX7_come 83 = .ok (.iaload, 1) := by decide +kernel
theorem dX7_come_84 : decode cX7_come 84 = .ok (.iadd, 1) := by decide +kernel
theorem dX7_come_85 : decode cX7_come 85 = .ok (.aload_n 0, 1) := by decide +kernel
theorem dX7_come_86 : decode cX7_come 86 = .ok (.getfield 32, 3) := by decide +kernel
theorem dX7_come_89 : decode cX7_come 89 = .ok (.iconst 3, 1) := by decide +kernel
theorem dX7_come_90 : decode cX7_come 90 = .ok (.iaload, 1) := by decide +kernel
theorem dX7_come_91 : decode cX7_come 91 = .ok (.iastore, 1) := by decide +kernel
theorem dX7_come_92 : decode cX7_come 92 = .ok (.aload_n 0, 1) := by decide +kernel
theorem dX7_come_93 : decode cX7_come 93 = .ok (.getfield 13, 3) := by decide +kernel
theorem dX7_come_96 : decode cX7_come 96 = .ok (.iconst 0, 1) := by decide +kernel
theorem dX7_come_97 : decode cX7_come 97 = .ok (.dup2, 1) := by decide +kernel
theorem dX7_come_98 : decode cX7_come 98 = .ok (.iaload, 1) := by decide +kernel
theorem dX7_come_99 : decode cX7_come 99 = .ok (.iconst 1, 1) := by decide +kernel
theorem dX7_come_100 : decode cX7_come 100 = .ok (.iadd, 1) := by decide +kernel
theorem dX7_come_101 : decode cX7_come 101 = .ok (.iastore, 1) := by decide +kernel
theorem dX7_come_102 : decode cX7_come 102 = .ok (.goto 120, 3) := by decide +kernel
theorem dX7_come_105 : decode cX7_come 105 = .ok (.aload_n 0, 1) := by decide +kernel
theorem dX7_come_106 : decode cX7_come 106 = .ok (.getfield 13, 3) := by decide +kernel
theorem dX7_come_109 : decode cX7_come 109 = .ok (.iconst 2, 1) := by decide +kernel
theorem dX7_come_110 : decode cX7_come 110 = .ok (.aload_n 0, 1) := by decide +kernel
theorem dX7_come_111 : decode cX7_come 111 = .ok (.getfield 32, 3) := by decide +kernel
theorem dX7_come_114 : decode cX7_come 114 = .ok (.iconst 0, 1) := by decide +kernel
theorem dX7_come_115 : decode cX7_come 115 = .ok (.iaload, 1) := by decide +kernel
theorem dX7_come_116 : decode cX7_come 116 = .ok (.iastore, 1) := by decide +kernel
theorem dX7_come_117 : decode cX7_come 117 = .ok (.aload_n 0, 1) := by decide +kernel
theorem dX7_come_118 : decode cX7_come 118 = .ok (.getfield 13, 3) := by decide +kernel
theorem dX7_come_121 : decode cX7_come 121 = .ok (.iconst 3, 1) := by decide +kernel
theorem dX7_come_122 : decode cX7_come 122 = .ok (.aload_n 0, 1) := by decide +kernel
theorem dX7_come_123 : decode cX7_come 123 = .ok (.getfield 32, 3) := by decide +kernel
theorem dX7_come_126 : decode cX7_come 126 = .ok (.iconst 1, 1) := by decide +kernel
theorem dX7_come_127 : decode cX7_come 127 = .ok (.iaload, 1) := by decide +kernel
theorem dX7_come_128 : decode cX7_come 128 = .ok (.iastore, 1) := by decide +kernel
theorem dX7_come_129 : decode cX7_come 129 = .ok (.goto 93, 3) := by decide +kernel
theorem dX7_come_132 : decode cX7_come 132 = .ok (.aload_n 0, 1) := by decide +kernel
theorem dX7_come_133 : decode cX7_come 133 = .ok (.getfield 13, 3) := by decide +kernel
theorem dX7_come_136 : decode cX7_come 136 = .ok (.bipush 40, 2) := by decide +kernel
theorem dX7_come_138 : decode cX7_come 138 = .ok (.aload_n 0, 1) := by decide +kernel
theorem dX7_come_139 : decode cX7_come 139 = .ok (.getfield 13, 3) := by decide +kernel
theorem dX7_come_142 : decode cX7_come 142 = .ok (.iconst 1, 1) := by decide +kernel
theorem dX7_come_143 : decode cX7_come 143 = .ok (.iaload, 1) := by decide +kernel
theorem dX7_come_144 : decode cX7_come 144 = .ok (.iadd, 1) := by decide +kernel
theorem dX7_come_145 : decode cX7_come 145 = .ok (.aload_n 0, 1) := by decide +kernel
theorem dX7_come_146 : decode cX7_come 146 = .ok (.getfield 32, 3) := by decide +kernel
theorem dX7_come_149 : decode cX7_come 149 = .ok (.iconst 0, 1) := by decide +kernel
theorem dX7_come_150 : decode cX7_come 150 = .ok (.iaload, 1) := by decide +kernel
theorem dX7_come_151 : decode cX7_come 151 = .ok (.iastore, 1) := by decide +kernel
theorem dX7_come_152 : decode cX7_come 152 = .ok (.aload_n 0, 1) := by decide +kernel
theorem dX7_come_153 : decode cX7_come 153 = .ok (.getfield 13, 3) := by decide +kernel
theorem dX7_come_156 : decode cX7_come 156 = .ok (.bipush 50, 2) := by decide +kernel
theorem dX7_come_158 : decode cX7_come 158 = .ok (.aload_n 0, 1) := by decide +kernel
theorem dX7_come_159 : decode cX7_come 159 = .ok (.getfield 13, 3) := by decide +kernel
theorem dX7_come_162 : decode cX7_come 162 = .ok (.iconst 1, 1) := by decide +kernel
theorem dX7_come_163 : decode cX7_come 163 = .ok (.iaload, 1) := by decide +kernel
theorem dX7_come_164 : decode cX7_come 164 = .ok (.iadd, 1) := by decide +kernel
theorem dX7_come_165 : decode cX7_come 165 = .ok (.aload_n 0, 1) := by decide +kernel
theorem dX7_come_166 : decode cX7_come 166 = .ok (.getfield 32, 3) := by decide +kernel
theorem dX7_come_169 : decode cX7_come 169 = .ok (.iconst 1, 1) := by decide +kernel
theorem dX7_come_170 : decode cX7_come 170 = .ok (.iaload, 1) := by decide +kernel
theorem dX7_come_171 : decode cX7_come 171 = .ok (.iastore, 1) := by decide +kernel
theorem dX7_come_172 : decode cX7_come 172 = .ok (.aload_n 0, 1) := by decide +kernel
theorem dX7_come_173 : decode cX7_come 173 = .ok (.getfield 13, 3) := by decide +kernel
theorem dX7_come_176 : decode cX7_come 176 = .ok (.bipush 60, 2) := by decide +kernel
theorem dX7_come_178 : decode cX7_come 178 = .ok (.aload_n 0, 1) := by decide +kernel
theorem dX7_come_179 : decode cX7_come 179 = .ok (.getfield 13, 3) := by decide +kernel
theorem dX7_come_182 : decode cX7_come 182 = .ok (.iconst 1, 1) := by decide +kernel
theorem dX7_come_183 : decode cX7_come 183 = .ok (.iaload, 1) := by decide +kernel
theorem dX7_come_184 : decode cX7_come 184 = .ok (.iadd, 1) := by decide +kernel
theorem dX7_come_185 : decode cX7_come 185 = .ok (.aload_n 0, 1) := by decide +kernel
theorem dX7_come_186 : decode cX7_come 186 = .ok (.getfield 32, 3) := by decide +kernel
theorem dX7_come_189 : decode cX7_come 189 = .ok (.iconst 2, 1) := by decide +kernel
theorem dX7_come_190 : decode cX7_come 190 = .ok (.iaload, 1) := by decide +kernel
theorem dX7_come_191 : decode cX7_come 191 = .ok (.iastore, 1) := by decide +kernel
theorem dX7_come_192 : decode cX7_come 192 = .ok (.aload_n 0, 1) := by decide +kernel
theorem dX7_come_193 : decode cX7_come 193 = .ok (.getfield 13, 3) := by decide +kernel
theorem dX7_come_196 : decode cX7_come 196 = .ok (.bipush 70, 2) := by decide +kernel
theorem dX7_come_198 : decode cX7_come 198 = .ok (.aload_n 0, 1) := by decide +kernel
theorem dX7_come_199 : decode cX7_come 199 = .ok (.getfield 13, 3) := by decide +kernel
theorem dX7_come_202 : decode cX7_come 202 = .ok (.iconst 1, 1) := by decide +kernel
theorem dX7_come_203 : decode cX7_come 203 = .ok (.iaload, 1) := by decide +kernel
theorem dX7_come_204 : decode cX7_come 204 = .ok (.iadd, 1) := by decide +kernel
theorem dX7_come_205 : decode cX7_come 205 = .ok (.aload_n 0, 1) := by decide +kernel
theorem dX7_come_206 : decode cX7_come 206 = .ok (.getfield 32, 3) := by decide +kernel
theorem dX7_come_209 : decode cX7_come 209 = .ok (.iconst 3, 1) := by decide +kernel
theorem dX7_come_210 : decode cX7_come 210 = .ok (.iaload, 1) := by decide +kernel
theorem dX7_come_211 : decode cX7_come 211 = .ok (.iastore, 1) := by decide +kernel
theorem dX7_come_212 : decode cX7_come 212 = .ok (.aload_n 0, 1) := by decide +kernel
theorem dX7_come_213 : decode cX7_come 213 = .ok (.getfield 13, 3) := by decide +kernel
theorem dX7_come_216 : decode cX7_come 216 = .ok (.iconst 1, 1) := by decide +kernel
theorem dX7_come_217 : decode cX7_come 217 = .ok (.dup2, 1) := by decide +kernel
theorem dX7_come_218 : decode cX7_come 218 = .ok (.iaload, 1) := by decide +kernel
theorem dX7_come_219 : decode cX7_come 219 = .ok (.iconst 1, 1) := by decide +kernel
theorem dX7_come_220 : decode cX7_come 220 = .ok (.iadd, 1) := by decide +kernel
theorem dX7_come_221 : decode cX7_come 221 = .ok (.iastore, 1) := by decide +kernel
theorem dX7_come_222 : decode cX7_come 222 = .ok (.return_, 1) := by decide +kernel
theorem dX7_read_0 : decode cX7_read 0 = .ok (.iconst 0, 1) := by decide +kernel
theorem dX7_read_1 : decode cX7_read 1 = .ok (.istore_n 1, 1) := by decide +kernel
theorem dX7_read_2 : decode cX7_read 2 = .ok (.aload_n 0, 1) := by decide +kernel
theorem dX7_read_3 : decode cX7_read 3 = .ok (.iconst 0, 1) := by decide +kernel
theorem dX7_read_4 : decode cX7_read 4 = .ok (.putfield 75, 3) := by decide +kernel
theorem dX7_read_7 : decode cX7_read 7 = .ok (.aload_n 0, 1) := by decide +kernel
theorem dX7_read_8 : decode cX7_read 8 = .ok (.iconst 1, 1) := by decide +kernel
theorem dX7_read_9 : decode cX7_read 9 = .ok (.putfield 72, 3) := by decide +kernel
theorem dX7_read_12 : decode cX7_read 12 = .ok (.aload_n 0, 1) := by decide +kernel
theorem dX7_read_13 : decode cX7_read 13 = .ok (.invokevirtual 92, 3) := by decide +kernel
theorem dX7_read_16 : decode cX7_read 16 = .ok (.iinc 1 1, 3) := by decide +kernel
theorem dX7_read_19 : decode cX7_read 19 = .ok (.aload_n 0, 1) := by decide +kernel
theorem dX7_read_20 : decode cX7_read 20 = .ok (.getfield 72, 3) := by decide +kernel
theorem dX7_read_23 : decode cX7_read 23 = .ok (.ifCond .eq 14, 3) := by decide +kernel
theorem dX7_read_26 : decode cX7_read 26 = .ok (.aload_n 0, 1) := by decide +kernel
theorem dX7_read_27 : decode cX7_read 27 = .ok (.getfield 75, 3) := by decide +kernel
theorem dX7_read_30 : decode cX7_read 30 = .ok (.aload_n 0, 1) := by decide +kernel
theorem dX7_read_31 : decode cX7_read 31 = .ok (.getfield 68, 3) := by decide +kernel
theorem dX7_read_34 : decode cX7_read 34 = .ok (.if_icmp .lt (-22), 3) := by decide +kernel
theorem dX7_read_37 : decode cX7_read 37 = .ok (.aload_n 0, 1) := by decide +kernel
theorem dX7_read_38 : decode cX7_read 38 = .ok (.getfield 72, 3) := by decide +kernel
theorem dX7_read_41 : decode cX7_read 41 = .ok (.ifCond .ne 12, 3) := by decide +kernel
theorem dX7_read_44 : decode cX7_read 44 = .ok (.sipush (-1000), 3) := by decide +kernel
theorem dX7_read_47 : decode cX7_read 47 = .ok (.aload_n 0, 1) := by decide +kernel
theorem dX7_read_48 : decode cX7_read 48 = .ok (.getfield 75, 3) := by decide +kernel
theorem dX7_read_51 : decode cX7_read 51 = .ok (.isub, 1) := by decide +kernel
theorem dX7_read_52 : decode cX7_read 52 = .ok (.ireturn, 1) := by decide +kernel
theorem dX7_read_53 : decode cX7_read 53 = .ok (.aload_n 0, 1) := by decide +kernel
theorem dX7_read_54 : decode cX7_read 54 = .ok (.iconst 0, 1) := by decide +kernel
theorem dX7_read_55 : decode cX7_read 55 = .ok (.putfield 75, 3) := by decide +kernel
theorem dX7_read_58 : decode cX7_read 58 = .ok (.aload_n 0, 1) := by decide +kernel
theorem dX7_read_59 : decode cX7_read 59 = .ok (.getfield 13, 3) := by decide +kernel
theorem dX7_read_62 : decode cX7_read 62 = .ok (.iconst 0, 1) := by decide +kernel
theorem dX7_read_63 : decode cX7_read 63 = .ok (.iaload, 1) := by decide +kernel
theorem dX7_read_64 : decode cX7_read 64 = .ok (.istore_n 2, 1) := by decide +kernel
theorem dX7_read_65 : decode cX7_read 65 = .ok (.aload_n 0, 1) := by decide +kernel
theorem dX7_read_66 : decode cX7_read 66 = .ok (.getfield 13, 3) := by decide +kernel
theorem dX7_read_69 : decode cX7_read 69 = .ok (.iconst 1, 1) := by decide +kernel
theorem dX7_read_70 : decode cX7_read 70 = .ok (.iaload, 1) := by decide +kernel
theorem dX7_read_71 : decode cX7_read 71 = .ok (.istore_n 3, 1) := by decide +kernel
theorem dX7_read_72 : decode cX7_read 72 = .ok (.aload_n 0, 1) := by decide +kernel
theorem dX7_read_73 : decode cX7_read 73 = .ok (.getfield 75, 3) := by decide +kernel
theorem dX7_read_76 : decode cX7_read 76 = .ok (.aload_n 0, 1) := by decide +kernel
theorem dX7_read_77 : decode cX7_read 77 = .ok (.getfield 68, 3) := by decide +kernel
theorem dX7_read_80 : decode cX7_read 80 = .ok (.if_icmp .ge 63, 3) := by decide +kernel
theorem dX7_read_83 : decode cX7_read 83 = .ok (.aload_n 0, 1) := by decide +kernel
theorem dX7_read_84 : decode cX7_read 84 = .ok (.getfield 75, 3) := by decide +kernel
theorem dX7_read_87 : decode cX7_read 87 = .ok (.istore 4, 2) := by decide +kernel
theorem dX7_read_89 : decode cX7_read 89 = .ok (.aload_n 0, 1) := by decide +kernel
theorem dX7_read_90 : decode cX7_read 90 = .ok (.invokevirtual 92, 3) := by decide +kernel
theorem dX7_read_93 : decode cX7_read 93 = .ok (.aload_n 0, 1) := by decide +kernel
theorem dX7_read_94 : decode cX7_read 94 = .ok (.iload_n 2, 1) := by decide +kernel
theorem dX7_read_95 : decode cX7_read 95 = .ok (.iload_n 3, 1) := by decide +kernel
theorem dX7_read_96 : decode cX7_read 96 = .ok (.invokevirtual 95, 3) := by decide +kernel
theorem dX7_read_99 : decode cX7_read 99 = .ok (.ifCond .ne 10, 3) := by decide +kernel
theorem dX7_read_102 : decode cX7_read 102 = .ok (.sipush (-2000), 3) := by decide +kernel
theorem dX7_read_105 : decode cX7_read 105 = .ok (.iload 4, 2) := by decide +kernel
theorem dX7_read_107 : decode cX7_read 107 = .ok (.isub, 1) := by decide +kernel
theorem dX7_read_108 : decode cX7_read 108 = .ok (.ireturn, 1) := by decide +kernel
theorem dX7_read_109 : decode cX7_read 109 = .ok (.iload_n 2, 1) := by decide +kernel
theorem dX7_read_110 : decode cX7_read 110 = .ok (.aload_n 0, 1) := by decide +kernel
theorem dX7_read_111 : decode cX7_read 111 = .ok (.getfield 82, 3) := by decide +kernel
theorem dX7_read_114 : decode cX7_read 114 = .ok (.ifCond .ne 7, 3) := by decide +kernel
theorem dX7_read_117 : decode cX7_read 117 = .ok (.iconst 1, 1) := by decide +kernel
theorem dX7_read_118 : decode cX7_read 118 = .ok (.goto 4, 3) := by decide +kernel
theorem dX7_read_121 : decode cX7_read 121 = .ok (.iconst 0, 1) := by decide +kernel
theorem dX7_read_122 : decode cX7_read 122 = .ok (.iadd, 1) := by decide +kernel
theorem dX7_read_123 : decode cX7_read 123 = .ok (.istore_n 2, 1) := by decide +kernel
theorem dX7_read_124 : decode cX7_read 124 = .ok (.iload_n 3, 1) := by decide +kernel
theorem dX7_read_125 : decode cX7_read 125 = .ok (.aload_n 0, 1) := by decide +kernel
theorem dX7_read_126 : decode cX7_read 126 = .ok (.getfield 82, 3) := by decide +kernel
theorem dX7_read_129 : decode cX7_read 129 = .ok (.iconst 2, 1) := by decide +kernel
theorem dX7_read_130 : decode cX7_read 130 = .ok (.if_icmp .ne 7, 3) := by decide +kernel
theorem dX7_read_133 : decode cX7_read 133 = .ok (.iconst 1, 1) := by decide +kernel
theorem dX7_read_134 : decode cX7_read 134 = .ok (.goto 4, 3) := by decide +kernel
theorem dX7_read_137 : decode cX7_read 137 = .ok (.iconst 0, 1) := by decide +kernel
theorem dX7_read_138 : decode cX7_read 138 = .ok (.iadd, 1) := by decide +kernel
theorem dX7_read_139 : decode cX7_read 139 = .ok (.istore_n 3, 1) := by decide +kernel
theorem dX7_read_140 : decode cX7_read 140 = .ok (.goto (-68), 3) := by decide +kernel
theorem dX7_read_143 : decode cX7_read 143 = .ok (.aload_n 0, 1) := by decide +kernel
theorem dX7_read_144 : decode cX7_read 144 = .ok (.iconst 0, 1) := by decide +kernel
theorem dX7_read_145 : decode cX7_read 145 = .ok (.putfield 75, 3) := by decide +kernel
theorem dX7_read_148 : decode cX7_read 148 = .ok (.aload_n 0, 1) := by decide +kernel
theorem dX7_read_149 : decode cX7_read 149 = .ok (.getfield 75, 3) := by decide +kernel
theorem dX7_read_152 : decode cX7_read 152 = .ok (.aload_n 0, 1) := by decide +kernel
theorem dX7_read_153 : decode cX7_read 153 = .ok (.getfield 68, 3) := by decide +kernel
theorem dX7_read_156 : decode cX7_read 156 = .ok (.if_icmp .ge 14, 3) := by decide +kernel
theorem dX7_read_159 : decode cX7_read 159 = .ok (.aload_n 0, 1) := by decide +kernel
theorem dX7_read_160 : decode cX7_read 160 = .ok (.invokevirtual 92, 3) := by decide +kernel
theorem dX7_read_163 : decode cX7_read 163 = .ok (.aload_n 0, 1) := by decide +kernel
theorem dX7_read_164 : decode cX7_read 164 = .ok (.invokevirtual 99, 3) := by decide +kernel
theorem dX7_read_167 : decode cX7_read 167 = .ok (.goto (-19), 3) := by decide +kernel
theorem dX7_read_170 : decode cX7_read 170 = .ok (.iload_n 1, 1) := by decide +kernel
theorem dX7_read_171 : decode cX7_read 171 = .ok (.ireturn, 1) := by decide +kernel
theorem dX7_floor_0 : decode cX7_floor 0 = .ok (.aload_n 0, 1) := by decide +kernel
theorem dX7_floor_1 : decode cX7_floor 1 = .ok (.invokevirtual 102, 3) := by decide +kernel
theorem dX7_floor_4 : decode cX7_floor 4 = .ok (.istore_n 1, 1) := by decide +kernel
theorem dX7_floor_5 : decode cX7_floor 5 = .ok (.aload_n 0, 1) := by decide +kernel
theorem dX7_floor_6 : decode cX7_floor 6 = .ok (.iconst 0, 1) := by decide +kernel
theorem dX7_floor_7 : decode cX7_floor 7 = .ok (.putfield 68, 3) := by decide +kernel
theorem dX7_floor_10 : decode cX7_floor 10 = .ok (.iload_n 1, 1) := by decide +kernel
theorem dX7_floor_11 : decode cX7_floor 11 = .ok (.ireturn, 1) := by decide +kernel
theorem dX7_waits_0 : decode cX7_waits 0 = .ok (.aload_n 0, 1) := by decide +kernel
theorem dX7_waits_1 : decode cX7_waits 1 = .ok (.getfield 35, 3) := by decide +kernel
theorem dX7_waits_4 : decode cX7_waits 4 = .ok (.iload_n 1, 1) := by decide +kernel
theorem dX7_waits_5 : decode cX7_waits 5 = .ok (.iaload, 1) := by decide +kernel
theorem dX7_waits_6 : decode cX7_waits 6 = .ok (.ifCond .le 20, 3) := by decide +kernel
theorem dX7_waits_9 : decode cX7_waits 9 = .ok (.aload_n 0, 1) := by decide +kernel
theorem dX7_waits_10 : decode cX7_waits 10 = .ok (.getfield 13, 3) := by decide +kernel
theorem dX7_waits_13 : decode cX7_waits 13 = .ok (.bipush 30, 2) := by decide +kernel
theorem dX7_waits_15 : decode cX7_waits 15 = .ok (.iload_n 1, 1) := by decide +kernel
theorem dX7_waits_16 : decode cX7_waits 16 = .ok (.iadd, 1) := by decide +kernel
theorem dX7_waits_17 : decode cX7_waits 17 = .ok (.iaload, 1) := by decide +kernel
theorem dX7_waits_18 : decode cX7_waits 18 = .ok (.iload_n 2, 1) := by decide +kernel
theorem dX7_waits_19 : decode cX7_waits 19 = .ok (.if_icmp .gt 7, 3) := by decide +kernel
theorem dX7_waits_22 : decode cX7_waits 22 = .ok (.iconst 1, 1) := by decide +kernel
theorem dX7_waits_23 : decode cX7_waits 23 = .ok (.goto 4, 3) := by decide +kernel
theorem dX7_waits_26 : decode cX7_waits 26 = .ok (.iconst 0, 1) := by decide +kernel
theorem dX7_waits_27 : decode cX7_waits 27 = .ok (.ireturn, 1) := by decide +kernel
theorem dX7_ahead_0 : decode cX7_ahead 0 = .ok (.iload_n 1, 1) := by decide +kernel
theorem dX7_ahead_1 : decode cX7_ahead 1 = .ok (.iconst 5, 1) := by decide +kernel
theorem dX7_ahead_2 : decode cX7_ahead 2 = .ok (.if_icmp .ne 51, 3) := by decide +kernel
theorem dX7_ahead_5 : decode cX7_ahead 5 = .ok (.aload_n 0, 1) := by decide +kernel
theorem dX7_ahead_6 : decode cX7_ahead 6 = .ok (.getfield 13, 3) := by decide +kernel
theorem dX7_ahead_9 : decode cX7_ahead 9 = .ok (.bipush 10, 2) := by decide +kernel
theorem dX7_ahead_11 : decode cX7_ahead 11 = .ok (.iload_n 2, 1) := by decide +kernel
theorem dX7_ahead_12 : decode cX7_ahead 12 = .ok (.iadd, 1) := by decide +kernel
theorem dX7_ahead_13 : decode cX7_ahead 13 = .ok (.iaload, 1) := by decide +kernel
theorem dX7_ahead_14 : decode cX7_ahead 14 = .ok (.aload_n 0, 1) := by decide +kernel
theorem dX7_ahead_15 : decode cX7_ahead 15 = .ok (.getfield 13, 3) := by decide +kernel
theorem dX7_ahead_18 : decode cX7_ahead 18 = .ok (.bipush 10, 2) := by decide +kernel
theorem dX7_ahead_20 : decode cX7_ahead 20 = .ok (.iload_n 3, 1) := by decide +kernel
theorem dX7_ahead_21 : decode cX7_ahead 21 = .ok (.iadd, 1) := by decide +kernel
theorem dX7_ahead_22 : decode cX7_ahead 22 = .ok (.iaload, 1) := by decide +kernel
theorem dX7_ahead_23 : decode cX7_ahead 23 = .ok (.if_icmp .eq 30, 3) := by decide +kernel
theorem dX7_ahead_26 : decode cX7_ahead 26 = .ok (.aload_n 0, 1) := by decide +kernel
theorem dX7_ahead_27 : decode cX7_ahead 27 = .ok (.getfield 13, 3) := by decide +kernel
theorem dX7_ahead_30 : decode cX7_ahead 30 = .ok (.bipush 10, 2) := by decide +kernel
theorem dX7_ahead_32 : decode cX7_ahead 32 = .ok (.iload_n 2, 1) := by decide +kernel
theorem dX7_ahead_33 : decode cX7_ahead 33 = .ok (.iadd, 1) := by decide +kernel
theorem dX7_ahead_34 : decode cX7_ahead 34 = .ok (.iaload, 1) := by decide +kernel
theorem dX7_ahead_35 : decode cX7_ahead 35 = .ok (.aload_n 0, 1) := by decide +kernel
theorem dX7_ahead_36 : decode cX7_ahead 36 = .ok (.getfield 13, 3) := by decide +kernel
theorem dX7_ahead_39 : decode cX7_ahead 39 = .ok (.bipush 10, 2) := by decide +kernel
theorem dX7_ahead_41 : decode cX7_ahead 41 = .ok (.iload_n 3, 1) := by decide +kernel
theorem dX7_ahead_42 : decode cX7_ahead 42 = .ok (.iadd, 1) := by decide +kernel
theorem dX7_ahead_43 : decode cX7_ahead 43 = .ok (.iaload, 1) := by decide +kernel
theorem dX7_ahead_44 : decode cX7_ahead 44 = .ok (.if_icmp .ge 7, 3) := by decide +kernel
theorem dX7_ahead_47 : decode cX7_ahead 47 = .ok (.iconst 1, 1) := by decide +kernel
theorem dX7_ahead_48 : decode cX7_ahead 48 = .ok (.goto 4, 3) := by decide +kernel
theorem dX7_ahead_51 : decode cX7_ahead 51 = .ok (.iconst 0, 1) := by decide +kernel
theorem dX7_ahead_52 : decode cX7_ahead 52 = .ok (.ireturn, 1) := by decide +kernel
theorem dX7_ahead_53 : decode cX7_ahead 53 = .ok (.iload_n 1, 1) := by decide +kernel
theorem dX7_ahead_54 : decode cX7_ahead 54 = .ok (.iconst 1, 1) := by decide +kernel
theorem dX7_ahead_55 : decode cX7_ahead 55 = .ok (.if_icmp .eq 8, 3) := by decide +kernel
theorem dX7_ahead_58 : decode cX7_ahead 58 = .ok (.iload_n 1, 1) := by decide +kernel
theorem dX7_ahead_59 : decode cX7_ahead 59 = .ok (.iconst 5, 1) := by decide +kernel
theorem dX7_ahead_60 : decode cX7_ahead 60 = .ok (.if_icmp .ne 39, 3) := by decide +kernel
theorem dX7_ahead_63 : decode cX7_ahead 63 = .ok (.aload_n 0, 1) := by decide +kernel
theorem dX7_ahead_64 : decode cX7_ahead 64 = .ok (.getfield 35, 3) := by decide +kernel
theorem dX7_ahead_67 : decode cX7_ahead 67 = .ok (.iload_n 2, 1) := by decide +kernel
theorem dX7_ahead_68 : decode cX7_ahead 68 = .ok (.iaload, 1) := by decide +kernel
theorem dX7_ahead_69 : decode cX7_ahead 69 = .ok (.aload_n 0, 1) := by decide +kernel
theorem dX7_ahead_70 : decode cX7_ahead 70 = .ok (.getfield 35, 3) := by decide +kernel
theorem dX7_ahead_73 : decode cX7_ahead 73 = .ok (.iload_n 3, 1) := by decide +kernel
theorem dX7_ahead_74 : decode cX7_ahead 74 = .ok (.iaload, 1) := by decide +kernel
theorem dX7_ahead_75 : decode cX7_ahead 75 = .ok (.if_icmp .eq 24, 3) := by decide +kernel
theorem dX7_ahead_78 : decode cX7_ahead 78 = .ok (.aload_n 0, 1) := by decide +kernel
theorem dX7_ahead_79 : decode cX7_ahead 79 = .ok (.getfield 35, 3) := by decide +kernel
theorem dX7_ahead_82 : decode cX7_ahead 82 = .ok (.iload_n 2, 1) := by decide +kernel
theorem dX7_ahead_83 : decode cX7_ahead 83 = .ok (.iaload, 1) := by decide +kernel
theorem dX7_ahead_84 : decode cX7_ahead 84 = .ok (.aload_n 0, 1) := by decide +kernel
theorem dX7_ahead_85 : decode cX7_ahead 85 = .ok (.getfield 35, 3) := by decide +kernel
theorem dX7_ahead_88 : decode cX7_ahead 88 = .ok (.iload_n 3, 1) := by decide +kernel
theorem dX7_ahead_89 : decode cX7_ahead 89 = .ok (.iaload, 1) := by decide +kernel
theorem dX7_ahead_90 : decode cX7_ahead 90 = .ok (.if_icmp .ge 7, 3) := by decide +kernel
theorem dX7_ahead_93 : decode cX7_ahead 93 = .ok (.iconst 1, 1) := by decide +kernel
theorem dX7_ahead_94 : decode cX7_ahead 94 = .ok (.goto 4, 3) := by decide +kernel
theorem dX7_ahead_97 : decode cX7_ahead 97 = .ok (.iconst 0, 1) := by decide +kernel
theorem dX7_ahead_98 : decode cX7_ahead 98 = .ok (.ireturn, 1) := by decide +kernel
theorem dX7_ahead_99 : decode cX7_ahead 99 = .ok (.aload_n 0, 1) := by decide +kernel
theorem dX7_ahead_100 : decode cX7_ahead 100 = .ok (.getfield 13, 3) := by decide +kernel
theorem dX7_ahead_103 : decode cX7_ahead 103 = .ok (.bipush 30, 2) := by decide +kernel
theorem dX7_ahead_105 : decode cX7_ahead 105 = .ok (.iload_n 2, 1) := by decide +kernel
theorem dX7_ahead_106 : decode cX7_ahead 106 = .ok (.iadd, 1) := by decide +kernel
theorem dX7_ahead_107 : decode cX7_ahead 107 = .ok (.iaload, 1) := by decide +kernel
theorem dX7_ahead_108 : decode cX7_ahead 108 = .ok (.aload_n 0, 1) := by decide +kernel
theorem dX7_ahead_109 : decode cX7_ahead 109 = .ok (.getfield 13, 3) := by decide +kernel
theorem dX7_ahead_112 : decode cX7_ahead 112 = .ok (.bipush 30, 2) := by decide +kernel
theorem dX7_ahead_114 : decode cX7_ahead 114 = .ok (.iload_n 3, 1) := by decide +kernel
theorem dX7_ahead_115 : decode cX7_ahead 115 = .ok (.iadd, 1) := by decide +kernel
theorem dX7_ahead_116 : decode cX7_ahead 116 = .ok (.iaload, 1) := by decide +kernel
theorem dX7_ahead_117 : decode cX7_ahead 117 = .ok (.if_icmp .ge 7, 3) := by decide +kernel
theorem dX7_ahead_120 : decode cX7_ahead 120 = .ok (.iconst 1, 1) := by decide +kernel
theorem dX7_ahead_121 : decode cX7_ahead 121 = .ok (.goto 4, 3) := by decide +kernel
theorem dX7_ahead_124 : decode cX7_ahead 124 = .ok (.iconst 0, 1) := by decide +kernel
theorem dX7_ahead_125 : decode cX7_ahead 125 = .ok (.ireturn, 1) := by decide +kernel
theorem dX7_chosen_0 : decode cX7_chosen 0 = .ok (.bipush (-9), 2) := by decide +kernel
theorem dX7_chosen_2 : decode cX7_chosen 2 = .ok (.istore 4, 2) := by decide +kernel
theorem dX7_chosen_4 : decode cX7_chosen 4 = .ok (.iconst 1, 1) := by decide +kernel
theorem dX7_chosen_5 : decode cX7_chosen 5 = .ok (.istore 5, 2) := by decide +kernel
theorem dX7_chosen_7 : decode cX7_chosen 7 = .ok (.iload 5, 2) := by decide +kernel
theorem dX7_chosen_9 : decode cX7_chosen 9 = .ok (.aload_n 0, 1) := by decide +kernel
theorem dX7_chosen_10 : decode cX7_chosen 10 = .ok (.getfield 13, 3) := by decide +kernel
theorem dX7_chosen_13 : decode cX7_chosen 13 = .ok (.iconst 0, 1) := by decide +kernel
theorem dX7_chosen_14 : decode cX7_chosen 14 = .ok (.iaload, 1) := by decide +kernel
theorem dX7_chosen_15 : decode cX7_chosen 15 = .ok (.if_icmp .gt 72, 3) := by decide +kernel
theorem dX7_chosen_18 : decode cX7_chosen 18 = .ok (.iload_n 1, 1) := by decide +kernel
theorem dX7_chosen_19 : decode cX7_chosen 19 = .ok (.iconst 2, 1) := by decide +kernel
theorem dX7_chosen_20 : decode cX7_chosen 20 = .ok (.if_icmp .ne 17, 3) := by decide +kernel
theorem dX7_chosen_23 : decode cX7_chosen 23 = .ok (.iload_n 3, 1) := by decide +kernel
theorem dX7_chosen_24 : decode cX7_chosen 24 = .ok (.iload 5, 2) := by decide +kernel
theorem dX7_chosen_26 : decode cX7_chosen 26 = .ok (.iadd, 1) := by decide +kernel
theorem dX7_chosen_27 : decode cX7_chosen 27 = .ok (.aload_n 0, 1) := by decide +kernel
theorem dX7_chosen_28 : decode cX7_chosen 28 = .ok (.getfield 13, 3) := by decide +kernel
theorem dX7_chosen_31 : decode cX7_chosen 31 = .ok (.iconst 0, 1) := by decide +kernel
theorem dX7_chosen_32 : decode cX7_chosen 32 = .ok (.iaload, 1) := by decide +kernel
theorem dX7_chosen_33 : decode cX7_chosen 33 = .ok (.irem, 1) := by decide +kernel
theorem dX7_chosen_34 : decode cX7_chosen 34 = .ok (.goto 7, 3) := by decide +kernel
theorem dX7_chosen_37 : decode cX7_chosen 37 = .ok (.iload 5, 2) := by decide +kernel
theorem dX7_chosen_39 : decode cX7_chosen 39 = .ok (.iconst 1, 1) := by decide +kernel
theorem dX7_chosen_40 : decode cX7_chosen 40 = .ok (.isub, 1) := by decide +kernel
theorem dX7_chosen_41 : decode cX7_chosen 41 = .ok (.istore 6, 2) := by decide +kernel
theorem dX7_chosen_43 : decode cX7_chosen 43 = .ok (.aload_n 0, 1) := by decide +kernel
theorem dX7_chosen_44 : decode cX7_chosen 44 = .ok (.iload 6, 2) := by decide +kernel
theorem dX7_chosen_46 : decode cX7_chosen 46 = .ok (.iload_n 2, 1) := by decide +kernel
theorem dX7_chosen_47 : decode cX7_chosen 47 = .ok (.invokevirtual 106, 3) := by decide +kernel
theorem dX7_chosen_50 : decode cX7_chosen 50 = .ok (.ifCond .eq 31, 3) := by decide +kernel
theorem dX7_chosen_53 : decode cX7_chosen 53 = .ok (.iload 4, 2) := by decide +kernel
theorem dX7_chosen_55 : decode cX7_chosen 55 = .ok (.bipush (-9), 2) := by decide +kernel
theorem dX7_chosen_57 : decode cX7_chosen 57 = .ok (.if_icmp .eq 20, 3) := by decide +kernel
theorem dX7_chosen_60 : decode cX7_chosen 60 = .ok (.iload_n 1, 1) := by decide +kernel
theorem dX7_chosen_61 : decode cX7_chosen 61 = .ok (.iconst 2, 1) := by decide +kernel
theorem dX7_chosen_62 : decode cX7_chosen 62 = .ok (.if_icmp .eq 19, 3) := by decide +kernel
theorem dX7_chosen_65 : decode cX7_chosen 65 = .ok (.aload_n 0, 1) := by decide +kernel
theorem dX7_chosen_66 : decode cX7_chosen 66 = .ok (.iload_n 1, 1) := by decide +kernel
theorem dX7_chosen_67 : decode cX7_chosen 67 = .ok (.iload 6, 2) := by decide +kernel
theorem dX7_chosen_69 : decode cX7_chosen 69 = .ok (.iload 4, 2) := by decide +kernel
theorem dX7_chosen_71 : decode cX7_chosen 71 = .ok (.invokevirtual 109, 3) := by decide +kernel
theorem dX7_chosen_74 : decode cX7_chosen 74 = .ok (.ifCond .eq 7, 3) := by decide +kernel
theorem dX7_chosen_77 : decode cX7_chosen 77 = .ok (.iload 6, 2) := by decide +kernel
theorem dX7_chosen_79 : decode cX7_chosen 79 = .ok (.istore 4, 2) := by decide +kernel
theorem dX7_chosen_81 : decode cX7_chosen 81 = .ok (.iinc 5 1, 3) := by decide +kernel
theorem dX7_chosen_84 : decode cX7_chosen 84 = .ok (.goto (-77), 3) := by decide +kernel
theorem dX7_chosen_87 : decode cX7_chosen 87 = .ok (.iload 4, 2) := by decide +kernel
theorem dX7_chosen_89 : decode cX7_chosen 89 = .ok (.ireturn, 1) := by decide +kernel
theorem dX7_put_0 : decode cX7_put 0 = .ok (.aload_n 0, 1) := by decide +kernel
theorem dX7_put_1 : decode cX7_put 1 = .ok (.getfield 38, 3) := by decide +kernel
theorem dX7_put_4 : decode cX7_put 4 = .ok (.aload_n 0, 1) := by decide +kernel
theorem dX7_put_5 : decode cX7_put 5 = .ok (.getfield 113, 3) := by decide +kernel
theorem dX7_put_8 : decode cX7_put 8 = .ok (.iload_n 1, 1) := by decide +kernel
theorem dX7_put_9 : decode cX7_put 9 = .ok (.iastore, 1) := by decide +kernel
theorem dX7_put_10 : decode cX7_put 10 = .ok (.aload_n 0, 1) := by decide +kernel
theorem dX7_put_11 : decode cX7_put 11 = .ok (.getfield 41, 3) := by decide +kernel
theorem dX7_put_14 : decode cX7_put 14 = .ok (.aload_n 0, 1) := by decide +kernel
theorem dX7_put_15 : decode cX7_put 15 = .ok (.getfield 113, 3) := by decide +kernel
theorem dX7_put_18 : decode cX7_put 18 = .ok (.iload_n 2, 1) := by decide +kernel
theorem dX7_put_19 : decode cX7_put 19 = .ok (.iastore, 1) := by decide +kernel
theorem dX7_put_20 : decode cX7_put 20 = .ok (.aload_n 0, 1) := by decide +kernel
theorem dX7_put_21 : decode cX7_put 21 = .ok (.dup, 1) := by decide +kernel
theorem dX7_put_22 : decode cX7_put 22 = .ok (.getfield 113, 3) := by decide +kernel
theorem dX7_put_25 : decode cX7_put 25 = .ok (.iconst 1, 1) := by decide +kernel
theorem dX7_put_26 : decode cX7_put 26 = .ok (.iadd, 1) := by decide +kernel
theorem dX7_put_27 : decode cX7_put 27 = .ok (.putfield 113, 3) := by decide +kernel
theorem dX7_put_30 : decode cX7_put 30 = .ok (.aload_n 0, 1) := by decide +kernel
theorem dX7_put_31 : decode cX7_put 31 = .ok (.getfield 13, 3) := by decide +kernel
theorem dX7_put_34 : decode cX7_put 34 = .ok (.iconst 2, 1) := by decide +kernel
theorem dX7_put_35 : decode cX7_put 35 = .ok (.iaload, 1) := by decide +kernel
theorem dX7_put_36 : decode cX7_put 36 = .ok (.iconst 3, 1) := by decide +kernel
theorem dX7_put_37 : decode cX7_put 37 = .ok (.if_icmp .ne 42, 3) := by decide +kernel
theorem dX7_put_40 : decode cX7_put 40 = .ok (.aload_n 0, 1) := by decide +kernel
theorem dX7_put_41 : decode cX7_put 41 = .ok (.getfield 116, 3) := by decide +kernel
theorem dX7_put_44 : decode cX7_put 44 = .ok (.istore_n 3, 1) := by decide +kernel
theorem dX7_put_45 : decode cX7_put 45 = .ok (.iload_n 3, 1) := by decide +kernel
theorem dX7_put_46 : decode cX7_put 46 = .ok (.ifCond .le 23, 3) := by decide +kernel
theorem dX7_put_49 : decode cX7_put 49 = .ok (.aload_n 0, 1) := by decide +kernel
theorem dX7_put_50 : decode cX7_put 50 = .ok (.getfield 44, 3) := by decide +kernel
theorem dX7_put_53 : decode cX7_put 53 = .ok (.iload_n 3, 1) := by decide +kernel
theorem dX7_put_54 : decode cX7_put 54 = .ok (.aload_n 0, 1) := by decide +kernel
theorem dX7_put_55 : decode cX7_put 55 = .ok (.getfield 44, 3) := by decide +kernel
theorem dX7_put_58 : decode cX7_put 58 = .ok (.iload_n 3, 1) := by decide +kernel
theorem dX7_put_59 : decode cX7_put 59 = .ok (.iconst 1, 1) := by decide +kernel
theorem dX7_put_60 : decode cX7_put 60 = .ok (.isub, 1) := by decide +kernel
theorem dX7_put_61 : decode cX7_put 61 = .ok (.iaload, 1) := by decide +kernel
theorem dX7_put_62 : decode cX7_put 62 = .ok (.iastore, 1) := by decide +kernel
theorem dX7_put_63 : decode cX7_put 63 = .ok (.iinc 3 (-1), 3) := by decide +kernel
theorem dX7_put_66 : decode cX7_put 66 = .ok (.goto (-21), 3) := by decide +kernel
theorem dX7_put_69 : decode cX7_put 69 = .ok (.aload_n 0, 1) := by decide +kernel
theorem dX7_put_70 : decode cX7_put 70 = .ok (.getfield 44, 3) := by decide +kernel
theorem dX7_put_73 : decode cX7_put 73 = .ok (.iconst 0, 1) := by decide +kernel
theorem dX7_put_74 : decode cX7_put 74 = .ok (.iload_n 1, 1) := by decide +kernel
theorem dX7_put_75 : decode cX7_put 75 = .ok (.iastore, 1) := by decide +kernel
theorem dX7_put_76 : decode cX7_put 76 = .ok (.goto 13, 3) := by decide +kernel
theorem dX7_put_79 : decode cX7_put 79 = .ok (.aload_n 0, 1) := by decide +kernel
theorem dX7_put_80 : decode cX7_put 80 = .ok (.getfield 44, 3) := by decide +kernel
theorem dX7_put_83 : decode cX7_put 83 = .ok (.aload_n 0, 1) := by decide +kernel
theorem dX7_put_84 : decode cX7_put 84 = .ok (.getfield 116, 3) := by decide +kernel
theorem dX7_put_87 : decode cX7_put 87 = .ok (.iload_n 1, 1) := by decide +kernel
theorem dX7_put_88 : decode cX7_put 88 = .ok (.iastore, 1) := by decide +kernel
theorem dX7_put_89 : decode cX7_put 89 = .ok (.aload_n 0, 1) := by decide +kernel
theorem dX7_put_90 : decode cX7_put 90 = .ok (.dup, 1) := by decide +kernel
theorem dX7_put_91 : decode cX7_put 91 = .ok (.getfield 116, 3) := by decide +kernel
theorem dX7_put_94 : decode cX7_put 94 = .ok (.iconst 1, 1) := by decide +kernel
theorem dX7_put_95 : decode cX7_put 95 = .ok (.iadd, 1) := by decide +kernel
theorem dX7_put_96 : decode cX7_put 96 = .ok (.putfield 116, 3) := by decide +kernel
theorem dX7_put_99 : decode cX7_put 99 = .ok (.aload_n 0, 1) := by decide +kernel
theorem dX7_put_100 : decode cX7_put 100 = .ok (.getfield 47, 3) := by decide +kernel
theorem dX7_put_103 : decode cX7_put 103 = .ok (.iload_n 1, 1) := by decide +kernel
theorem dX7_put_104 : decode cX7_put 104 = .ok (.iaload, 1) := by decide +kernel
theorem dX7_put_105 : decode cX7_put 105 = .ok (.bipush (-8), 2) := by decide +kernel
theorem dX7_put_107 : decode cX7_put 107 = .ok (.if_icmp .ne 11, 3) := by decide +kernel
theorem dX7_put_110 : decode cX7_put 110 = .ok (.aload_n 0, 1) := by decide +kernel
theorem dX7_put_111 : decode cX7_put 111 = .ok (.getfield 47, 3) := by decide +kernel
theorem dX7_put_114 : decode cX7_put 114 = .ok (.iload_n 1, 1) := by decide +kernel
theorem dX7_put_115 : decode cX7_put 115 = .ok (.bipush (-9), 2) := by decide +kernel
theorem dX7_put_117 : decode cX7_put 117 = .ok (.iastore, 1) := by decide +kernel
theorem dX7_put_118 : decode cX7_put 118 = .ok (.return_, 1) := by decide +kernel
theorem dX7_isWhole_0 : decode cX7_isWhole 0 = .ok (.iconst 0, 1) := by decide +kernel
theorem dX7_isWhole_1 : decode cX7_isWhole 1 = .ok (.istore_n 2, 1) := by decide +kernel
theorem dX7_isWhole_2 : decode cX7_isWhole 2 = .ok (.iconst 0, 1) := by decide +kernel
theorem dX7_isWhole_3 : decode cX7_isWhole 3 = .ok (.istore_n 3, 1) := by decide +kernel
theorem dX7_isWhole_4 : decode cX7_isWhole 4 = .ok (.iload_n 3, 1) := by decide +kernel
theorem dX7_isWhole_5 : decode cX7_isWhole 5 = .ok (.aload_n 0, 1) := by decide +kernel
theorem dX7_isWhole_6 : decode cX7_isWhole 6 = .ok (.getfield 116, 3) := by decide +kernel
theorem dX7_isWhole_9 : decode cX7_isWhole 9 = .ok (.if_icmp .ge 40, 3) := by decide +kernel
theorem dX7_isWhole_12 : decode cX7_isWhole 12 = .ok (.iload_n 2, 1) := by decide +kernel
theorem dX7_isWhole_13 : decode cX7_isWhole 13 = .ok (.aload_n 0, 1) := by decide +kernel
theorem dX7_isWhole_14 : decode cX7_isWhole 14 = .ok (.getfield 44, 3) := by decide +kernel
theorem dX7_isWhole_17 : decode cX7_isWhole 17 = .ok (.iload_n 3, 1) := by decide +kernel
theorem dX7_isWhole_18 : decode cX7_isWhole 18 = .ok (.iaload, 1) := by decide +kernel
theorem dX7_isWhole_19 : decode cX7_isWhole 19 = .ok (.bipush 10, 2) := by decide +kernel
theorem dX7_isWhole_21 : decode cX7_isWhole 21 = .ok (.idiv, 1) := by decide +kernel
theorem dX7_isWhole_22 : decode cX7_isWhole 22 = .ok (.iload_n 1, 1) := by decide +kernel
theorem dX7_isWhole_23 : decode cX7_isWhole 23 = .ok (.if_icmp .ne 17, 3) := by decide +kernel
theorem dX7_isWhole_26 : decode cX7_isWhole 26 = .ok (.iconst 1, 1) := by decide +kernel
theorem dX7_isWhole_27 : decode cX7_isWhole 27 = .ok (.aload_n 0, 1) := by decide +kernel
theorem dX7_isWhole_28 : decode cX7_isWhole 28 = .ok (.getfield 44, 3) := by decide +kernel
theorem dX7_isWhole_31 : decode cX7_isWhole 31 = .ok (.iload_n 3, 1) := by decide +kernel
theorem dX7_isWhole_32 : decode cX7_isWhole 32 = .ok (.iaload, 1) := by decide +kernel
theorem dX7_isWhole_33 : decode cX7_isWhole 33 = .ok (.bipush 10, 2) := by decide +kernel
theorem dX7_isWhole_35 : decode cX7_isWhole 35 = .ok (.irem, 1) := by decide +kernel
theorem dX7_isWhole_36 : decode cX7_isWhole 36 = .ok (.ishl, 1) := by decide +kernel
theorem dX7_isWhole_37 : decode cX7_isWhole 37 = .ok (.goto 4, 3) := by decide +kernel
theorem dX7_isWhole_40 : decode cX7_isWhole 40 = .ok (.iconst 0, 1) := by decide +kernel
theorem dX7_isWhole_41 : decode cX7_isWhole 41 = .ok (.ior, 1) := by decide +kernel
theorem dX7_isWhole_42 : decode cX7_isWhole 42 = .ok (.istore_n 2, 1) := by decide +kernel
theorem dX7_isWhole_43 : decode cX7_isWhole 43 = .ok (.iinc 3 1, 3) := by decide +kernel
theorem dX7_isWhole_46 : decode cX7_isWhole 46 = .ok (.goto (-42), 3) := by decide +kernel
theorem dX7_isWhole_49 : decode cX7_isWhole 49 = .ok (.iload_n 2, 1) := by decide +kernel
theorem dX7_isWhole_50 : decode cX7_isWhole 50 = .ok (.iconst 2, 1) := by decide +kernel
theorem dX7_isWhole_51 : decode cX7_isWhole 51 = .ok (.aload_n 0, 1) := by decide +kernel
theorem dX7_isWhole_52 : decode cX7_isWhole 52 = .ok (.getfield 13, 3) := by decide +kernel
theorem dX7_isWhole_55 : decode cX7_isWhole 55 = .ok (.bipush 20, 2) := by decide +kernel
theorem dX7_isWhole_57 : decode cX7_isWhole 57 = .ok (.iload_n 1, 1) := by decide +kernel
theorem dX7_isWhole_58 : decode cX7_isWhole 58 = .ok (.iadd, 1) := by decide +kernel
theorem dX7_isWhole_59 : decode cX7_isWhole 59 = .ok (.iaload, 1) := by decide +kernel
theorem dX7_isWhole_60 : decode cX7_isWhole 60 = .ok (.ishl, 1) := by decide +kernel
theorem dX7_isWhole_61 : decode cX7_isWhole 61 = .ok (.iconst 2, 1) := by decide +kernel
theorem dX7_isWhole_62 : decode cX7_isWhole 62 = .ok (.isub, 1) := by decide +kernel
theorem dX7_isWhole_63 : decode cX7_isWhole 63 = .ok (.if_icmp .ne 7, 3) := by decide +kernel
theorem dX7_isWhole_66 : decode cX7_isWhole 66 = .ok (.iconst 1, 1) := by decide +kernel
theorem dX7_isWhole_67 : decode cX7_isWhole 67 = .ok (.goto 4, 3) := by decide +kernel
theorem dX7_isWhole_70 : decode cX7_isWhole 70 = .ok (.iconst 0, 1) := by decide +kernel
theorem dX7_isWhole_71 : decode cX7_isWhole 71 = .ok (.ireturn, 1) := by decide +kernel
theorem dX7_takesSome_0 : decode cX7_takesSome 0 = .ok (.iconst 0, 1) := by decide +kernel
theorem dX7_takesSome_1 : decode cX7_takesSome 1 = .ok (.istore_n 2, 1) := by decide +kernel
theorem dX7_takesSome_2 : decode cX7_takesSome 2 = .ok (.iload_n 2, 1) := by decide +kernel
theorem dX7_takesSome_3 : decode cX7_takesSome 3 = .ok (.aload_n 0, 1) := by decide +kernel
theorem dX7_takesSome_4 : decode cX7_takesSome 4 = .ok (.getfield 13, 3) := by decide +kernel
theorem dX7_takesSome_7 : decode cX7_takesSome 7 = .ok (.iconst 0, 1) := by decide +kernel
theorem dX7_takesSome_8 : decode cX7_takesSome 8 = .ok (.iaload, 1) := by decide +kernel
theorem dX7_takesSome_9 : decode cX7_takesSome 9 = .ok (.if_icmp .ge 40, 3) := by decide +kernel
theorem dX7_takesSome_12 : decode cX7_takesSome 12 = .ok (.aload_n 0, 1) := by decide +kernel
theorem dX7_takesSome_13 : decode cX7_takesSome 13 = .ok (.getfield 13, 3) := by decide +kernel
theorem dX7_takesSome_16 : decode cX7_takesSome 16 = .ok (.bipush 10, 2) := by decide +kernel
theorem dX7_takesSome_18 : decode cX7_takesSome 18 = .ok (.iload_n 2, 1) := by decide +kernel
theorem dX7_takesSome_19 : decode cX7_takesSome 19 = .ok (.iadd, 1) := by decide +kernel
theorem dX7_takesSome_20 : decode cX7_takesSome 20 = .ok (.iaload, 1) := by decide +kernel
theorem dX7_takesSome_21 : decode cX7_takesSome 21 = .ok (.aload_n 0, 1) := by decide +kernel
theorem dX7_takesSome_22 : decode cX7_takesSome 22 = .ok (.getfield 13, 3) := by decide +kernel
theorem dX7_takesSome_25 : decode cX7_takesSome 25 = .ok (.bipush 50, 2) := by decide +kernel
theorem dX7_takesSome_27 : decode cX7_takesSome 27 = .ok (.iload_n 1, 1) := by decide +kernel
theorem dX7_takesSome_28 : decode cX7_takesSome 28 = .ok (.iadd, 1) := by decide +kernel
theorem dX7_takesSome_29 : decode cX7_takesSome 29 = .ok (.iaload, 1) := by decide +kernel
theorem dX7_takesSome_30 : decode cX7_takesSome 30 = .ok (.if_icmp .ne 13, 3) := by decide +kernel
theorem dX7_takesSome_33 : decode cX7_takesSome 33 = .ok (.aload_n 0, 1) := by decide +kernel
theorem dX7_takesSome_34 : decode cX7_takesSome 34 = .ok (.iload_n 2, 1) := by decide +kernel
theorem dX7_takesSome_35 : decode cX7_takesSome 35 = .ok (.invokevirtual 119, 3) := by decide +kernel
theorem dX7_takesSome_38 : decode cX7_takesSome 38 = .ok (.ifCond .eq 5, 3) := by decide +kernel
theorem dX7_takesSome_41 : decode cX7_takesSome 41 = .ok (.iconst 1, 1) := by decide +kernel
theorem dX7_takesSome_42 : decode cX7_takesSome 42 = .ok (.ireturn, 1) := by decide +kernel
theorem dX7_takesSome_43 : decode cX7_takesSome 43 = .ok (.iinc 2 1, 3) := by decide +kernel
theorem dX7_takesSome_46 : decode cX7_takesSome 46 = .ok (.goto (-44), 3) := by decide +kernel
theorem dX7_takesSome_49 : decode cX7_takesSome 49 = .ok (.iconst 0, 1) := by decide +kernel
theorem dX7_takesSome_50 : decode cX7_takesSome 50 = .ok (.ireturn, 1) := by decide +kernel
theorem dX7_take_0 : decode cX7_take 0 = .ok (.aload_n 0, 1) := by decide +kernel
theorem dX7_take_1 : decode cX7_take 1 = .ok (.getfield 13, 3) := by decide +kernel
theorem dX7_take_4 : decode cX7_take 4 = .ok (.bipush 40, 2) := by decide +kernel
theorem dX7_take_6 : decode cX7_take 6 = .ok (.iload_n 1, 1) := by decide +kernel
theorem dX7_take_7 : decode cX7_take 7 = .ok (.iadd, 1) := by decide +kernel
theorem dX7_take_8 : decode cX7_take 8 = .ok (.iaload, 1) := by decide +kernel
theorem dX7_take_9 : decode cX7_take 9 = .ok (.istore_n 2, 1) := by decide +kernel
theorem dX7_take_10 : decode cX7_take 10 = .ok (.aload_n 0, 1) := by decide +kernel
theorem dX7_take_11 : decode cX7_take 11 = .ok (.getfield 13, 3) := by decide +kernel
theorem dX7_take_14 : decode cX7_take 14 = .ok (.bipush 50, 2) := by decide +kernel
theorem dX7_take_16 : decode cX7_take 16 = .ok (.iload_n 1, 1) := by decide +kernel
theorem dX7_take_17 : decode cX7_take 17 = .ok (.iadd, 1) := by decide +kernel
theorem dX7_take_18 : decode cX7_take 18 = .ok (.iaload, 1) := by decide +kernel
theorem dX7_take_19 : decode cX7_take 19 = .ok (.istore_n 3, 1) := by decide +kernel
theorem dX7_take_20 : decode cX7_take 20 = .ok (.aload_n 0, 1) := by decide +kernel
theorem dX7_take_21 : decode cX7_take 21 = .ok (.getfield 13, 3) := by decide +kernel
theorem dX7_take_24 : decode cX7_take 24 = .ok (.bipush 60, 2) := by decide +kernel
theorem dX7_take_26 : decode cX7_take 26 = .ok (.iload_n 1, 1) := by decide +kernel
theorem dX7_take_27 : decode cX7_take 27 = .ok (.iadd, 1) := by decide +kernel
theorem dX7_take_28 : decode cX7_take 28 = .ok (.iaload, 1) := by decide +kernel
theorem dX7_take_29 : decode cX7_take 29 = .ok (.istore 4, 2) := by decide +kernel
theorem dX7_take_31 : decode cX7_take 31 = .ok (.iload_n 2, 1) := by decide +kernel
theorem dX7_take_32 : decode cX7_take 32 = .ok (.iconst 3, 1) := by decide +kernel
theorem dX7_take_33 : decode cX7_take 33 = .ok (.if_icmp .ne 15, 3) := by decide +kernel
theorem dX7_take_36 : decode cX7_take 36 = .ok (.aload_n 0, 1) := by decide +kernel
theorem dX7_take_37 : decode cX7_take 37 = .ok (.iload_n 1, 1) := by decide +kernel
theorem dX7_take_38 : decode cX7_take 38 = .ok (.invokevirtual 123, 3) := by decide +kernel
theorem dX7_take_41 : decode cX7_take 41 = .ok (.ifCond .eq 7, 3) := by decide +kernel
theorem dX7_take_44 : decode cX7_take 44 = .ok (.iconst 1, 1) := by decide +kernel
theorem dX7_take_45 : decode cX7_take 45 = .ok (.goto 4, 3) := by decide +kernel
theorem dX7_take_48 : decode cX7_take 48 = .ok (.iconst 0, 1) := by decide +kernel
theorem dX7_take_49 : decode cX7_take 49 = .ok (.istore 5, 2) := by decide +kernel
theorem dX7_take_51 : decode cX7_take 51 = .ok (.iconst 0, 1) := by decide +kernel
theorem dX7_take_52 : decode cX7_take 52 = .ok (.istore 6, 2) := by decide +kernel
theorem dX7_take_54 : decode cX7_take 54 = .ok (.iload 6, 2) := by decide +kernel
theorem dX7_take_56 : decode cX7_take 56 = .ok (.aload_n 0, 1) := by decide +kernel
theorem dX7_take_57 : decode cX7_take 57 = .ok (.getfield 13, 3) := by decide +kernel
theorem dX7_take_60 : decode cX7_take 60 = .ok (.iconst 0, 1) := by decide +kernel
theorem dX7_take_61 : decode cX7_take 61 = .ok (.iaload, 1) := by decide +kernel
theorem dX7_take_62 : decode cX7_take 62 = .ok (.if_icmp .ge 22, 3) := by decide +kernel
theorem dX7_take_65 : decode cX7_take 65 = .ok (.aload_n 0, 1) := by decide +kernel
theorem dX7_take_66 : decode cX7_take 66 = .ok (.getfield 50, 3) := by decide +kernel
theorem dX7_take_69 : decode cX7_take 69 = .ok (.iload 6, 2) := by decide +kernel
theorem dX7_take_71 : decode cX7_take 71 = .ok (.aload_n 0, 1) := by decide +kernel
theorem dX7_take_72 : decode cX7_take 72 = .ok (.iload 6, 2) := by decide +kernel
theorem dX7_take_74 : decode cX7_take 74 = .ok (.invokevirtual 119, 3) := by decide +kernel
theorem dX7_take_77 : decode cX7_take 77 = .ok (.bastore, 1) := by decide +kernel
theorem dX7_take_78 : decode cX7_take 78 = .ok (.iinc 6 1, 3) := by decide +kernel
theorem dX7_take_81 : decode cX7_take 81 = .ok (.goto (-27), 3) := by decide +kernel
theorem dX7_take_84 : decode cX7_take 84 = .ok (.iconst 0, 1) := by decide +kernel
theorem dX7_take_85 : decode cX7_take 85 = .ok (.istore 6, 2) := by decide +kernel
theorem dX7_take_87 : decode cX7_take 87 = .ok (.aload_n 0, 1) := by decide +kernel
theorem dX7_take_88 : decode cX7_take 88 = .ok (.getfield 116, 3) := by decide +kernel
theorem dX7_take_91 : decode cX7_take 91 = .ok (.istore 7, 2) := by decide +kernel
theorem dX7_take_93 : decode cX7_take 93 = .ok (.iconst 0, 1) := by decide +kernel
theorem dX7_take_94 : decode cX7_take 94 = .ok (.istore 8, 2) := by decide +kernel
theorem dX7_take_96 : decode cX7_take 96 = .ok (.iload 8, 2) := by decide +kernel
theorem dX7_take_98 : decode cX7_take 98 = .ok (.iload 7, 2) := by decide +kernel
theorem dX7_take_100 : decode cX7_take 100 = .ok (.if_icmp .ge 141, 3) := by decide +kernel
theorem dX7_take_103 : decode cX7_take 103 = .ok (.aload_n 0, 1) := by decide +kernel
theorem dX7_take_104 : decode cX7_take 104 = .ok (.getfield 44, 3) := by decide +kernel
theorem dX7_take_107 : decode cX7_take 107 = .ok (.iload 8, 2) := by decide +kernel
theorem dX7_take_109 : decode cX7_take 109 = .ok (.iaload, 1) := by decide +kernel
theorem dX7_take_110 : decode cX7_take 110 = .ok (.istore 9, 2) := by decide +kernel
theorem dX7_take_112 : decode cX7_take 112 = .ok (.aload_n 0, 1) := by decide +kernel
theorem dX7_take_113 : decode cX7_take 113 = .ok (.getfield 13, 3) := by decide +kernel
theorem dX7_take_116 : decode cX7_take 116 = .ok (.bipush 10, 2) := by decide +kernel
theorem dX7_take_118 : decode cX7_take 118 = .ok (.iload 9, 2) := by decide +kernel
theorem dX7_take_120 : decode cX7_take 120 = .ok (.bipush 10, 2) := by decide +kernel
theorem dX7_take_122 : decode cX7_take 122 = .ok (.idiv, 1) := by decide +kernel
theorem dX7_take_123 : decode cX7_take 123 = .ok (.iadd, 1) := by decide +kernel
theorem dX7_take_124 : decode cX7_take 124 = .ok (.iaload, 1) := by decide +kernel
theorem dX7_take_125 : decode cX7_take 125 = .ok (.iload_n 3, 1) := by decide +kernel
theorem dX7_take_126 : decode cX7_take 126 = .ok (.if_icmp .ne 7, 3) := by decide +kernel
theorem dX7_take_129 : decode cX7_take 129 = .ok (.iconst 1, 1) := by decide +kernel
theorem dX7_take_130 : decode cX7_take 130 = .ok (.goto 4, 3) := by decide +kernel
theorem dX7_take_133 : decode cX7_take 133 = .ok (.iconst 0, 1) := by decide +kernel
theorem dX7_take_134 : decode cX7_take 134 = .ok (.istore 10, 2) := by decide +kernel
theorem dX7_take_136 : decode cX7_take 136 = .ok (.iload_n 2, 1) := by decide +kernel
theorem dX7_take_137 : decode cX7_take 137 = .ok (.ifCond .eq 63, 3) := by decide +kernel
theorem dX7_take_140 : decode cX7_take 140 = .ok (.iload 10, 2) := by decide +kernel
theorem dX7_take_142 : decode cX7_take 142 = .ok (.ifCond .eq 31, 3) := by decide +kernel
theorem dX7_take_145 : decode cX7_take 145 = .ok (.iload_n 2, 1) := by decide +kernel
theorem dX7_take_146 : decode cX7_take 146 = .ok (.iconst 1, 1) := by decide +kernel
theorem dX7_take_147 : decode cX7_take 147 = .ok (.if_icmp .eq 53, 3) := by decide +kernel
theorem dX7_take_150 : decode cX7_take 150 = .ok (.iload 5, 2) := by decide +kernel
theorem dX7_take_152 : decode cX7_take 152 = .ok (.ifCond .ne 48, 3) := by decide +kernel
theorem dX7_take_155 : decode cX7_take 155 = .ok (.iload_n 2, 1) := by decide +kernel
theorem dX7_take_156 : decode cX7_take 156 = .ok (.iconst 5, 1) := by decide +kernel
theorem dX7_take_157 : decode cX7_take 157 = .ok (.if_icmp .ne 16, 3) := by decide +kernel
theorem dX7_take_160 : decode cX7_take 160 = .ok (.aload_n 0, 1) := by decide +kernel
theorem dX7_take_161 : decode cX7_take 161 = .ok (.getfield 50, 3) := by decide +kernel
theorem dX7_take_164 : decode cX7_take 164 = .ok (.iload 9, 2) := by decide +kernel
theorem dX7_take_166 : decode cX7_take 166 = .ok (.bipush 10, 2) := by decide +kernel
theorem dX7_take_168 : decode cX7_take 168 = .ok (.idiv, 1) := by decide +kernel
theorem dX7_take_169 : decode cX7_take 169 = .ok (.baload, 1) := by decide +kernel
theorem dX7_take_170 : decode cX7_take 170 = .ok (.ifCond .ne 30, 3) := by decide +kernel
theorem dX7_take_173 : decode cX7_take 173 = .ok (.iload_n 2, 1) := by decide +kernel
theorem dX7_take_174 : decode cX7_take 174 = .ok (.iconst 2, 1) := by decide +kernel
theorem dX7_take_175 : decode cX7_take 175 = .ok (.if_icmp .ne 13, 3) := by decide +kernel
theorem dX7_take_178 : decode cX7_take 178 = .ok (.iload 8, 2) := by decide +kernel
theorem dX7_take_180 : decode cX7_take 180 = .ok (.iload 7, 2) := by decide +kernel
theorem dX7_take_182 : decode cX7_take 182 = .ok (.iload 4, 2) := by decide +kernel
theorem dX7_take_184 : decode cX7_take 184 = .ok (.isub, 1) := by decide +kernel
theorem dX7_take_185 : decode cX7_take 185 = .ok (.if_icmp .ge 15, 3) := by decide +kernel
theorem dX7_take_188 : decode cX7_take 188 = .ok (.iload_n 2, 1) := by decide +kernel
theorem dX7_take_189 : decode cX7_take 189 = .ok (.iconst 4, 1) := by decide +kernel
theorem dX7_take_190 : decode cX7_take 190 = .ok (.if_icmp .ne 14, 3) := by decide +kernel
theorem dX7_take_193 : decode cX7_take 193 = .ok (.iload 8, 2) := by decide +kernel
theorem dX7_take_195 : decode cX7_take 195 = .ok (.iload 4, 2) := by decide +kernel
theorem dX7_take_197 : decode cX7_take 197 = .ok (.if_icmp .ge 7, 3) := by decide +kernel
theorem dX7_take_200 : decode cX7_take 200 = .ok (.iconst 1, 1) := by decide +kernel
theorem dX7_take_201 : decode cX7_take 201 = .ok (.goto 4, 3) := by decide +kernel
theorem dX7_take_204 : decode cX7_take 204 = .ok (.iconst 0, 1) := by decide +kernel
theorem dX7_take_205 : decode cX7_take 205 = .ok (.istore 11, 2) := by decide +kernel
theorem dX7_take_207 : decode cX7_take 207 = .ok (.iload 11, 2) := by decide +kernel
theorem dX7_take_209 : decode cX7_take 209 = .ok (.ifCond .eq 14, 3) := by decide +kernel
theorem dX7_take_212 : decode cX7_take 212 = .ok (.aload_n 0, 1) := by decide +kernel
theorem dX7_take_213 : decode cX7_take 213 = .ok (.getfield 47, 3) := by decide +kernel
theorem dX7_take_216 : decode cX7_take 216 = .ok (.iload 9, 2) := by decide +kernel
theorem dX7_take_218 : decode cX7_take 218 = .ok (.iload_n 3, 1) := by decide +kernel
theorem dX7_take_219 : decode cX7_take 219 = .ok (.iastore, 1) := by decide +kernel
theorem dX7_take_220 : decode cX7_take 220 = .ok (.goto 15, 3) := by decide +kernel
theorem dX7_take_223 : decode cX7_take 223 = .ok (.aload_n 0, 1) := by decide +kernel
theorem dX7_take_224 : decode cX7_take 224 = .ok (.getfield 44, 3) := by decide +kernel
theorem dX7_take_227 : decode cX7_take 227 = .ok (.iload 6, 2) := by decide +kernel
theorem dX7_take_229 : decode cX7_take 229 = .ok (.iload 9, 2) := by decide +kernel
theorem dX7_take_231 : decode cX7_take 231 = .ok (.iastore, 1) := by decide +kernel
theorem dX7_take_232 : decode cX7_take 232 = .ok (.iinc 6 1, 3) := by decide +kernel
theorem dX7_take_235 : decode cX7_take 235 = .ok (.iinc 8 1, 3) := by decide +kernel
theorem dX7_take_238 : decode cX7_take 238 = .ok (.goto (-142), 3) := by decide +kernel
theorem dX7_take_241 : decode cX7_take 241 = .ok (.aload_n 0, 1) := by decide +kernel
theorem dX7_take_242 : decode cX7_take 242 = .ok (.iload 6, 2) := by decide +kernel
theorem dX7_take_244 : decode cX7_take 244 = .ok (.putfield 116, 3) := by decide +kernel
theorem dX7_take_247 : decode cX7_take 247 = .ok (.return_, 1) := by decide +kernel
theorem dX7_goTo_0 : decode cX7_goTo 0 = .ok (.aload_n 0, 1) := by decide +kernel
theorem dX7_goTo_1 : decode cX7_goTo 1 = .ok (.iconst 0, 1) := by decide +kernel
theorem dX7_goTo_2 : decode cX7_goTo 2 = .ok (.putfield 113, 3) := by decide +kernel
theorem dX7_goTo_5 : decode cX7_goTo 5 = .ok (.aload_n 0, 1) := by decide +kernel
theorem dX7_goTo_6 : decode cX7_goTo 6 = .ok (.iconst 0, 1) := by decide +kernel
theorem dX7_goTo_7 : decode cX7_goTo 7 = .ok (.putfield 116, 3) := by decide +kernel
theorem dX7_goTo_10 : decode cX7_goTo 10 = .ok (.iconst 0, 1) := by decide +kernel
theorem dX7_goTo_11 : decode cX7_goTo 11 = .ok (.istore_n 2, 1) := by decide +kernel
theorem dX7_goTo_12 : decode cX7_goTo 12 = .ok (.iload_n 2, 1) := by decide +kernel
theorem dX7_goTo_13 : decode cX7_goTo 13 = .ok (.bipush 6, 2) := by decide +kernel
theorem dX7_goTo_15 : decode cX7_goTo 15 = .ok (.if_icmp .ge 38, 3) := by decide +kernel
theorem dX7_goTo_18 : decode cX7_goTo 18 = .ok (.aload_n 0, 1) := by decide +kernel
theorem dX7_goTo_19 : decode cX7_goTo 19 = .ok (.getfield 35, 3) := by decide +kernel
theorem dX7_goTo_22 : decode cX7_goTo 22 = .ok (.iload_n 2, 1) := by decide +kernel
theorem dX7_goTo_23 : decode cX7_goTo 23 = .ok (.iload_n 2, 1) := by decide +kernel
theorem dX7_goTo_24 : decode cX7_goTo 24 = .ok (.aload_n 0, 1) := by decide +kernel
theorem dX7_goTo_25 : decode cX7_goTo 25 = .ok (.getfield 13, 3) := by decide +kernel
theorem dX7_goTo_28 : decode cX7_goTo 28 = .ok (.iconst 0, 1) := by decide +kernel
theorem dX7_goTo_29 : decode cX7_goTo 29 = .ok (.iaload, 1) := by decide +kernel
theorem dX7_goTo_30 : decode cX7_goTo 30 = .ok (.if_icmp .ge 15, 3) := by decide +kernel
theorem dX7_goTo_33 : decode cX7_goTo 33 = .ok (.aload_n 0, 1) := by decide +kernel
theorem dX7_goTo_34 : decode cX7_goTo 34 = .ok (.getfield 13, 3) := by decide +kernel
theorem dX7_goTo_37 : decode cX7_goTo 37 = .ok (.bipush 20, 2) := by decide +kernel
theorem dX7_goTo_39 : decode cX7_goTo 39 = .ok (.iload_n 2, 1) := by decide +kernel
theorem dX7_goTo_40 : decode cX7_goTo 40 = .ok (.iadd, 1) := by decide +kernel
theorem dX7_goTo_41 : decode cX7_goTo 41 = .ok (.iaload, 1) := by decide +kernel
theorem dX7_goTo_42 : decode cX7_goTo 42 = .ok (.goto 4, 3) := by decide +kernel
theorem dX7_goTo_45 : decode cX7_goTo 45 = .ok (.iconst 0, 1) := by decide +kernel
theorem dX7_goTo_46 : decode cX7_goTo 46 = .ok (.iastore, 1) := by decide +kernel
theorem dX7_goTo_47 : decode cX7_goTo 47 = .ok (.iinc 2 1, 3) := by decide +kernel
theorem dX7_goTo_50 : decode cX7_goTo 50 = .ok (.goto (-38), 3) := by decide +kernel
theorem dX7_goTo_53 : decode cX7_goTo 53 = .ok (.iconst 0, 1) := by decide +kernel
theorem dX7_goTo_54 : decode cX7_goTo 54 = .ok (.istore_n 2, 1) := by decide +kernel
theorem dX7_goTo_55 : decode cX7_goTo 55 = .ok (.iload_n 2, 1) := by decide +kernel
theorem dX7_goTo_56 : decode cX7_goTo 56 = .ok (.bipush 60, 2) := by decide +kernel
theorem dX7_goTo_58 : decode cX7_goTo 58 = .ok (.if_icmp .ge 17, 3) := by decide +kernel
theorem dX7_goTo_61 : decode cX7_goTo 61 = .ok (.aload_n 0, 1) := by decide +kernel
theorem dX7_goTo_62 : decode cX7_goTo 62 = .ok (.getfield 47, 3) := by decide +kernel
theorem dX7_goTo_65 : decode cX7_goTo 65 = .ok (.iload_n 2, 1) := by decide +kernel
theorem dX7_goTo_66 : decode cX7_goTo 66 = .ok (.bipush (-8), 2) := by decide +kernel
theorem dX7_goTo_68 : decode cX7_goTo 68 = .ok (.iastore, 1) := by decide +kernel
theorem dX7_goTo_69 : decode cX7_goTo 69 = .ok (.iinc 2 1, 3) := by decide +kernel
theorem dX7_goTo_72 : decode cX7_goTo 72 = .ok (.goto (-17), 3) := by decide +kernel
theorem dX7_goTo_75 : decode cX7_goTo 75 = .ok (.aload_n 0, 1) := by decide +kernel
theorem dX7_goTo_76 : decode cX7_goTo 76 = .ok (.getfield 13, 3) := by decide +kernel
theorem dX7_goTo_79 : decode cX7_goTo 79 = .ok (.iconst 2, 1) := by decide +kernel
theorem dX7_goTo_80 : decode cX7_goTo 80 = .ok (.iaload, 1) := by decide +kernel
theorem dX7_goTo_81 : decode cX7_goTo 81 = .ok (.istore_n 2, 1) := by decide +kernel
theorem dX7_goTo_82 : decode cX7_goTo 82 = .ok (.aload_n 0, 1) := by decide +kernel
theorem dX7_goTo_83 : decode cX7_goTo 83 = .ok (.getfield 13, 3) := by decide +kernel
theorem dX7_goTo_86 : decode cX7_goTo 86 = .ok (.iconst 0, 1) := by decide +kernel
theorem dX7_goTo_87 : decode cX7_goTo 87 = .ok (.iaload, 1) := by decide +kernel
theorem dX7_goTo_88 : decode cX7_goTo 88 = .ok (.iconst 1, 1) := by decide +kernel
theorem dX7_goTo_89 : decode cX7_goTo 89 = .ok (.isub, 1) := by decide +kernel
theorem dX7_goTo_90 : decode cX7_goTo 90 = .ok (.istore_n 3, 1) := by decide +kernel
theorem dX7_goTo_91 : decode cX7_goTo 91 = .ok (.iconst 0, 1) := by decide +kernel
theorem dX7_goTo_92 : decode cX7_goTo 92 = .ok (.istore 4, 2) := by decide +kernel
theorem dX7_goTo_94 : decode cX7_goTo 94 = .ok (.iconst 0, 1) := by decide +kernel
theorem dX7_goTo_95 : decode cX7_goTo 95 = .ok (.istore 5, 2) := by decide +kernel
theorem dX7_goTo_97 : decode cX7_goTo 97 = .ok (.iload 5, 2) := by decide +kernel
theorem dX7_goTo_99 : decode cX7_goTo 99 = .ok (.iload_n 1, 1) := by decide +kernel
theorem dX7_goTo_100 : decode cX7_goTo 100 = .ok (.if_icmp .gt 176, 3) := by decide +kernel
theorem dX7_goTo_103 : decode cX7_goTo 103 = .ok (.iload_n 2, 1) := by decide +kernel
theorem dX7_goTo_104 : decode cX7_goTo 104 = .ok (.iconst 4, 1) := by decide +kernel
theorem dX7_goTo_105 : decode cX7_goTo 105 = .ok (.if_icmp .ne 46, 3) := by decide +kernel
theorem dX7_goTo_108 : decode cX7_goTo 108 = .ok (.aload_n 0, 1) := by decide +kernel
theorem dX7_goTo_109 : decode cX7_goTo 109 = .ok (.getfield 13, 3) := by decide +kernel
theorem dX7_goTo_112 : decode cX7_goTo 112 = .ok (.iconst 3, 1) := by decide +kernel
theorem dX7_goTo_113 : decode cX7_goTo 113 = .ok (.iaload, 1) := by decide +kernel
theorem dX7_goTo_114 : decode cX7_goTo 114 = .ok (.ifCond .le 37, 3) := by decide +kernel
theorem dX7_goTo_117 : decode cX7_goTo 117 = .ok (.iload 4, 2) := by decide +kernel
theorem dX7_goTo_119 : decode cX7_goTo 119 = .ok (.aload_n 0, 1) := by decide +kernel
theorem dX7_goTo_120 : decode cX7_goTo 120 = .ok (.getfield 13, 3) := by decide +kernel
theorem dX7_goTo_123 : decode cX7_goTo 123 = .ok (.iconst 3, 1) := by decide +kernel
theorem dX7_goTo_124 : decode cX7_goTo 124 = .ok (.iaload, 1) := by decide +kernel
theorem dX7_goTo_125 : decode cX7_goTo 125 = .ok (.if_icmp .ne 26, 3) := by decide +kernel
theorem dX7_goTo_128 : decode cX7_goTo 128 = .ok (.aload_n 0, 1) := by decide +kernel
theorem dX7_goTo_129 : decode cX7_goTo 129 = .ok (.aload_n 0, 1) := by decide +kernel
theorem dX7_goTo_130 : decode cX7_goTo 130 = .ok (.getfield 38, 3) := by decide +kernel
theorem dX7_goTo_133 : decode cX7_goTo 133 = .ok (.aload_n 0, 1) := by decide +kernel
theorem dX7_goTo_134 : decode cX7_goTo 134 = .ok (.getfield 113, 3) := by decide +kernel
theorem dX7_goTo_137 : decode cX7_goTo 137 = .ok (.iconst 1, 1) := by decide +kernel
theorem dX7_goTo_138 : decode cX7_goTo 138 = .ok (.isub, 1) := by decide +kernel
theorem dX7_goTo_139 : decode cX7_goTo 139 = .ok (.iaload, 1) := by decide +kernel
theorem dX7_goTo_140 : decode cX7_goTo 140 = .ok (.iload 5, 2) := by decide +kernel
theorem dX7_goTo_142 : decode cX7_goTo 142 = .ok (.invokevirtual 126, 3) := by decide +kernel
theorem dX7_goTo_145 : decode cX7_goTo 145 = .ok (.iconst 0, 1) := by decide +kernel
theorem dX7_goTo_146 : decode cX7_goTo 146 = .ok (.istore 4, 2) := by decide +kernel
theorem dX7_goTo_148 : decode cX7_goTo 148 = .ok (.goto 81, 3) := by decide +kernel
theorem dX7_goTo_151 : decode cX7_goTo 151 = .ok (.aload_n 0, 1) := by decide +kernel
theorem dX7_goTo_152 : decode cX7_goTo 152 = .ok (.getfield 13, 3) := by decide +kernel
theorem dX7_goTo_155 : decode cX7_goTo 155 = .ok (.iconst 0, 1) := by decide +kernel
theorem dX7_goTo_156 : decode cX7_goTo 156 = .ok (.iaload, 1) := by decide +kernel
theorem dX7_goTo_157 : decode cX7_goTo 157 = .ok (.ifCond .ne 8, 3) := by decide +kernel
theorem dX7_goTo_160 : decode cX7_goTo 160 = .ok (.bipush (-9), 2) := by decide +kernel
theorem dX7_goTo_162 : decode cX7_goTo 162 = .ok (.goto 11, 3) := by decide +kernel
theorem dX7_goTo_165 : decode cX7_goTo 165 = .ok (.aload_n 0, 1) := by decide +kernel
theorem dX7_goTo_166 : decode cX7_goTo 166 = .ok (.iload_n 2, 1) := by decide +kernel
theorem dX7_goTo_167 : decode cX7_goTo 167 = .ok (.iload 5, 2) := by decide +kernel
theorem dX7_goTo_169 : decode cX7_goTo 169 = .ok (.iload_n 3, 1) := by decide +kernel
theorem dX7_goTo_170 : decode cX7_goTo 170 = .ok (.invokevirtual 130, 3) := by decide +kernel
theorem dX7_goTo_173 : decode cX7_goTo 173 = .ok (.istore 6, 2) := by decide +kernel
theorem dX7_goTo_175 : decode cX7_goTo 175 = .ok (.iload 6, 2) := by decide +kernel
theorem dX7_goTo_177 : decode cX7_goTo 177 = .ok (.bipush (-9), 2) := by decide +kernel
theorem dX7_goTo_179 : decode cX7_goTo 179 = .ok (.if_icmp .eq 50, 3) := by decide +kernel
theorem dX7_goTo_182 : decode cX7_goTo 182 = .ok (.aload_n 0, 1) := by decide +kernel
theorem dX7_goTo_183 : decode cX7_goTo 183 = .ok (.getfield 35, 3) := by decide +kernel
theorem dX7_goTo_186 : decode cX7_goTo 186 = .ok (.iload 6, 2) := by decide +kernel
theorem dX7_goTo_188 : decode cX7_goTo 188 = .ok (.dup2, 1) := by decide +kernel
theorem dX7_goTo_189 : decode cX7_goTo 189 = .ok (.iaload, 1) := by decide +kernel
theorem dX7_goTo_190 : decode cX7_goTo 190 = .ok (.iconst 1, 1) := by decide +kernel
theorem dX7_goTo_191 : decode cX7_goTo 191 = .ok (.isub, 1) := by decide +kernel
theorem dX7_goTo_192 : decode cX7_goTo 192 = .ok (.iastore, 1) := by decide +kernel
theorem dX7_goTo_193 : decode cX7_goTo 193 = .ok (.aload_n 0, 1) := by decide +kernel
theorem dX7_goTo_194 : decode cX7_goTo 194 = .ok (.bipush 10, 2) := by decide +kernel
theorem dX7_goTo_196 : decode cX7_goTo 196 = .ok (.iload 6, 2) := by decide +kernel
theorem dX7_goTo_198 : decode cX7_goTo 198 = .ok (.imul, 1) := by decide +kernel
theorem dX7_goTo_199 : decode cX7_goTo 199 = .ok (.aload_n 0, 1) := by decide +kernel
theorem dX7_goTo_200 : decode cX7_goTo 200 = .ok (.getfield 13, 3) := by decide +kernel
theorem dX7_goTo_203 : decode cX7_goTo 203 = .ok (.bipush 20, 2) := by decide +kernel
theorem dX7_goTo_205 : decode cX7_goTo 205 = .ok (.iload 6, 2) := by decide +kernel
theorem dX7_goTo_207 : decode cX7_goTo 207 = .ok (.iadd, 1) := by decide +kernel
theorem dX7_goTo_208 : decode cX7_goTo 208 = .ok (.iaload, 1) := by decide +kernel
theorem dX7_goTo_209 : decode cX7_goTo 209 = .ok (.iadd, 1) := by decide +kernel
theorem dX7_goTo_210 : decode cX7_goTo 210 = .ok (.aload_n 0, 1) := by decide +kernel
theorem dX7_goTo_211 : decode cX7_goTo 211 = .ok (.getfield 35, 3) := by decide +kernel
theorem dX7_goTo_214 : decode cX7_goTo 214 = .ok (.iload 6, 2) := by decide +kernel
theorem dX7_goTo_216 : decode cX7_goTo 216 = .ok (.iaload, 1) := by decide +kernel
theorem dX7_goTo_217 : decode cX7_goTo 217 = .ok (.isub, 1) := by decide +kernel
theorem dX7_goTo_218 : decode cX7_goTo 218 = .ok (.iload 5, 2) := by decide +kernel
theorem dX7_goTo_220 : decode cX7_goTo 220 = .ok (.invokevirtual 126, 3) := by decide +kernel
theorem dX7_goTo_223 : decode cX7_goTo 223 = .ok (.iload 6, 2) := by decide +kernel
theorem dX7_goTo_225 : decode cX7_goTo 225 = .ok (.istore_n 3, 1) := by decide +kernel
theorem dX7_goTo_226 : decode cX7_goTo 226 = .ok (.iinc 4 1, 3) := by decide +kernel
theorem dX7_goTo_229 : decode cX7_goTo 229 = .ok (.iconst 0, 1) := by decide +kernel
theorem dX7_goTo_230 : decode cX7_goTo 230 = .ok (.istore 6, 2) := by decide +kernel
theorem dX7_goTo_232 : decode cX7_goTo 232 = .ok (.iload 6, 2) := by decide +kernel
theorem dX7_goTo_234 : decode cX7_goTo 234 = .ok (.aload_n 0, 1) := by decide +kernel
theorem dX7_goTo_235 : decode cX7_goTo 235 = .ok (.getfield 13, 3) := by decide +kernel
theorem dX7_goTo_238 : decode cX7_goTo 238 = .ok (.iconst 1, 1) := by decide +kernel
theorem dX7_goTo_239 : decode cX7_goTo 239 = .ok (.iaload, 1) := by decide +kernel
theorem dX7_goTo_240 : decode cX7_goTo 240 = .ok (.if_icmp .ge 30, 3) := by decide +kernel
theorem dX7_goTo_243 : decode cX7_goTo 243 = .ok (.aload_n 0, 1) := by decide +kernel
theorem dX7_goTo_244 : decode cX7_goTo 244 = .ok (.getfield 13, 3) := by decide +kernel
theorem dX7_goTo_247 : decode cX7_goTo 247 = .ok (.bipush 70, 2) := by decide +kernel
theorem dX7_goTo_249 : decode cX7_goTo 249 = .ok (.iload 6, 2) := by decide +kernel
theorem dX7_goTo_251 : decode cX7_goTo 251 = .ok (.iadd, 1) := by decide +kernel
theorem dX7_goTo_252 : decode cX7_goTo 252 = .ok (.iaload, 1) := by decide +kernel
theorem dX7_goTo_253 : decode cX7_goTo 253 = .ok (.iload 5, 2) := by decide +kernel
theorem dX7_goTo_255 : decode cX7_goTo 255 = .ok (.if_icmp .ne 9, 3) := by decide +kernel
theorem dX7_goTo_258 : decode cX7_goTo 258 = .ok (.aload_n 0, 1) := by decide +kernel
theorem dX7_goTo_259 : decode cX7_goTo 259 = .ok (.iload 6, 2) := by decide +kernel
theorem dX7_goTo_261 : decode cX7_goTo 261 = .ok (.invokevirtual 134, 3) := by decide +kernel
theorem dX7_goTo_264 : decode cX7_goTo 264 = .ok (.iinc 6 1, 3) := by decide +kernel
theorem dX7_goTo_267 : decode cX7_goTo 267 = .ok (.goto (-35), 3) := by decide +kernel
theorem dX7_goTo_270 : decode cX7_goTo 270 = .ok (.iinc 5 1, 3) := by decide +kernel
theorem dX7_goTo_273 : decode cX7_goTo 273 = .ok (.goto (-176), 3) := by decide +kernel
theorem dX7_goTo_276 : decode cX7_goTo 276 = .ok (.return_, 1) := by decide +kernel
theorem dX7_mixing_0 : decode cX7_mixing 0 = .ok (.iconst 0, 1) := by decide +kernel
theorem dX7_mixing_1 : decode cX7_mixing 1 = .ok (.istore_n 1, 1) := by decide +kernel
theorem dX7_mixing_2 : decode cX7_mixing 2 = .ok (.iconst 1, 1) := by decide +kernel
theorem dX7_mixing_3 : decode cX7_mixing 3 = .ok (.istore_n 2, 1) := by decide +kernel
theorem dX7_mixing_4 : decode cX7_mixing 4 = .ok (.iload_n 2, 1) := by decide +kernel
theorem dX7_mixing_5 : decode cX7_mixing 5 = .ok (.aload_n 0, 1) := by decide +kernel
theorem dX7_mixing_6 : decode cX7_mixing 6 = .ok (.getfield 113, 3) := by decide +kernel
theorem dX7_mixing_9 : decode cX7_mixing 9 = .ok (.if_icmp .ge 40, 3) := by decide +kernel
theorem dX7_mixing_12 : decode cX7_mixing 12 = .ok (.iload_n 1, 1) := by decide +kernel
theorem dX7_mixing_13 : decode cX7_mixing 13 = .ok (.aload_n 0, 1) := by decide +kernel
theorem dX7_mixing_14 : decode cX7_mixing 14 = .ok (.getfield 38, 3) := by decide +kernel
theorem dX7_mixing_17 : decode cX7_mixing 17 = .ok (.iload_n 2, 1) := by decide +kernel
theorem dX7_mixing_18 : decode cX7_mixing 18 = .ok (.iaload, 1) := by decide +kernel
theorem dX7_mixing_19 : decode cX7_mixing 19 = .ok (.bipush 10, 2) := by decide +kernel
theorem dX7_mixing_21 : decode cX7_mixing 21 = .ok (.idiv, 1) := by decide +kernel
theorem dX7_mixing_22 : decode cX7_mixing 22 = .ok (.aload_n 0, 1) := by decide +kernel
theorem dX7_mixing_23 : decode cX7_mixing 23 = .ok (.getfield 38, 3) := by decide +kernel
theorem dX7_mixing_26 : decode cX7_mixing 26 = .ok (.iload_n 2, 1) := by decide +kernel
theorem dX7_mixing_27 : decode cX7_mixing 27 = .ok (.iconst 1, 1) := by decide +kernel
theorem dX7_mixing_28 : decode cX7_mixing 28 = .ok (.isub, 1) := by decide +kernel
theorem dX7_mixing_29 : decode cX7_mixing 29 = .ok (.iaload, 1) := by decide +kernel
theorem dX7_mixing_30 : decode cX7_mixing 30 = .ok (.bipush 10, 2) := by decide +kernel
theorem dX7_mixing_32 : decode cX7_mixing 32 = .ok (.idiv, 1) := by decide +kernel
theorem dX7_mixing_33 : decode cX7_mixing 33 = .ok (.if_icmp .eq 7, 3) := by decide +kernel
theorem dX7_mixing_36 : decode cX7_mixing 36 = .ok (.iconst 1, 1) := by decide +kernel
theorem dX7_mixing_37 : decode cX7_mixing 37 = .ok (.goto 4, 3) := by decide +kernel
theorem dX7_mixing_40 : decode cX7_mixing 40 = .ok (.iconst 0, 1) := by decide +kernel
theorem dX7_mixing_41 : decode cX7_mixing 41 = .ok (.iadd, 1) := by decide +kernel
theorem dX7_mixing_42 : decode cX7_mixing 42 = .ok (.istore_n 1, 1) := by decide +kernel
theorem dX7_mixing_43 : decode cX7_mixing 43 = .ok (.iinc 2 1, 3) := by decide +kernel
theorem dX7_mixing_46 : decode cX7_mixing 46 = .ok (.goto (-42), 3) := by decide +kernel
theorem dX7_mixing_49 : decode cX7_mixing 49 = .ok (.iload_n 1, 1) := by decide +kernel
theorem dX7_mixing_50 : decode cX7_mixing 50 = .ok (.ireturn, 1) := by decide +kernel
theorem dX7_isNoOwner_0 : decode cX7_isNoOwner 0 = .ok (.iload_n 1, 1) := by decide +kernel
theorem dX7_isNoOwner_1 : decode cX7_isNoOwner 1 = .ok (.ifCond .lt 8, 3) := by decide +kernel
theorem dX7_isNoOwner_4 : decode cX7_isNoOwner 4 = .ok (.iload_n 1, 1) := by decide +kernel
theorem dX7_isNoOwner_5 : decode cX7_isNoOwner 5 = .ok (.iconst 4, 1) := by decide +kernel
theorem dX7_isNoOwner_6 : decode cX7_isNoOwner 6 = .ok (.if_icmp .lt 7, 3) := by decide +kernel
theorem dX7_isNoOwner_9 : decode cX7_isNoOwner 9 = .ok (.iconst 1, 1) := by decide +kernel
theorem dX7_isNoOwner_10 : decode cX7_isNoOwner 10 = .ok (.goto 4, 3) := by decide +kernel
theorem dX7_isNoOwner_13 : decode cX7_isNoOwner 13 = .ok (.iconst 0, 1) := by decide +kernel
theorem dX7_isNoOwner_14 : decode cX7_isNoOwner 14 = .ok (.ireturn, 1) := by decide +kernel
theorem dX7_isNoJob_0 : decode cX7_isNoJob 0 = .ok (.iload_n 1, 1) := by decide +kernel
theorem dX7_isNoJob_1 : decode cX7_isNoJob 1 = .ok (.ifCond .lt 13, 3) := by decide +kernel
theorem dX7_isNoJob_4 : decode cX7_isNoJob 4 = .ok (.iload_n 1, 1) := by decide +kernel
theorem dX7_isNoJob_5 : decode cX7_isNoJob 5 = .ok (.aload_n 0, 1) := by decide +kernel
theorem dX7_isNoJob_6 : decode cX7_isNoJob 6 = .ok (.getfield 13, 3) := by decide +kernel
theorem dX7_isNoJob_9 : decode cX7_isNoJob 9 = .ok (.iconst 0, 1) := by decide +kernel
theorem dX7_isNoJob_10 : decode cX7_isNoJob 10 = .ok (.iaload, 1) := by decide +kernel
theorem dX7_isNoJob_11 : decode cX7_isNoJob 11 = .ok (.if_icmp .lt 7, 3) := by decide +kernel
theorem dX7_isNoJob_14 : decode cX7_isNoJob 14 = .ok (.iconst 1, 1) := by decide +kernel
theorem dX7_isNoJob_15 : decode cX7_isNoJob 15 = .ok (.goto 4, 3) := by decide +kernel
theorem dX7_isNoJob_18 : decode cX7_isNoJob 18 = .ok (.iconst 0, 1) := by decide +kernel
theorem dX7_isNoJob_19 : decode cX7_isNoJob 19 = .ok (.ireturn, 1) := by decide +kernel
theorem dX7_isNoTaker_0 : decode cX7_isNoTaker 0 = .ok (.iload_n 1, 1) := by decide +kernel
theorem dX7_isNoTaker_1 : decode cX7_isNoTaker 1 = .ok (.ifCond .lt 13, 3) := by decide +kernel
theorem dX7_isNoTaker_4 : decode cX7_isNoTaker 4 = .ok (.iload_n 1, 1) := by decide +kernel
theorem dX7_isNoTaker_5 : decode cX7_isNoTaker 5 = .ok (.aload_n 0, 1) := by decide +kernel
theorem dX7_isNoTaker_6 : decode cX7_isNoTaker 6 = .ok (.getfield 13, 3) := by decide +kernel
theorem dX7_isNoTaker_9 : decode cX7_isNoTaker 9 = .ok (.iconst 1, 1) := by decide +kernel
theorem dX7_isNoTaker_10 : decode cX7_isNoTaker 10 = .ok (.iaload, 1) := by decide +kernel
theorem dX7_isNoTaker_11 : decode cX7_isNoTaker 11 = .ok (.if_icmp .lt 7, 3) := by decide +kernel
theorem dX7_isNoTaker_14 : decode cX7_isNoTaker 14 = .ok (.iconst 1, 1) := by decide +kernel
theorem dX7_isNoTaker_15 : decode cX7_isNoTaker 15 = .ok (.goto 4, 3) := by decide +kernel
theorem dX7_isNoTaker_18 : decode cX7_isNoTaker 18 = .ok (.iconst 0, 1) := by decide +kernel
theorem dX7_isNoTaker_19 : decode cX7_isNoTaker 19 = .ok (.ireturn, 1) := by decide +kernel
theorem dX7_job_0 : decode cX7_job 0 = .ok (.aload_n 0, 1) := by decide +kernel
theorem dX7_job_1 : decode cX7_job 1 = .ok (.iload_n 1, 1) := by decide +kernel
theorem dX7_job_2 : decode cX7_job 2 = .ok (.invokevirtual 138, 3) := by decide +kernel
theorem dX7_job_5 : decode cX7_job 5 = .ok (.ifCond .eq 9, 3) := by decide +kernel
theorem dX7_job_8 : decode cX7_job 8 = .ok (.aload_n 0, 1) := by decide +kernel
theorem dX7_job_9 : decode cX7_job 9 = .ok (.iconst (-1), 1) := by decide +kernel
theorem dX7_job_10 : decode cX7_job 10 = .ok (.invokevirtual 64, 3) := by decide +kernel
theorem dX7_job_13 : decode cX7_job 13 = .ok (.ireturn, 1) := by decide +kernel
theorem dX7_job_14 : decode cX7_job 14 = .ok (.iload_n 2, 1) := by decide +kernel
theorem dX7_job_15 : decode cX7_job 15 = .ok (.ifCond .lt 8, 3) := by decide +kernel
theorem dX7_job_18 : decode cX7_job 18 = .ok (.iload_n 2, 1) := by decide +kernel
theorem dX7_job_19 : decode cX7_job 19 = .ok (.iconst 2, 1) := by decide +kernel
theorem dX7_job_20 : decode cX7_job 20 = .ok (.if_icmp .le 12, 3) := by decide +kernel
theorem dX7_job_23 : decode cX7_job 23 = .ok (.aload_n 0, 1) := by decide +kernel
theorem dX7_job_24 : decode cX7_job 24 = .ok (.bipush (-2), 2) := by decide +kernel
theorem dX7_job_26 : decode cX7_job 26 = .ok (.invokevirtual 64, 3) := by decide +kernel
theorem dX7_job_29 : decode cX7_job 29 = .ok (.goto 17, 3) := by decide +kernel
theorem dX7_job_32 : decode cX7_job 32 = .ok (.aload_n 0, 1) := by decide +kernel
theorem dX7_job_33 : decode cX7_job 33 = .ok (.getfield 13, 3) := by decide +kernel
theorem dX7_job_36 : decode cX7_job 36 = .ok (.bipush 10, 2) := by decide +kernel
theorem dX7_job_38 : decode cX7_job 38 = .ok (.bipush 10, 2) := by decide +kernel
theorem dX7_job_40 : decode cX7_job 40 = .ok (.iload_n 2, 1) := by decide +kernel
theorem dX7_job_41 : decode cX7_job 41 = .ok (.imul, 1) := by decide +kernel
theorem dX7_job_42 : decode cX7_job 42 = .ok (.iadd, 1) := by decide +kernel
theorem dX7_job_43 : decode cX7_job 43 = .ok (.iload_n 1, 1) := by decide +kernel
theorem dX7_job_44 : decode cX7_job 44 = .ok (.iadd, 1) := by decide +kernel
theorem dX7_job_45 : decode cX7_job 45 = .ok (.iaload, 1) := by decide +kernel
theorem dX7_job_46 : decode cX7_job 46 = .ok (.ireturn, 1) := by decide +kernel
theorem dX7_taker_0 : decode cX7_taker 0 = .ok (.aload_n 0, 1) := by decide +kernel
theorem dX7_taker_1 : decode cX7_taker 1 = .ok (.iload_n 1, 1) := by decide +kernel
theorem dX7_taker_2 : decode cX7_taker 2 = .ok (.invokevirtual 141, 3) := by decide +kernel
theorem dX7_taker_5 : decode cX7_taker 5 = .ok (.ifCond .eq 9, 3) := by decide +kernel
theorem dX7_taker_8 : decode cX7_taker 8 = .ok (.aload_n 0, 1) := by decide +kernel
theorem dX7_taker_9 : decode cX7_taker 9 = .ok (.iconst (-1), 1) := by decide +kernel
theorem dX7_taker_10 : decode cX7_taker 10 = .ok (.invokevirtual 64, 3) := by decide +kernel
theorem dX7_taker_13 : decode cX7_taker 13 = .ok (.ireturn, 1) := by decide +kernel
theorem dX7_taker_14 : decode cX7_taker 14 = .ok (.iload_n 2, 1) := by decide +kernel
theorem dX7_taker_15 : decode cX7_taker 15 = .ok (.ifCond .lt 8, 3) := by decide +kernel
theorem dX7_taker_18 : decode cX7_taker 18 = .ok (.iload_n 2, 1) := by decide +kernel
theorem dX7_taker_19 : decode cX7_taker 19 = .ok (.iconst 3, 1) := by decide +kernel
theorem dX7_taker_20 : decode cX7_taker 20 = .ok (.if_icmp .le 12, 3) := by decide +kernel
theorem dX7_taker_23 : decode cX7_taker 23 = .ok (.aload_n 0, 1) := by decide +kernel
theorem dX7_taker_24 : decode cX7_taker 24 = .ok (.bipush (-2), 2) := by decide +kernel
theorem dX7_taker_26 : decode cX7_taker 26 = .ok (.invokevirtual 64, 3) := by decide +kernel
theorem dX7_taker_29 : decode cX7_taker 29 = .ok (.goto 17, 3) := by decide +kernel
theorem dX7_taker_32 : decode cX7_taker 32 = .ok (.aload_n 0, 1) := by decide +kernel
theorem dX7_taker_33 : decode cX7_taker 33 = .ok (.getfield 13, 3) := by decide +kernel
theorem dX7_taker_36 : decode cX7_taker 36 = .ok (.bipush 40, 2) := by decide +kernel
theorem dX7_taker_38 : decode cX7_taker 38 = .ok (.bipush 10, 2) := by decide +kernel
theorem dX7_taker_40 : decode cX7_taker 40 = .ok (.iload_n 2, 1) := by decide +kernel
theorem dX7_taker_41 : decode cX7_taker 41 = .ok (.imul, 1) := by decide +kernel
theorem dX7_taker_42 : decode cX7_taker 42 = .ok (.iadd, 1) := by decide +kernel
theorem dX7_taker_43 : decode cX7_taker 43 = .ok (.iload_n 1, 1) := by decide +kernel
theorem dX7_taker_44 : decode cX7_taker 44 = .ok (.iadd, 1) := by decide +kernel
theorem dX7_taker_45 : decode cX7_taker 45 = .ok (.iaload, 1) := by decide +kernel
theorem dX7_taker_46 : decode cX7_taker 46 = .ok (.ireturn, 1) := by decide +kernel
theorem dX7_change_0 : decode cX7_change 0 = .ok (.iload_n 2, 1) := by decide +kernel
theorem dX7_change_1 : decode cX7_change 1 = .ok (.ifCond .ge 10, 3) := by decide +kernel
theorem dX7_change_4 : decode cX7_change 4 = .ok (.aload_n 0, 1) := by decide +kernel
theorem dX7_change_5 : decode cX7_change 5 = .ok (.bipush (-4), 2) := by decide +kernel
theorem dX7_change_7 : decode cX7_change 7 = .ok (.invokevirtual 64, 3) := by decide +kernel
theorem dX7_change_10 : decode cX7_change 10 = .ok (.ireturn, 1) := by decide +kernel
theorem dX7_change_11 : decode cX7_change 11 = .ok (.iload_n 2, 1) := by decide +kernel
theorem dX7_change_12 : decode cX7_change 12 = .ok (.iload_n 3, 1) := by decide +kernel
theorem dX7_change_13 : decode cX7_change 13 = .ok (.if_icmp .le 10, 3) := by decide +kernel
theorem dX7_change_16 : decode cX7_change 16 = .ok (.aload_n 0, 1) := by decide +kernel
theorem dX7_change_17 : decode cX7_change 17 = .ok (.bipush (-6), 2) := by decide +kernel
theorem dX7_change_19 : decode cX7_change 19 = .ok (.invokevirtual 64, 3) := by decide +kernel
theorem dX7_change_22 : decode cX7_change 22 = .ok (.ireturn, 1) := by decide +kernel
theorem dX7_change_23 : decode cX7_change 23 = .ok (.aload_n 0, 1) := by decide +kernel
theorem dX7_change_24 : decode cX7_change 24 = .ok (.getfield 13, 3) := by decide +kernel
theorem dX7_change_27 : decode cX7_change 27 = .ok (.iload_n 1, 1) := by decide +kernel
theorem dX7_change_28 : decode cX7_change 28 = .ok (.iaload, 1) := by decide +kernel
theorem dX7_change_29 : decode cX7_change 29 = .ok (.istore 4, 2) := by decide +kernel
theorem dX7_change_31 : decode cX7_change 31 = .ok (.aload_n 0, 1) := by decide +kernel
theorem dX7_change_32 : decode cX7_change 32 = .ok (.getfield 13, 3) := by decide +kernel
theorem dX7_change_35 : decode cX7_change 35 = .ok (.iload_n 1, 1) := by decide +kernel
theorem dX7_change_36 : decode cX7_change 36 = .ok (.iload_n 2, 1) := by decide +kernel
theorem dX7_change_37 : decode cX7_change 37 = .ok (.iastore, 1) := by decide +kernel
theorem dX7_change_38 : decode cX7_change 38 = .ok (.iload 4, 2) := by decide +kernel
theorem dX7_change_40 : decode cX7_change 40 = .ok (.ireturn, 1) := by decide +kernel
theorem dX7_sent_0 : decode cX7_sent 0 = .ok (.aload_n 0, 1) := by decide +kernel
