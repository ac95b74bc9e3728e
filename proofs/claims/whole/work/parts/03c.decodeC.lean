theorem dX7_init_0 : decode cX7_init 0 = .ok (.aload_n 0, 1) := by decide +kernel
theorem dX7_init_1 : decode cX7_init 1 = .ok (.invokespecial 1, 3) := by decide +kernel
theorem dX7_init_4 : decode cX7_init 4 = .ok (.aload_n 0, 1) := by decide +kernel
theorem dX7_init_5 : decode cX7_init 5 = .ok (.bipush 47, 2) := by decide +kernel
theorem dX7_init_7 : decode cX7_init 7 = .ok (.newarray .int, 2) := by decide +kernel
theorem dX7_init_9 : decode cX7_init 9 = .ok (.putfield 7, 3) := by decide +kernel
theorem dX7_init_12 : decode cX7_init 12 = .ok (.aload_n 0, 1) := by decide +kernel
theorem dX7_init_13 : decode cX7_init 13 = .ok (.bipush 16, 2) := by decide +kernel
theorem dX7_init_15 : decode cX7_init 15 = .ok (.newarray .int, 2) := by decide +kernel
theorem dX7_init_17 : decode cX7_init 17 = .ok (.putfield 13, 3) := by decide +kernel
theorem dX7_init_20 : decode cX7_init 20 = .ok (.aload_n 0, 1) := by decide +kernel
theorem dX7_init_21 : decode cX7_init 21 = .ok (.iconst 4, 1) := by decide +kernel
theorem dX7_init_22 : decode cX7_init 22 = .ok (.newarray .int, 2) := by decide +kernel
theorem dX7_init_24 : decode cX7_init 24 = .ok (.putfield 16, 3) := by decide +kernel
theorem dX7_init_27 : decode cX7_init 27 = .ok (.aload_n 0, 1) := by decide +kernel
theorem dX7_init_28 : decode cX7_init 28 = .ok (.iconst 4, 1) := by decide +kernel
theorem dX7_init_29 : decode cX7_init 29 = .ok (.newarray .int, 2) := by decide +kernel
theorem dX7_init_31 : decode cX7_init 31 = .ok (.putfield 19, 3) := by decide +kernel
theorem dX7_init_34 : decode cX7_init 34 = .ok (.aload_n 0, 1) := by decide +kernel
theorem dX7_init_35 : decode cX7_init 35 = .ok (.bipush 16, 2) := by decide +kernel
theorem dX7_init_37 : decode cX7_init 37 = .ok (.newarray .int, 2) := by decide +kernel
theorem dX7_init_39 : decode cX7_init 39 = .ok (.putfield 22, 3) := by decide +kernel
theorem dX7_init_42 : decode cX7_init 42 = .ok (.aload_n 0, 1) := by decide +kernel
theorem dX7_init_43 : decode cX7_init 43 = .ok (.iconst 4, 1) := by decide +kernel
theorem dX7_init_44 : decode cX7_init 44 = .ok (.newarray .int, 2) := by decide +kernel
theorem dX7_init_46 : decode cX7_init 46 = .ok (.putfield 25, 3) := by decide +kernel
theorem dX7_init_49 : decode cX7_init 49 = .ok (.aload_n 0, 1) := by decide +kernel
theorem dX7_init_50 : decode cX7_init 50 = .ok (.iconst 4, 1) := by decide +kernel
theorem dX7_init_51 : decode cX7_init 51 = .ok (.newarray .long, 2) := by decide +kernel
theorem dX7_init_53 : decode cX7_init 53 = .ok (.putfield 28, 3) := by decide +kernel
theorem dX7_init_56 : decode cX7_init 56 = .ok (.aload_n 0, 1) := by decide +kernel
theorem dX7_init_57 : decode cX7_init 57 = .ok (.bipush 9, 2) := by decide +kernel
theorem dX7_init_59 : decode cX7_init 59 = .ok (.newarray .long, 2) := by decide +kernel
theorem dX7_init_61 : decode cX7_init 61 = .ok (.putfield 32, 3) := by decide +kernel
theorem dX7_init_64 : decode cX7_init 64 = .ok (.aload_n 0, 1) := by decide +kernel
theorem dX7_init_65 : decode cX7_init 65 = .ok (.iconst 3, 1) := by decide +kernel
theorem dX7_init_66 : decode cX7_init 66 = .ok (.newarray .long, 2) := by decide +kernel
theorem dX7_init_68 : decode cX7_init 68 = .ok (.putfield 35, 3) := by decide +kernel
theorem dX7_init_71 : decode cX7_init 71 = .ok (.return_, 1) := by decide +kernel
theorem dX7_within_0 : decode cX7_within 0 = .ok (.iload_n 0, 1) := by decide +kernel
theorem dX7_within_1 : decode cX7_within 1 = .ok (.iload_n 1, 1) := by decide +kernel
theorem dX7_within_2 : decode cX7_within 2 = .ok (.if_icmp .lt 12, 3) := by decide +kernel
theorem dX7_within_5 : decode cX7_within 5 = .ok (.iload_n 0, 1) := by decide +kernel
theorem dX7_within_6 : decode cX7_within 6 = .ok (.iload_n 2, 1) := by decide +kernel
theorem dX7_within_7 : decode cX7_within 7 = .ok (.if_icmp .gt 7, 3) := by decide +kernel
theorem dX7_within_10 : decode cX7_within 10 = .ok (.iconst 1, 1) := by decide +kernel
theorem dX7_within_11 : decode cX7_within 11 = .ok (.goto 4, 3) := by decide +kernel
theorem dX7_within_14 : decode cX7_within 14 = .ok (.iconst 0, 1) := by decide +kernel
theorem dX7_within_15 : decode cX7_within 15 = .ok (.ireturn, 1) := by decide +kernel
theorem dX7_hasBit_0 : decode cX7_hasBit 0 = .ok (.iload_n 0, 1) := by decide +kernel
theorem dX7_hasBit_1 : decode cX7_hasBit 1 = .ok (.iload_n 1, 1) := by decide +kernel
theorem dX7_hasBit_2 : decode cX7_hasBit 2 = .ok (.ishr, 1) := by decide +kernel
theorem dX7_hasBit_3 : decode cX7_hasBit 3 = .ok (.iconst 1, 1) := by decide +kernel
theorem dX7_hasBit_4 : decode cX7_hasBit 4 = .ok (.iand, 1) := by decide +kernel
theorem dX7_hasBit_5 : decode cX7_hasBit 5 = .ok (.iconst 1, 1) := by decide +kernel
theorem dX7_hasBit_6 : decode cX7_hasBit 6 = .ok (.if_icmp .ne 7, 3) := by decide +kernel
theorem dX7_hasBit_9 : decode cX7_hasBit 9 = .ok (.iconst 1, 1) := by decide +kernel
theorem dX7_hasBit_10 : decode cX7_hasBit 10 = .ok (.goto 4, 3) := by decide +kernel
theorem dX7_hasBit_13 : decode cX7_hasBit 13 = .ok (.iconst 0, 1) := by decide +kernel
theorem dX7_hasBit_14 : decode cX7_hasBit 14 = .ok (.ireturn, 1) := by decide +kernel
theorem dX7_letter_0 : decode cX7_letter 0 = .ok (.iload_n 1, 1) := by decide +kernel
theorem dX7_letter_1 : decode cX7_letter 1 = .ok (.bipush 32, 2) := by decide +kernel
theorem dX7_letter_3 : decode cX7_letter 3 = .ok (.bipush 126, 2) := by decide +kernel
theorem dX7_letter_5 : decode cX7_letter 5 = .ok (.invokestatic 38, 3) := by decide +kernel
theorem dX7_letter_8 : decode cX7_letter 8 = .ok (.ifCond .ne 7, 3) := by decide +kernel
theorem dX7_letter_11 : decode cX7_letter 11 = .ok (.ldc2_w 42, 3) := by decide +kernel
theorem dX7_letter_14 : decode cX7_letter 14 = .ok (.lreturn, 1) := by decide +kernel
theorem dX7_letter_15 : decode cX7_letter 15 = .ok (.aload_n 0, 1) := by decide +kernel
theorem dX7_letter_16 : decode cX7_letter 16 = .ok (.getfield 44, 3) := by decide +kernel
theorem dX7_letter_19 : decode cX7_letter 19 = .ok (.bipush 47, 2) := by decide +kernel
theorem dX7_letter_21 : decode cX7_letter 21 = .ok (.if_icmp .ne 7, 3) := by decide +kernel
theorem dX7_letter_24 : decode cX7_letter 24 = .ok (.ldc2_w 48, 3) := by decide +kernel
theorem dX7_letter_27 : decode cX7_letter 27 = .ok (.lreturn, 1) := by decide +kernel
theorem dX7_letter_28 : decode cX7_letter 28 = .ok (.aload_n 0, 1) := by decide +kernel
theorem dX7_letter_29 : decode cX7_letter 29 = .ok (.getfield 7, 3) := by decide +kernel
theorem dX7_letter_32 : decode cX7_letter 32 = .ok (.aload_n 0, 1) := by decide +kernel
theorem dX7_letter_33 : decode cX7_letter 33 = .ok (.getfield 44, 3) := by decide +kernel
theorem dX7_letter_36 : decode cX7_letter 36 = .ok (.iload_n 1, 1) := by decide +kernel
theorem dX7_letter_37 : decode cX7_letter 37 = .ok (.iastore, 1) := by decide +kernel
theorem dX7_letter_38 : decode cX7_letter 38 = .ok (.aload_n 0, 1) := by decide +kernel
theorem dX7_letter_39 : decode cX7_letter 39 = .ok (.dup, 1) := by decide +kernel
theorem dX7_letter_40 : decode cX7_letter 40 = .ok (.getfield 44, 3) := by decide +kernel
theorem dX7_letter_43 : decode cX7_letter 43 = .ok (.iconst 1, 1) := by decide +kernel
theorem dX7_letter_44 : decode cX7_letter 44 = .ok (.iadd, 1) := by decide +kernel
theorem dX7_letter_45 : decode cX7_letter 45 = .ok (.putfield 44, 3) := by decide +kernel
theorem dX7_letter_48 : decode cX7_letter 48 = .ok (.aload_n 0, 1) := by decide +kernel
theorem dX7_letter_49 : decode cX7_letter 49 = .ok (.getfield 44, 3) := by decide +kernel
theorem dX7_letter_52 : decode cX7_letter 52 = .ok (.i2l, 1) := by decide +kernel
theorem dX7_letter_53 : decode cX7_letter 53 = .ok (.lreturn, 1) := by decide +kernel
theorem dX7_blank_0 : decode cX7_blank 0 = .ok (.aload_n 0, 1) := by decide +kernel
theorem dX7_blank_1 : decode cX7_blank 1 = .ok (.getfield 44, 3) := by decide +kernel
theorem dX7_blank_4 : decode cX7_blank 4 = .ok (.istore_n 1, 1) := by decide +kernel
theorem dX7_blank_5 : decode cX7_blank 5 = .ok (.aload_n 0, 1) := by decide +kernel
theorem dX7_blank_6 : decode cX7_blank 6 = .ok (.iconst 0, 1) := by decide +kernel
theorem dX7_blank_7 : decode cX7_blank 7 = .ok (.putfield 44, 3) := by decide +kernel
theorem dX7_blank_10 : decode cX7_blank 10 = .ok (.iload_n 1, 1) := by decide +kernel
theorem dX7_blank_11 : decode cX7_blank 11 = .ok (.i2l, 1) := by decide +kernel
theorem dX7_blank_12 : decode cX7_blank 12 = .ok (.lreturn, 1) := by decide +kernel
theorem dX7_endNumber_0 : decode cX7_endNumber 0 = .ok (.aload_n 0, 1) := by decide +kernel
theorem dX7_endNumber_1 : decode cX7_endNumber 1 = .ok (.getfield 22, 3) := by decide +kernel
theorem dX7_endNumber_4 : decode cX7_endNumber 4 = .ok (.iconst 4, 1) := by decide +kernel
theorem dX7_endNumber_5 : decode cX7_endNumber 5 = .ok (.aload_n 0, 1) := by decide +kernel
theorem dX7_endNumber_6 : decode cX7_endNumber 6 = .ok (.getfield 50, 3) := by decide +kernel
theorem dX7_endNumber_9 : decode cX7_endNumber 9 = .ok (.imul, 1) := by decide +kernel
theorem dX7_endNumber_10 : decode cX7_endNumber 10 = .ok (.aload_n 0, 1) := by decide +kernel
theorem dX7_endNumber_11 : decode cX7_endNumber 11 = .ok (.getfield 53, 3) := by decide +kernel
theorem dX7_endNumber_14 : decode cX7_endNumber 14 = .ok (.iadd, 1) := by decide +kernel
theorem dX7_endNumber_15 : decode cX7_endNumber 15 = .ok (.aload_n 0, 1) := by decide +kernel
theorem dX7_endNumber_16 : decode cX7_endNumber 16 = .ok (.getfield 56, 3) := by decide +kernel
theorem dX7_endNumber_19 : decode cX7_endNumber 19 = .ok (.iastore, 1) := by decide +kernel
theorem dX7_endNumber_20 : decode cX7_endNumber 20 = .ok (.aload_n 0, 1) := by decide +kernel
theorem dX7_endNumber_21 : decode cX7_endNumber 21 = .ok (.dup, 1) := by decide +kernel
theorem dX7_endNumber_22 : decode cX7_endNumber 22 = .ok (.getfield 53, 3) := by decide +kernel
theorem dX7_endNumber_25 : decode cX7_endNumber 25 = .ok (.iconst 1, 1) := by decide +kernel
theorem dX7_endNumber_26 : decode cX7_endNumber 26 = .ok (.iadd, 1) := by decide +kernel
theorem dX7_endNumber_27 : decode cX7_endNumber 27 = .ok (.putfield 53, 3) := by decide +kernel
theorem dX7_endNumber_30 : decode cX7_endNumber 30 = .ok (.aload_n 0, 1) := by decide +kernel
theorem dX7_endNumber_31 : decode cX7_endNumber 31 = .ok (.iconst 0, 1) := by decide +kernel
theorem dX7_endNumber_32 : decode cX7_endNumber 32 = .ok (.putfield 59, 3) := by decide +kernel
theorem dX7_endNumber_35 : decode cX7_endNumber 35 = .ok (.aload_n 0, 1) := by decide +kernel
theorem dX7_endNumber_36 : decode cX7_endNumber 36 = .ok (.iconst 0, 1) := by decide +kernel
theorem dX7_endNumber_37 : decode cX7_endNumber 37 = .ok (.putfield 56, 3) := by decide +kernel
theorem dX7_endNumber_40 : decode cX7_endNumber 40 = .ok (.return_, 1) := by decide +kernel
theorem dX7_takes_0 : decode cX7_takes 0 = .ok (.iload_n 1, 1) := by decide +kernel
theorem dX7_takes_1 : decode cX7_takes 1 = .ok (.bipush 48, 2) := by decide +kernel
theorem dX7_takes_3 : decode cX7_takes 3 = .ok (.bipush 57, 2) := by decide +kernel
theorem dX7_takes_5 : decode cX7_takes 5 = .ok (.invokestatic 38, 3) := by decide +kernel
theorem dX7_takes_8 : decode cX7_takes 8 = .ok (.ifCond .eq 86, 3) := by decide +kernel
theorem dX7_takes_11 : decode cX7_takes 11 = .ok (.bipush 10, 2) := by decide +kernel
theorem dX7_takes_13 : decode cX7_takes 13 = .ok (.aload_n 0, 1) := by decide +kernel
theorem dX7_takes_14 : decode cX7_takes 14 = .ok (.getfield 56, 3) := by decide +kernel
theorem dX7_takes_17 : decode cX7_takes 17 = .ok (.imul, 1) := by decide +kernel
theorem dX7_takes_18 : decode cX7_takes 18 = .ok (.iload_n 1, 1) := by decide +kernel
theorem dX7_takes_19 : decode cX7_takes 19 = .ok (.iadd, 1) := by decide +kernel
theorem dX7_takes_20 : decode cX7_takes 20 = .ok (.bipush 48, 2) := by decide +kernel
theorem dX7_takes_22 : decode cX7_takes 22 = .ok (.isub, 1) := by decide +kernel
theorem dX7_takes_23 : decode cX7_takes 23 = .ok (.istore_n 2, 1) := by decide +kernel
theorem dX7_takes_24 : decode cX7_takes 24 = .ok (.aload_n 0, 1) := by decide +kernel
theorem dX7_takes_25 : decode cX7_takes 25 = .ok (.getfield 59, 3) := by decide +kernel
theorem dX7_takes_28 : decode cX7_takes 28 = .ok (.ifCond .eq 24, 3) := by decide +kernel
theorem dX7_takes_31 : decode cX7_takes 31 = .ok (.aload_n 0, 1) := by decide +kernel
theorem dX7_takes_32 : decode cX7_takes 32 = .ok (.getfield 59, 3) := by decide +kernel
theorem dX7_takes_35 : decode cX7_takes 35 = .ok (.iconst 1, 1) := by decide +kernel
theorem dX7_takes_36 : decode cX7_takes 36 = .ok (.if_icmp .ne 20, 3) := by decide +kernel
theorem dX7_takes_39 : decode cX7_takes 39 = .ok (.aload_n 0, 1) := by decide +kernel
theorem dX7_takes_40 : decode cX7_takes 40 = .ok (.getfield 56, 3) := by decide +kernel
theorem dX7_takes_43 : decode cX7_takes 43 = .ok (.ifCond .le 13, 3) := by decide +kernel
theorem dX7_takes_46 : decode cX7_takes 46 = .ok (.iload_n 2, 1) := by decide +kernel
theorem dX7_takes_47 : decode cX7_takes 47 = .ok (.bipush 20, 2) := by decide +kernel
theorem dX7_takes_49 : decode cX7_takes 49 = .ok (.if_icmp .gt 7, 3) := by decide +kernel
theorem dX7_takes_52 : decode cX7_takes 52 = .ok (.iconst 1, 1) := by decide +kernel
theorem dX7_takes_53 : decode cX7_takes 53 = .ok (.goto 4, 3) := by decide +kernel
theorem dX7_takes_56 : decode cX7_takes 56 = .ok (.iconst 0, 1) := by decide +kernel
theorem dX7_takes_57 : decode cX7_takes 57 = .ok (.istore_n 3, 1) := by decide +kernel
theorem dX7_takes_58 : decode cX7_takes 58 = .ok (.aload_n 0, 1) := by decide +kernel
theorem dX7_takes_59 : decode cX7_takes 59 = .ok (.iload_n 3, 1) := by decide +kernel
theorem dX7_takes_60 : decode cX7_takes 60 = .ok (.ifCond .eq 7, 3) := by decide +kernel
theorem dX7_takes_63 : decode cX7_takes 63 = .ok (.iload_n 2, 1) := by decide +kernel
theorem dX7_takes_64 : decode cX7_takes 64 = .ok (.goto 7, 3) := by decide +kernel
theorem dX7_takes_67 : decode cX7_takes 67 = .ok (.aload_n 0, 1) := by decide +kernel
theorem dX7_takes_68 : decode cX7_takes 68 = .ok (.getfield 56, 3) := by decide +kernel
theorem dX7_takes_71 : decode cX7_takes 71 = .ok (.putfield 56, 3) := by decide +kernel
theorem dX7_takes_74 : decode cX7_takes 74 = .ok (.aload_n 0, 1) := by decide +kernel
theorem dX7_takes_75 : decode cX7_takes 75 = .ok (.dup, 1) := by decide +kernel
theorem dX7_takes_76 : decode cX7_takes 76 = .ok (.getfield 59, 3) := by decide +kernel
theorem dX7_takes_79 : decode cX7_takes 79 = .ok (.iload_n 3, 1) := by decide +kernel
theorem dX7_takes_80 : decode cX7_takes 80 = .ok (.ifCond .eq 7, 3) := by decide +kernel
theorem dX7_takes_83 : decode cX7_takes 83 = .ok (.iconst 1, 1) := by decide +kernel
theorem dX7_takes_84 : decode cX7_takes 84 = .ok (.goto 4, 3) := by decide +kernel
theorem dX7_takes_87 : decode cX7_takes 87 = .ok (.iconst 0, 1) := by decide +kernel
theorem dX7_takes_88 : decode cX7_takes 88 = .ok (.iadd, 1) := by decide +kernel
theorem dX7_takes_89 : decode cX7_takes 89 = .ok (.putfield 59, 3) := by decide +kernel
theorem dX7_takes_92 : decode cX7_takes 92 = .ok (.iload_n 3, 1) := by decide +kernel
theorem dX7_takes_93 : decode cX7_takes 93 = .ok (.ireturn, 1) := by decide +kernel
theorem dX7_takes_94 : decode cX7_takes 94 = .ok (.aload_n 0, 1) := by decide +kernel
theorem dX7_takes_95 : decode cX7_takes 95 = .ok (.getfield 62, 3) := by decide +kernel
theorem dX7_takes_98 : decode cX7_takes 98 = .ok (.ifCond .ne 7, 3) := by decide +kernel
theorem dX7_takes_101 : decode cX7_takes 101 = .ok (.iconst 4, 1) := by decide +kernel
theorem dX7_takes_102 : decode cX7_takes 102 = .ok (.goto 7, 3) := by decide +kernel
theorem dX7_takes_105 : decode cX7_takes 105 = .ok (.aload_n 0, 1) := by decide +kernel
theorem dX7_takes_106 : decode cX7_takes 106 = .ok (.getfield 62, 3) := by decide +kernel
theorem dX7_takes_109 : decode cX7_takes 109 = .ok (.istore_n 2, 1) := by decide +kernel
theorem dX7_takes_110 : decode cX7_takes 110 = .ok (.iload_n 1, 1) := by decide +kernel
theorem dX7_takes_111 : decode cX7_takes 111 = .ok (.bipush 44, 2) := by decide +kernel
theorem dX7_takes_113 : decode cX7_takes 113 = .ok (.if_icmp .ne 26, 3) := by decide +kernel
theorem dX7_takes_116 : decode cX7_takes 116 = .ok (.aload_n 0, 1) := by decide +kernel
theorem dX7_takes_117 : decode cX7_takes 117 = .ok (.getfield 59, 3) := by decide +kernel
theorem dX7_takes_120 : decode cX7_takes 120 = .ok (.ifCond .le 19, 3) := by decide +kernel
theorem dX7_takes_123 : decode cX7_takes 123 = .ok (.aload_n 0, 1) := by decide +kernel
theorem dX7_takes_124 : decode cX7_takes 124 = .ok (.getfield 53, 3) := by decide +kernel
theorem dX7_takes_127 : decode cX7_takes 127 = .ok (.iconst 1, 1) := by decide +kernel
theorem dX7_takes_128 : decode cX7_takes 128 = .ok (.iadd, 1) := by decide +kernel
theorem dX7_takes_129 : decode cX7_takes 129 = .ok (.iload_n 2, 1) := by decide +kernel
theorem dX7_takes_130 : decode cX7_takes 130 = .ok (.if_icmp .ge 9, 3) := by decide +kernel
theorem dX7_takes_133 : decode cX7_takes 133 = .ok (.aload_n 0, 1) := by decide +kernel
theorem dX7_takes_134 : decode cX7_takes 134 = .ok (.invokevirtual 65, 3) := by decide +kernel
theorem dX7_takes_137 : decode cX7_takes 137 = .ok (.iconst 1, 1) := by decide +kernel
theorem dX7_takes_138 : decode cX7_takes 138 = .ok (.ireturn, 1) := by decide +kernel
theorem dX7_takes_139 : decode cX7_takes 139 = .ok (.aload_n 0, 1) := by decide +kernel
theorem dX7_takes_140 : decode cX7_takes 140 = .ok (.getfield 59, 3) := by decide +kernel
theorem dX7_takes_143 : decode cX7_takes 143 = .ok (.ifCond .le 27, 3) := by decide +kernel
theorem dX7_takes_146 : decode cX7_takes 146 = .ok (.aload_n 0, 1) := by decide +kernel
theorem dX7_takes_147 : decode cX7_takes 147 = .ok (.getfield 62, 3) := by decide +kernel
theorem dX7_takes_150 : decode cX7_takes 150 = .ok (.ifCond .eq 16, 3) := by decide +kernel
theorem dX7_takes_153 : decode cX7_takes 153 = .ok (.aload_n 0, 1) := by decide +kernel
theorem dX7_takes_154 : decode cX7_takes 154 = .ok (.getfield 53, 3) := by decide +kernel
theorem dX7_takes_157 : decode cX7_takes 157 = .ok (.iconst 1, 1) := by decide +kernel
theorem dX7_takes_158 : decode cX7_takes 158 = .ok (.iadd, 1) := by decide +kernel
theorem dX7_takes_159 : decode cX7_takes 159 = .ok (.aload_n 0, 1) := by decide +kernel
theorem dX7_takes_160 : decode cX7_takes 160 = .ok (.getfield 62, 3) := by decide +kernel
theorem dX7_takes_163 : decode cX7_takes 163 = .ok (.if_icmp .ne 7, 3) := by decide +kernel
theorem dX7_takes_166 : decode cX7_takes 166 = .ok (.iconst 1, 1) := by decide +kernel
theorem dX7_takes_167 : decode cX7_takes 167 = .ok (.goto 4, 3) := by decide +kernel
theorem dX7_takes_170 : decode cX7_takes 170 = .ok (.iconst 0, 1) := by decide +kernel
theorem dX7_takes_171 : decode cX7_takes 171 = .ok (.istore_n 3, 1) := by decide +kernel
theorem dX7_takes_172 : decode cX7_takes 172 = .ok (.iload_n 1, 1) := by decide +kernel
theorem dX7_takes_173 : decode cX7_takes 173 = .ok (.bipush 59, 2) := by decide +kernel
theorem dX7_takes_175 : decode cX7_takes 175 = .ok (.if_icmp .ne 46, 3) := by decide +kernel
theorem dX7_takes_178 : decode cX7_takes 178 = .ok (.iload_n 3, 1) := by decide +kernel
theorem dX7_takes_179 : decode cX7_takes 179 = .ok (.ifCond .eq 42, 3) := by decide +kernel
theorem dX7_takes_182 : decode cX7_takes 182 = .ok (.aload_n 0, 1) := by decide +kernel
theorem dX7_takes_183 : decode cX7_takes 183 = .ok (.getfield 50, 3) := by decide +kernel
theorem dX7_takes_186 : decode cX7_takes 186 = .ok (.iconst 1, 1) := by decide +kernel
theorem dX7_takes_187 : decode cX7_takes 187 = .ok (.iadd, 1) := by decide +kernel
theorem dX7_takes_188 : decode cX7_takes 188 = .ok (.iconst 4, 1) := by decide +kernel
theorem dX7_takes_189 : decode cX7_takes 189 = .ok (.if_icmp .ge 32, 3) := by decide +kernel
theorem dX7_takes_192 : decode cX7_takes 192 = .ok (.aload_n 0, 1) := by decide +kernel
theorem dX7_takes_193 : decode cX7_takes 193 = .ok (.invokevirtual 65, 3) := by decide +kernel
theorem dX7_takes_196 : decode cX7_takes 196 = .ok (.aload_n 0, 1) := by decide +kernel
theorem dX7_takes_197 : decode cX7_takes 197 = .ok (.aload_n 0, 1) := by decide +kernel
theorem dX7_takes_198 : decode cX7_takes 198 = .ok (.getfield 53, 3) := by decide +kernel
theorem dX7_takes_201 : decode cX7_takes 201 = .ok (.putfield 62, 3) := by decide +kernel
theorem dX7_takes_204 : decode cX7_takes 204 = .ok (.aload_n 0, 1) := by decide +kernel
theorem dX7_takes_205 : decode cX7_takes 205 = .ok (.iconst 0, 1) := by decide +kernel
theorem dX7_takes_206 : decode cX7_takes 206 = .ok (.putfield 53, 3) := by decide +kernel
theorem dX7_takes_209 : decode cX7_takes 209 = .ok (.aload_n 0, 1) := by decide +kernel
theorem dX7_takes_210 : decode cX7_takes 210 = .ok (.dup, 1) := by decide +kernel
theorem dX7_takes_211 : decode cX7_takes 211 = .ok (.getfield 50, 3) := by decide +kernel
theorem dX7_takes_214 : decode cX7_takes 214 = .ok (.iconst 1, 1) := by decide +kernel
theorem dX7_takes_215 : decode cX7_takes 215 = .ok (.iadd, 1) := by decide +kernel
theorem dX7_takes_216 : decode cX7_takes 216 = .ok (.putfield 50, 3) := by decide +kernel
theorem dX7_takes_219 : decode cX7_takes 219 = .ok (.iconst 1, 1) := by decide +kernel
theorem dX7_takes_220 : decode cX7_takes 220 = .ok (.ireturn, 1) := by decide +kernel
theorem dX7_takes_221 : decode cX7_takes 221 = .ok (.iconst 0, 1) := by decide +kernel
theorem dX7_takes_222 : decode cX7_takes 222 = .ok (.ireturn, 1) := by decide +kernel
theorem dX7_goAlong_0 : decode cX7_goAlong 0 = .ok (.aload_n 0, 1) := by decide +kernel
theorem dX7_goAlong_1 : decode cX7_goAlong 1 = .ok (.iconst 0, 1) := by decide +kernel
theorem dX7_goAlong_2 : decode cX7_goAlong 2 = .ok (.putfield 50, 3) := by decide +kernel
theorem dX7_goAlong_5 : decode cX7_goAlong 5 = .ok (.aload_n 0, 1) := by decide +kernel
theorem dX7_goAlong_6 : decode cX7_goAlong 6 = .ok (.iconst 0, 1) := by decide +kernel
theorem dX7_goAlong_7 : decode cX7_goAlong 7 = .ok (.putfield 53, 3) := by decide +kernel
theorem dX7_goAlong_10 : decode cX7_goAlong 10 = .ok (.aload_n 0, 1) := by decide +kernel
theorem dX7_goAlong_11 : decode cX7_goAlong 11 = .ok (.iconst 0, 1) := by decide +kernel
theorem dX7_goAlong_12 : decode cX7_goAlong 12 = .ok (.putfield 62, 3) := by decide +kernel
theorem dX7_goAlong_15 : decode cX7_goAlong 15 = .ok (.aload_n 0, 1) := by decide +kernel
theorem dX7_goAlong_16 : decode cX7_goAlong 16 = .ok (.iconst 0, 1) := by decide +kernel
theorem dX7_goAlong_17 : decode cX7_goAlong 17 = .ok (.putfield 59, 3) := by decide +kernel
theorem dX7_goAlong_20 : decode cX7_goAlong 20 = .ok (.aload_n 0, 1) := by decide +kernel
theorem dX7_goAlong_21 : decode cX7_goAlong 21 = .ok (.iconst 0, 1) := by decide +kernel
theorem dX7_goAlong_22 : decode cX7_goAlong 22 = .ok (.putfield 56, 3) := by decide +kernel
theorem dX7_goAlong_25 : decode cX7_goAlong 25 = .ok (.iconst 0, 1) := by decide +kernel
theorem dX7_goAlong_26 : decode cX7_goAlong 26 = .ok (.istore_n 1, 1) := by decide +kernel
theorem dX7_goAlong_27 : decode cX7_goAlong 27 = .ok (.iload_n 1, 1) := by decide +kernel
theorem dX7_goAlong_28 : decode cX7_goAlong 28 = .ok (.aload_n 0, 1) := by decide +kernel
theorem dX7_goAlong_29 : decode cX7_goAlong 29 = .ok (.getfield 44, 3) := by decide +kernel
theorem dX7_goAlong_32 : decode cX7_goAlong 32 = .ok (.if_icmp .ge 22, 3) := by decide +kernel
theorem dX7_goAlong_35 : decode cX7_goAlong 35 = .ok (.aload_n 0, 1) := by decide +kernel
theorem dX7_goAlong_36 : decode cX7_goAlong 36 = .ok (.aload_n 0, 1) := by decide +kernel
theorem dX7_goAlong_37 : decode cX7_goAlong 37 = .ok (.getfield 7, 3) := by decide +kernel
theorem dX7_goAlong_40 : decode cX7_goAlong 40 = .ok (.iload_n 1, 1) := by decide +kernel
theorem dX7_goAlong_41 : decode cX7_goAlong 41 = .ok (.iaload, 1) := by decide +kernel
theorem dX7_goAlong_42 : decode cX7_goAlong 42 = .ok (.invokevirtual 68, 3) := by decide +kernel
theorem dX7_goAlong_45 : decode cX7_goAlong 45 = .ok (.ifCond .eq 9, 3) := by decide +kernel
theorem dX7_goAlong_48 : decode cX7_goAlong 48 = .ok (.iinc 1 1, 3) := by decide +kernel
theorem dX7_goAlong_51 : decode cX7_goAlong 51 = .ok (.goto (-24), 3) := by decide +kernel
theorem dX7_goAlong_54 : decode cX7_goAlong 54 = .ok (.iload_n 1, 1) := by decide +kernel
theorem dX7_goAlong_55 : decode cX7_goAlong 55 = .ok (.ireturn, 1) := by decide +kernel
theorem dX7_fault_0 : decode cX7_fault 0 = .ok (.aload_n 0, 1) := by decide +kernel
theorem dX7_fault_1 : decode cX7_fault 1 = .ok (.invokevirtual 72, 3) := by decide +kernel
theorem dX7_fault_4 : decode cX7_fault 4 = .ok (.i2l, 1) := by decide +kernel
theorem dX7_fault_5 : decode cX7_fault 5 = .ok (.lreturn, 1) := by decide +kernel
theorem dX7_sources_0 : decode cX7_sources 0 = .ok (.aload_n 0, 1) := by decide +kernel
theorem dX7_sources_1 : decode cX7_sources 1 = .ok (.invokevirtual 72, 3) := by decide +kernel
theorem dX7_sources_4 : decode cX7_sources 4 = .ok (.aload_n 0, 1) := by decide +kernel
theorem dX7_sources_5 : decode cX7_sources 5 = .ok (.getfield 44, 3) := by decide +kernel
theorem dX7_sources_8 : decode cX7_sources 8 = .ok (.if_icmp .lt 30, 3) := by decide +kernel
theorem dX7_sources_11 : decode cX7_sources 11 = .ok (.aload_n 0, 1) := by decide +kernel
theorem dX7_sources_12 : decode cX7_sources 12 = .ok (.getfield 59, 3) := by decide +kernel
theorem dX7_sources_15 : decode cX7_sources 15 = .ok (.ifCond .eq 23, 3) := by decide +kernel
theorem dX7_sources_18 : decode cX7_sources 18 = .ok (.aload_n 0, 1) := by decide +kernel
theorem dX7_sources_19 : decode cX7_sources 19 = .ok (.getfield 62, 3) := by decide +kernel
theorem dX7_sources_22 : decode cX7_sources 22 = .ok (.ifCond .le 20, 3) := by decide +kernel
theorem dX7_sources_25 : decode cX7_sources 25 = .ok (.aload_n 0, 1) := by decide +kernel
theorem dX7_sources_26 : decode cX7_sources 26 = .ok (.getfield 53, 3) := by decide +kernel
theorem dX7_sources_29 : decode cX7_sources 29 = .ok (.iconst 1, 1) := by decide +kernel
theorem dX7_sources_30 : decode cX7_sources 30 = .ok (.iadd, 1) := by decide +kernel
theorem dX7_sources_31 : decode cX7_sources 31 = .ok (.aload_n 0, 1) := by decide +kernel
theorem dX7_sources_32 : decode cX7_sources 32 = .ok (.getfield 62, 3) := by decide +kernel
theorem dX7_sources_35 : decode cX7_sources 35 = .ok (.if_icmp .eq 7, 3) := by decide +kernel
theorem dX7_sources_38 : decode cX7_sources 38 = .ok (.ldc2_w 76, 3) := by decide +kernel
theorem dX7_sources_41 : decode cX7_sources 41 = .ok (.lreturn, 1) := by decide +kernel
theorem dX7_sources_42 : decode cX7_sources 42 = .ok (.aload_n 0, 1) := by decide +kernel
theorem dX7_sources_43 : decode cX7_sources 43 = .ok (.invokevirtual 65, 3) := by decide +kernel
theorem dX7_sources_46 : decode cX7_sources 46 = .ok (.aload_n 0, 1) := by decide +kernel
theorem dX7_sources_47 : decode cX7_sources 47 = .ok (.aload_n 0, 1) := by decide +kernel
theorem dX7_sources_48 : decode cX7_sources 48 = .ok (.getfield 50, 3) := by decide +kernel
theorem dX7_sources_51 : decode cX7_sources 51 = .ok (.iconst 1, 1) := by decide +kernel
theorem dX7_sources_52 : decode cX7_sources 52 = .ok (.iadd, 1) := by decide +kernel
theorem dX7_sources_53 : decode cX7_sources 53 = .ok (.putfield 78, 3) := by decide +kernel
theorem dX7_sources_56 : decode cX7_sources 56 = .ok (.aload_n 0, 1) := by decide +kernel
theorem dX7_sources_57 : decode cX7_sources 57 = .ok (.aload_n 0, 1) := by decide +kernel
theorem dX7_sources_58 : decode cX7_sources 58 = .ok (.getfield 53, 3) := by decide +kernel
theorem dX7_sources_61 : decode cX7_sources 61 = .ok (.putfield 81, 3) := by decide +kernel
theorem dX7_sources_64 : decode cX7_sources 64 = .ok (.iconst 0, 1) := by decide +kernel
theorem dX7_sources_65 : decode cX7_sources 65 = .ok (.istore_n 1, 1) := by decide +kernel
theorem dX7_sources_66 : decode cX7_sources 66 = .ok (.iload_n 1, 1) := by decide +kernel
theorem dX7_sources_67 : decode cX7_sources 67 = .ok (.bipush 16, 2) := by decide +kernel
theorem dX7_sources_69 : decode cX7_sources 69 = .ok (.if_icmp .ge 45, 3) := by decide +kernel
theorem dX7_sources_72 : decode cX7_sources 72 = .ok (.aload_n 0, 1) := by decide +kernel
theorem dX7_sources_73 : decode cX7_sources 73 = .ok (.getfield 13, 3) := by decide +kernel
theorem dX7_sources_76 : decode cX7_sources 76 = .ok (.iload_n 1, 1) := by decide +kernel
theorem dX7_sources_77 : decode cX7_sources 77 = .ok (.iload_n 1, 1) := by decide +kernel
theorem dX7_sources_78 : decode cX7_sources 78 = .ok (.iconst 4, 1) := by decide +kernel
theorem dX7_sources_79 : decode cX7_sources 79 = .ok (.idiv, 1) := by decide +kernel
theorem dX7_sources_80 : decode cX7_sources 80 = .ok (.aload_n 0, 1) := by decide +kernel
theorem dX7_sources_81 : decode cX7_sources 81 = .ok (.getfield 78, 3) := by decide +kernel
theorem dX7_sources_84 : decode cX7_sources 84 = .ok (.if_icmp .ge 22, 3) := by decide +kernel
theorem dX7_sources_87 : decode cX7_sources 87 = .ok (.iload_n 1, 1) := by decide +kernel
theorem dX7_sources_88 : decode cX7_sources 88 = .ok (.iconst 4, 1) := by decide +kernel
theorem dX7_sources_89 : decode cX7_sources 89 = .ok (.irem, 1) := by decide +kernel
theorem dX7_sources_90 : decode cX7_sources 90 = .ok (.aload_n 0, 1) := by decide +kernel
theorem dX7_sources_91 : decode cX7_sources 91 = .ok (.getfield 81, 3) := by decide +kernel
theorem dX7_sources_94 : decode cX7_sources 94 = .ok (.if_icmp .ge 12, 3) := by decide +kernel
theorem dX7_sources_97 : decode cX7_sources 97 = .ok (.aload_n 0, 1) := by decide +kernel
theorem dX7_sources_98 : decode cX7_sources 98 = .ok (.getfield 22, 3) := by decide +kernel
theorem dX7_sources_101 : decode cX7_sources 101 = .ok (.iload_n 1, 1) := by decide +kernel
theorem dX7_sources_102 : decode cX7_sources 102 = .ok (.iaload, 1) := by decide +kernel
theorem dX7_sources_103 : decode cX7_sources 103 = .ok (.goto 4, 3) := by decide +kernel
theorem dX7_sources_106 : decode cX7_sources 106 = .ok (.iconst 0, 1) := by decide +kernel
theorem dX7_sources_107 : decode cX7_sources 107 = .ok (.iastore, 1) := by decide +kernel
theorem dX7_sources_108 : decode cX7_sources 108 = .ok (.iinc 1 1, 3) := by decide +kernel
theorem dX7_sources_111 : decode cX7_sources 111 = .ok (.goto (-45), 3) := by decide +kernel
theorem dX7_sources_114 : decode cX7_sources 114 = .ok (.iconst 0, 1) := by decide +kernel
theorem dX7_sources_115 : decode cX7_sources 115 = .ok (.istore_n 1, 1) := by decide +kernel
theorem dX7_sources_116 : decode cX7_sources 116 = .ok (.iload_n 1, 1) := by decide +kernel
theorem dX7_sources_117 : decode cX7_sources 117 = .ok (.iconst 4, 1) := by decide +kernel
theorem dX7_sources_118 : decode cX7_sources 118 = .ok (.if_icmp .ge 23, 3) := by decide +kernel
theorem dX7_sources_121 : decode cX7_sources 121 = .ok (.aload_n 0, 1) := by decide +kernel
theorem dX7_sources_122 : decode cX7_sources 122 = .ok (.getfield 16, 3) := by decide +kernel
theorem dX7_sources_125 : decode cX7_sources 125 = .ok (.iload_n 1, 1) := by decide +kernel
theorem dX7_sources_126 : decode cX7_sources 126 = .ok (.iconst 0, 1) := by decide +kernel
theorem dX7_sources_127 : decode cX7_sources 127 = .ok (.iastore, 1) := by decide +kernel
theorem dX7_sources_128 : decode cX7_sources 128 = .ok (.aload_n 0, 1) := by decide +kernel
theorem dX7_sources_129 : decode cX7_sources 129 = .ok (.getfield 19, 3) := by decide +kernel
theorem dX7_sources_132 : decode cX7_sources 132 = .ok (.iload_n 1, 1) := by decide +kernel
theorem dX7_sources_133 : decode cX7_sources 133 = .ok (.iconst 1, 1) := by decide +kernel
theorem dX7_sources_134 : decode cX7_sources 134 = .ok (.iastore, 1) := by decide +kernel
theorem dX7_sources_135 : decode cX7_sources 135 = .ok (.iinc 1 1, 3) := by decide +kernel
theorem dX7_sources_138 : decode cX7_sources 138 = .ok (.goto (-22), 3) := by decide +kernel
theorem dX7_sources_141 : decode cX7_sources 141 = .ok (.aload_n 0, 1) := by decide +kernel
theorem dX7_sources_142 : decode cX7_sources 142 = .ok (.dup, 1) := by decide +kernel
theorem dX7_sources_143 : decode cX7_sources 143 = .ok (.getfield 84, 3) := by decide +kernel
theorem dX7_sources_146 : decode cX7_sources 146 = .ok (.iconst 1, 1) := by decide +kernel
theorem dX7_sources_147 : decode cX7_sources 147 = .ok (.iadd, 1) := by decide +kernel
theorem dX7_sources_148 : decode cX7_sources 148 = .ok (.putfield 84, 3) := by decide +kernel
theorem dX7_sources_151 : decode cX7_sources 151 = .ok (.aload_n 0, 1) := by decide +kernel
theorem dX7_sources_152 : decode cX7_sources 152 = .ok (.iconst 0, 1) := by decide +kernel
theorem dX7_sources_153 : decode cX7_sources 153 = .ok (.putfield 44, 3) := by decide +kernel
theorem dX7_sources_156 : decode cX7_sources 156 = .ok (.aload_n 0, 1) := by decide +kernel
theorem dX7_sources_157 : decode cX7_sources 157 = .ok (.getfield 78, 3) := by decide +kernel
theorem dX7_sources_160 : decode cX7_sources 160 = .ok (.i2l, 1) := by decide +kernel
theorem dX7_sources_161 : decode cX7_sources 161 = .ok (.lreturn, 1) := by decide +kernel
theorem dX7_isSource_0 : decode cX7_isSource 0 = .ok (.iload_n 1, 1) := by decide +kernel
theorem dX7_isSource_1 : decode cX7_isSource 1 = .ok (.iconst 0, 1) := by decide +kernel
theorem dX7_isSource_2 : decode cX7_isSource 2 = .ok (.aload_n 0, 1) := by decide +kernel
theorem dX7_isSource_3 : decode cX7_isSource 3 = .ok (.getfield 78, 3) := by decide +kernel
theorem dX7_isSource_6 : decode cX7_isSource 6 = .ok (.iconst 1, 1) := by decide +kernel
theorem dX7_isSource_7 : decode cX7_isSource 7 = .ok (.isub, 1) := by decide +kernel
theorem dX7_isSource_8 : decode cX7_isSource 8 = .ok (.invokestatic 38, 3) := by decide +kernel
theorem dX7_isSource_11 : decode cX7_isSource 11 = .ok (.ireturn, 1) := by decide +kernel
theorem dX7_isTracer_0 : decode cX7_isTracer 0 = .ok (.iload_n 1, 1) := by decide +kernel
theorem dX7_isTracer_1 : decode cX7_isTracer 1 = .ok (.iconst 0, 1) := by decide +kernel
theorem dX7_isTracer_2 : decode cX7_isTracer 2 = .ok (.aload_n 0, 1) := by decide +kernel
theorem dX7_isTracer_3 : decode cX7_isTracer 3 = .ok (.getfield 81, 3) := by decide +kernel
theorem dX7_isTracer_6 : decode cX7_isTracer 6 = .ok (.iconst 1, 1) := by decide +kernel
theorem dX7_isTracer_7 : decode cX7_isTracer 7 = .ok (.isub, 1) := by decide +kernel
theorem dX7_isTracer_8 : decode cX7_isTracer 8 = .ok (.invokestatic 38, 3) := by decide +kernel
theorem dX7_isTracer_11 : decode cX7_isTracer 11 = .ok (.ireturn, 1) := by decide +kernel
theorem dX7_set_0 : decode cX7_set 0 = .ok (.aload_n 0, 1) := by decide +kernel
theorem dX7_set_1 : decode cX7_set 1 = .ok (.iload_n 1, 1) := by decide +kernel
theorem dX7_set_2 : decode cX7_set 2 = .ok (.invokevirtual 87, 3) := by decide +kernel
theorem dX7_set_5 : decode cX7_set 5 = .ok (.ifCond .ne 7, 3) := by decide +kernel
theorem dX7_set_8 : decode cX7_set 8 = .ok (.ldc2_w 90, 3) := by decide +kernel
theorem dX7_set_11 : decode cX7_set 11 = .ok (.lreturn, 1) := by decide +kernel
theorem dX7_set_12 : decode cX7_set 12 = .ok (.iload_n 2, 1) := by decide +kernel
theorem dX7_set_13 : decode cX7_set 13 = .ok (.ifCond .ne 13, 3) := by decide +kernel
theorem dX7_set_16 : decode cX7_set 16 = .ok (.iload_n 3, 1) := by decide +kernel
theorem dX7_set_17 : decode cX7_set 17 = .ok (.iconst 0, 1) := by decide +kernel
theorem dX7_set_18 : decode cX7_set 18 = .ok (.bipush 20, 2) := by decide +kernel
theorem dX7_set_20 : decode cX7_set 20 = .ok (.invokestatic 38, 3) := by decide +kernel
theorem dX7_set_23 : decode cX7_set 23 = .ok (.goto 22, 3) := by decide +kernel
theorem dX7_set_26 : decode cX7_set 26 = .ok (.iload_n 2, 1) := by decide +kernel
theorem dX7_set_27 : decode cX7_set 27 = .ok (.iconst 1, 1) := by decide +kernel
theorem dX7_set_28 : decode cX7_set 28 = .ok (.if_icmp .ne 16, 3) := by decide +kernel
theorem dX7_set_31 : decode cX7_set 31 = .ok (.iload_n 3, 1) := by decide +kernel
theorem dX7_set_32 : decode cX7_set 32 = .ok (.iconst 1, 1) := by decide +kernel
theorem dX7_set_33 : decode cX7_set 33 = .ok (.iconst 5, 1) := by decide +kernel
theorem dX7_set_34 : decode cX7_set 34 = .ok (.invokestatic 38, 3) := by decide +kernel
theorem dX7_set_37 : decode cX7_set 37 = .ok (.ifCond .eq 7, 3) := by decide +kernel
theorem dX7_set_40 : decode cX7_set 40 = .ok (.iconst 1, 1) := by decide +kernel
theorem dX7_set_41 : decode cX7_set 41 = .ok (.goto 4, 3) := by decide +kernel
theorem dX7_set_44 : decode cX7_set 44 = .ok (.iconst 0, 1) := by decide +kernel
theorem dX7_set_45 : decode cX7_set 45 = .ok (.istore 4, 2) := by decide +kernel
theorem dX7_set_47 : decode cX7_set 47 = .ok (.iload 4, 2) := by decide +kernel
theorem dX7_set_49 : decode cX7_set 49 = .ok (.ifCond .ne 7, 3) := by decide +kernel
theorem dX7_set_52 : decode cX7_set 52 = .ok (.ldc2_w 42, 3) := by decide +kernel
theorem dX7_set_55 : decode cX7_set 55 = .ok (.lreturn, 1) := by decide +kernel
theorem dX7_set_56 : decode cX7_set 56 = .ok (.iload_n 2, 1) := by decide +kernel
theorem dX7_set_57 : decode cX7_set 57 = .ok (.ifCond .ne 12, 3) := by decide +kernel
theorem dX7_set_60 : decode cX7_set 60 = .ok (.aload_n 0, 1) := by decide +kernel
theorem dX7_set_61 : decode cX7_set 61 = .ok (.getfield 16, 3) := by decide +kernel
theorem dX7_set_64 : decode cX7_set 64 = .ok (.iload_n 1, 1) := by decide +kernel
theorem dX7_set_65 : decode cX7_set 65 = .ok (.iaload, 1) := by decide +kernel
theorem dX7_set_66 : decode cX7_set 66 = .ok (.goto 9, 3) := by decide +kernel
theorem dX7_set_69 : decode cX7_set 69 = .ok (.aload_n 0, 1) := by decide +kernel
theorem dX7_set_70 : decode cX7_set 70 = .ok (.getfield 19, 3) := by decide +kernel
theorem dX7_set_73 : decode cX7_set 73 = .ok (.iload_n 1, 1) := by decide +kernel
theorem dX7_set_74 : decode cX7_set 74 = .ok (.iaload, 1) := by decide +kernel
theorem dX7_set_75 : decode cX7_set 75 = .ok (.istore 5, 2) := by decide +kernel
theorem dX7_set_77 : decode cX7_set 77 = .ok (.aload_n 0, 1) := by decide +kernel
theorem dX7_set_78 : decode cX7_set 78 = .ok (.getfield 16, 3) := by decide +kernel
theorem dX7_set_81 : decode cX7_set 81 = .ok (.iload_n 1, 1) := by decide +kernel
theorem dX7_set_82 : decode cX7_set 82 = .ok (.iload_n 2, 1) := by decide +kernel
theorem dX7_set_83 : decode cX7_set 83 = .ok (.ifCond .ne 7, 3) := by decide +kernel
theorem dX7_set_86 : decode cX7_set 86 = .ok (.iload_n 3, 1) := by decide +kernel
theorem dX7_set_87 : decode cX7_set 87 = .ok (.goto 9, 3) := by decide +kernel
theorem dX7_set_90 : decode cX7_set 90 = .ok (.aload_n 0, 1) := by decide +kernel
theorem dX7_set_91 : decode cX7_set 91 = .ok (.getfield 16, 3) := by decide +kernel
theorem dX7_set_94 : decode cX7_set 94 = .ok (.iload_n 1, 1) := by decide +kernel
theorem dX7_set_95 : decode cX7_set 95 = .ok (.iaload, 1) := by decide +kernel
theorem dX7_set_96 : decode cX7_set 96 = .ok (.iastore, 1) := by decide +kernel
theorem dX7_set_97 : decode cX7_set 97 = .ok (.aload_n 0, 1) := by decide +kernel
theorem dX7_set_98 : decode cX7_set 98 = .ok (.getfield 19, 3) := by decide +kernel
theorem dX7_set_101 : decode cX7_set 101 = .ok (.iload_n 1, 1) := by decide +kernel
theorem dX7_set_102 : decode cX7_set 102 = .ok (.iload_n 2, 1) := by decide +kernel
theorem dX7_set_103 : decode cX7_set 103 = .ok (.iconst 1, 1) := by decide +kernel
theorem dX7_set_104 : decode cX7_set 104 = .ok (.if_icmp .ne 7, 3) := by decide +kernel
theorem dX7_set_107 : decode cX7_set 107 = .ok (.iload_n 3, 1) := by decide +kernel
theorem dX7_set_108 : decode cX7_set 108 = .ok (.goto 9, 3) := by decide +kernel
theorem dX7_set_111 : decode cX7_set 111 = .ok (.aload_n 0, 1) := by decide +kernel
theorem dX7_set_112 : decode cX7_set 112 = .ok (.getfield 19, 3) := by decide +kernel
theorem dX7_set_115 : decode cX7_set 115 = .ok (.iload_n 1, 1) := by decide +kernel
theorem dX7_set_116 : decode cX7_set 116 = .ok (.iaload, 1) := by decide +kernel
theorem dX7_set_117 : decode cX7_set 117 = .ok (.iastore, 1) := by decide +kernel
theorem dX7_set_118 : decode cX7_set 118 = .ok (.aload_n 0, 1) := by decide +kernel
theorem dX7_set_119 : decode cX7_set 119 = .ok (.dup, 1) := by decide +kernel
theorem dX7_set_120 : decode cX7_set 120 = .ok (.getfield 92, 3) := by decide +kernel
theorem dX7_set_123 : decode cX7_set 123 = .ok (.iconst 1, 1) := by decide +kernel
theorem dX7_set_124 : decode cX7_set 124 = .ok (.iadd, 1) := by decide +kernel
theorem dX7_set_125 : decode cX7_set 125 = .ok (.putfield 92, 3) := by decide +kernel
theorem dX7_set_128 : decode cX7_set 128 = .ok (.iload 5, 2) := by decide +kernel
theorem dX7_set_130 : decode cX7_set 130 = .ok (.i2l, 1) := by decide +kernel
theorem dX7_set_131 : decode cX7_set 131 = .ok (.lreturn, 1) := by decide +kernel
theorem dX7_alter_0 : decode cX7_alter 0 = .ok (.aload_n 0, 1) := by decide +kernel
theorem dX7_alter_1 : decode cX7_alter 1 = .ok (.iload_n 1, 1) := by decide +kernel
theorem dX7_alter_2 : decode cX7_alter 2 = .ok (.invokevirtual 95, 3) := by decide +kernel
theorem dX7_alter_5 : decode cX7_alter 5 = .ok (.ifCond .eq 11, 3) := by decide +kernel
theorem dX7_alter_8 : decode cX7_alter 8 = .ok (.aload_n 0, 1) := by decide +kernel
theorem dX7_alter_9 : decode cX7_alter 9 = .ok (.iload_n 2, 1) := by decide +kernel
theorem dX7_alter_10 : decode cX7_alter 10 = .ok (.invokevirtual 87, 3) := by decide +kernel
theorem dX7_alter_13 : decode cX7_alter 13 = .ok (.ifCond .ne 7, 3) := by decide +kernel
theorem dX7_alter_16 : decode cX7_alter 16 = .ok (.ldc2_w 90, 3) := by decide +kernel
theorem dX7_alter_19 : decode cX7_alter 19 = .ok (.lreturn, 1) := by decide +kernel
theorem dX7_alter_20 : decode cX7_alter 20 = .ok (.iload_n 3, 1) := by decide +kernel
theorem dX7_alter_21 : decode cX7_alter 21 = .ok (.iconst 0, 1) := by decide +kernel
theorem dX7_alter_22 : decode cX7_alter 22 = .ok (.bipush 20, 2) := by decide +kernel
theorem dX7_alter_24 : decode cX7_alter 24 = .ok (.invokestatic 38, 3) := by decide +kernel
theorem dX7_alter_27 : decode cX7_alter 27 = .ok (.ifCond .ne 7, 3) := by decide +kernel
theorem dX7_alter_30 : decode cX7_alter 30 = .ok (.ldc2_w 42, 3) := by decide +kernel
theorem dX7_alter_33 : decode cX7_alter 33 = .ok (.lreturn, 1) := by decide +kernel
theorem dX7_alter_34 : decode cX7_alter 34 = .ok (.aload_n 0, 1) := by decide +kernel
theorem dX7_alter_35 : decode cX7_alter 35 = .ok (.getfield 13, 3) := by decide +kernel
theorem dX7_alter_38 : decode cX7_alter 38 = .ok (.iconst 4, 1) := by decide +kernel
theorem dX7_alter_39 : decode cX7_alter 39 = .ok (.iload_n 1, 1) := by decide +kernel
theorem dX7_alter_40 : decode cX7_alter 40 = .ok (.imul, 1) := by decide +kernel
theorem dX7_alter_41 : decode cX7_alter 41 = .ok (.iload_n 2, 1) := by decide +kernel
theorem dX7_alter_42 : decode cX7_alter 42 = .ok (.iadd, 1) := by decide +kernel
theorem dX7_alter_43 : decode cX7_alter 43 = .ok (.iaload, 1) := by decide +kernel
theorem dX7_alter_44 : decode cX7_alter 44 = .ok (.istore 4, 2) := by decide +kernel
theorem dX7_alter_46 : decode cX7_alter 46 = .ok (.aload_n 0, 1) := by decide +kernel
theorem dX7_alter_47 : decode cX7_alter 47 = .ok (.getfield 13, 3) := by decide +kernel
theorem dX7_alter_50 : decode cX7_alter 50 = .ok (.iconst 4, 1) := by decide +kernel
theorem dX7_alter_51 : decode cX7_alter 51 = .ok (.iload_n 1, 1) := by decide +kernel
theorem dX7_alter_52 : decode cX7_alter 52 = .ok (.imul, 1) := by decide +kernel
theorem dX7_alter_53 : decode cX7_alter 53 = .ok (.iload_n 2, 1) := by decide +kernel
theorem dX7_alter_54 : decode cX7_alter 54 = .ok (.iadd, 1) := by decide +kernel
theorem dX7_alter_55 : decode cX7_alter 55 = .ok (.iload_n 3, 1) := by decide +kernel
theorem dX7_alter_56 : decode cX7_alter 56 = .ok (.iastore, 1) := by decide +kernel
theorem dX7_alter_57 : decode cX7_alter 57 = .ok (.aload_n 0, 1) := by decide +kernel
theorem dX7_alter_58 : decode cX7_alter 58 = .ok (.dup, 1) := by decide +kernel
theorem dX7_alter_59 : decode cX7_alter 59 = .ok (.getfield 92, 3) := by decide +kernel
theorem dX7_alter_62 : decode cX7_alter 62 = .ok (.iconst 1, 1) := by decide +kernel
theorem dX7_alter_63 : decode cX7_alter 63 = .ok (.iadd, 1) := by decide +kernel
theorem dX7_alter_64 : decode cX7_alter 64 = .ok (.putfield 92, 3) := by decide +kernel
theorem dX7_alter_67 : decode cX7_alter 67 = .ok (.iload 4, 2) := by decide +kernel
theorem dX7_alter_69 : decode cX7_alter 69 = .ok (.i2l, 1) := by decide +kernel
theorem dX7_alter_70 : decode cX7_alter 70 = .ok (.lreturn, 1) := by decide +kernel
theorem dX7_sumBy_0 : decode cX7_sumBy 0 = .ok (.iconst 0, 1) := by decide +kernel
theorem dX7_sumBy_1 : decode cX7_sumBy 1 = .ok (.istore_n 3, 1) := by decide +kernel
theorem dX7_sumBy_2 : decode cX7_sumBy 2 = .ok (.iload_n 2, 1) := by decide +kernel
theorem dX7_sumBy_3 : decode cX7_sumBy 3 = .ok (.istore 4, 2) := by decide +kernel
theorem dX7_sumBy_5 : decode cX7_sumBy 5 = .ok (.iconst 0, 1) := by decide +kernel
theorem dX7_sumBy_6 : decode cX7_sumBy 6 = .ok (.istore 5, 2) := by decide +kernel
theorem dX7_sumBy_8 : decode cX7_sumBy 8 = .ok (.iload 5, 2) := by decide +kernel
theorem dX7_sumBy_10 : decode cX7_sumBy 10 = .ok (.aload_n 0, 1) := by decide +kernel
theorem dX7_sumBy_11 : decode cX7_sumBy 11 = .ok (.getfield 78, 3) := by decide +kernel
theorem dX7_sumBy_14 : decode cX7_sumBy 14 = .ok (.if_icmp .ge 36, 3) := by decide +kernel
theorem dX7_sumBy_17 : decode cX7_sumBy 17 = .ok (.iload_n 3, 1) := by decide +kernel
theorem dX7_sumBy_18 : decode cX7_sumBy 18 = .ok (.iload 4, 2) := by decide +kernel
theorem dX7_sumBy_20 : decode cX7_sumBy 20 = .ok (.bipush 10, 2) := by decide +kernel
theorem dX7_sumBy_22 : decode cX7_sumBy 22 = .ok (.irem, 1) := by decide +kernel
theorem dX7_sumBy_23 : decode cX7_sumBy 23 = .ok (.aload_n 0, 1) := by decide +kernel
theorem dX7_sumBy_24 : decode cX7_sumBy 24 = .ok (.getfield 13, 3) := by decide +kernel
theorem dX7_sumBy_27 : decode cX7_sumBy 27 = .ok (.iconst 4, 1) := by decide +kernel
theorem dX7_sumBy_28 : decode cX7_sumBy 28 = .ok (.iload 5, 2) := by decide +kernel
theorem dX7_sumBy_30 : decode cX7_sumBy 30 = .ok (.imul, 1) := by decide +kernel
theorem dX7_sumBy_31 : decode cX7_sumBy 31 = .ok (.iload_n 1, 1) := by decide +kernel
theorem dX7_sumBy_32 : decode cX7_sumBy 32 = .ok (.iadd, 1) := by decide +kernel
theorem dX7_sumBy_33 : decode cX7_sumBy 33 = .ok (.iaload, 1) := by decide +kernel
theorem dX7_sumBy_34 : decode cX7_sumBy 34 = .ok (.imul, 1) := by decide +kernel
theorem dX7_sumBy_35 : decode cX7_sumBy 35 = .ok (.iadd, 1) := by decide +kernel
theorem dX7_sumBy_36 : decode cX7_sumBy 36 = .ok (.istore_n 3, 1) := by decide +kernel
theorem dX7_sumBy_37 : decode cX7_sumBy 37 = .ok (.iload 4, 2) := by decide +kernel
theorem dX7_sumBy_39 : decode cX7_sumBy 39 = .ok (.bipush 10, 2) := by decide +kernel
theorem dX7_sumBy_41 : decode cX7_sumBy 41 = .ok (.idiv, 1) := by decide +kernel
theorem dX7_sumBy_42 : decode cX7_sumBy 42 = .ok (.istore 4, 2) := by decide +kernel
theorem dX7_sumBy_44 : decode cX7_sumBy 44 = .ok (.iinc 5 1, 3) := by decide +kernel
theorem dX7_sumBy_47 : decode cX7_sumBy 47 = .ok (.goto (-39), 3) := by decide +kernel
theorem dX7_sumBy_50 : decode cX7_sumBy 50 = .ok (.iload_n 3, 1) := by decide +kernel
theorem dX7_sumBy_51 : decode cX7_sumBy 51 = .ok (.ireturn, 1) := by decide +kernel
theorem dX7_made_0 : decode cX7_made 0 = .ok (.aload_n 0, 1) := by decide +kernel
theorem dX7_made_1 : decode cX7_made 1 = .ok (.getfield 78, 3) := by decide +kernel
theorem dX7_made_4 : decode cX7_made 4 = .ok (.ifCond .ne 7, 3) := by decide +kernel
theorem dX7_made_7 : decode cX7_made 7 = .ok (.ldc2_w 76, 3) := by decide +kernel
theorem dX7_made_10 : decode cX7_made 10 = .ok (.lreturn, 1) := by decide +kernel
theorem dX7_made_11 : decode cX7_made 11 = .ok (.iconst 0, 1) := by decide +kernel
theorem dX7_made_12 : decode cX7_made 12 = .ok (.istore_n 2, 1) := by decide +kernel
theorem dX7_made_13 : decode cX7_made 13 = .ok (.iconst 1, 1) := by decide +kernel
theorem dX7_made_14 : decode cX7_made 14 = .ok (.istore_n 3, 1) := by decide +kernel
theorem dX7_made_15 : decode cX7_made 15 = .ok (.iconst 0, 1) := by decide +kernel
theorem dX7_made_16 : decode cX7_made 16 = .ok (.istore 4, 2) := by decide +kernel
theorem dX7_made_18 : decode cX7_made 18 = .ok (.iload 4, 2) := by decide +kernel
theorem dX7_made_20 : decode cX7_made 20 = .ok (.aload_n 0, 1) := by decide +kernel
theorem dX7_made_21 : decode cX7_made 21 = .ok (.getfield 78, 3) := by decide +kernel
theorem dX7_made_24 : decode cX7_made 24 = .ok (.if_icmp .ge 23, 3) := by decide +kernel
theorem dX7_made_27 : decode cX7_made 27 = .ok (.iload_n 2, 1) := by decide +kernel
theorem dX7_made_28 : decode cX7_made 28 = .ok (.iload_n 1, 1) := by decide +kernel
theorem dX7_made_29 : decode cX7_made 29 = .ok (.iload_n 3, 1) := by decide +kernel
theorem dX7_made_30 : decode cX7_made 30 = .ok (.idiv, 1) := by decide +kernel
theorem dX7_made_31 : decode cX7_made 31 = .ok (.bipush 10, 2) := by decide +kernel
theorem dX7_made_33 : decode cX7_made 33 = .ok (.irem, 1) := by decide +kernel
theorem dX7_made_34 : decode cX7_made 34 = .ok (.iadd, 1) := by decide +kernel
theorem dX7_made_35 : decode cX7_made 35 = .ok (.istore_n 2, 1) := by decide +kernel
theorem dX7_made_36 : decode cX7_made 36 = .ok (.iload_n 3, 1) := by decide +kernel
theorem dX7_made_37 : decode cX7_made 37 = .ok (.bipush 10, 2) := by decide +kernel
theorem dX7_made_39 : decode cX7_made 39 = .ok (.imul, 1) := by decide +kernel
theorem dX7_made_40 : decode cX7_made 40 = .ok (.istore_n 3, 1) := by decide +kernel
theorem dX7_made_41 : decode cX7_made 41 = .ok (.iinc 4 1, 3) := by decide +kernel
theorem dX7_made_44 : decode cX7_made 44 = .ok (.goto (-26), 3) := by decide +kernel
theorem dX7_made_47 : decode cX7_made 47 = .ok (.iload_n 1, 1) := by decide +kernel
theorem dX7_made_48 : decode cX7_made 48 = .ok (.iconst 1, 1) := by decide +kernel
theorem dX7_made_49 : decode cX7_made 49 = .ok (.iload_n 3, 1) := by decide +kernel
theorem dX7_made_50 : decode cX7_made 50 = .ok (.iconst 1, 1) := by decide +kernel
theorem dX7_made_51 : decode cX7_made 51 = .ok (.isub, 1) := by decide +kernel
theorem dX7_made_52 : decode cX7_made 52 = .ok (.invokestatic 38, 3) := by decide +kernel
theorem dX7_made_55 : decode cX7_made 55 = .ok (.ifCond .ne 7, 3) := by decide +kernel
theorem dX7_made_58 : decode cX7_made 58 = .ok (.ldc2_w 42, 3) := by decide +kernel
theorem dX7_made_61 : decode cX7_made 61 = .ok (.lreturn, 1) := by decide +kernel
theorem dX7_made_62 : decode cX7_made 62 = .ok (.iconst 0, 1) := by decide +kernel
theorem dX7_made_63 : decode cX7_made 63 = .ok (.istore 4, 2) := by decide +kernel
theorem dX7_made_65 : decode cX7_made 65 = .ok (.iload 4, 2) := by decide +kernel
theorem dX7_made_67 : decode cX7_made 67 = .ok (.aload_n 0, 1) := by decide +kernel
theorem dX7_made_68 : decode cX7_made 68 = .ok (.getfield 81, 3) := by decide +kernel
theorem dX7_made_71 : decode cX7_made 71 = .ok (.if_icmp .ge 25, 3) := by decide +kernel
theorem dX7_made_74 : decode cX7_made 74 = .ok (.aload_n 0, 1) := by decide +kernel
theorem dX7_made_75 : decode cX7_made 75 = .ok (.iload 4, 2) := by decide +kernel
theorem dX7_made_77 : decode cX7_made 77 = .ok (.iload_n 1, 1) := by decide +kernel
theorem dX7_made_78 : decode cX7_made 78 = .ok (.invokevirtual 98, 3) := by decide +kernel
theorem dX7_made_81 : decode cX7_made 81 = .ok (.iload_n 2, 1) := by decide +kernel
theorem dX7_made_82 : decode cX7_made 82 = .ok (.irem, 1) := by decide +kernel
theorem dX7_made_83 : decode cX7_made 83 = .ok (.ifCond .eq 7, 3) := by decide +kernel
theorem dX7_made_86 : decode cX7_made 86 = .ok (.ldc2_w 76, 3) := by decide +kernel
theorem dX7_made_89 : decode cX7_made 89 = .ok (.lreturn, 1) := by decide +kernel
theorem dX7_made_90 : decode cX7_made 90 = .ok (.iinc 4 1, 3) := by decide +kernel
theorem dX7_made_93 : decode cX7_made 93 = .ok (.goto (-28), 3) := by decide +kernel
theorem dX7_made_96 : decode cX7_made 96 = .ok (.iconst 0, 1) := by decide +kernel
theorem dX7_made_97 : decode cX7_made 97 = .ok (.istore 4, 2) := by decide +kernel
theorem dX7_made_99 : decode cX7_made 99 = .ok (.iload 4, 2) := by decide +kernel
theorem dX7_made_101 : decode cX7_made 101 = .ok (.aload_n 0, 1) := by decide +kernel
theorem dX7_made_102 : decode cX7_made 102 = .ok (.getfield 81, 3) := by decide +kernel
theorem dX7_made_105 : decode cX7_made 105 = .ok (.if_icmp .ge 25, 3) := by decide +kernel
theorem dX7_made_108 : decode cX7_made 108 = .ok (.aload_n 0, 1) := by decide +kernel
theorem dX7_made_109 : decode cX7_made 109 = .ok (.getfield 16, 3) := by decide +kernel
theorem dX7_made_112 : decode cX7_made 112 = .ok (.iload 4, 2) := by decide +kernel
theorem dX7_made_114 : decode cX7_made 114 = .ok (.aload_n 0, 1) := by decide +kernel
theorem dX7_made_115 : decode cX7_made 115 = .ok (.iload 4, 2) := by decide +kernel
theorem dX7_made_117 : decode cX7_made 117 = .ok (.iload_n 1, 1) := by decide +kernel
theorem dX7_made_118 : decode cX7_made 118 = .ok (.invokevirtual 98, 3) := by decide +kernel
theorem dX7_made_121 : decode cX7_made 121 = .ok (.iload_n 2, 1) := by decide +kernel
theorem dX7_made_122 : decode cX7_made 122 = .ok (.idiv, 1) := by decide +kernel
theorem dX7_made_123 : decode cX7_made 123 = .ok (.iastore, 1) := by decide +kernel
theorem dX7_made_124 : decode cX7_made 124 = .ok (.iinc 4 1, 3) := by decide +kernel
theorem dX7_made_127 : decode cX7_made 127 = .ok (.goto (-28), 3) := by decide +kernel
theorem dX7_made_130 : decode cX7_made 130 = .ok (.aload_n 0, 1) := by decide +kernel
theorem dX7_made_131 : decode cX7_made 131 = .ok (.dup, 1) := by decide +kernel
theorem dX7_made_132 : decode cX7_made 132 = .ok (.getfield 92, 3) := by decide +kernel
theorem dX7_made_135 : decode cX7_made 135 = .ok (.iconst 1, 1) := by decide +kernel
theorem dX7_made_136 : decode cX7_made 136 = .ok (.iadd, 1) := by decide +kernel
theorem dX7_made_137 : decode cX7_made 137 = .ok (.putfield 92, 3) := by decide +kernel
theorem dX7_made_140 : decode cX7_made 140 = .ok (.iload_n 2, 1) := by decide +kernel
theorem dX7_made_141 : decode cX7_made 141 = .ok (.i2l, 1) := by decide +kernel
theorem dX7_made_142 : decode cX7_made 142 = .ok (.lreturn, 1) := by decide +kernel
theorem dX7_hasNow_0 : decode cX7_hasNow 0 = .ok (.aload_n 0, 1) := by decide +kernel
theorem dX7_hasNow_1 : decode cX7_hasNow 1 = .ok (.iload_n 2, 1) := by decide +kernel
theorem dX7_hasNow_2 : decode cX7_hasNow 2 = .ok (.invokevirtual 87, 3) := by decide +kernel
theorem dX7_hasNow_5 : decode cX7_hasNow 5 = .ok (.ifCond .eq 17, 3) := by decide +kernel
theorem dX7_hasNow_8 : decode cX7_hasNow 8 = .ok (.aload_n 0, 1) := by decide +kernel
theorem dX7_hasNow_9 : decode cX7_hasNow 9 = .ok (.getfield 13, 3) := by decide +kernel
theorem dX7_hasNow_12 : decode cX7_hasNow 12 = .ok (.iconst 4, 1) := by decide +kernel
theorem dX7_hasNow_13 : decode cX7_hasNow 13 = .ok (.iload_n 1, 1) := by decide +kernel
theorem dX7_hasNow_14 : decode cX7_hasNow 14 = .ok (.imul, 1) := by decide +kernel
theorem dX7_hasNow_15 : decode cX7_hasNow 15 = .ok (.iload_n 2, 1) := by decide +kernel
theorem dX7_hasNow_16 : decode cX7_hasNow 16 = .ok (.iadd, 1) := by decide +kernel
theorem dX7_hasNow_17 : decode cX7_hasNow 17 = .ok (.iaload, 1) := by decide +kernel
theorem dX7_hasNow_18 : decode cX7_hasNow 18 = .ok (.i2l, 1) := by decide +kernel
theorem dX7_hasNow_19 : decode cX7_hasNow 19 = .ok (.goto 6, 3) := by decide +kernel
theorem dX7_hasNow_22 : decode cX7_hasNow 22 = .ok (.ldc2_w 102, 3) := by decide +kernel
theorem dX7_hasNow_25 : decode cX7_hasNow 25 = .ok (.lreturn, 1) := by decide +kernel
theorem dX7_has_0 : decode cX7_has 0 = .ok (.aload_n 0, 1) := by decide +kernel
theorem dX7_has_1 : decode cX7_has 1 = .ok (.iload_n 1, 1) := by decide +kernel
theorem dX7_has_2 : decode cX7_has 2 = .ok (.invokevirtual 95, 3) := by decide +kernel
theorem dX7_has_5 : decode cX7_has 5 = .ok (.ifCond .ne 7, 3) := by decide +kernel
theorem dX7_has_8 : decode cX7_has 8 = .ok (.ldc2_w 90, 3) := by decide +kernel
theorem dX7_has_11 : decode cX7_has 11 = .ok (.lreturn, 1) := by decide +kernel
theorem dX7_has_12 : decode cX7_has 12 = .ok (.iload_n 2, 1) := by decide +kernel
theorem dX7_has_13 : decode cX7_has 13 = .ok (.iconst 0, 1) := by decide +kernel
theorem dX7_has_14 : decode cX7_has 14 = .ok (.iconst 3, 1) := by decide +kernel
theorem dX7_has_15 : decode cX7_has 15 = .ok (.invokestatic 38, 3) := by decide +kernel
theorem dX7_has_18 : decode cX7_has 18 = .ok (.ifCond .eq 12, 3) := by decide +kernel
theorem dX7_has_21 : decode cX7_has 21 = .ok (.aload_n 0, 1) := by decide +kernel
theorem dX7_has_22 : decode cX7_has 22 = .ok (.iload_n 1, 1) := by decide +kernel
theorem dX7_has_23 : decode cX7_has 23 = .ok (.iload_n 2, 1) := by decide +kernel
theorem dX7_has_24 : decode cX7_has 24 = .ok (.invokevirtual 104, 3) := by decide +kernel
theorem dX7_has_27 : decode cX7_has 27 = .ok (.goto 6, 3) := by decide +kernel
theorem dX7_has_30 : decode cX7_has 30 = .ok (.ldc2_w 42, 3) := by decide +kernel
theorem dX7_has_33 : decode cX7_has 33 = .ok (.lreturn, 1) := by decide +kernel
theorem dX7_tracer_0 : decode cX7_tracer 0 = .ok (.aload_n 0, 1) := by decide +kernel
theorem dX7_tracer_1 : decode cX7_tracer 1 = .ok (.iload_n 1, 1) := by decide +kernel
theorem dX7_tracer_2 : decode cX7_tracer 2 = .ok (.invokevirtual 87, 3) := by decide +kernel
theorem dX7_tracer_5 : decode cX7_tracer 5 = .ok (.ifCond .ne 7, 3) := by decide +kernel
theorem dX7_tracer_8 : decode cX7_tracer 8 = .ok (.ldc2_w 90, 3) := by decide +kernel
theorem dX7_tracer_11 : decode cX7_tracer 11 = .ok (.lreturn, 1) := by decide +kernel
theorem dX7_tracer_12 : decode cX7_tracer 12 = .ok (.iload_n 2, 1) := by decide +kernel
theorem dX7_tracer_13 : decode cX7_tracer 13 = .ok (.ifCond .ne 13, 3) := by decide +kernel
theorem dX7_tracer_16 : decode cX7_tracer 16 = .ok (.aload_n 0, 1) := by decide +kernel
theorem dX7_tracer_17 : decode cX7_tracer 17 = .ok (.getfield 16, 3) := by decide +kernel
theorem dX7_tracer_20 : decode cX7_tracer 20 = .ok (.iload_n 1, 1) := by decide +kernel
theorem dX7_tracer_21 : decode cX7_tracer 21 = .ok (.iaload, 1) := by decide +kernel
theorem dX7_tracer_22 : decode cX7_tracer 22 = .ok (.i2l, 1) := by decide +kernel
theorem dX7_tracer_23 : decode cX7_tracer 23 = .ok (.goto 21, 3) := by decide +kernel
theorem dX7_tracer_26 : decode cX7_tracer 26 = .ok (.iload_n 2, 1) := by decide +kernel
theorem dX7_tracer_27 : decode cX7_tracer 27 = .ok (.iconst 1, 1) := by decide +kernel
theorem dX7_tracer_28 : decode cX7_tracer 28 = .ok (.if_icmp .ne 13, 3) := by decide +kernel
theorem dX7_tracer_31 : decode cX7_tracer 31 = .ok (.aload_n 0, 1) := by decide +kernel
theorem dX7_tracer_32 : decode cX7_tracer 32 = .ok (.getfield 19, 3) := by decide +kernel
theorem dX7_tracer_35 : decode cX7_tracer 35 = .ok (.iload_n 1, 1) := by decide +kernel
theorem dX7_tracer_36 : decode cX7_tracer 36 = .ok (.iaload, 1) := by decide +kernel
theorem dX7_tracer_37 : decode cX7_tracer 37 = .ok (.i2l, 1) := by decide +kernel
theorem dX7_tracer_38 : decode cX7_tracer 38 = .ok (.goto 6, 3) := by decide +kernel
theorem dX7_tracer_41 : decode cX7_tracer 41 = .ok (.ldc2_w 42, 3) := by decide +kernel
theorem dX7_tracer_44 : decode cX7_tracer 44 = .ok (.lreturn, 1) := by decide +kernel
theorem dX7_isUsed_0 : decode cX7_isUsed 0 = .ok (.iload_n 1, 1) := by decide +kernel
theorem dX7_isUsed_1 : decode cX7_isUsed 1 = .ok (.iconst 1, 1) := by decide +kernel
theorem dX7_isUsed_2 : decode cX7_isUsed 2 = .ok (.iconst 1, 1) := by decide +kernel
theorem dX7_isUsed_3 : decode cX7_isUsed 3 = .ok (.aload_n 0, 1) := by decide +kernel
theorem dX7_isUsed_4 : decode cX7_isUsed 4 = .ok (.getfield 81, 3) := by decide +kernel
theorem dX7_isUsed_7 : decode cX7_isUsed 7 = .ok (.ishl, 1) := by decide +kernel
theorem dX7_isUsed_8 : decode cX7_isUsed 8 = .ok (.iconst 1, 1) := by decide +kernel
theorem dX7_isUsed_9 : decode cX7_isUsed 9 = .ok (.isub, 1) := by decide +kernel
theorem dX7_isUsed_10 : decode cX7_isUsed 10 = .ok (.invokestatic 38, 3) := by decide +kernel
theorem dX7_isUsed_13 : decode cX7_isUsed 13 = .ok (.ireturn, 1) := by decide +kernel
theorem dX7_areAlike_0 : decode cX7_areAlike 0 = .ok (.iconst 1, 1) := by decide +kernel
theorem dX7_areAlike_1 : decode cX7_areAlike 1 = .ok (.istore 4, 2) := by decide +kernel
theorem dX7_areAlike_3 : decode cX7_areAlike 3 = .ok (.iconst 0, 1) := by decide +kernel
theorem dX7_areAlike_4 : decode cX7_areAlike 4 = .ok (.istore 5, 2) := by decide +kernel
theorem dX7_areAlike_6 : decode cX7_areAlike 6 = .ok (.iload 5, 2) := by decide +kernel
theorem dX7_areAlike_8 : decode cX7_areAlike 8 = .ok (.aload_n 0, 1) := by decide +kernel
theorem dX7_areAlike_9 : decode cX7_areAlike 9 = .ok (.getfield 81, 3) := by decide +kernel
theorem dX7_areAlike_12 : decode cX7_areAlike 12 = .ok (.if_icmp .ge 55, 3) := by decide +kernel
theorem dX7_areAlike_15 : decode cX7_areAlike 15 = .ok (.iload 4, 2) := by decide +kernel
theorem dX7_areAlike_17 : decode cX7_areAlike 17 = .ok (.ifCond .eq 41, 3) := by decide +kernel
theorem dX7_areAlike_20 : decode cX7_areAlike 20 = .ok (.iload_n 3, 1) := by decide +kernel
theorem dX7_areAlike_21 : decode cX7_areAlike 21 = .ok (.iload 5, 2) := by decide +kernel
theorem dX7_areAlike_23 : decode cX7_areAlike 23 = .ok (.invokestatic 108, 3) := by decide +kernel
theorem dX7_areAlike_26 : decode cX7_areAlike 26 = .ok (.ifCond .eq 28, 3) := by decide +kernel
theorem dX7_areAlike_29 : decode cX7_areAlike 29 = .ok (.aload_n 0, 1) := by decide +kernel
theorem dX7_areAlike_30 : decode cX7_areAlike 30 = .ok (.getfield 13, 3) := by decide +kernel
theorem dX7_areAlike_33 : decode cX7_areAlike 33 = .ok (.iconst 4, 1) := by decide +kernel
theorem dX7_areAlike_34 : decode cX7_areAlike 34 = .ok (.iload_n 1, 1) := by decide +kernel
theorem dX7_areAlike_35 : decode cX7_areAlike 35 = .ok (.imul, 1) := by decide +kernel
theorem dX7_areAlike_36 : decode cX7_areAlike 36 = .ok (.iload 5, 2) := by decide +kernel
theorem dX7_areAlike_38 : decode cX7_areAlike 38 = .ok (.iadd, 1) := by decide +kernel
theorem dX7_areAlike_39 : decode cX7_areAlike 39 = .ok (.iaload, 1) := by decide +kernel
theorem dX7_areAlike_40 : decode cX7_areAlike 40 = .ok (.aload_n 0, 1) := by decide +kernel
theorem dX7_areAlike_41 : decode cX7_areAlike 41 = .ok (.getfield 13, 3) := by decide +kernel
theorem dX7_areAlike_44 : decode cX7_areAlike 44 = .ok (.iconst 4, 1) := by decide +kernel
theorem dX7_areAlike_45 : decode cX7_areAlike 45 = .ok (.iload_n 2, 1) := by decide +kernel
theorem dX7_areAlike_46 : decode cX7_areAlike 46 = .ok (.imul, 1) := by decide +kernel
theorem dX7_areAlike_47 : decode cX7_areAlike 47 = .ok (.iload 5, 2) := by decide +kernel
theorem dX7_areAlike_49 : decode cX7_areAlike 49 = .ok (.iadd, 1) := by decide +kernel
theorem dX7_areAlike_50 : decode cX7_areAlike 50 = .ok (.iaload, 1) := by decide +kernel
theorem dX7_areAlike_51 : decode cX7_areAlike 51 = .ok (.if_icmp .ne 7, 3) := by decide +kernel
theorem dX7_areAlike_54 : decode cX7_areAlike 54 = .ok (.iconst 1, 1) := by decide +kernel
theorem dX7_areAlike_55 : decode cX7_areAlike 55 = .ok (.goto 4, 3) := by decide +kernel
theorem dX7_areAlike_58 : decode cX7_areAlike 58 = .ok (.iconst 0, 1) := by decide +kernel
theorem dX7_areAlike_59 : decode cX7_areAlike 59 = .ok (.istore 4, 2) := by decide +kernel
theorem dX7_areAlike_61 : decode cX7_areAlike 61 = .ok (.iinc 5 1, 3) := by decide +kernel
theorem dX7_areAlike_64 : decode cX7_areAlike 64 = .ok (.goto (-58), 3) := by decide +kernel
theorem dX7_areAlike_67 : decode cX7_areAlike 67 = .ok (.iload 4, 2) := by decide +kernel
theorem dX7_areAlike_69 : decode cX7_areAlike 69 = .ok (.ireturn, 1) := by decide +kernel
theorem dX7_alikeOf_0 : decode cX7_alikeOf 0 = .ok (.iload_n 1, 1) := by decide +kernel
theorem dX7_alikeOf_1 : decode cX7_alikeOf 1 = .ok (.istore_n 3, 1) := by decide +kernel
theorem dX7_alikeOf_2 : decode cX7_alikeOf 2 = .ok (.iload_n 1, 1) := by decide +kernel
theorem dX7_alikeOf_3 : decode cX7_alikeOf 3 = .ok (.istore 4, 2) := by decide +kernel
theorem dX7_alikeOf_5 : decode cX7_alikeOf 5 = .ok (.iload 4, 2) := by decide +kernel
theorem dX7_alikeOf_7 : decode cX7_alikeOf 7 = .ok (.ifCond .lt 27, 3) := by decide +kernel
theorem dX7_alikeOf_10 : decode cX7_alikeOf 10 = .ok (.aload_n 0, 1) := by decide +kernel
theorem dX7_alikeOf_11 : decode cX7_alikeOf 11 = .ok (.iload 4, 2) := by decide +kernel
theorem dX7_alikeOf_13 : decode cX7_alikeOf 13 = .ok (.iload_n 1, 1) := by decide +kernel
theorem dX7_alikeOf_14 : decode cX7_alikeOf 14 = .ok (.iload_n 2, 1) := by decide +kernel
theorem dX7_alikeOf_15 : decode cX7_alikeOf 15 = .ok (.invokevirtual 112, 3) := by decide +kernel
theorem dX7_alikeOf_18 : decode cX7_alikeOf 18 = .ok (.ifCond .eq 8, 3) := by decide +kernel
theorem dX7_alikeOf_21 : decode cX7_alikeOf 21 = .ok (.iload 4, 2) := by decide +kernel
theorem dX7_alikeOf_23 : decode cX7_alikeOf 23 = .ok (.goto 4, 3) := by decide +kernel
theorem dX7_alikeOf_26 : decode cX7_alikeOf 26 = .ok (.iload_n 3, 1) := by decide +kernel
theorem dX7_alikeOf_27 : decode cX7_alikeOf 27 = .ok (.istore_n 3, 1) := by decide +kernel
theorem dX7_alikeOf_28 : decode cX7_alikeOf 28 = .ok (.iinc 4 (-1), 3) := by decide +kernel
theorem dX7_alikeOf_31 : decode cX7_alikeOf 31 = .ok (.goto (-26), 3) := by decide +kernel
theorem dX7_alikeOf_34 : decode cX7_alikeOf 34 = .ok (.iload_n 3, 1) := by decide +kernel
theorem dX7_alikeOf_35 : decode cX7_alikeOf 35 = .ok (.ireturn, 1) := by decide +kernel
theorem dX7_alike_0 : decode cX7_alike 0 = .ok (.aload_n 0, 1) := by decide +kernel
theorem dX7_alike_1 : decode cX7_alike 1 = .ok (.iload_n 1, 1) := by decide +kernel
theorem dX7_alike_2 : decode cX7_alike 2 = .ok (.invokevirtual 95, 3) := by decide +kernel
theorem dX7_alike_5 : decode cX7_alike 5 = .ok (.ifCond .ne 7, 3) := by decide +kernel
theorem dX7_alike_8 : decode cX7_alike 8 = .ok (.ldc2_w 90, 3) := by decide +kernel
theorem dX7_alike_11 : decode cX7_alike 11 = .ok (.lreturn, 1) := by decide +kernel
theorem dX7_alike_12 : decode cX7_alike 12 = .ok (.aload_n 0, 1) := by decide +kernel
theorem dX7_alike_13 : decode cX7_alike 13 = .ok (.iload_n 2, 1) := by decide +kernel
theorem dX7_alike_14 : decode cX7_alike 14 = .ok (.invokevirtual 115, 3) := by decide +kernel
theorem dX7_alike_17 : decode cX7_alike 17 = .ok (.ifCond .eq 13, 3) := by decide +kernel
theorem dX7_alike_20 : decode cX7_alike 20 = .ok (.aload_n 0, 1) := by decide +kernel
theorem dX7_alike_21 : decode cX7_alike 21 = .ok (.iload_n 1, 1) := by decide +kernel
theorem dX7_alike_22 : decode cX7_alike 22 = .ok (.iload_n 2, 1) := by decide +kernel
theorem dX7_alike_23 : decode cX7_alike 23 = .ok (.invokevirtual 118, 3) := by decide +kernel
theorem dX7_alike_26 : decode cX7_alike 26 = .ok (.i2l, 1) := by decide +kernel
theorem dX7_alike_27 : decode cX7_alike 27 = .ok (.goto 6, 3) := by decide +kernel
theorem dX7_alike_30 : decode cX7_alike 30 = .ok (.ldc2_w 42, 3) := by decide +kernel
theorem dX7_alike_33 : decode cX7_alike 33 = .ok (.lreturn, 1) := by decide +kernel
theorem dX7_apart_0 : decode cX7_apart 0 = .ok (.aload_n 0, 1) := by decide +kernel
theorem dX7_apart_1 : decode cX7_apart 1 = .ok (.getfield 13, 3) := by decide +kernel
theorem dX7_apart_4 : decode cX7_apart 4 = .ok (.iconst 4, 1) := by decide +kernel
theorem dX7_apart_5 : decode cX7_apart 5 = .ok (.aload_n 0, 1) := by decide +kernel
theorem dX7_apart_6 : decode cX7_apart 6 = .ok (.getfield 25, 3) := by decide +kernel
theorem dX7_apart_9 : decode cX7_apart 9 = .ok (.iload_n 1, 1) := by decide +kernel
theorem dX7_apart_10 : decode cX7_apart 10 = .ok (.iaload, 1) := by decide +kernel
theorem dX7_apart_11 : decode cX7_apart 11 = .ok (.imul, 1) := by decide +kernel
theorem dX7_apart_12 : decode cX7_apart 12 = .ok (.iload_n 2, 1) := by decide +kernel
theorem dX7_apart_13 : decode cX7_apart 13 = .ok (.iadd, 1) := by decide +kernel
theorem dX7_apart_14 : decode cX7_apart 14 = .ok (.iaload, 1) := by decide +kernel
theorem dX7_apart_15 : decode cX7_apart 15 = .ok (.aload_n 0, 1) := by decide +kernel
theorem dX7_apart_16 : decode cX7_apart 16 = .ok (.getfield 13, 3) := by decide +kernel
theorem dX7_apart_19 : decode cX7_apart 19 = .ok (.iconst 4, 1) := by decide +kernel
theorem dX7_apart_20 : decode cX7_apart 20 = .ok (.aload_n 0, 1) := by decide +kernel
theorem dX7_apart_21 : decode cX7_apart 21 = .ok (.getfield 25, 3) := by decide +kernel
theorem dX7_apart_24 : decode cX7_apart 24 = .ok (.iconst 0, 1) := by decide +kernel
theorem dX7_apart_25 : decode cX7_apart 25 = .ok (.iaload, 1) := by decide +kernel
theorem dX7_apart_26 : decode cX7_apart 26 = .ok (.imul, 1) := by decide +kernel
theorem dX7_apart_27 : decode cX7_apart 27 = .ok (.iload_n 2, 1) := by decide +kernel
theorem dX7_apart_28 : decode cX7_apart 28 = .ok (.iadd, 1) := by decide +kernel
theorem dX7_apart_29 : decode cX7_apart 29 = .ok (.iaload, 1) := by decide +kernel
theorem dX7_apart_30 : decode cX7_apart 30 = .ok (.isub, 1) := by decide +kernel
theorem dX7_apart_31 : decode cX7_apart 31 = .ok (.i2l, 1) := by decide +kernel
theorem dX7_apart_32 : decode cX7_apart 32 = .ok (.lreturn, 1) := by decide +kernel
theorem dX7_short0_0 : decode cX7_short0 0 = .ok (.aload_n 0, 1) := by decide +kernel
theorem dX7_short0_1 : decode cX7_short0 1 = .ok (.getfield 16, 3) := by decide +kernel
theorem dX7_short0_4 : decode cX7_short0 4 = .ok (.iload_n 1, 1) := by decide +kernel
theorem dX7_short0_5 : decode cX7_short0 5 = .ok (.iaload, 1) := by decide +kernel
theorem dX7_short0_6 : decode cX7_short0 6 = .ok (.aload_n 0, 1) := by decide +kernel
theorem dX7_short0_7 : decode cX7_short0 7 = .ok (.getfield 13, 3) := by decide +kernel
theorem dX7_short0_10 : decode cX7_short0 10 = .ok (.iconst 4, 1) := by decide +kernel
theorem dX7_short0_11 : decode cX7_short0 11 = .ok (.aload_n 0, 1) := by decide +kernel
theorem dX7_short0_12 : decode cX7_short0 12 = .ok (.getfield 25, 3) := by decide +kernel
theorem dX7_short0_15 : decode cX7_short0 15 = .ok (.iconst 0, 1) := by decide +kernel
theorem dX7_short0_16 : decode cX7_short0 16 = .ok (.iaload, 1) := by decide +kernel
theorem dX7_short0_17 : decode cX7_short0 17 = .ok (.imul, 1) := by decide +kernel
theorem dX7_short0_18 : decode cX7_short0 18 = .ok (.iload_n 1, 1) := by decide +kernel
theorem dX7_short0_19 : decode cX7_short0 19 = .ok (.iadd, 1) := by decide +kernel
theorem dX7_short0_20 : decode cX7_short0 20 = .ok (.iaload, 1) := by decide +kernel
theorem dX7_short0_21 : decode cX7_short0 21 = .ok (.isub, 1) := by decide +kernel
theorem dX7_short0_22 : decode cX7_short0 22 = .ok (.i2l, 1) := by decide +kernel
theorem dX7_short0_23 : decode cX7_short0 23 = .ok (.lreturn, 1) := by decide +kernel
theorem dX7_layPairs_0 : decode cX7_layPairs 0 = .ok (.iconst 0, 1) := by decide +kernel
theorem dX7_layPairs_1 : decode cX7_layPairs 1 = .ok (.istore_n 2, 1) := by decide +kernel
theorem dX7_layPairs_2 : decode cX7_layPairs 2 = .ok (.iload_n 2, 1) := by decide +kernel
theorem dX7_layPairs_3 : decode cX7_layPairs 3 = .ok (.bipush 9, 2) := by decide +kernel
theorem dX7_layPairs_5 : decode cX7_layPairs 5 = .ok (.if_icmp .ge 29, 3) := by decide +kernel
theorem dX7_layPairs_8 : decode cX7_layPairs 8 = .ok (.aload_n 0, 1) := by decide +kernel
theorem dX7_layPairs_9 : decode cX7_layPairs 9 = .ok (.getfield 32, 3) := by decide +kernel
theorem dX7_layPairs_12 : decode cX7_layPairs 12 = .ok (.iload_n 2, 1) := by decide +kernel
theorem dX7_layPairs_13 : decode cX7_layPairs 13 = .ok (.iload_n 2, 1) := by decide +kernel
theorem dX7_layPairs_14 : decode cX7_layPairs 14 = .ok (.iconst 3, 1) := by decide +kernel
theorem dX7_layPairs_15 : decode cX7_layPairs 15 = .ok (.idiv, 1) := by decide +kernel
theorem dX7_layPairs_16 : decode cX7_layPairs 16 = .ok (.iload_n 2, 1) := by decide +kernel
theorem dX7_layPairs_17 : decode cX7_layPairs 17 = .ok (.iconst 3, 1) := by decide +kernel
theorem dX7_layPairs_18 : decode cX7_layPairs 18 = .ok (.irem, 1) := by decide +kernel
theorem dX7_layPairs_19 : decode cX7_layPairs 19 = .ok (.if_icmp .ne 7, 3) := by decide +kernel
theorem dX7_layPairs_22 : decode cX7_layPairs 22 = .ok (.lconst 1, 1) := by decide +kernel
theorem dX7_layPairs_23 : decode cX7_layPairs 23 = .ok (.goto 4, 3) := by decide +kernel
theorem dX7_layPairs_26 : decode cX7_layPairs 26 = .ok (.lconst 0, 1) := by decide +kernel
theorem dX7_layPairs_27 : decode cX7_layPairs 27 = .ok (.lastore, 1) := by decide +kernel
theorem dX7_layPairs_28 : decode cX7_layPairs 28 = .ok (.iinc 2 1, 3) := by decide +kernel
theorem dX7_layPairs_31 : decode cX7_layPairs 31 = .ok (.goto (-29), 3) := by decide +kernel
theorem dX7_layPairs_34 : decode cX7_layPairs 34 = .ok (.iconst 0, 1) := by decide +kernel
theorem dX7_layPairs_35 : decode cX7_layPairs 35 = .ok (.istore_n 2, 1) := by decide +kernel
theorem dX7_layPairs_36 : decode cX7_layPairs 36 = .ok (.iload_n 2, 1) := by decide +kernel
theorem dX7_layPairs_37 : decode cX7_layPairs 37 = .ok (.iconst 3, 1) := by decide +kernel
theorem dX7_layPairs_38 : decode cX7_layPairs 38 = .ok (.if_icmp .ge 166, 3) := by decide +kernel
theorem dX7_layPairs_41 : decode cX7_layPairs 41 = .ok (.aload_n 0, 1) := by decide +kernel
theorem dX7_layPairs_42 : decode cX7_layPairs 42 = .ok (.getfield 35, 3) := by decide +kernel
theorem dX7_layPairs_45 : decode cX7_layPairs 45 = .ok (.iload_n 2, 1) := by decide +kernel
theorem dX7_layPairs_46 : decode cX7_layPairs 46 = .ok (.lconst 0, 1) := by decide +kernel
theorem dX7_layPairs_47 : decode cX7_layPairs 47 = .ok (.lastore, 1) := by decide +kernel
theorem dX7_layPairs_48 : decode cX7_layPairs 48 = .ok (.iconst 0, 1) := by decide +kernel
theorem dX7_layPairs_49 : decode cX7_layPairs 49 = .ok (.istore_n 3, 1) := by decide +kernel
theorem dX7_layPairs_50 : decode cX7_layPairs 50 = .ok (.iload_n 3, 1) := by decide +kernel
theorem dX7_layPairs_51 : decode cX7_layPairs 51 = .ok (.iconst 3, 1) := by decide +kernel
theorem dX7_layPairs_52 : decode cX7_layPairs 52 = .ok (.if_icmp .ge 146, 3) := by decide +kernel
theorem dX7_layPairs_55 : decode cX7_layPairs 55 = .ok (.iload_n 2, 1) := by decide +kernel
theorem dX7_layPairs_56 : decode cX7_layPairs 56 = .ok (.iconst 1, 1) := by decide +kernel
theorem dX7_layPairs_57 : decode cX7_layPairs 57 = .ok (.iadd, 1) := by decide +kernel
theorem dX7_layPairs_58 : decode cX7_layPairs 58 = .ok (.aload_n 0, 1) := by decide +kernel
theorem dX7_layPairs_59 : decode cX7_layPairs 59 = .ok (.getfield 121, 3) := by decide +kernel
theorem dX7_layPairs_62 : decode cX7_layPairs 62 = .ok (.if_icmp .ge 136, 3) := by decide +kernel
theorem dX7_layPairs_65 : decode cX7_layPairs 65 = .ok (.aload_n 0, 1) := by decide +kernel
theorem dX7_layPairs_66 : decode cX7_layPairs 66 = .ok (.getfield 32, 3) := by decide +kernel
theorem dX7_layPairs_69 : decode cX7_layPairs 69 = .ok (.iconst 3, 1) := by decide +kernel
theorem dX7_layPairs_70 : decode cX7_layPairs 70 = .ok (.iload_n 2, 1) := by decide +kernel
theorem dX7_layPairs_71 : decode cX7_layPairs 71 = .ok (.imul, 1) := by decide +kernel
theorem dX7_layPairs_72 : decode cX7_layPairs 72 = .ok (.iload_n 3, 1) := by decide +kernel
theorem dX7_layPairs_73 : decode cX7_layPairs 73 = .ok (.iadd, 1) := by decide +kernel
theorem dX7_layPairs_74 : decode cX7_layPairs 74 = .ok (.lconst 0, 1) := by decide +kernel
theorem dX7_layPairs_75 : decode cX7_layPairs 75 = .ok (.lastore, 1) := by decide +kernel
theorem dX7_layPairs_76 : decode cX7_layPairs 76 = .ok (.iconst 0, 1) := by decide +kernel
theorem dX7_layPairs_77 : decode cX7_layPairs 77 = .ok (.istore 4, 2) := by decide +kernel
theorem dX7_layPairs_79 : decode cX7_layPairs 79 = .ok (.iload 4, 2) := by decide +kernel
theorem dX7_layPairs_81 : decode cX7_layPairs 81 = .ok (.aload_n 0, 1) := by decide +kernel
theorem dX7_layPairs_82 : decode cX7_layPairs 82 = .ok (.getfield 81, 3) := by decide +kernel
theorem dX7_layPairs_85 : decode cX7_layPairs 85 = .ok (.if_icmp .ge 107, 3) := by decide +kernel
theorem dX7_layPairs_88 : decode cX7_layPairs 88 = .ok (.iload_n 1, 1) := by decide +kernel
theorem dX7_layPairs_89 : decode cX7_layPairs 89 = .ok (.iload 4, 2) := by decide +kernel
theorem dX7_layPairs_91 : decode cX7_layPairs 91 = .ok (.invokestatic 108, 3) := by decide +kernel
theorem dX7_layPairs_94 : decode cX7_layPairs 94 = .ok (.ifCond .eq 24, 3) := by decide +kernel
theorem dX7_layPairs_97 : decode cX7_layPairs 97 = .ok (.aload_n 0, 1) := by decide +kernel
theorem dX7_layPairs_98 : decode cX7_layPairs 98 = .ok (.getfield 19, 3) := by decide +kernel
theorem dX7_layPairs_101 : decode cX7_layPairs 101 = .ok (.iload 4, 2) := by decide +kernel
theorem dX7_layPairs_103 : decode cX7_layPairs 103 = .ok (.iaload, 1) := by decide +kernel
theorem dX7_layPairs_104 : decode cX7_layPairs 104 = .ok (.i2l, 1) := by decide +kernel
theorem dX7_layPairs_105 : decode cX7_layPairs 105 = .ok (.aload_n 0, 1) := by decide +kernel
theorem dX7_layPairs_106 : decode cX7_layPairs 106 = .ok (.iload_n 2, 1) := by decide +kernel
theorem dX7_layPairs_107 : decode cX7_layPairs 107 = .ok (.iconst 1, 1) := by decide +kernel
theorem dX7_layPairs_108 : decode cX7_layPairs 108 = .ok (.iadd, 1) := by decide +kernel
theorem dX7_layPairs_109 : decode cX7_layPairs 109 = .ok (.iload 4, 2) := by decide +kernel
theorem dX7_layPairs_111 : decode cX7_layPairs 111 = .ok (.invokevirtual 124, 3) := by decide +kernel
theorem dX7_layPairs_114 : decode cX7_layPairs 114 = .ok (.lmul, 1) := by decide +kernel
theorem dX7_layPairs_115 : decode cX7_layPairs 115 = .ok (.goto 4, 3) := by decide +kernel
theorem dX7_layPairs_118 : decode cX7_layPairs 118 = .ok (.lconst 0, 1) := by decide +kernel
theorem dX7_layPairs_119 : decode cX7_layPairs 119 = .ok (.lstore 5, 2) := by decide +kernel
theorem dX7_layPairs_121 : decode cX7_layPairs 121 = .ok (.aload_n 0, 1) := by decide +kernel
theorem dX7_layPairs_122 : decode cX7_layPairs 122 = .ok (.getfield 32, 3) := by decide +kernel
theorem dX7_layPairs_125 : decode cX7_layPairs 125 = .ok (.iconst 3, 1) := by decide +kernel
theorem dX7_layPairs_126 : decode cX7_layPairs 126 = .ok (.iload_n 2, 1) := by decide +kernel
theorem dX7_layPairs_127 : decode cX7_layPairs 127 = .ok (.imul, 1) := by decide +kernel
theorem dX7_layPairs_128 : decode cX7_layPairs 128 = .ok (.iload_n 3, 1) := by decide +kernel
theorem dX7_layPairs_129 : decode cX7_layPairs 129 = .ok (.iadd, 1) := by decide +kernel
theorem dX7_layPairs_130 : decode cX7_layPairs 130 = .ok (.dup2, 1) := by decide +kernel
theorem dX7_layPairs_131 : decode cX7_layPairs 131 = .ok (.laload, 1) := by decide +kernel
theorem dX7_layPairs_132 : decode cX7_layPairs 132 = .ok (.iload_n 3, 1) := by decide +kernel
theorem dX7_layPairs_133 : decode cX7_layPairs 133 = .ok (.iconst 1, 1) := by decide +kernel
theorem dX7_layPairs_134 : decode cX7_layPairs 134 = .ok (.iadd, 1) := by decide +kernel
theorem dX7_layPairs_135 : decode cX7_layPairs 135 = .ok (.aload_n 0, 1) := by decide +kernel
theorem dX7_layPairs_136 : decode cX7_layPairs 136 = .ok (.getfield 121, 3) := by decide +kernel
theorem dX7_layPairs_139 : decode cX7_layPairs 139 = .ok (.if_icmp .ge 18, 3) := by decide +kernel
theorem dX7_layPairs_142 : decode cX7_layPairs 142 = .ok (.lload 5, 2) := by decide +kernel
theorem dX7_layPairs_144 : decode cX7_layPairs 144 = .ok (.aload_n 0, 1) := by decide +kernel
theorem dX7_layPairs_145 : decode cX7_layPairs 145 = .ok (.iload_n 3, 1) := by decide +kernel
theorem dX7_layPairs_146 : decode cX7_layPairs 146 = .ok (.iconst 1, 1) := by decide +kernel
theorem dX7_layPairs_147 : decode cX7_layPairs 147 = .ok (.iadd, 1) := by decide +kernel
theorem dX7_layPairs_148 : decode cX7_layPairs 148 = .ok (.iload 4, 2) := by decide +kernel
theorem dX7_layPairs_150 : decode cX7_layPairs 150 = .ok (.invokevirtual 124, 3) := by decide +kernel
theorem dX7_layPairs_153 : decode cX7_layPairs 153 = .ok (.lmul, 1) := by decide +kernel
theorem dX7_layPairs_154 : decode cX7_layPairs 154 = .ok (.goto 4, 3) := by decide +kernel
theorem dX7_layPairs_157 : decode cX7_layPairs 157 = .ok (.lconst 0, 1) := by decide +kernel
theorem dX7_layPairs_158 : decode cX7_layPairs 158 = .ok (.ladd, 1) := by decide +kernel
theorem dX7_layPairs_159 : decode cX7_layPairs 159 = .ok (.lastore, 1) := by decide +kernel
theorem dX7_layPairs_160 : decode cX7_layPairs 160 = .ok (.aload_n 0, 1) := by decide +kernel
theorem dX7_layPairs_161 : decode cX7_layPairs 161 = .ok (.getfield 35, 3) := by decide +kernel
theorem dX7_layPairs_164 : decode cX7_layPairs 164 = .ok (.iload_n 2, 1) := by decide +kernel
theorem dX7_layPairs_165 : decode cX7_layPairs 165 = .ok (.dup2, 1) := by decide +kernel
theorem dX7_layPairs_166 : decode cX7_layPairs 166 = .ok (.laload, 1) := by decide +kernel
theorem dX7_layPairs_167 : decode cX7_layPairs 167 = .ok (.iload_n 3, 1) := by decide +kernel
theorem dX7_layPairs_168 : decode cX7_layPairs 168 = .ok (.ifCond .ne 15, 3) := by decide +kernel
theorem dX7_layPairs_171 : decode cX7_layPairs 171 = .ok (.lload 5, 2) := by decide +kernel
theorem dX7_layPairs_173 : decode cX7_layPairs 173 = .ok (.aload_n 0, 1) := by decide +kernel
theorem dX7_layPairs_174 : decode cX7_layPairs 174 = .ok (.iload 4, 2) := by decide +kernel
theorem dX7_layPairs_176 : decode cX7_layPairs 176 = .ok (.invokevirtual 127, 3) := by decide +kernel
theorem dX7_layPairs_179 : decode cX7_layPairs 179 = .ok (.lmul, 1) := by decide +kernel
theorem dX7_layPairs_180 : decode cX7_layPairs 180 = .ok (.goto 4, 3) := by decide +kernel
theorem dX7_layPairs_183 : decode cX7_layPairs 183 = .ok (.lconst 0, 1) := by decide +kernel
theorem dX7_layPairs_184 : decode cX7_layPairs 184 = .ok (.ladd, 1) := by decide +kernel
theorem dX7_layPairs_185 : decode cX7_layPairs 185 = .ok (.lastore, 1) := by decide +kernel
theorem dX7_layPairs_186 : decode cX7_layPairs 186 = .ok (.iinc 4 1, 3) := by decide +kernel
theorem dX7_layPairs_189 : decode cX7_layPairs 189 = .ok (.goto (-110), 3) := by decide +kernel
theorem dX7_layPairs_192 : decode cX7_layPairs 192 = .ok (.iinc 3 1, 3) := by decide +kernel
theorem dX7_layPairs_195 : decode cX7_layPairs 195 = .ok (.goto (-145), 3) := by decide +kernel
theorem dX7_layPairs_198 : decode cX7_layPairs 198 = .ok (.iinc 2 1, 3) := by decide +kernel
theorem dX7_layPairs_201 : decode cX7_layPairs 201 = .ok (.goto (-165), 3) := by decide +kernel
theorem dX7_layPairs_204 : decode cX7_layPairs 204 = .ok (.return_, 1) := by decide +kernel
theorem dX7_cell_0 : decode cX7_cell 0 = .ok (.iload_n 2, 1) := by decide +kernel
theorem dX7_cell_1 : decode cX7_cell 1 = .ok (.iload_n 3, 1) := by decide +kernel
theorem dX7_cell_2 : decode cX7_cell 2 = .ok (.if_icmp .ne 12, 3) := by decide +kernel
theorem dX7_cell_5 : decode cX7_cell 5 = .ok (.aload_n 0, 1) := by decide +kernel
theorem dX7_cell_6 : decode cX7_cell 6 = .ok (.getfield 35, 3) := by decide +kernel
theorem dX7_cell_9 : decode cX7_cell 9 = .ok (.iload_n 1, 1) := by decide +kernel
theorem dX7_cell_10 : decode cX7_cell 10 = .ok (.laload, 1) := by decide +kernel
theorem dX7_cell_11 : decode cX7_cell 11 = .ok (.goto 13, 3) := by decide +kernel
theorem dX7_cell_14 : decode cX7_cell 14 = .ok (.aload_n 0, 1) := by decide +kernel
theorem dX7_cell_15 : decode cX7_cell 15 = .ok (.getfield 32, 3) := by decide +kernel
theorem dX7_cell_18 : decode cX7_cell 18 = .ok (.iconst 3, 1) := by decide +kernel
theorem dX7_cell_19 : decode cX7_cell 19 = .ok (.iload_n 1, 1) := by decide +kernel
theorem dX7_cell_20 : decode cX7_cell 20 = .ok (.imul, 1) := by decide +kernel
theorem dX7_cell_21 : decode cX7_cell 21 = .ok (.iload_n 2, 1) := by decide +kernel
theorem dX7_cell_22 : decode cX7_cell 22 = .ok (.iadd, 1) := by decide +kernel
theorem dX7_cell_23 : decode cX7_cell 23 = .ok (.laload, 1) := by decide +kernel
theorem dX7_cell_24 : decode cX7_cell 24 = .ok (.lreturn, 1) := by decide +kernel
theorem dX7_determinant_0 : decode cX7_determinant 0 = .ok (.lconst 0, 1) := by decide +kernel
theorem dX7_determinant_1 : decode cX7_determinant 1 = .ok (.lstore_n 2, 1) := by decide +kernel
theorem dX7_determinant_2 : decode cX7_determinant 2 = .ok (.iconst 0, 1) := by decide +kernel
theorem dX7_determinant_3 : decode cX7_determinant 3 = .ok (.istore 4, 2) := by decide +kernel
theorem dX7_determinant_5 : decode cX7_determinant 5 = .ok (.iload 4, 2) := by decide +kernel
theorem dX7_determinant_7 : decode cX7_determinant 7 = .ok (.iconst 3, 1) := by decide +kernel
theorem dX7_determinant_8 : decode cX7_determinant 8 = .ok (.if_icmp .ge 72, 3) := by decide +kernel
theorem dX7_determinant_11 : decode cX7_determinant 11 = .ok (.iload 4, 2) := by decide +kernel
theorem dX7_determinant_13 : decode cX7_determinant 13 = .ok (.iconst 1, 1) := by decide +kernel
theorem dX7_determinant_14 : decode cX7_determinant 14 = .ok (.iadd, 1) := by decide +kernel
theorem dX7_determinant_15 : decode cX7_determinant 15 = .ok (.iconst 3, 1) := by decide +kernel
theorem dX7_determinant_16 : decode cX7_determinant 16 = .ok (.irem, 1) := by decide +kernel
theorem dX7_determinant_17 : decode cX7_determinant 17 = .ok (.istore 5, 2) := by decide +kernel
theorem dX7_determinant_19 : decode cX7_determinant 19 = .ok (.iload 4, 2) := by decide +kernel
theorem dX7_determinant_21 : decode cX7_determinant 21 = .ok (.iconst 2, 1) := by decide +kernel
theorem dX7_determinant_22 : decode cX7_determinant 22 = .ok (.iadd, 1) := by decide +kernel
theorem dX7_determinant_23 : decode cX7_determinant 23 = .ok (.iconst 3, 1) := by decide +kernel
theorem dX7_determinant_24 : decode cX7_determinant 24 = .ok (.irem, 1) := by decide +kernel
theorem dX7_determinant_25 : decode cX7_determinant 25 = .ok (.istore 6, 2) := by decide +kernel
theorem dX7_determinant_27 : decode cX7_determinant 27 = .ok (.lload_n 2, 1) := by decide +kernel
theorem dX7_determinant_28 : decode cX7_determinant 28 = .ok (.aload_n 0, 1) := by decide +kernel
theorem dX7_determinant_29 : decode cX7_determinant 29 = .ok (.iconst 0, 1) := by decide +kernel
theorem dX7_determinant_30 : decode cX7_determinant 30 = .ok (.iload 4, 2) := by decide +kernel
theorem dX7_determinant_32 : decode cX7_determinant 32 = .ok (.iload_n 1, 1) := by decide +kernel
theorem dX7_determinant_33 : decode cX7_determinant 33 = .ok (.invokevirtual 131, 3) := by decide +kernel
theorem dX7_determinant_36 : decode cX7_determinant 36 = .ok (.aload_n 0, 1) := by decide +kernel
theorem dX7_determinant_37 : decode cX7_determinant 37 = .ok (.iconst 1, 1) := by decide +kernel
theorem dX7_determinant_38 : decode cX7_determinant 38 = .ok (.iload 5, 2) := by decide +kernel
theorem dX7_determinant_40 : decode cX7_determinant 40 = .ok (.iload_n 1, 1) := by decide +kernel
theorem dX7_determinant_41 : decode cX7_determinant 41 = .ok (.invokevirtual 131, 3) := by decide +kernel
theorem dX7_determinant_44 : decode cX7_determinant 44 = .ok (.aload_n 0, 1) := by decide +kernel
theorem dX7_determinant_45 : decode cX7_determinant 45 = .ok (.iconst 2, 1) := by decide +kernel
theorem dX7_determinant_46 : decode cX7_determinant 46 = .ok (.iload 6, 2) := by decide +kernel
theorem dX7_determinant_48 : decode cX7_determinant 48 = .ok (.iload_n 1, 1) := by decide +kernel
theorem dX7_determinant_49 : decode cX7_determinant 49 = .ok (.invokevirtual 131, 3) := by decide +kernel
theorem dX7_determinant_52 : decode cX7_determinant 52 = .ok (.lmul, 1) := by decide +kernel
theorem dX7_determinant_53 : decode cX7_determinant 53 = .ok (.aload_n 0, 1) := by decide +kernel
theorem dX7_determinant_54 : decode cX7_determinant 54 = .ok (.iconst 1, 1) := by decide +kernel
theorem dX7_determinant_55 : decode cX7_determinant 55 = .ok (.iload 6, 2) := by decide +kernel
theorem dX7_determinant_57 : decode cX7_determinant 57 = .ok (.iload_n 1, 1) := by decide +kernel
theorem dX7_determinant_58 : decode cX7_determinant 58 = .ok (.invokevirtual 131, 3) := by decide +kernel
theorem dX7_determinant_61 : decode cX7_determinant 61 = .ok (.aload_n 0, 1) := by decide +kernel
theorem dX7_determinant_62 : decode cX7_determinant 62 = .ok (.iconst 2, 1) := by decide +kernel
theorem dX7_determinant_63 : decode cX7_determinant 63 = .ok (.iload 5, 2) := by decide +kernel
theorem dX7_determinant_65 : decode cX7_determinant 65 = .ok (.iload_n 1, 1) := by decide +kernel
theorem dX7_determinant_66 : decode cX7_determinant 66 = .ok (.invokevirtual 131, 3) := by decide +kernel
theorem dX7_determinant_69 : decode cX7_determinant 69 = .ok (.lmul, 1) := by decide +kernel
theorem dX7_determinant_70 : decode cX7_determinant 70 = .ok (.lsub, 1) := by decide +kernel
theorem dX7_determinant_71 : decode cX7_determinant 71 = .ok (.lmul, 1) := by decide +kernel
theorem dX7_determinant_72 : decode cX7_determinant 72 = .ok (.ladd, 1) := by decide +kernel
theorem dX7_determinant_73 : decode cX7_determinant 73 = .ok (.lstore_n 2, 1) := by decide +kernel
theorem dX7_determinant_74 : decode cX7_determinant 74 = .ok (.iinc 4 1, 3) := by decide +kernel
theorem dX7_determinant_77 : decode cX7_determinant 77 = .ok (.goto (-72), 3) := by decide +kernel
theorem dX7_determinant_80 : decode cX7_determinant 80 = .ok (.lload_n 2, 1) := by decide +kernel
theorem dX7_determinant_81 : decode cX7_determinant 81 = .ok (.lreturn, 1) := by decide +kernel
theorem dX7_laySet_0 : decode cX7_laySet 0 = .ok (.aload_n 0, 1) := by decide +kernel
theorem dX7_laySet_1 : decode cX7_laySet 1 = .ok (.iconst 0, 1) := by decide +kernel
theorem dX7_laySet_2 : decode cX7_laySet 2 = .ok (.putfield 121, 3) := by decide +kernel
theorem dX7_laySet_5 : decode cX7_laySet 5 = .ok (.iconst 0, 1) := by decide +kernel
theorem dX7_laySet_6 : decode cX7_laySet 6 = .ok (.istore_n 3, 1) := by decide +kernel
theorem dX7_laySet_7 : decode cX7_laySet 7 = .ok (.iload_n 3, 1) := by decide +kernel
theorem dX7_laySet_8 : decode cX7_laySet 8 = .ok (.aload_n 0, 1) := by decide +kernel
theorem dX7_laySet_9 : decode cX7_laySet 9 = .ok (.getfield 78, 3) := by decide +kernel
theorem dX7_laySet_12 : decode cX7_laySet 12 = .ok (.if_icmp .ge 44, 3) := by decide +kernel
theorem dX7_laySet_15 : decode cX7_laySet 15 = .ok (.aload_n 0, 1) := by decide +kernel
theorem dX7_laySet_16 : decode cX7_laySet 16 = .ok (.getfield 28, 3) := by decide +kernel
theorem dX7_laySet_19 : decode cX7_laySet 19 = .ok (.iload_n 3, 1) := by decide +kernel
theorem dX7_laySet_20 : decode cX7_laySet 20 = .ok (.lconst 0, 1) := by decide +kernel
theorem dX7_laySet_21 : decode cX7_laySet 21 = .ok (.lastore, 1) := by decide +kernel
theorem dX7_laySet_22 : decode cX7_laySet 22 = .ok (.iload_n 1, 1) := by decide +kernel
theorem dX7_laySet_23 : decode cX7_laySet 23 = .ok (.iload_n 3, 1) := by decide +kernel
theorem dX7_laySet_24 : decode cX7_laySet 24 = .ok (.invokestatic 108, 3) := by decide +kernel
theorem dX7_laySet_27 : decode cX7_laySet 27 = .ok (.ifCond .eq 23, 3) := by decide +kernel
theorem dX7_laySet_30 : decode cX7_laySet 30 = .ok (.aload_n 0, 1) := by decide +kernel
theorem dX7_laySet_31 : decode cX7_laySet 31 = .ok (.getfield 25, 3) := by decide +kernel
theorem dX7_laySet_34 : decode cX7_laySet 34 = .ok (.aload_n 0, 1) := by decide +kernel
theorem dX7_laySet_35 : decode cX7_laySet 35 = .ok (.getfield 121, 3) := by decide +kernel
theorem dX7_laySet_38 : decode cX7_laySet 38 = .ok (.iload_n 3, 1) := by decide +kernel
theorem dX7_laySet_39 : decode cX7_laySet 39 = .ok (.iastore, 1) := by decide +kernel
theorem dX7_laySet_40 : decode cX7_laySet 40 = .ok (.aload_n 0, 1) := by decide +kernel
theorem dX7_laySet_41 : decode cX7_laySet 41 = .ok (.dup, 1) := by decide +kernel
theorem dX7_laySet_42 : decode cX7_laySet 42 = .ok (.getfield 121, 3) := by decide +kernel
theorem dX7_laySet_45 : decode cX7_laySet 45 = .ok (.iconst 1, 1) := by decide +kernel
theorem dX7_laySet_46 : decode cX7_laySet 46 = .ok (.iadd, 1) := by decide +kernel
theorem dX7_laySet_47 : decode cX7_laySet 47 = .ok (.putfield 121, 3) := by decide +kernel
theorem dX7_laySet_50 : decode cX7_laySet 50 = .ok (.iinc 3 1, 3) := by decide +kernel
theorem dX7_laySet_53 : decode cX7_laySet 53 = .ok (.goto (-46), 3) := by decide +kernel
theorem dX7_laySet_56 : decode cX7_laySet 56 = .ok (.aload_n 0, 1) := by decide +kernel
theorem dX7_laySet_57 : decode cX7_laySet 57 = .ok (.iload_n 2, 1) := by decide +kernel
theorem dX7_laySet_58 : decode cX7_laySet 58 = .ok (.invokevirtual 135, 3) := by decide +kernel
theorem dX7_laySet_61 : decode cX7_laySet 61 = .ok (.aload_n 0, 1) := by decide +kernel
theorem dX7_laySet_62 : decode cX7_laySet 62 = .ok (.aload_n 0, 1) := by decide +kernel
theorem dX7_laySet_63 : decode cX7_laySet 63 = .ok (.iconst 3, 1) := by decide +kernel
theorem dX7_laySet_64 : decode cX7_laySet 64 = .ok (.invokevirtual 139, 3) := by decide +kernel
theorem dX7_laySet_67 : decode cX7_laySet 67 = .ok (.putfield 142, 3) := by decide +kernel
theorem dX7_laySet_70 : decode cX7_laySet 70 = .ok (.aload_n 0, 1) := by decide +kernel
theorem dX7_laySet_71 : decode cX7_laySet 71 = .ok (.lconst 0, 1) := by decide +kernel
theorem dX7_laySet_72 : decode cX7_laySet 72 = .ok (.putfield 146, 3) := by decide +kernel
theorem dX7_laySet_75 : decode cX7_laySet 75 = .ok (.iconst 0, 1) := by decide +kernel
theorem dX7_laySet_76 : decode cX7_laySet 76 = .ok (.istore_n 3, 1) := by decide +kernel
theorem dX7_laySet_77 : decode cX7_laySet 77 = .ok (.iload_n 3, 1) := by decide +kernel
theorem dX7_laySet_78 : decode cX7_laySet 78 = .ok (.aload_n 0, 1) := by decide +kernel
theorem dX7_laySet_79 : decode cX7_laySet 79 = .ok (.getfield 81, 3) := by decide +kernel
theorem dX7_laySet_82 : decode cX7_laySet 82 = .ok (.if_icmp .ge 54, 3) := by decide +kernel
theorem dX7_laySet_85 : decode cX7_laySet 85 = .ok (.aload_n 0, 1) := by decide +kernel
theorem dX7_laySet_86 : decode cX7_laySet 86 = .ok (.dup, 1) := by decide +kernel
theorem dX7_laySet_87 : decode cX7_laySet 87 = .ok (.getfield 146, 3) := by decide +kernel
theorem dX7_laySet_90 : decode cX7_laySet 90 = .ok (.iload_n 2, 1) := by decide +kernel
theorem dX7_laySet_91 : decode cX7_laySet 91 = .ok (.iload_n 3, 1) := by decide +kernel
theorem dX7_laySet_92 : decode cX7_laySet 92 = .ok (.invokestatic 108, 3) := by decide +kernel
theorem dX7_laySet_95 : decode cX7_laySet 95 = .ok (.ifCond .eq 30, 3) := by decide +kernel
theorem dX7_laySet_98 : decode cX7_laySet 98 = .ok (.aload_n 0, 1) := by decide +kernel
theorem dX7_laySet_99 : decode cX7_laySet 99 = .ok (.getfield 19, 3) := by decide +kernel
theorem dX7_laySet_102 : decode cX7_laySet 102 = .ok (.iload_n 3, 1) := by decide +kernel
theorem dX7_laySet_103 : decode cX7_laySet 103 = .ok (.iaload, 1) := by decide +kernel
theorem dX7_laySet_104 : decode cX7_laySet 104 = .ok (.i2l, 1) := by decide +kernel
theorem dX7_laySet_105 : decode cX7_laySet 105 = .ok (.aload_n 0, 1) := by decide +kernel
theorem dX7_laySet_106 : decode cX7_laySet 106 = .ok (.iload_n 3, 1) := by decide +kernel
theorem dX7_laySet_107 : decode cX7_laySet 107 = .ok (.invokevirtual 127, 3) := by decide +kernel
theorem dX7_laySet_110 : decode cX7_laySet 110 = .ok (.lmul, 1) := by decide +kernel
theorem dX7_laySet_111 : decode cX7_laySet 111 = .ok (.aload_n 0, 1) := by decide +kernel
theorem dX7_laySet_112 : decode cX7_laySet 112 = .ok (.iload_n 3, 1) := by decide +kernel
theorem dX7_laySet_113 : decode cX7_laySet 113 = .ok (.invokevirtual 127, 3) := by decide +kernel
theorem dX7_laySet_116 : decode cX7_laySet 116 = .ok (.lmul, 1) := by decide +kernel
theorem dX7_laySet_117 : decode cX7_laySet 117 = .ok (.aload_n 0, 1) := by decide +kernel
theorem dX7_laySet_118 : decode cX7_laySet 118 = .ok (.getfield 142, 3) := by decide +kernel
theorem dX7_laySet_121 : decode cX7_laySet 121 = .ok (.lmul, 1) := by decide +kernel
theorem dX7_laySet_122 : decode cX7_laySet 122 = .ok (.goto 4, 3) := by decide +kernel
theorem dX7_laySet_125 : decode cX7_laySet 125 = .ok (.lconst 0, 1) := by decide +kernel
theorem dX7_laySet_126 : decode cX7_laySet 126 = .ok (.ladd, 1) := by decide +kernel
theorem dX7_laySet_127 : decode cX7_laySet 127 = .ok (.putfield 146, 3) := by decide +kernel
theorem dX7_laySet_130 : decode cX7_laySet 130 = .ok (.iinc 3 1, 3) := by decide +kernel
theorem dX7_laySet_133 : decode cX7_laySet 133 = .ok (.goto (-56), 3) := by decide +kernel
theorem dX7_laySet_136 : decode cX7_laySet 136 = .ok (.aload_n 0, 1) := by decide +kernel
theorem dX7_laySet_137 : decode cX7_laySet 137 = .ok (.getfield 142, 3) := by decide +kernel
theorem dX7_laySet_140 : decode cX7_laySet 140 = .ok (.lstore_n 3, 1) := by decide +kernel
theorem dX7_laySet_141 : decode cX7_laySet 141 = .ok (.iconst 0, 1) := by decide +kernel
theorem dX7_laySet_142 : decode cX7_laySet 142 = .ok (.istore 5, 2) := by decide +kernel
theorem dX7_laySet_144 : decode cX7_laySet 144 = .ok (.iload 5, 2) := by decide +kernel
theorem dX7_laySet_146 : decode cX7_laySet 146 = .ok (.iconst 1, 1) := by decide +kernel
theorem dX7_laySet_147 : decode cX7_laySet 147 = .ok (.iadd, 1) := by decide +kernel
theorem dX7_laySet_148 : decode cX7_laySet 148 = .ok (.aload_n 0, 1) := by decide +kernel
theorem dX7_laySet_149 : decode cX7_laySet 149 = .ok (.getfield 121, 3) := by decide +kernel
theorem dX7_laySet_152 : decode cX7_laySet 152 = .ok (.if_icmp .ge 57, 3) := by decide +kernel
theorem dX7_laySet_155 : decode cX7_laySet 155 = .ok (.aload_n 0, 1) := by decide +kernel
theorem dX7_laySet_156 : decode cX7_laySet 156 = .ok (.iload 5, 2) := by decide +kernel
theorem dX7_laySet_158 : decode cX7_laySet 158 = .ok (.invokevirtual 139, 3) := by decide +kernel
theorem dX7_laySet_161 : decode cX7_laySet 161 = .ok (.lstore 6, 2) := by decide +kernel
theorem dX7_laySet_163 : decode cX7_laySet 163 = .ok (.aload_n 0, 1) := by decide +kernel
theorem dX7_laySet_164 : decode cX7_laySet 164 = .ok (.getfield 28, 3) := by decide +kernel
theorem dX7_laySet_167 : decode cX7_laySet 167 = .ok (.aload_n 0, 1) := by decide +kernel
theorem dX7_laySet_168 : decode cX7_laySet 168 = .ok (.getfield 25, 3) := by decide +kernel
theorem dX7_laySet_171 : decode cX7_laySet 171 = .ok (.iload 5, 2) := by decide +kernel
theorem dX7_laySet_173 : decode cX7_laySet 173 = .ok (.iconst 1, 1) := by decide +kernel
theorem dX7_laySet_174 : decode cX7_laySet 174 = .ok (.iadd, 1) := by decide +kernel
theorem dX7_laySet_175 : decode cX7_laySet 175 = .ok (.iaload, 1) := by decide +kernel
theorem dX7_laySet_176 : decode cX7_laySet 176 = .ok (.lload 6, 2) := by decide +kernel
theorem dX7_laySet_178 : decode cX7_laySet 178 = .ok (.lastore, 1) := by decide +kernel
theorem dX7_laySet_179 : decode cX7_laySet 179 = .ok (.lload_n 3, 1) := by decide +kernel
theorem dX7_laySet_180 : decode cX7_laySet 180 = .ok (.lload 6, 2) := by decide +kernel
theorem dX7_laySet_182 : decode cX7_laySet 182 = .ok (.lsub, 1) := by decide +kernel
theorem dX7_laySet_183 : decode cX7_laySet 183 = .ok (.lstore_n 3, 1) := by decide +kernel
theorem dX7_laySet_184 : decode cX7_laySet 184 = .ok (.aload_n 0, 1) := by decide +kernel
theorem dX7_laySet_185 : decode cX7_laySet 185 = .ok (.dup, 1) := by decide +kernel
theorem dX7_laySet_186 : decode cX7_laySet 186 = .ok (.getfield 146, 3) := by decide +kernel
theorem dX7_laySet_189 : decode cX7_laySet 189 = .ok (.aload_n 0, 1) := by decide +kernel
theorem dX7_laySet_190 : decode cX7_laySet 190 = .ok (.getfield 35, 3) := by decide +kernel
theorem dX7_laySet_193 : decode cX7_laySet 193 = .ok (.iload 5, 2) := by decide +kernel
theorem dX7_laySet_195 : decode cX7_laySet 195 = .ok (.laload, 1) := by decide +kernel
theorem dX7_laySet_196 : decode cX7_laySet 196 = .ok (.lload 6, 2) := by decide +kernel
theorem dX7_laySet_198 : decode cX7_laySet 198 = .ok (.lmul, 1) := by decide +kernel
theorem dX7_laySet_199 : decode cX7_laySet 199 = .ok (.lsub, 1) := by decide +kernel
theorem dX7_laySet_200 : decode cX7_laySet 200 = .ok (.putfield 146, 3) := by decide +kernel
theorem dX7_laySet_203 : decode cX7_laySet 203 = .ok (.iinc 5 1, 3) := by decide +kernel
theorem dX7_laySet_206 : decode cX7_laySet 206 = .ok (.goto (-62), 3) := by decide +kernel
theorem dX7_laySet_209 : decode cX7_laySet 209 = .ok (.aload_n 0, 1) := by decide +kernel
theorem dX7_laySet_210 : decode cX7_laySet 210 = .ok (.getfield 28, 3) := by decide +kernel
theorem dX7_laySet_213 : decode cX7_laySet 213 = .ok (.aload_n 0, 1) := by decide +kernel
theorem dX7_laySet_214 : decode cX7_laySet 214 = .ok (.getfield 25, 3) := by decide +kernel
theorem dX7_laySet_217 : decode cX7_laySet 217 = .ok (.iconst 0, 1) := by decide +kernel
theorem dX7_laySet_218 : decode cX7_laySet 218 = .ok (.iaload, 1) := by decide +kernel
theorem dX7_laySet_219 : decode cX7_laySet 219 = .ok (.lload_n 3, 1) := by decide +kernel
theorem dX7_laySet_220 : decode cX7_laySet 220 = .ok (.lastore, 1) := by decide +kernel
theorem dX7_laySet_221 : decode cX7_laySet 221 = .ok (.return_, 1) := by decide +kernel
theorem dX7_isGood_0 : decode cX7_isGood 0 = .ok (.aload_n 0, 1) := by decide +kernel
theorem dX7_isGood_1 : decode cX7_isGood 1 = .ok (.getfield 142, 3) := by decide +kernel
theorem dX7_isGood_4 : decode cX7_isGood 4 = .ok (.lconst 0, 1) := by decide +kernel
theorem dX7_isGood_5 : decode cX7_isGood 5 = .ok (.lcmp, 1) := by decide +kernel
theorem dX7_isGood_6 : decode cX7_isGood 6 = .ok (.ifCond .le 7, 3) := by decide +kernel
theorem dX7_isGood_9 : decode cX7_isGood 9 = .ok (.iconst 1, 1) := by decide +kernel
theorem dX7_isGood_10 : decode cX7_isGood 10 = .ok (.goto 4, 3) := by decide +kernel
theorem dX7_isGood_13 : decode cX7_isGood 13 = .ok (.iconst 0, 1) := by decide +kernel
theorem dX7_isGood_14 : decode cX7_isGood 14 = .ok (.istore_n 1, 1) := by decide +kernel
theorem dX7_isGood_15 : decode cX7_isGood 15 = .ok (.iconst 0, 1) := by decide +kernel
theorem dX7_isGood_16 : decode cX7_isGood 16 = .ok (.istore_n 2, 1) := by decide +kernel
theorem dX7_isGood_17 : decode cX7_isGood 17 = .ok (.iload_n 2, 1) := by decide +kernel
theorem dX7_isGood_18 : decode cX7_isGood 18 = .ok (.aload_n 0, 1) := by decide +kernel
theorem dX7_isGood_19 : decode cX7_isGood 19 = .ok (.getfield 121, 3) := by decide +kernel
theorem dX7_isGood_22 : decode cX7_isGood 22 = .ok (.if_icmp .ge 35, 3) := by decide +kernel
theorem dX7_isGood_25 : decode cX7_isGood 25 = .ok (.iload_n 1, 1) := by decide +kernel
theorem dX7_isGood_26 : decode cX7_isGood 26 = .ok (.ifCond .eq 23, 3) := by decide +kernel
theorem dX7_isGood_29 : decode cX7_isGood 29 = .ok (.aload_n 0, 1) := by decide +kernel
theorem dX7_isGood_30 : decode cX7_isGood 30 = .ok (.getfield 28, 3) := by decide +kernel
theorem dX7_isGood_33 : decode cX7_isGood 33 = .ok (.aload_n 0, 1) := by decide +kernel
theorem dX7_isGood_34 : decode cX7_isGood 34 = .ok (.getfield 25, 3) := by decide +kernel
theorem dX7_isGood_37 : decode cX7_isGood 37 = .ok (.iload_n 2, 1) := by decide +kernel
theorem dX7_isGood_38 : decode cX7_isGood 38 = .ok (.iaload, 1) := by decide +kernel
theorem dX7_isGood_39 : decode cX7_isGood 39 = .ok (.laload, 1) := by decide +kernel
theorem dX7_isGood_40 : decode cX7_isGood 40 = .ok (.lconst 0, 1) := by decide +kernel
theorem dX7_isGood_41 : decode cX7_isGood 41 = .ok (.lcmp, 1) := by decide +kernel
theorem dX7_isGood_42 : decode cX7_isGood 42 = .ok (.ifCond .le 7, 3) := by decide +kernel
theorem dX7_isGood_45 : decode cX7_isGood 45 = .ok (.iconst 1, 1) := by decide +kernel
theorem dX7_isGood_46 : decode cX7_isGood 46 = .ok (.goto 4, 3) := by decide +kernel
theorem dX7_isGood_49 : decode cX7_isGood 49 = .ok (.iconst 0, 1) := by decide +kernel
theorem dX7_isGood_50 : decode cX7_isGood 50 = .ok (.istore_n 1, 1) := by decide +kernel
theorem dX7_isGood_51 : decode cX7_isGood 51 = .ok (.iinc 2 1, 3) := by decide +kernel
theorem dX7_isGood_54 : decode cX7_isGood 54 = .ok (.goto (-37), 3) := by decide +kernel
theorem dX7_isGood_57 : decode cX7_isGood 57 = .ok (.iload_n 1, 1) := by decide +kernel
theorem dX7_isGood_58 : decode cX7_isGood 58 = .ok (.ireturn, 1) := by decide +kernel
theorem dX7_compare_0 : decode cX7_compare 0 = .ok (.lload_n 0, 1) := by decide +kernel
theorem dX7_compare_1 : decode cX7_compare 1 = .ok (.lstore 8, 2) := by decide +kernel
theorem dX7_compare_3 : decode cX7_compare 3 = .ok (.lload_n 2, 1) := by decide +kernel
theorem dX7_compare_4 : decode cX7_compare 4 = .ok (.lstore 10, 2) := by decide +kernel
theorem dX7_compare_6 : decode cX7_compare 6 = .ok (.lload 4, 2) := by decide +kernel
theorem dX7_compare_8 : decode cX7_compare 8 = .ok (.lstore 12, 2) := by decide +kernel
theorem dX7_compare_10 : decode cX7_compare 10 = .ok (.lload 6, 2) := by decide +kernel
theorem dX7_compare_12 : decode cX7_compare 12 = .ok (.lstore 14, 2) := by decide +kernel
theorem dX7_compare_14 : decode cX7_compare 14 = .ok (.iconst 1, 1) := by decide +kernel
theorem dX7_compare_15 : decode cX7_compare 15 = .ok (.istore 16, 2) := by decide +kernel
theorem dX7_compare_17 : decode cX7_compare 17 = .ok (.lload 8, 2) := by decide +kernel
theorem dX7_compare_19 : decode cX7_compare 19 = .ok (.lload 10, 2) := by decide +kernel
theorem dX7_compare_21 : decode cX7_compare 21 = .ok (.ldiv, 1) := by decide +kernel
theorem dX7_compare_22 : decode cX7_compare 22 = .ok (.lstore 17, 2) := by decide +kernel
theorem dX7_compare_24 : decode cX7_compare 24 = .ok (.lload 12, 2) := by decide +kernel
theorem dX7_compare_26 : decode cX7_compare 26 = .ok (.lload 14, 2) := by decide +kernel
theorem dX7_compare_28 : decode cX7_compare 28 = .ok (.ldiv, 1) := by decide +kernel
theorem dX7_compare_29 : decode cX7_compare 29 = .ok (.lstore 19, 2) := by decide +kernel
theorem dX7_compare_31 : decode cX7_compare 31 = .ok (.lload 17, 2) := by decide +kernel
theorem dX7_compare_33 : decode cX7_compare 33 = .ok (.lload 19, 2) := by decide +kernel
theorem dX7_compare_35 : decode cX7_compare 35 = .ok (.lcmp, 1) := by decide +kernel
theorem dX7_compare_36 : decode cX7_compare 36 = .ok (.ifCond .eq 20, 3) := by decide +kernel
theorem dX7_compare_39 : decode cX7_compare 39 = .ok (.lload 17, 2) := by decide +kernel
theorem dX7_compare_41 : decode cX7_compare 41 = .ok (.lload 19, 2) := by decide +kernel
theorem dX7_compare_43 : decode cX7_compare 43 = .ok (.lcmp, 1) := by decide +kernel
theorem dX7_compare_44 : decode cX7_compare 44 = .ok (.ifCond .ge 9, 3) := by decide +kernel
theorem dX7_compare_47 : decode cX7_compare 47 = .ok (.iload 16, 2) := by decide +kernel
theorem dX7_compare_49 : decode cX7_compare 49 = .ok (.ineg, 1) := by decide +kernel
theorem dX7_compare_50 : decode cX7_compare 50 = .ok (.goto 5, 3) := by decide +kernel
theorem dX7_compare_53 : decode cX7_compare 53 = .ok (.iload 16, 2) := by decide +kernel
theorem dX7_compare_55 : decode cX7_compare 55 = .ok (.ireturn, 1) := by decide +kernel
theorem dX7_compare_56 : decode cX7_compare 56 = .ok (.lload 8, 2) := by decide +kernel
theorem dX7_compare_58 : decode cX7_compare 58 = .ok (.lload 10, 2) := by decide +kernel
theorem dX7_compare_60 : decode cX7_compare 60 = .ok (.lrem, 1) := by decide +kernel
theorem dX7_compare_61 : decode cX7_compare 61 = .ok (.lstore 21, 2) := by decide +kernel
theorem dX7_compare_63 : decode cX7_compare 63 = .ok (.lload 12, 2) := by decide +kernel
theorem dX7_compare_65 : decode cX7_compare 65 = .ok (.lload 14, 2) := by decide +kernel
theorem dX7_compare_67 : decode cX7_compare 67 = .ok (.lrem, 1) := by decide +kernel
theorem dX7_compare_68 : decode cX7_compare 68 = .ok (.lstore 23, 2) := by decide +kernel
theorem dX7_compare_70 : decode cX7_compare 70 = .ok (.lload 21, 2) := by decide +kernel
theorem dX7_compare_72 : decode cX7_compare 72 = .ok (.lconst 0, 1) := by decide +kernel
theorem dX7_compare_73 : decode cX7_compare 73 = .ok (.lcmp, 1) := by decide +kernel
theorem dX7_compare_74 : decode cX7_compare 74 = .ok (.ifCond .eq 10, 3) := by decide +kernel
theorem dX7_compare_77 : decode cX7_compare 77 = .ok (.lload 23, 2) := by decide +kernel
theorem dX7_compare_79 : decode cX7_compare 79 = .ok (.lconst 0, 1) := by decide +kernel
theorem dX7_compare_80 : decode cX7_compare 80 = .ok (.lcmp, 1) := by decide +kernel
theorem dX7_compare_81 : decode cX7_compare 81 = .ok (.ifCond .ne 31, 3) := by decide +kernel
theorem dX7_compare_84 : decode cX7_compare 84 = .ok (.lload 21, 2) := by decide +kernel
theorem dX7_compare_86 : decode cX7_compare 86 = .ok (.lload 23, 2) := by decide +kernel
theorem dX7_compare_88 : decode cX7_compare 88 = .ok (.lcmp, 1) := by decide +kernel
theorem dX7_compare_89 : decode cX7_compare 89 = .ok (.ifCond .ne 7, 3) := by decide +kernel
theorem dX7_compare_92 : decode cX7_compare 92 = .ok (.iconst 0, 1) := by decide +kernel
theorem dX7_compare_93 : decode cX7_compare 93 = .ok (.goto 18, 3) := by decide +kernel
theorem dX7_compare_96 : decode cX7_compare 96 = .ok (.lload 21, 2) := by decide +kernel
theorem dX7_compare_98 : decode cX7_compare 98 = .ok (.lconst 0, 1) := by decide +kernel
theorem dX7_compare_99 : decode cX7_compare 99 = .ok (.lcmp, 1) := by decide +kernel
theorem dX7_compare_100 : decode cX7_compare 100 = .ok (.ifCond .ne 9, 3) := by decide +kernel
theorem dX7_compare_103 : decode cX7_compare 103 = .ok (.iload 16, 2) := by decide +kernel
theorem dX7_compare_105 : decode cX7_compare 105 = .ok (.ineg, 1) := by decide +kernel
theorem dX7_compare_106 : decode cX7_compare 106 = .ok (.goto 5, 3) := by decide +kernel
theorem dX7_compare_109 : decode cX7_compare 109 = .ok (.iload 16, 2) := by decide +kernel
theorem dX7_compare_111 : decode cX7_compare 111 = .ok (.ireturn, 1) := by decide +kernel
theorem dX7_compare_112 : decode cX7_compare 112 = .ok (.lload 10, 2) := by decide +kernel
theorem dX7_compare_114 : decode cX7_compare 114 = .ok (.lstore 8, 2) := by decide +kernel
theorem dX7_compare_116 : decode cX7_compare 116 = .ok (.lload 21, 2) := by decide +kernel
theorem dX7_compare_118 : decode cX7_compare 118 = .ok (.lstore 10, 2) := by decide +kernel
theorem dX7_compare_120 : decode cX7_compare 120 = .ok (.lload 14, 2) := by decide +kernel
theorem dX7_compare_122 : decode cX7_compare 122 = .ok (.lstore 12, 2) := by decide +kernel
theorem dX7_compare_124 : decode cX7_compare 124 = .ok (.lload 23, 2) := by decide +kernel
theorem dX7_compare_126 : decode cX7_compare 126 = .ok (.lstore 14, 2) := by decide +kernel
theorem dX7_compare_128 : decode cX7_compare 128 = .ok (.iload 16, 2) := by decide +kernel
theorem dX7_compare_130 : decode cX7_compare 130 = .ok (.ineg, 1) := by decide +kernel
theorem dX7_compare_131 : decode cX7_compare 131 = .ok (.istore 16, 2) := by decide +kernel
theorem dX7_compare_133 : decode cX7_compare 133 = .ok (.goto (-116), 3) := by decide +kernel
theorem dX7_ones_0 : decode cX7_ones 0 = .ok (.iconst 0, 1) := by decide +kernel
theorem dX7_ones_1 : decode cX7_ones 1 = .ok (.istore_n 1, 1) := by decide +kernel
theorem dX7_ones_2 : decode cX7_ones 2 = .ok (.iconst 0, 1) := by decide +kernel
theorem dX7_ones_3 : decode cX7_ones 3 = .ok (.istore_n 2, 1) := by decide +kernel
theorem dX7_ones_4 : decode cX7_ones 4 = .ok (.iload_n 2, 1) := by decide +kernel
theorem dX7_ones_5 : decode cX7_ones 5 = .ok (.iconst 4, 1) := by decide +kernel
theorem dX7_ones_6 : decode cX7_ones 6 = .ok (.if_icmp .ge 17, 3) := by decide +kernel
theorem dX7_ones_9 : decode cX7_ones 9 = .ok (.iload_n 1, 1) := by decide +kernel
theorem dX7_ones_10 : decode cX7_ones 10 = .ok (.iload_n 0, 1) := by decide +kernel
theorem dX7_ones_11 : decode cX7_ones 11 = .ok (.iload_n 2, 1) := by decide +kernel
theorem dX7_ones_12 : decode cX7_ones 12 = .ok (.ishr, 1) := by decide +kernel
theorem dX7_ones_13 : decode cX7_ones 13 = .ok (.iconst 1, 1) := by decide +kernel
theorem dX7_ones_14 : decode cX7_ones 14 = .ok (.iand, 1) := by decide +kernel
theorem dX7_ones_15 : decode cX7_ones 15 = .ok (.iadd, 1) := by decide +kernel
theorem dX7_ones_16 : decode cX7_ones 16 = .ok (.istore_n 1, 1) := by decide +kernel
theorem dX7_ones_17 : decode cX7_ones 17 = .ok (.iinc 2 1, 3) := by decide +kernel
theorem dX7_ones_20 : decode cX7_ones 20 = .ok (.goto (-16), 3) := by decide +kernel
theorem dX7_ones_23 : decode cX7_ones 23 = .ok (.iload_n 1, 1) := by decide +kernel
theorem dX7_ones_24 : decode cX7_ones 24 = .ok (.ireturn, 1) := by decide +kernel
theorem dX7_layBest_0 : decode cX7_layBest 0 = .ok (.aload_n 0, 1) := by decide +kernel
theorem dX7_layBest_1 : decode cX7_layBest 1 = .ok (.iconst 0, 1) := by decide +kernel
theorem dX7_layBest_2 : decode cX7_layBest 2 = .ok (.putfield 149, 3) := by decide +kernel
theorem dX7_layBest_5 : decode cX7_layBest 5 = .ok (.aload_n 0, 1) := by decide +kernel
theorem dX7_layBest_6 : decode cX7_layBest 6 = .ok (.iconst 0, 1) := by decide +kernel
theorem dX7_layBest_7 : decode cX7_layBest 7 = .ok (.putfield 152, 3) := by decide +kernel
theorem dX7_layBest_10 : decode cX7_layBest 10 = .ok (.lconst 0, 1) := by decide +kernel
theorem dX7_layBest_11 : decode cX7_layBest 11 = .ok (.lstore_n 2, 1) := by decide +kernel
theorem dX7_layBest_12 : decode cX7_layBest 12 = .ok (.lconst 1, 1) := by decide +kernel
theorem dX7_layBest_13 : decode cX7_layBest 13 = .ok (.lstore 4, 2) := by decide +kernel
theorem dX7_layBest_15 : decode cX7_layBest 15 = .ok (.iconst 1, 1) := by decide +kernel
theorem dX7_layBest_16 : decode cX7_layBest 16 = .ok (.istore 6, 2) := by decide +kernel
theorem dX7_layBest_18 : decode cX7_layBest 18 = .ok (.iload 6, 2) := by decide +kernel
theorem dX7_layBest_20 : decode cX7_layBest 20 = .ok (.iconst 1, 1) := by decide +kernel
theorem dX7_layBest_21 : decode cX7_layBest 21 = .ok (.aload_n 0, 1) := by decide +kernel
theorem dX7_layBest_22 : decode cX7_layBest 22 = .ok (.getfield 78, 3) := by decide +kernel
theorem dX7_layBest_25 : decode cX7_layBest 25 = .ok (.ishl, 1) := by decide +kernel
theorem dX7_layBest_26 : decode cX7_layBest 26 = .ok (.if_icmp .ge 102, 3) := by decide +kernel
theorem dX7_layBest_29 : decode cX7_layBest 29 = .ok (.aload_n 0, 1) := by decide +kernel
theorem dX7_layBest_30 : decode cX7_layBest 30 = .ok (.iload 6, 2) := by decide +kernel
theorem dX7_layBest_32 : decode cX7_layBest 32 = .ok (.iload_n 1, 1) := by decide +kernel
theorem dX7_layBest_33 : decode cX7_layBest 33 = .ok (.invokevirtual 155, 3) := by decide +kernel
theorem dX7_layBest_36 : decode cX7_layBest 36 = .ok (.aload_n 0, 1) := by decide +kernel
theorem dX7_layBest_37 : decode cX7_layBest 37 = .ok (.invokevirtual 159, 3) := by decide +kernel
theorem dX7_layBest_40 : decode cX7_layBest 40 = .ok (.ifCond .eq 82, 3) := by decide +kernel
theorem dX7_layBest_43 : decode cX7_layBest 43 = .ok (.aload_n 0, 1) := by decide +kernel
theorem dX7_layBest_44 : decode cX7_layBest 44 = .ok (.dup, 1) := by decide +kernel
theorem dX7_layBest_45 : decode cX7_layBest 45 = .ok (.getfield 152, 3) := by decide +kernel
theorem dX7_layBest_48 : decode cX7_layBest 48 = .ok (.iconst 1, 1) := by decide +kernel
theorem dX7_layBest_49 : decode cX7_layBest 49 = .ok (.iadd, 1) := by decide +kernel
theorem dX7_layBest_50 : decode cX7_layBest 50 = .ok (.putfield 152, 3) := by decide +kernel
theorem dX7_layBest_53 : decode cX7_layBest 53 = .ok (.aload_n 0, 1) := by decide +kernel
theorem dX7_layBest_54 : decode cX7_layBest 54 = .ok (.getfield 149, 3) := by decide +kernel
theorem dX7_layBest_57 : decode cX7_layBest 57 = .ok (.ifCond .ne 7, 3) := by decide +kernel
theorem dX7_layBest_60 : decode cX7_layBest 60 = .ok (.iconst (-1), 1) := by decide +kernel
theorem dX7_layBest_61 : decode cX7_layBest 61 = .ok (.goto 17, 3) := by decide +kernel
theorem dX7_layBest_64 : decode cX7_layBest 64 = .ok (.aload_n 0, 1) := by decide +kernel
theorem dX7_layBest_65 : decode cX7_layBest 65 = .ok (.getfield 146, 3) := by decide +kernel
theorem dX7_layBest_68 : decode cX7_layBest 68 = .ok (.aload_n 0, 1) := by decide +kernel
theorem dX7_layBest_69 : decode cX7_layBest 69 = .ok (.getfield 142, 3) := by decide +kernel
theorem dX7_layBest_72 : decode cX7_layBest 72 = .ok (.lload_n 2, 1) := by decide +kernel
theorem dX7_layBest_73 : decode cX7_layBest 73 = .ok (.lload 4, 2) := by decide +kernel
theorem dX7_layBest_75 : decode cX7_layBest 75 = .ok (.invokestatic 163, 3) := by decide +kernel
theorem dX7_layBest_78 : decode cX7_layBest 78 = .ok (.istore 7, 2) := by decide +kernel
theorem dX7_layBest_80 : decode cX7_layBest 80 = .ok (.iload 7, 2) := by decide +kernel
theorem dX7_layBest_82 : decode cX7_layBest 82 = .ok (.ifCond .lt 23, 3) := by decide +kernel
theorem dX7_layBest_85 : decode cX7_layBest 85 = .ok (.iload 7, 2) := by decide +kernel
theorem dX7_layBest_87 : decode cX7_layBest 87 = .ok (.ifCond .ne 35, 3) := by decide +kernel
theorem dX7_layBest_90 : decode cX7_layBest 90 = .ok (.iload 6, 2) := by decide +kernel
theorem dX7_layBest_92 : decode cX7_layBest 92 = .ok (.invokestatic 167, 3) := by decide +kernel
theorem dX7_layBest_95 : decode cX7_layBest 95 = .ok (.aload_n 0, 1) := by decide +kernel
theorem dX7_layBest_96 : decode cX7_layBest 96 = .ok (.getfield 149, 3) := by decide +kernel
theorem dX7_layBest_99 : decode cX7_layBest 99 = .ok (.invokestatic 167, 3) := by decide +kernel
theorem dX7_layBest_102 : decode cX7_layBest 102 = .ok (.if_icmp .ge 20, 3) := by decide +kernel
theorem dX7_layBest_105 : decode cX7_layBest 105 = .ok (.aload_n 0, 1) := by decide +kernel
theorem dX7_layBest_106 : decode cX7_layBest 106 = .ok (.iload 6, 2) := by decide +kernel
theorem dX7_layBest_108 : decode cX7_layBest 108 = .ok (.putfield 149, 3) := by decide +kernel
theorem dX7_layBest_111 : decode cX7_layBest 111 = .ok (.aload_n 0, 1) := by decide +kernel
theorem dX7_layBest_112 : decode cX7_layBest 112 = .ok (.getfield 146, 3) := by decide +kernel
theorem dX7_layBest_115 : decode cX7_layBest 115 = .ok (.lstore_n 2, 1) := by decide +kernel
theorem dX7_layBest_116 : decode cX7_layBest 116 = .ok (.aload_n 0, 1) := by decide +kernel
theorem dX7_layBest_117 : decode cX7_layBest 117 = .ok (.getfield 142, 3) := by decide +kernel
theorem dX7_layBest_120 : decode cX7_layBest 120 = .ok (.lstore 4, 2) := by decide +kernel
theorem dX7_layBest_122 : decode cX7_layBest 122 = .ok (.iinc 6 1, 3) := by decide +kernel
theorem dX7_layBest_125 : decode cX7_layBest 125 = .ok (.goto (-107), 3) := by decide +kernel
theorem dX7_layBest_128 : decode cX7_layBest 128 = .ok (.aload_n 0, 1) := by decide +kernel
theorem dX7_layBest_129 : decode cX7_layBest 129 = .ok (.aload_n 0, 1) := by decide +kernel
theorem dX7_layBest_130 : decode cX7_layBest 130 = .ok (.getfield 149, 3) := by decide +kernel
theorem dX7_layBest_133 : decode cX7_layBest 133 = .ok (.iload_n 1, 1) := by decide +kernel
theorem dX7_layBest_134 : decode cX7_layBest 134 = .ok (.invokevirtual 155, 3) := by decide +kernel
theorem dX7_layBest_137 : decode cX7_layBest 137 = .ok (.return_, 1) := by decide +kernel
theorem dX7_divisor_0 : decode cX7_divisor 0 = .ok (.lload_n 0, 1) := by decide +kernel
theorem dX7_divisor_1 : decode cX7_divisor 1 = .ok (.lconst 0, 1) := by decide +kernel
theorem dX7_divisor_2 : decode cX7_divisor 2 = .ok (.lcmp, 1) := by decide +kernel
theorem dX7_divisor_3 : decode cX7_divisor 3 = .ok (.ifCond .ge 8, 3) := by decide +kernel
theorem dX7_divisor_6 : decode cX7_divisor 6 = .ok (.lload_n 0, 1) := by decide +kernel
theorem dX7_divisor_7 : decode cX7_divisor 7 = .ok (.lneg, 1) := by decide +kernel
theorem dX7_divisor_8 : decode cX7_divisor 8 = .ok (.goto 4, 3) := by decide +kernel
theorem dX7_divisor_11 : decode cX7_divisor 11 = .ok (.lload_n 0, 1) := by decide +kernel
theorem dX7_divisor_12 : decode cX7_divisor 12 = .ok (.lstore 4, 2) := by decide +kernel
theorem dX7_divisor_14 : decode cX7_divisor 14 = .ok (.lload_n 2, 1) := by decide +kernel
theorem dX7_divisor_15 : decode cX7_divisor 15 = .ok (.lstore 6, 2) := by decide +kernel
theorem dX7_divisor_17 : decode cX7_divisor 17 = .ok (.lload 6, 2) := by decide +kernel
theorem dX7_divisor_19 : decode cX7_divisor 19 = .ok (.lconst 0, 1) := by decide +kernel
theorem dX7_divisor_20 : decode cX7_divisor 20 = .ok (.lcmp, 1) := by decide +kernel
theorem dX7_divisor_21 : decode cX7_divisor 21 = .ok (.ifCond .eq 21, 3) := by decide +kernel
theorem dX7_divisor_24 : decode cX7_divisor 24 = .ok (.lload 4, 2) := by decide +kernel
theorem dX7_divisor_26 : decode cX7_divisor 26 = .ok (.lload 6, 2) := by decide +kernel
theorem dX7_divisor_28 : decode cX7_divisor 28 = .ok (.lrem, 1) := by decide +kernel
theorem dX7_divisor_29 : decode cX7_divisor 29 = .ok (.lstore 8, 2) := by decide +kernel
theorem dX7_divisor_31 : decode cX7_divisor 31 = .ok (.lload 6, 2) := by decide +kernel
theorem dX7_divisor_33 : decode cX7_divisor 33 = .ok (.lstore 4, 2) := by decide +kernel
theorem dX7_divisor_35 : decode cX7_divisor 35 = .ok (.lload 8, 2) := by decide +kernel
theorem dX7_divisor_37 : decode cX7_divisor 37 = .ok (.lstore 6, 2) := by decide +kernel
theorem dX7_divisor_39 : decode cX7_divisor 39 = .ok (.goto (-22), 3) := by decide +kernel
theorem dX7_divisor_42 : decode cX7_divisor 42 = .ok (.lload 4, 2) := by decide +kernel
theorem dX7_divisor_44 : decode cX7_divisor 44 = .ok (.lreturn, 1) := by decide +kernel
theorem dX7_lowest_0 : decode cX7_lowest 0 = .ok (.iload 4, 2) := by decide +kernel
theorem dX7_lowest_2 : decode cX7_lowest 2 = .ok (.ifCond .ne 7, 3) := by decide +kernel
theorem dX7_lowest_5 : decode cX7_lowest 5 = .ok (.lload_n 0, 1) := by decide +kernel
theorem dX7_lowest_6 : decode cX7_lowest 6 = .ok (.goto 4, 3) := by decide +kernel
theorem dX7_lowest_9 : decode cX7_lowest 9 = .ok (.lload_n 2, 1) := by decide +kernel
theorem dX7_lowest_10 : decode cX7_lowest 10 = .ok (.lload_n 0, 1) := by decide +kernel
theorem dX7_lowest_11 : decode cX7_lowest 11 = .ok (.lload_n 2, 1) := by decide +kernel
theorem dX7_lowest_12 : decode cX7_lowest 12 = .ok (.invokestatic 171, 3) := by decide +kernel
theorem dX7_lowest_15 : decode cX7_lowest 15 = .ok (.ldiv, 1) := by decide +kernel
theorem dX7_lowest_16 : decode cX7_lowest 16 = .ok (.lreturn, 1) := by decide +kernel
theorem dX7_bestNow_0 : decode cX7_bestNow 0 = .ok (.iload_n 1, 1) := by decide +kernel
theorem dX7_bestNow_1 : decode cX7_bestNow 1 = .ok (.ifCond .ne 11, 3) := by decide +kernel
theorem dX7_bestNow_4 : decode cX7_bestNow 4 = .ok (.aload_n 0, 1) := by decide +kernel
theorem dX7_bestNow_5 : decode cX7_bestNow 5 = .ok (.getfield 149, 3) := by decide +kernel
theorem dX7_bestNow_8 : decode cX7_bestNow 8 = .ok (.i2l, 1) := by decide +kernel
theorem dX7_bestNow_9 : decode cX7_bestNow 9 = .ok (.goto 30, 3) := by decide +kernel
theorem dX7_bestNow_12 : decode cX7_bestNow 12 = .ok (.iload_n 1, 1) := by decide +kernel
theorem dX7_bestNow_13 : decode cX7_bestNow 13 = .ok (.iconst 3, 1) := by decide +kernel
theorem dX7_bestNow_14 : decode cX7_bestNow 14 = .ok (.if_icmp .ne 11, 3) := by decide +kernel
theorem dX7_bestNow_17 : decode cX7_bestNow 17 = .ok (.aload_n 0, 1) := by decide +kernel
theorem dX7_bestNow_18 : decode cX7_bestNow 18 = .ok (.getfield 152, 3) := by decide +kernel
theorem dX7_bestNow_21 : decode cX7_bestNow 21 = .ok (.i2l, 1) := by decide +kernel
theorem dX7_bestNow_22 : decode cX7_bestNow 22 = .ok (.goto 17, 3) := by decide +kernel
theorem dX7_bestNow_25 : decode cX7_bestNow 25 = .ok (.aload_n 0, 1) := by decide +kernel
theorem dX7_bestNow_26 : decode cX7_bestNow 26 = .ok (.getfield 146, 3) := by decide +kernel
theorem dX7_bestNow_29 : decode cX7_bestNow 29 = .ok (.aload_n 0, 1) := by decide +kernel
theorem dX7_bestNow_30 : decode cX7_bestNow 30 = .ok (.getfield 142, 3) := by decide +kernel
theorem dX7_bestNow_33 : decode cX7_bestNow 33 = .ok (.iload_n 1, 1) := by decide +kernel
theorem dX7_bestNow_34 : decode cX7_bestNow 34 = .ok (.iconst 1, 1) := by decide +kernel
theorem dX7_bestNow_35 : decode cX7_bestNow 35 = .ok (.isub, 1) := by decide +kernel
theorem dX7_bestNow_36 : decode cX7_bestNow 36 = .ok (.invokestatic 175, 3) := by decide +kernel
theorem dX7_bestNow_39 : decode cX7_bestNow 39 = .ok (.lreturn, 1) := by decide +kernel
theorem dX7_best_0 : decode cX7_best 0 = .ok (.aload_n 0, 1) := by decide +kernel
theorem dX7_best_1 : decode cX7_best 1 = .ok (.getfield 78, 3) := by decide +kernel
theorem dX7_best_4 : decode cX7_best 4 = .ok (.ifCond .ne 7, 3) := by decide +kernel
theorem dX7_best_7 : decode cX7_best 7 = .ok (.ldc2_w 76, 3) := by decide +kernel
theorem dX7_best_10 : decode cX7_best 10 = .ok (.lreturn, 1) := by decide +kernel
theorem dX7_best_11 : decode cX7_best 11 = .ok (.aload_n 0, 1) := by decide +kernel
theorem dX7_best_12 : decode cX7_best 12 = .ok (.iload_n 1, 1) := by decide +kernel
theorem dX7_best_13 : decode cX7_best 13 = .ok (.invokevirtual 115, 3) := by decide +kernel
theorem dX7_best_16 : decode cX7_best 16 = .ok (.ifCond .eq 12, 3) := by decide +kernel
theorem dX7_best_19 : decode cX7_best 19 = .ok (.iload_n 2, 1) := by decide +kernel
theorem dX7_best_20 : decode cX7_best 20 = .ok (.iconst 0, 1) := by decide +kernel
theorem dX7_best_21 : decode cX7_best 21 = .ok (.iconst 3, 1) := by decide +kernel
theorem dX7_best_22 : decode cX7_best 22 = .ok (.invokestatic 38, 3) := by decide +kernel
theorem dX7_best_25 : decode cX7_best 25 = .ok (.ifCond .ne 7, 3) := by decide +kernel
theorem dX7_best_28 : decode cX7_best 28 = .ok (.ldc2_w 42, 3) := by decide +kernel
theorem dX7_best_31 : decode cX7_best 31 = .ok (.lreturn, 1) := by decide +kernel
theorem dX7_best_32 : decode cX7_best 32 = .ok (.aload_n 0, 1) := by decide +kernel
theorem dX7_best_33 : decode cX7_best 33 = .ok (.iload_n 1, 1) := by decide +kernel
theorem dX7_best_34 : decode cX7_best 34 = .ok (.invokevirtual 179, 3) := by decide +kernel
theorem dX7_best_37 : decode cX7_best 37 = .ok (.aload_n 0, 1) := by decide +kernel
theorem dX7_best_38 : decode cX7_best 38 = .ok (.iload_n 2, 1) := by decide +kernel
theorem dX7_best_39 : decode cX7_best 39 = .ok (.invokevirtual 182, 3) := by decide +kernel
theorem dX7_best_42 : decode cX7_best 42 = .ok (.lreturn, 1) := by decide +kernel
theorem dX7_shareNow_0 : decode cX7_shareNow 0 = .ok (.aload_n 0, 1) := by decide +kernel
theorem dX7_shareNow_1 : decode cX7_shareNow 1 = .ok (.getfield 28, 3) := by decide +kernel
theorem dX7_shareNow_4 : decode cX7_shareNow 4 = .ok (.iload_n 1, 1) := by decide +kernel
theorem dX7_shareNow_5 : decode cX7_shareNow 5 = .ok (.laload, 1) := by decide +kernel
theorem dX7_shareNow_6 : decode cX7_shareNow 6 = .ok (.aload_n 0, 1) := by decide +kernel
theorem dX7_shareNow_7 : decode cX7_shareNow 7 = .ok (.getfield 142, 3) := by decide +kernel
theorem dX7_shareNow_10 : decode cX7_shareNow 10 = .ok (.iload_n 2, 1) := by decide +kernel
theorem dX7_shareNow_11 : decode cX7_shareNow 11 = .ok (.invokestatic 175, 3) := by decide +kernel
theorem dX7_shareNow_14 : decode cX7_shareNow 14 = .ok (.lreturn, 1) := by decide +kernel
theorem dX7_share_0 : decode cX7_share 0 = .ok (.aload_n 0, 1) := by decide +kernel
theorem dX7_share_1 : decode cX7_share 1 = .ok (.iload_n 1, 1) := by decide +kernel
theorem dX7_share_2 : decode cX7_share 2 = .ok (.invokevirtual 95, 3) := by decide +kernel
theorem dX7_share_5 : decode cX7_share 5 = .ok (.ifCond .ne 7, 3) := by decide +kernel
theorem dX7_share_8 : decode cX7_share 8 = .ok (.ldc2_w 90, 3) := by decide +kernel
theorem dX7_share_11 : decode cX7_share 11 = .ok (.lreturn, 1) := by decide +kernel
theorem dX7_share_12 : decode cX7_share 12 = .ok (.aload_n 0, 1) := by decide +kernel
theorem dX7_share_13 : decode cX7_share 13 = .ok (.iload_n 2, 1) := by decide +kernel
theorem dX7_share_14 : decode cX7_share 14 = .ok (.invokevirtual 115, 3) := by decide +kernel
theorem dX7_share_17 : decode cX7_share 17 = .ok (.ifCond .eq 12, 3) := by decide +kernel
theorem dX7_share_20 : decode cX7_share 20 = .ok (.iload_n 3, 1) := by decide +kernel
theorem dX7_share_21 : decode cX7_share 21 = .ok (.iconst 0, 1) := by decide +kernel
theorem dX7_share_22 : decode cX7_share 22 = .ok (.iconst 1, 1) := by decide +kernel
theorem dX7_share_23 : decode cX7_share 23 = .ok (.invokestatic 38, 3) := by decide +kernel
theorem dX7_share_26 : decode cX7_share 26 = .ok (.ifCond .ne 7, 3) := by decide +kernel
theorem dX7_share_29 : decode cX7_share 29 = .ok (.ldc2_w 42, 3) := by decide +kernel
theorem dX7_share_32 : decode cX7_share 32 = .ok (.lreturn, 1) := by decide +kernel
theorem dX7_share_33 : decode cX7_share 33 = .ok (.aload_n 0, 1) := by decide +kernel
theorem dX7_share_34 : decode cX7_share 34 = .ok (.iload_n 2, 1) := by decide +kernel
theorem dX7_share_35 : decode cX7_share 35 = .ok (.invokevirtual 179, 3) := by decide +kernel
theorem dX7_share_38 : decode cX7_share 38 = .ok (.aload_n 0, 1) := by decide +kernel
theorem dX7_share_39 : decode cX7_share 39 = .ok (.iload_n 1, 1) := by decide +kernel
theorem dX7_share_40 : decode cX7_share 40 = .ok (.iload_n 3, 1) := by decide +kernel
theorem dX7_share_41 : decode cX7_share 41 = .ok (.invokevirtual 185, 3) := by decide +kernel
theorem dX7_share_44 : decode cX7_share 44 = .ok (.lreturn, 1) := by decide +kernel
theorem dX7_mixedAbove_0 : decode cX7_mixedAbove 0 = .ok (.lconst 0, 1) := by decide +kernel
theorem dX7_mixedAbove_1 : decode cX7_mixedAbove 1 = .ok (.lstore_n 2, 1) := by decide +kernel
theorem dX7_mixedAbove_2 : decode cX7_mixedAbove 2 = .ok (.iconst 0, 1) := by decide +kernel
theorem dX7_mixedAbove_3 : decode cX7_mixedAbove 3 = .ok (.istore 4, 2) := by decide +kernel
theorem dX7_mixedAbove_5 : decode cX7_mixedAbove 5 = .ok (.iload 4, 2) := by decide +kernel
theorem dX7_mixedAbove_7 : decode cX7_mixedAbove 7 = .ok (.aload_n 0, 1) := by decide +kernel
theorem dX7_mixedAbove_8 : decode cX7_mixedAbove 8 = .ok (.getfield 78, 3) := by decide +kernel
theorem dX7_mixedAbove_11 : decode cX7_mixedAbove 11 = .ok (.if_icmp .ge 32, 3) := by decide +kernel
theorem dX7_mixedAbove_14 : decode cX7_mixedAbove 14 = .ok (.lload_n 2, 1) := by decide +kernel
theorem dX7_mixedAbove_15 : decode cX7_mixedAbove 15 = .ok (.aload_n 0, 1) := by decide +kernel
theorem dX7_mixedAbove_16 : decode cX7_mixedAbove 16 = .ok (.getfield 28, 3) := by decide +kernel
theorem dX7_mixedAbove_19 : decode cX7_mixedAbove 19 = .ok (.iload 4, 2) := by decide +kernel
theorem dX7_mixedAbove_21 : decode cX7_mixedAbove 21 = .ok (.laload, 1) := by decide +kernel
theorem dX7_mixedAbove_22 : decode cX7_mixedAbove 22 = .ok (.aload_n 0, 1) := by decide +kernel
theorem dX7_mixedAbove_23 : decode cX7_mixedAbove 23 = .ok (.getfield 13, 3) := by decide +kernel
theorem dX7_mixedAbove_26 : decode cX7_mixedAbove 26 = .ok (.iconst 4, 1) := by decide +kernel
theorem dX7_mixedAbove_27 : decode cX7_mixedAbove 27 = .ok (.iload 4, 2) := by decide +kernel
theorem dX7_mixedAbove_29 : decode cX7_mixedAbove 29 = .ok (.imul, 1) := by decide +kernel
theorem dX7_mixedAbove_30 : decode cX7_mixedAbove 30 = .ok (.iload_n 1, 1) := by decide +kernel
theorem dX7_mixedAbove_31 : decode cX7_mixedAbove 31 = .ok (.iadd, 1) := by decide +kernel
theorem dX7_mixedAbove_32 : decode cX7_mixedAbove 32 = .ok (.iaload, 1) := by decide +kernel
theorem dX7_mixedAbove_33 : decode cX7_mixedAbove 33 = .ok (.i2l, 1) := by decide +kernel
theorem dX7_mixedAbove_34 : decode cX7_mixedAbove 34 = .ok (.lmul, 1) := by decide +kernel
theorem dX7_mixedAbove_35 : decode cX7_mixedAbove 35 = .ok (.ladd, 1) := by decide +kernel
theorem dX7_mixedAbove_36 : decode cX7_mixedAbove 36 = .ok (.lstore_n 2, 1) := by decide +kernel
theorem dX7_mixedAbove_37 : decode cX7_mixedAbove 37 = .ok (.iinc 4 1, 3) := by decide +kernel
theorem dX7_mixedAbove_40 : decode cX7_mixedAbove 40 = .ok (.goto (-35), 3) := by decide +kernel
theorem dX7_mixedAbove_43 : decode cX7_mixedAbove 43 = .ok (.lload_n 2, 1) := by decide +kernel
theorem dX7_mixedAbove_44 : decode cX7_mixedAbove 44 = .ok (.lreturn, 1) := by decide +kernel
theorem dX7_pressNow_0 : decode cX7_pressNow 0 = .ok (.lconst 0, 1) := by decide +kernel
theorem dX7_pressNow_1 : decode cX7_pressNow 1 = .ok (.lstore 4, 2) := by decide +kernel
theorem dX7_pressNow_3 : decode cX7_pressNow 3 = .ok (.iconst 0, 1) := by decide +kernel
theorem dX7_pressNow_4 : decode cX7_pressNow 4 = .ok (.istore 6, 2) := by decide +kernel
theorem dX7_pressNow_6 : decode cX7_pressNow 6 = .ok (.iload 6, 2) := by decide +kernel
theorem dX7_pressNow_8 : decode cX7_pressNow 8 = .ok (.aload_n 0, 1) := by decide +kernel
theorem dX7_pressNow_9 : decode cX7_pressNow 9 = .ok (.getfield 81, 3) := by decide +kernel
theorem dX7_pressNow_12 : decode cX7_pressNow 12 = .ok (.if_icmp .ge 90, 3) := by decide +kernel
theorem dX7_pressNow_15 : decode cX7_pressNow 15 = .ok (.aload_n 0, 1) := by decide +kernel
theorem dX7_pressNow_16 : decode cX7_pressNow 16 = .ok (.getfield 13, 3) := by decide +kernel
theorem dX7_pressNow_19 : decode cX7_pressNow 19 = .ok (.iconst 4, 1) := by decide +kernel
theorem dX7_pressNow_20 : decode cX7_pressNow 20 = .ok (.iload_n 1, 1) := by decide +kernel
theorem dX7_pressNow_21 : decode cX7_pressNow 21 = .ok (.imul, 1) := by decide +kernel
theorem dX7_pressNow_22 : decode cX7_pressNow 22 = .ok (.iload 6, 2) := by decide +kernel
theorem dX7_pressNow_24 : decode cX7_pressNow 24 = .ok (.iadd, 1) := by decide +kernel
theorem dX7_pressNow_25 : decode cX7_pressNow 25 = .ok (.iaload, 1) := by decide +kernel
theorem dX7_pressNow_26 : decode cX7_pressNow 26 = .ok (.aload_n 0, 1) := by decide +kernel
theorem dX7_pressNow_27 : decode cX7_pressNow 27 = .ok (.getfield 13, 3) := by decide +kernel
theorem dX7_pressNow_30 : decode cX7_pressNow 30 = .ok (.iconst 4, 1) := by decide +kernel
theorem dX7_pressNow_31 : decode cX7_pressNow 31 = .ok (.aload_n 0, 1) := by decide +kernel
theorem dX7_pressNow_32 : decode cX7_pressNow 32 = .ok (.getfield 25, 3) := by decide +kernel
theorem dX7_pressNow_35 : decode cX7_pressNow 35 = .ok (.iconst 0, 1) := by decide +kernel
theorem dX7_pressNow_36 : decode cX7_pressNow 36 = .ok (.iaload, 1) := by decide +kernel
theorem dX7_pressNow_37 : decode cX7_pressNow 37 = .ok (.imul, 1) := by decide +kernel
theorem dX7_pressNow_38 : decode cX7_pressNow 38 = .ok (.iload 6, 2) := by decide +kernel
theorem dX7_pressNow_40 : decode cX7_pressNow 40 = .ok (.iadd, 1) := by decide +kernel
theorem dX7_pressNow_41 : decode cX7_pressNow 41 = .ok (.iaload, 1) := by decide +kernel
theorem dX7_pressNow_42 : decode cX7_pressNow 42 = .ok (.isub, 1) := by decide +kernel
theorem dX7_pressNow_43 : decode cX7_pressNow 43 = .ok (.i2l, 1) := by decide +kernel
theorem dX7_pressNow_44 : decode cX7_pressNow 44 = .ok (.lstore 7, 2) := by decide +kernel
theorem dX7_pressNow_46 : decode cX7_pressNow 46 = .ok (.lload 4, 2) := by decide +kernel
theorem dX7_pressNow_48 : decode cX7_pressNow 48 = .ok (.iload_n 2, 1) := by decide +kernel
theorem dX7_pressNow_49 : decode cX7_pressNow 49 = .ok (.iload 6, 2) := by decide +kernel
theorem dX7_pressNow_51 : decode cX7_pressNow 51 = .ok (.invokestatic 108, 3) := by decide +kernel
theorem dX7_pressNow_54 : decode cX7_pressNow 54 = .ok (.ifCond .eq 38, 3) := by decide +kernel
theorem dX7_pressNow_57 : decode cX7_pressNow 57 = .ok (.aload_n 0, 1) := by decide +kernel
theorem dX7_pressNow_58 : decode cX7_pressNow 58 = .ok (.getfield 19, 3) := by decide +kernel
theorem dX7_pressNow_61 : decode cX7_pressNow 61 = .ok (.iload 6, 2) := by decide +kernel
theorem dX7_pressNow_63 : decode cX7_pressNow 63 = .ok (.iaload, 1) := by decide +kernel
theorem dX7_pressNow_64 : decode cX7_pressNow 64 = .ok (.i2l, 1) := by decide +kernel
theorem dX7_pressNow_65 : decode cX7_pressNow 65 = .ok (.lload 7, 2) := by decide +kernel
theorem dX7_pressNow_67 : decode cX7_pressNow 67 = .ok (.lmul, 1) := by decide +kernel
theorem dX7_pressNow_68 : decode cX7_pressNow 68 = .ok (.aload_n 0, 1) := by decide +kernel
theorem dX7_pressNow_69 : decode cX7_pressNow 69 = .ok (.iload 6, 2) := by decide +kernel
theorem dX7_pressNow_71 : decode cX7_pressNow 71 = .ok (.invokevirtual 188, 3) := by decide +kernel
theorem dX7_pressNow_74 : decode cX7_pressNow 74 = .ok (.aload_n 0, 1) := by decide +kernel
theorem dX7_pressNow_75 : decode cX7_pressNow 75 = .ok (.getfield 16, 3) := by decide +kernel
theorem dX7_pressNow_78 : decode cX7_pressNow 78 = .ok (.iload 6, 2) := by decide +kernel
theorem dX7_pressNow_80 : decode cX7_pressNow 80 = .ok (.iaload, 1) := by decide +kernel
theorem dX7_pressNow_81 : decode cX7_pressNow 81 = .ok (.i2l, 1) := by decide +kernel
theorem dX7_pressNow_82 : decode cX7_pressNow 82 = .ok (.aload_n 0, 1) := by decide +kernel
theorem dX7_pressNow_83 : decode cX7_pressNow 83 = .ok (.getfield 142, 3) := by decide +kernel
theorem dX7_pressNow_86 : decode cX7_pressNow 86 = .ok (.lmul, 1) := by decide +kernel
theorem dX7_pressNow_87 : decode cX7_pressNow 87 = .ok (.lsub, 1) := by decide +kernel
theorem dX7_pressNow_88 : decode cX7_pressNow 88 = .ok (.lmul, 1) := by decide +kernel
theorem dX7_pressNow_89 : decode cX7_pressNow 89 = .ok (.goto 4, 3) := by decide +kernel
theorem dX7_pressNow_92 : decode cX7_pressNow 92 = .ok (.lconst 0, 1) := by decide +kernel
theorem dX7_pressNow_93 : decode cX7_pressNow 93 = .ok (.ladd, 1) := by decide +kernel
theorem dX7_pressNow_94 : decode cX7_pressNow 94 = .ok (.lstore 4, 2) := by decide +kernel
theorem dX7_pressNow_96 : decode cX7_pressNow 96 = .ok (.iinc 6 1, 3) := by decide +kernel
theorem dX7_pressNow_99 : decode cX7_pressNow 99 = .ok (.goto (-93), 3) := by decide +kernel
theorem dX7_pressNow_102 : decode cX7_pressNow 102 = .ok (.lload 4, 2) := by decide +kernel
theorem dX7_pressNow_104 : decode cX7_pressNow 104 = .ok (.aload_n 0, 1) := by decide +kernel
theorem dX7_pressNow_105 : decode cX7_pressNow 105 = .ok (.getfield 142, 3) := by decide +kernel
theorem dX7_pressNow_108 : decode cX7_pressNow 108 = .ok (.iload_n 3, 1) := by decide +kernel
theorem dX7_pressNow_109 : decode cX7_pressNow 109 = .ok (.invokestatic 175, 3) := by decide +kernel
theorem dX7_pressNow_112 : decode cX7_pressNow 112 = .ok (.lreturn, 1) := by decide +kernel
theorem dX7_press_0 : decode cX7_press 0 = .ok (.aload_n 0, 1) := by decide +kernel
theorem dX7_press_1 : decode cX7_press 1 = .ok (.iload_n 1, 1) := by decide +kernel
theorem dX7_press_2 : decode cX7_press 2 = .ok (.invokevirtual 95, 3) := by decide +kernel
theorem dX7_press_5 : decode cX7_press 5 = .ok (.ifCond .ne 7, 3) := by decide +kernel
theorem dX7_press_8 : decode cX7_press 8 = .ok (.ldc2_w 90, 3) := by decide +kernel
theorem dX7_press_11 : decode cX7_press 11 = .ok (.lreturn, 1) := by decide +kernel
theorem dX7_press_12 : decode cX7_press 12 = .ok (.aload_n 0, 1) := by decide +kernel
theorem dX7_press_13 : decode cX7_press 13 = .ok (.iload_n 2, 1) := by decide +kernel
theorem dX7_press_14 : decode cX7_press 14 = .ok (.invokevirtual 115, 3) := by decide +kernel
theorem dX7_press_17 : decode cX7_press 17 = .ok (.ifCond .eq 12, 3) := by decide +kernel
theorem dX7_press_20 : decode cX7_press 20 = .ok (.iload_n 3, 1) := by decide +kernel
theorem dX7_press_21 : decode cX7_press 21 = .ok (.iconst 0, 1) := by decide +kernel
theorem dX7_press_22 : decode cX7_press 22 = .ok (.iconst 1, 1) := by decide +kernel
theorem dX7_press_23 : decode cX7_press 23 = .ok (.invokestatic 38, 3) := by decide +kernel
theorem dX7_press_26 : decode cX7_press 26 = .ok (.ifCond .ne 7, 3) := by decide +kernel
theorem dX7_press_29 : decode cX7_press 29 = .ok (.ldc2_w 42, 3) := by decide +kernel
theorem dX7_press_32 : decode cX7_press 32 = .ok (.lreturn, 1) := by decide +kernel
theorem dX7_press_33 : decode cX7_press 33 = .ok (.aload_n 0, 1) := by decide +kernel
theorem dX7_press_34 : decode cX7_press 34 = .ok (.iload_n 2, 1) := by decide +kernel
theorem dX7_press_35 : decode cX7_press 35 = .ok (.invokevirtual 179, 3) := by decide +kernel
theorem dX7_press_38 : decode cX7_press 38 = .ok (.aload_n 0, 1) := by decide +kernel
theorem dX7_press_39 : decode cX7_press 39 = .ok (.iload_n 1, 1) := by decide +kernel
theorem dX7_press_40 : decode cX7_press 40 = .ok (.iload_n 2, 1) := by decide +kernel
theorem dX7_press_41 : decode cX7_press 41 = .ok (.iload_n 3, 1) := by decide +kernel
theorem dX7_press_42 : decode cX7_press 42 = .ok (.invokevirtual 191, 3) := by decide +kernel
theorem dX7_press_45 : decode cX7_press 45 = .ok (.lreturn, 1) := by decide +kernel
theorem dX7_mixed_0 : decode cX7_mixed 0 = .ok (.aload_n 0, 1) := by decide +kernel
theorem dX7_mixed_1 : decode cX7_mixed 1 = .ok (.iload_n 1, 1) := by decide +kernel
theorem dX7_mixed_2 : decode cX7_mixed 2 = .ok (.invokevirtual 87, 3) := by decide +kernel
theorem dX7_mixed_5 : decode cX7_mixed 5 = .ok (.ifCond .ne 7, 3) := by decide +kernel
theorem dX7_mixed_8 : decode cX7_mixed 8 = .ok (.ldc2_w 90, 3) := by decide +kernel
theorem dX7_mixed_11 : decode cX7_mixed 11 = .ok (.lreturn, 1) := by decide +kernel
theorem dX7_mixed_12 : decode cX7_mixed 12 = .ok (.aload_n 0, 1) := by decide +kernel
theorem dX7_mixed_13 : decode cX7_mixed 13 = .ok (.iload_n 2, 1) := by decide +kernel
theorem dX7_mixed_14 : decode cX7_mixed 14 = .ok (.invokevirtual 115, 3) := by decide +kernel
theorem dX7_mixed_17 : decode cX7_mixed 17 = .ok (.ifCond .eq 12, 3) := by decide +kernel
theorem dX7_mixed_20 : decode cX7_mixed 20 = .ok (.iload_n 3, 1) := by decide +kernel
theorem dX7_mixed_21 : decode cX7_mixed 21 = .ok (.iconst 0, 1) := by decide +kernel
theorem dX7_mixed_22 : decode cX7_mixed 22 = .ok (.iconst 1, 1) := by decide +kernel
theorem dX7_mixed_23 : decode cX7_mixed 23 = .ok (.invokestatic 38, 3) := by decide +kernel
theorem dX7_mixed_26 : decode cX7_mixed 26 = .ok (.ifCond .ne 7, 3) := by decide +kernel
theorem dX7_mixed_29 : decode cX7_mixed 29 = .ok (.ldc2_w 42, 3) := by decide +kernel
theorem dX7_mixed_32 : decode cX7_mixed 32 = .ok (.lreturn, 1) := by decide +kernel
theorem dX7_mixed_33 : decode cX7_mixed 33 = .ok (.aload_n 0, 1) := by decide +kernel
theorem dX7_mixed_34 : decode cX7_mixed 34 = .ok (.iload_n 2, 1) := by decide +kernel
theorem dX7_mixed_35 : decode cX7_mixed 35 = .ok (.invokevirtual 179, 3) := by decide +kernel
theorem dX7_mixed_38 : decode cX7_mixed 38 = .ok (.aload_n 0, 1) := by decide +kernel
theorem dX7_mixed_39 : decode cX7_mixed 39 = .ok (.iload_n 1, 1) := by decide +kernel
theorem dX7_mixed_40 : decode cX7_mixed 40 = .ok (.invokevirtual 188, 3) := by decide +kernel
theorem dX7_mixed_43 : decode cX7_mixed 43 = .ok (.aload_n 0, 1) := by decide +kernel
theorem dX7_mixed_44 : decode cX7_mixed 44 = .ok (.getfield 142, 3) := by decide +kernel
theorem dX7_mixed_47 : decode cX7_mixed 47 = .ok (.iload_n 3, 1) := by decide +kernel
theorem dX7_mixed_48 : decode cX7_mixed 48 = .ok (.invokestatic 175, 3) := by decide +kernel
theorem dX7_mixed_51 : decode cX7_mixed 51 = .ok (.lreturn, 1) := by decide +kernel
theorem dX7_corner_0 : decode cX7_corner 0 = .ok (.aload_n 0, 1) := by decide +kernel
theorem dX7_corner_1 : decode cX7_corner 1 = .ok (.getfield 78, 3) := by decide +kernel
theorem dX7_corner_4 : decode cX7_corner 4 = .ok (.ifCond .ne 7, 3) := by decide +kernel
theorem dX7_corner_7 : decode cX7_corner 7 = .ok (.ldc2_w 76, 3) := by decide +kernel
theorem dX7_corner_10 : decode cX7_corner 10 = .ok (.lreturn, 1) := by decide +kernel
theorem dX7_corner_11 : decode cX7_corner 11 = .ok (.iload_n 1, 1) := by decide +kernel
theorem dX7_corner_12 : decode cX7_corner 12 = .ok (.iconst 1, 1) := by decide +kernel
theorem dX7_corner_13 : decode cX7_corner 13 = .ok (.iconst 1, 1) := by decide +kernel
theorem dX7_corner_14 : decode cX7_corner 14 = .ok (.aload_n 0, 1) := by decide +kernel
theorem dX7_corner_15 : decode cX7_corner 15 = .ok (.getfield 78, 3) := by decide +kernel
theorem dX7_corner_18 : decode cX7_corner 18 = .ok (.ishl, 1) := by decide +kernel
theorem dX7_corner_19 : decode cX7_corner 19 = .ok (.iconst 1, 1) := by decide +kernel
theorem dX7_corner_20 : decode cX7_corner 20 = .ok (.isub, 1) := by decide +kernel
theorem dX7_corner_21 : decode cX7_corner 21 = .ok (.invokestatic 38, 3) := by decide +kernel
theorem dX7_corner_24 : decode cX7_corner 24 = .ok (.ifCond .eq 20, 3) := by decide +kernel
theorem dX7_corner_27 : decode cX7_corner 27 = .ok (.aload_n 0, 1) := by decide +kernel
theorem dX7_corner_28 : decode cX7_corner 28 = .ok (.iload_n 2, 1) := by decide +kernel
theorem dX7_corner_29 : decode cX7_corner 29 = .ok (.invokevirtual 115, 3) := by decide +kernel
theorem dX7_corner_32 : decode cX7_corner 32 = .ok (.ifCond .eq 12, 3) := by decide +kernel
theorem dX7_corner_35 : decode cX7_corner 35 = .ok (.iload_n 3, 1) := by decide +kernel
theorem dX7_corner_36 : decode cX7_corner 36 = .ok (.iconst 0, 1) := by decide +kernel
theorem dX7_corner_37 : decode cX7_corner 37 = .ok (.iconst 2, 1) := by decide +kernel
theorem dX7_corner_38 : decode cX7_corner 38 = .ok (.invokestatic 38, 3) := by decide +kernel
theorem dX7_corner_41 : decode cX7_corner 41 = .ok (.ifCond .ne 7, 3) := by decide +kernel
theorem dX7_corner_44 : decode cX7_corner 44 = .ok (.ldc2_w 42, 3) := by decide +kernel
theorem dX7_corner_47 : decode cX7_corner 47 = .ok (.lreturn, 1) := by decide +kernel
theorem dX7_corner_48 : decode cX7_corner 48 = .ok (.aload_n 0, 1) := by decide +kernel
theorem dX7_corner_49 : decode cX7_corner 49 = .ok (.iload_n 1, 1) := by decide +kernel
theorem dX7_corner_50 : decode cX7_corner 50 = .ok (.iload_n 2, 1) := by decide +kernel
theorem dX7_corner_51 : decode cX7_corner 51 = .ok (.invokevirtual 155, 3) := by decide +kernel
theorem dX7_corner_54 : decode cX7_corner 54 = .ok (.iload_n 3, 1) := by decide +kernel
theorem dX7_corner_55 : decode cX7_corner 55 = .ok (.ifCond .ne 16, 3) := by decide +kernel
theorem dX7_corner_58 : decode cX7_corner 58 = .ok (.aload_n 0, 1) := by decide +kernel
theorem dX7_corner_59 : decode cX7_corner 59 = .ok (.invokevirtual 159, 3) := by decide +kernel
theorem dX7_corner_62 : decode cX7_corner 62 = .ok (.ifCond .eq 7, 3) := by decide +kernel
theorem dX7_corner_65 : decode cX7_corner 65 = .ok (.lconst 1, 1) := by decide +kernel
theorem dX7_corner_66 : decode cX7_corner 66 = .ok (.goto 4, 3) := by decide +kernel
theorem dX7_corner_69 : decode cX7_corner 69 = .ok (.lconst 0, 1) := by decide +kernel
theorem dX7_corner_70 : decode cX7_corner 70 = .ok (.lreturn, 1) := by decide +kernel
theorem dX7_corner_71 : decode cX7_corner 71 = .ok (.aload_n 0, 1) := by decide +kernel
theorem dX7_corner_72 : decode cX7_corner 72 = .ok (.getfield 142, 3) := by decide +kernel
theorem dX7_corner_75 : decode cX7_corner 75 = .ok (.lconst 0, 1) := by decide +kernel
theorem dX7_corner_76 : decode cX7_corner 76 = .ok (.lcmp, 1) := by decide +kernel
theorem dX7_corner_77 : decode cX7_corner 77 = .ok (.ifCond .ne 9, 3) := by decide +kernel
theorem dX7_corner_80 : decode cX7_corner 80 = .ok (.ldc2_w 102, 3) := by decide +kernel
theorem dX7_corner_83 : decode cX7_corner 83 = .ok (.goto 17, 3) := by decide +kernel
theorem dX7_corner_86 : decode cX7_corner 86 = .ok (.aload_n 0, 1) := by decide +kernel
theorem dX7_corner_87 : decode cX7_corner 87 = .ok (.getfield 146, 3) := by decide +kernel
theorem dX7_corner_90 : decode cX7_corner 90 = .ok (.aload_n 0, 1) := by decide +kernel
theorem dX7_corner_91 : decode cX7_corner 91 = .ok (.getfield 142, 3) := by decide +kernel
theorem dX7_corner_94 : decode cX7_corner 94 = .ok (.iload_n 3, 1) := by decide +kernel
theorem dX7_corner_95 : decode cX7_corner 95 = .ok (.iconst 1, 1) := by decide +kernel
theorem dX7_corner_96 : decode cX7_corner 96 = .ok (.isub, 1) := by decide +kernel
theorem dX7_corner_97 : decode cX7_corner 97 = .ok (.invokestatic 175, 3) := by decide +kernel
theorem dX7_corner_100 : decode cX7_corner 100 = .ok (.lreturn, 1) := by decide +kernel
theorem dX7_howMany_0 : decode cX7_howMany 0 = .ok (.iload_n 1, 1) := by decide +kernel
theorem dX7_howMany_1 : decode cX7_howMany 1 = .ok (.tableswitch 65 0 4 #[35, 41, 47, 53, 59], 35) := by decide +kernel
theorem dX7_howMany_36 : decode cX7_howMany 36 = .ok (.aload_n 0, 1) := by decide +kernel
theorem dX7_howMany_37 : decode cX7_howMany 37 = .ok (.getfield 78, 3) := by decide +kernel
theorem dX7_howMany_40 : decode cX7_howMany 40 = .ok (.i2l, 1) := by decide +kernel
theorem dX7_howMany_41 : decode cX7_howMany 41 = .ok (.lreturn, 1) := by decide +kernel
theorem dX7_howMany_42 : decode cX7_howMany 42 = .ok (.aload_n 0, 1) := by decide +kernel
theorem dX7_howMany_43 : decode cX7_howMany 43 = .ok (.getfield 81, 3) := by decide +kernel
theorem dX7_howMany_46 : decode cX7_howMany 46 = .ok (.i2l, 1) := by decide +kernel
theorem dX7_howMany_47 : decode cX7_howMany 47 = .ok (.lreturn, 1) := by decide +kernel
theorem dX7_howMany_48 : decode cX7_howMany 48 = .ok (.aload_n 0, 1) := by decide +kernel
theorem dX7_howMany_49 : decode cX7_howMany 49 = .ok (.getfield 44, 3) := by decide +kernel
theorem dX7_howMany_52 : decode cX7_howMany 52 = .ok (.i2l, 1) := by decide +kernel
theorem dX7_howMany_53 : decode cX7_howMany 53 = .ok (.lreturn, 1) := by decide +kernel
theorem dX7_howMany_54 : decode cX7_howMany 54 = .ok (.aload_n 0, 1) := by decide +kernel
theorem dX7_howMany_55 : decode cX7_howMany 55 = .ok (.getfield 84, 3) := by decide +kernel
theorem dX7_howMany_58 : decode cX7_howMany 58 = .ok (.i2l, 1) := by decide +kernel
theorem dX7_howMany_59 : decode cX7_howMany 59 = .ok (.lreturn, 1) := by decide +kernel
theorem dX7_howMany_60 : decode cX7_howMany 60 = .ok (.aload_n 0, 1) := by decide +kernel
theorem dX7_howMany_61 : decode cX7_howMany 61 = .ok (.getfield 92, 3) := by decide +kernel
theorem dX7_howMany_64 : decode cX7_howMany 64 = .ok (.i2l, 1) := by decide +kernel
theorem dX7_howMany_65 : decode cX7_howMany 65 = .ok (.lreturn, 1) := by decide +kernel
theorem dX7_howMany_66 : decode cX7_howMany 66 = .ok (.ldc2_w 42, 3) := by decide +kernel
theorem dX7_howMany_69 : decode cX7_howMany 69 = .ok (.lreturn, 1) := by decide +kernel
theorem dX7_count_0 : decode cX7_count 0 = .ok (.aload_n 0, 1) := by decide +kernel
theorem dX7_count_1 : decode cX7_count 1 = .ok (.iload_n 1, 1) := by decide +kernel
theorem dX7_count_2 : decode cX7_count 2 = .ok (.invokevirtual 194, 3) := by decide +kernel
theorem dX7_count_5 : decode cX7_count 5 = .ok (.lreturn, 1) := by decide +kernel
theorem dX7_mix_0 : decode cX7_mix 0 = .ok (.aload_n 0, 1) := by decide +kernel
theorem dX7_mix_1 : decode cX7_mix 1 = .ok (.ldc2_w 197, 3) := by decide +kernel
theorem dX7_mix_4 : decode cX7_mix 4 = .ok (.aload_n 0, 1) := by decide +kernel
theorem dX7_mix_5 : decode cX7_mix 5 = .ok (.getfield 199, 3) := by decide +kernel
theorem dX7_mix_8 : decode cX7_mix 8 = .ok (.lmul, 1) := by decide +kernel
theorem dX7_mix_9 : decode cX7_mix 9 = .ok (.lload_n 1, 1) := by decide +kernel
theorem dX7_mix_10 : decode cX7_mix 10 = .ok (.ladd, 1) := by decide +kernel
theorem dX7_mix_11 : decode cX7_mix 11 = .ok (.putfield 199, 3) := by decide +kernel
theorem dX7_mix_14 : decode cX7_mix 14 = .ok (.return_, 1) := by decide +kernel
theorem dX7_mixBy_0 : decode cX7_mixBy 0 = .ok (.aload_n 0, 1) := by decide +kernel
theorem dX7_mixBy_1 : decode cX7_mixBy 1 = .ok (.iload_n 1, 1) := by decide +kernel
theorem dX7_mixBy_2 : decode cX7_mixBy 2 = .ok (.invokevirtual 179, 3) := by decide +kernel
theorem dX7_mixBy_5 : decode cX7_mixBy 5 = .ok (.iconst 0, 1) := by decide +kernel
theorem dX7_mixBy_6 : decode cX7_mixBy 6 = .ok (.istore_n 2, 1) := by decide +kernel
theorem dX7_mixBy_7 : decode cX7_mixBy 7 = .ok (.iload_n 2, 1) := by decide +kernel
theorem dX7_mixBy_8 : decode cX7_mixBy 8 = .ok (.iconst 4, 1) := by decide +kernel
theorem dX7_mixBy_9 : decode cX7_mixBy 9 = .ok (.if_icmp .ge 18, 3) := by decide +kernel
theorem dX7_mixBy_12 : decode cX7_mixBy 12 = .ok (.aload_n 0, 1) := by decide +kernel
theorem dX7_mixBy_13 : decode cX7_mixBy 13 = .ok (.aload_n 0, 1) := by decide +kernel
theorem dX7_mixBy_14 : decode cX7_mixBy 14 = .ok (.iload_n 2, 1) := by decide +kernel
theorem dX7_mixBy_15 : decode cX7_mixBy 15 = .ok (.invokevirtual 182, 3) := by decide +kernel
theorem dX7_mixBy_18 : decode cX7_mixBy 18 = .ok (.invokevirtual 202, 3) := by decide +kernel
theorem dX7_mixBy_21 : decode cX7_mixBy 21 = .ok (.iinc 2 1, 3) := by decide +kernel
theorem dX7_mixBy_24 : decode cX7_mixBy 24 = .ok (.goto (-17), 3) := by decide +kernel
theorem dX7_mixBy_27 : decode cX7_mixBy 27 = .ok (.iconst 0, 1) := by decide +kernel
theorem dX7_mixBy_28 : decode cX7_mixBy 28 = .ok (.istore_n 2, 1) := by decide +kernel
theorem dX7_mixBy_29 : decode cX7_mixBy 29 = .ok (.iload_n 2, 1) := by decide +kernel
theorem dX7_mixBy_30 : decode cX7_mixBy 30 = .ok (.aload_n 0, 1) := by decide +kernel
theorem dX7_mixBy_31 : decode cX7_mixBy 31 = .ok (.getfield 78, 3) := by decide +kernel
theorem dX7_mixBy_34 : decode cX7_mixBy 34 = .ok (.if_icmp .ge 62, 3) := by decide +kernel
theorem dX7_mixBy_37 : decode cX7_mixBy 37 = .ok (.aload_n 0, 1) := by decide +kernel
theorem dX7_mixBy_38 : decode cX7_mixBy 38 = .ok (.aload_n 0, 1) := by decide +kernel
theorem dX7_mixBy_39 : decode cX7_mixBy 39 = .ok (.iload_n 2, 1) := by decide +kernel
theorem dX7_mixBy_40 : decode cX7_mixBy 40 = .ok (.iconst 0, 1) := by decide +kernel
theorem dX7_mixBy_41 : decode cX7_mixBy 41 = .ok (.invokevirtual 185, 3) := by decide +kernel
theorem dX7_mixBy_44 : decode cX7_mixBy 44 = .ok (.invokevirtual 202, 3) := by decide +kernel
theorem dX7_mixBy_47 : decode cX7_mixBy 47 = .ok (.aload_n 0, 1) := by decide +kernel
theorem dX7_mixBy_48 : decode cX7_mixBy 48 = .ok (.aload_n 0, 1) := by decide +kernel
theorem dX7_mixBy_49 : decode cX7_mixBy 49 = .ok (.iload_n 2, 1) := by decide +kernel
theorem dX7_mixBy_50 : decode cX7_mixBy 50 = .ok (.iconst 1, 1) := by decide +kernel
theorem dX7_mixBy_51 : decode cX7_mixBy 51 = .ok (.invokevirtual 185, 3) := by decide +kernel
theorem dX7_mixBy_54 : decode cX7_mixBy 54 = .ok (.invokevirtual 202, 3) := by decide +kernel
theorem dX7_mixBy_57 : decode cX7_mixBy 57 = .ok (.aload_n 0, 1) := by decide +kernel
theorem dX7_mixBy_58 : decode cX7_mixBy 58 = .ok (.aload_n 0, 1) := by decide +kernel
theorem dX7_mixBy_59 : decode cX7_mixBy 59 = .ok (.iload_n 2, 1) := by decide +kernel
theorem dX7_mixBy_60 : decode cX7_mixBy 60 = .ok (.iload_n 1, 1) := by decide +kernel
theorem dX7_mixBy_61 : decode cX7_mixBy 61 = .ok (.iconst 0, 1) := by decide +kernel
theorem dX7_mixBy_62 : decode cX7_mixBy 62 = .ok (.invokevirtual 191, 3) := by decide +kernel
theorem dX7_mixBy_65 : decode cX7_mixBy 65 = .ok (.invokevirtual 202, 3) := by decide +kernel
theorem dX7_mixBy_68 : decode cX7_mixBy 68 = .ok (.aload_n 0, 1) := by decide +kernel
theorem dX7_mixBy_69 : decode cX7_mixBy 69 = .ok (.aload_n 0, 1) := by decide +kernel
theorem dX7_mixBy_70 : decode cX7_mixBy 70 = .ok (.iload_n 2, 1) := by decide +kernel
theorem dX7_mixBy_71 : decode cX7_mixBy 71 = .ok (.iload_n 1, 1) := by decide +kernel
theorem dX7_mixBy_72 : decode cX7_mixBy 72 = .ok (.iconst 1, 1) := by decide +kernel
theorem dX7_mixBy_73 : decode cX7_mixBy 73 = .ok (.invokevirtual 191, 3) := by decide +kernel
theorem dX7_mixBy_76 : decode cX7_mixBy 76 = .ok (.invokevirtual 202, 3) := by decide +kernel
theorem dX7_mixBy_79 : decode cX7_mixBy 79 = .ok (.aload_n 0, 1) := by decide +kernel
theorem dX7_mixBy_80 : decode cX7_mixBy 80 = .ok (.aload_n 0, 1) := by decide +kernel
theorem dX7_mixBy_81 : decode cX7_mixBy 81 = .ok (.iload_n 2, 1) := by decide +kernel
theorem dX7_mixBy_82 : decode cX7_mixBy 82 = .ok (.iload_n 1, 1) := by decide +kernel
theorem dX7_mixBy_83 : decode cX7_mixBy 83 = .ok (.invokevirtual 118, 3) := by decide +kernel
theorem dX7_mixBy_86 : decode cX7_mixBy 86 = .ok (.i2l, 1) := by decide +kernel
theorem dX7_mixBy_87 : decode cX7_mixBy 87 = .ok (.invokevirtual 202, 3) := by decide +kernel
theorem dX7_mixBy_90 : decode cX7_mixBy 90 = .ok (.iinc 2 1, 3) := by decide +kernel
theorem dX7_mixBy_93 : decode cX7_mixBy 93 = .ok (.goto (-64), 3) := by decide +kernel
theorem dX7_mixBy_96 : decode cX7_mixBy 96 = .ok (.iconst 0, 1) := by decide +kernel
theorem dX7_mixBy_97 : decode cX7_mixBy 97 = .ok (.istore_n 2, 1) := by decide +kernel
theorem dX7_mixBy_98 : decode cX7_mixBy 98 = .ok (.iload_n 2, 1) := by decide +kernel
theorem dX7_mixBy_99 : decode cX7_mixBy 99 = .ok (.aload_n 0, 1) := by decide +kernel
theorem dX7_mixBy_100 : decode cX7_mixBy 100 = .ok (.getfield 81, 3) := by decide +kernel
theorem dX7_mixBy_103 : decode cX7_mixBy 103 = .ok (.if_icmp .ge 43, 3) := by decide +kernel
theorem dX7_mixBy_106 : decode cX7_mixBy 106 = .ok (.aload_n 0, 1) := by decide +kernel
theorem dX7_mixBy_107 : decode cX7_mixBy 107 = .ok (.aload_n 0, 1) := by decide +kernel
theorem dX7_mixBy_108 : decode cX7_mixBy 108 = .ok (.iload_n 2, 1) := by decide +kernel
theorem dX7_mixBy_109 : decode cX7_mixBy 109 = .ok (.invokevirtual 188, 3) := by decide +kernel
theorem dX7_mixBy_112 : decode cX7_mixBy 112 = .ok (.aload_n 0, 1) := by decide +kernel
theorem dX7_mixBy_113 : decode cX7_mixBy 113 = .ok (.getfield 142, 3) := by decide +kernel
theorem dX7_mixBy_116 : decode cX7_mixBy 116 = .ok (.iconst 0, 1) := by decide +kernel
theorem dX7_mixBy_117 : decode cX7_mixBy 117 = .ok (.invokestatic 175, 3) := by decide +kernel
theorem dX7_mixBy_120 : decode cX7_mixBy 120 = .ok (.invokevirtual 202, 3) := by decide +kernel
theorem dX7_mixBy_123 : decode cX7_mixBy 123 = .ok (.aload_n 0, 1) := by decide +kernel
theorem dX7_mixBy_124 : decode cX7_mixBy 124 = .ok (.aload_n 0, 1) := by decide +kernel
theorem dX7_mixBy_125 : decode cX7_mixBy 125 = .ok (.iload_n 2, 1) := by decide +kernel
theorem dX7_mixBy_126 : decode cX7_mixBy 126 = .ok (.invokevirtual 188, 3) := by decide +kernel
theorem dX7_mixBy_129 : decode cX7_mixBy 129 = .ok (.aload_n 0, 1) := by decide +kernel
theorem dX7_mixBy_130 : decode cX7_mixBy 130 = .ok (.getfield 142, 3) := by decide +kernel
theorem dX7_mixBy_133 : decode cX7_mixBy 133 = .ok (.iconst 1, 1) := by decide +kernel
theorem dX7_mixBy_134 : decode cX7_mixBy 134 = .ok (.invokestatic 175, 3) := by decide +kernel
theorem dX7_mixBy_137 : decode cX7_mixBy 137 = .ok (.invokevirtual 202, 3) := by decide +kernel
theorem dX7_mixBy_140 : decode cX7_mixBy 140 = .ok (.iinc 2 1, 3) := by decide +kernel
theorem dX7_mixBy_143 : decode cX7_mixBy 143 = .ok (.goto (-45), 3) := by decide +kernel
theorem dX7_mixBy_146 : decode cX7_mixBy 146 = .ok (.return_, 1) := by decide +kernel
theorem dX7_digest_0 : decode cX7_digest 0 = .ok (.aload_n 0, 1) := by decide +kernel
theorem dX7_digest_1 : decode cX7_digest 1 = .ok (.ldc2_w 206, 3) := by decide +kernel
theorem dX7_digest_4 : decode cX7_digest 4 = .ok (.putfield 199, 3) := by decide +kernel
theorem dX7_digest_7 : decode cX7_digest 7 = .ok (.iconst 0, 1) := by decide +kernel
theorem dX7_digest_8 : decode cX7_digest 8 = .ok (.istore_n 1, 1) := by decide +kernel
theorem dX7_digest_9 : decode cX7_digest 9 = .ok (.iload_n 1, 1) := by decide +kernel
theorem dX7_digest_10 : decode cX7_digest 10 = .ok (.aload_n 0, 1) := by decide +kernel
theorem dX7_digest_11 : decode cX7_digest 11 = .ok (.getfield 78, 3) := by decide +kernel
theorem dX7_digest_14 : decode cX7_digest 14 = .ok (.if_icmp .ge 32, 3) := by decide +kernel
theorem dX7_digest_17 : decode cX7_digest 17 = .ok (.iconst 0, 1) := by decide +kernel
theorem dX7_digest_18 : decode cX7_digest 18 = .ok (.istore_n 2, 1) := by decide +kernel
theorem dX7_digest_19 : decode cX7_digest 19 = .ok (.iload_n 2, 1) := by decide +kernel
theorem dX7_digest_20 : decode cX7_digest 20 = .ok (.iconst 4, 1) := by decide +kernel
theorem dX7_digest_21 : decode cX7_digest 21 = .ok (.if_icmp .ge 19, 3) := by decide +kernel
theorem dX7_digest_24 : decode cX7_digest 24 = .ok (.aload_n 0, 1) := by decide +kernel
theorem dX7_digest_25 : decode cX7_digest 25 = .ok (.aload_n 0, 1) := by decide +kernel
theorem dX7_digest_26 : decode cX7_digest 26 = .ok (.iload_n 1, 1) := by decide +kernel
theorem dX7_digest_27 : decode cX7_digest 27 = .ok (.iload_n 2, 1) := by decide +kernel
theorem dX7_digest_28 : decode cX7_digest 28 = .ok (.invokevirtual 104, 3) := by decide +kernel
theorem dX7_digest_31 : decode cX7_digest 31 = .ok (.invokevirtual 202, 3) := by decide +kernel
theorem dX7_digest_34 : decode cX7_digest 34 = .ok (.iinc 2 1, 3) := by decide +kernel
theorem dX7_digest_37 : decode cX7_digest 37 = .ok (.goto (-18), 3) := by decide +kernel
theorem dX7_digest_40 : decode cX7_digest 40 = .ok (.iinc 1 1, 3) := by decide +kernel
theorem dX7_digest_43 : decode cX7_digest 43 = .ok (.goto (-34), 3) := by decide +kernel
theorem dX7_digest_46 : decode cX7_digest 46 = .ok (.iconst 0, 1) := by decide +kernel
theorem dX7_digest_47 : decode cX7_digest 47 = .ok (.istore_n 1, 1) := by decide +kernel
theorem dX7_digest_48 : decode cX7_digest 48 = .ok (.iload_n 1, 1) := by decide +kernel
theorem dX7_digest_49 : decode cX7_digest 49 = .ok (.aload_n 0, 1) := by decide +kernel
theorem dX7_digest_50 : decode cX7_digest 50 = .ok (.getfield 81, 3) := by decide +kernel
theorem dX7_digest_53 : decode cX7_digest 53 = .ok (.if_icmp .ge 31, 3) := by decide +kernel
theorem dX7_digest_56 : decode cX7_digest 56 = .ok (.aload_n 0, 1) := by decide +kernel
theorem dX7_digest_57 : decode cX7_digest 57 = .ok (.aload_n 0, 1) := by decide +kernel
theorem dX7_digest_58 : decode cX7_digest 58 = .ok (.getfield 16, 3) := by decide +kernel
theorem dX7_digest_61 : decode cX7_digest 61 = .ok (.iload_n 1, 1) := by decide +kernel
theorem dX7_digest_62 : decode cX7_digest 62 = .ok (.iaload, 1) := by decide +kernel
theorem dX7_digest_63 : decode cX7_digest 63 = .ok (.i2l, 1) := by decide +kernel
theorem dX7_digest_64 : decode cX7_digest 64 = .ok (.invokevirtual 202, 3) := by decide +kernel
theorem dX7_digest_67 : decode cX7_digest 67 = .ok (.aload_n 0, 1) := by decide +kernel
theorem dX7_digest_68 : decode cX7_digest 68 = .ok (.aload_n 0, 1) := by decide +kernel
theorem dX7_digest_69 : decode cX7_digest 69 = .ok (.getfield 19, 3) := by decide +kernel
theorem dX7_digest_72 : decode cX7_digest 72 = .ok (.iload_n 1, 1) := by decide +kernel
theorem dX7_digest_73 : decode cX7_digest 73 = .ok (.iaload, 1) := by decide +kernel
theorem dX7_digest_74 : decode cX7_digest 74 = .ok (.i2l, 1) := by decide +kernel
theorem dX7_digest_75 : decode cX7_digest 75 = .ok (.invokevirtual 202, 3) := by decide +kernel
theorem dX7_digest_78 : decode cX7_digest 78 = .ok (.iinc 1 1, 3) := by decide +kernel
theorem dX7_digest_81 : decode cX7_digest 81 = .ok (.goto (-33), 3) := by decide +kernel
theorem dX7_digest_84 : decode cX7_digest 84 = .ok (.aload_n 0, 1) := by decide +kernel
theorem dX7_digest_85 : decode cX7_digest 85 = .ok (.getfield 78, 3) := by decide +kernel
theorem dX7_digest_88 : decode cX7_digest 88 = .ok (.ifCond .le 15, 3) := by decide +kernel
theorem dX7_digest_91 : decode cX7_digest 91 = .ok (.aload_n 0, 1) := by decide +kernel
theorem dX7_digest_92 : decode cX7_digest 92 = .ok (.iconst 1, 1) := by decide +kernel
theorem dX7_digest_93 : decode cX7_digest 93 = .ok (.aload_n 0, 1) := by decide +kernel
theorem dX7_digest_94 : decode cX7_digest 94 = .ok (.getfield 81, 3) := by decide +kernel
theorem dX7_digest_97 : decode cX7_digest 97 = .ok (.ishl, 1) := by decide +kernel
theorem dX7_digest_98 : decode cX7_digest 98 = .ok (.iconst 1, 1) := by decide +kernel
theorem dX7_digest_99 : decode cX7_digest 99 = .ok (.isub, 1) := by decide +kernel
theorem dX7_digest_100 : decode cX7_digest 100 = .ok (.invokevirtual 208, 3) := by decide +kernel
theorem dX7_digest_103 : decode cX7_digest 103 = .ok (.iconst 0, 1) := by decide +kernel
theorem dX7_digest_104 : decode cX7_digest 104 = .ok (.istore_n 1, 1) := by decide +kernel
theorem dX7_digest_105 : decode cX7_digest 105 = .ok (.iload_n 1, 1) := by decide +kernel
theorem dX7_digest_106 : decode cX7_digest 106 = .ok (.aload_n 0, 1) := by decide +kernel
theorem dX7_digest_107 : decode cX7_digest 107 = .ok (.getfield 81, 3) := by decide +kernel
theorem dX7_digest_110 : decode cX7_digest 110 = .ok (.if_icmp .ge 35, 3) := by decide +kernel
theorem dX7_digest_113 : decode cX7_digest 113 = .ok (.aload_n 0, 1) := by decide +kernel
theorem dX7_digest_114 : decode cX7_digest 114 = .ok (.getfield 81, 3) := by decide +kernel
theorem dX7_digest_117 : decode cX7_digest 117 = .ok (.iconst 1, 1) := by decide +kernel
theorem dX7_digest_118 : decode cX7_digest 118 = .ok (.if_icmp .le 27, 3) := by decide +kernel
theorem dX7_digest_121 : decode cX7_digest 121 = .ok (.aload_n 0, 1) := by decide +kernel
theorem dX7_digest_122 : decode cX7_digest 122 = .ok (.iconst 1, 1) := by decide +kernel
theorem dX7_digest_123 : decode cX7_digest 123 = .ok (.aload_n 0, 1) := by decide +kernel
theorem dX7_digest_124 : decode cX7_digest 124 = .ok (.getfield 81, 3) := by decide +kernel
theorem dX7_digest_127 : decode cX7_digest 127 = .ok (.ishl, 1) := by decide +kernel
theorem dX7_digest_128 : decode cX7_digest 128 = .ok (.iconst 1, 1) := by decide +kernel
theorem dX7_digest_129 : decode cX7_digest 129 = .ok (.isub, 1) := by decide +kernel
theorem dX7_digest_130 : decode cX7_digest 130 = .ok (.iconst 1, 1) := by decide +kernel
theorem dX7_digest_131 : decode cX7_digest 131 = .ok (.iload_n 1, 1) := by decide +kernel
theorem dX7_digest_132 : decode cX7_digest 132 = .ok (.ishl, 1) := by decide +kernel
theorem dX7_digest_133 : decode cX7_digest 133 = .ok (.iconst (-1), 1) := by decide +kernel
theorem dX7_digest_134 : decode cX7_digest 134 = .ok (.ixor, 1) := by decide +kernel
theorem dX7_digest_135 : decode cX7_digest 135 = .ok (.iand, 1) := by decide +kernel
theorem dX7_digest_136 : decode cX7_digest 136 = .ok (.invokevirtual 208, 3) := by decide +kernel
theorem dX7_digest_139 : decode cX7_digest 139 = .ok (.iinc 1 1, 3) := by decide +kernel
theorem dX7_digest_142 : decode cX7_digest 142 = .ok (.goto (-37), 3) := by decide +kernel
theorem dX7_digest_145 : decode cX7_digest 145 = .ok (.iconst 0, 1) := by decide +kernel
theorem dX7_digest_146 : decode cX7_digest 146 = .ok (.istore_n 1, 1) := by decide +kernel
theorem dX7_digest_147 : decode cX7_digest 147 = .ok (.iload_n 1, 1) := by decide +kernel
theorem dX7_digest_148 : decode cX7_digest 148 = .ok (.aload_n 0, 1) := by decide +kernel
theorem dX7_digest_149 : decode cX7_digest 149 = .ok (.getfield 44, 3) := by decide +kernel
theorem dX7_digest_152 : decode cX7_digest 152 = .ok (.if_icmp .ge 20, 3) := by decide +kernel
theorem dX7_digest_155 : decode cX7_digest 155 = .ok (.aload_n 0, 1) := by decide +kernel
theorem dX7_digest_156 : decode cX7_digest 156 = .ok (.aload_n 0, 1) := by decide +kernel
theorem dX7_digest_157 : decode cX7_digest 157 = .ok (.getfield 7, 3) := by decide +kernel
theorem dX7_digest_160 : decode cX7_digest 160 = .ok (.iload_n 1, 1) := by decide +kernel
theorem dX7_digest_161 : decode cX7_digest 161 = .ok (.iaload, 1) := by decide +kernel
theorem dX7_digest_162 : decode cX7_digest 162 = .ok (.i2l, 1) := by decide +kernel
theorem dX7_digest_163 : decode cX7_digest 163 = .ok (.invokevirtual 202, 3) := by decide +kernel
theorem dX7_digest_166 : decode cX7_digest 166 = .ok (.iinc 1 1, 3) := by decide +kernel
theorem dX7_digest_169 : decode cX7_digest 169 = .ok (.goto (-22), 3) := by decide +kernel
theorem dX7_digest_172 : decode cX7_digest 172 = .ok (.iconst 0, 1) := by decide +kernel
theorem dX7_digest_173 : decode cX7_digest 173 = .ok (.istore_n 1, 1) := by decide +kernel
theorem dX7_digest_174 : decode cX7_digest 174 = .ok (.iload_n 1, 1) := by decide +kernel
theorem dX7_digest_175 : decode cX7_digest 175 = .ok (.iconst 5, 1) := by decide +kernel
theorem dX7_digest_176 : decode cX7_digest 176 = .ok (.if_icmp .ge 18, 3) := by decide +kernel
theorem dX7_digest_179 : decode cX7_digest 179 = .ok (.aload_n 0, 1) := by decide +kernel
theorem dX7_digest_180 : decode cX7_digest 180 = .ok (.aload_n 0, 1) := by decide +kernel
theorem dX7_digest_181 : decode cX7_digest 181 = .ok (.iload_n 1, 1) := by decide +kernel
theorem dX7_digest_182 : decode cX7_digest 182 = .ok (.invokevirtual 194, 3) := by decide +kernel
theorem dX7_digest_185 : decode cX7_digest 185 = .ok (.invokevirtual 202, 3) := by decide +kernel
theorem dX7_digest_188 : decode cX7_digest 188 = .ok (.iinc 1 1, 3) := by decide +kernel
theorem dX7_digest_191 : decode cX7_digest 191 = .ok (.goto (-17), 3) := by decide +kernel
theorem dX7_digest_194 : decode cX7_digest 194 = .ok (.aload_n 0, 1) := by decide +kernel
theorem dX7_digest_195 : decode cX7_digest 195 = .ok (.getfield 199, 3) := by decide +kernel
theorem dX7_digest_198 : decode cX7_digest 198 = .ok (.lreturn, 1) := by decide +kernel
